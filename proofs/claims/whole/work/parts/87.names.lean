/-! two loops, the first one longer: from n on it does nothing that counts -/
theorem pu_st2 {α β γ δ : Type} {s1 : α → Option (α ⊕ γ)} {s2 : β → Option (β ⊕ δ)} (I : Nat → α → β → Prop) (n : Nat) (h1 : ∀ j a b, j < n → I j a b → ∃ a' b', s1 a = some (.inl a') ∧ s2 b = some (.inl b') ∧ I (j + 1) a' b') : ∀ (t j : Nat) (a : α) (b : β), j + t = n → I j a b → ∃ a' b', pu_st s1 t a a' ∧ pu_st s2 t b b' ∧ I n a' b'
  | 0, j, a, b, hj, hI => ⟨a, b, rfl, rfl, by
    have hj : j = n := by omega
    rw [← hj]; exact hI⟩
  | t + 1, j, a, b, hj, hI => by
    obtain ⟨a', b', ha, hb, hI'⟩ := h1 j a b (by omega) hI
    obtain ⟨a2, b2, x, y, z⟩ := pu_st2 I n h1 t (j + 1) a' b' (by omega) hI'
    exact ⟨a2, b2, ⟨a', ha, x⟩, ⟨b', hb, y⟩, z⟩
theorem pu_st1 {α γ : Type} {s1 : α → Option (α ⊕ γ)} (I : Nat → α → Prop) (n m : Nat) (h1 : ∀ j a, n ≤ j → j < m → I j a → ∃ a', s1 a = some (.inl a') ∧ I (j + 1) a') : ∀ (t j : Nat) (a : α), n ≤ j → j + t = m → I j a → ∃ a', pu_st s1 t a a' ∧ I m a'
  | 0, j, a, _, hj, hI => ⟨a, rfl, by
    have hj : j = m := by omega
    rw [← hj]; exact hI⟩
  | t + 1, j, a, hn, hj, hI => by
    obtain ⟨a', ha, hI'⟩ := h1 j a hn (by omega) hI
    obtain ⟨a2, x, z⟩ := pu_st1 I n m h1 t (j + 1) a' (by omega) (by omega) hI'
    exact ⟨a2, ⟨a', ha, x⟩, z⟩
theorem pu_lead {α β γ δ : Type} {s1 : α → Option (α ⊕ γ)} {s2 : β → Option (β ⊕ δ)} {a : α} {b : β} (I : Nat → α → β → Prop) (Q : γ → δ → Prop) (n m : Nat) (hn : n ≤ m) (hm : m < 20000) (h0 : I 0 a b) (h1 : ∀ j a b, j < n → I j a b → ∃ a' b', s1 a = some (.inl a') ∧ s2 b = some (.inl b') ∧ I (j + 1) a' b') (h2 : ∀ j a b, n ≤ j → j < m → I j a b → ∃ a', s1 a = some (.inl a') ∧ I (j + 1) a' b) (h3 : ∀ a b, I m a b → ∃ c d, s1 a = some (.inr c) ∧ s2 b = some (.inr d) ∧ Q c d) : ∃ c d, ps_it s1 ps_fu a = some c ∧ ps_it s2 ps_fu b = some d ∧ Q c d := by
  obtain ⟨a1, b1, x1, y1, i1⟩ := pu_st2 I n h1 n 0 a b (by omega) h0
  obtain ⟨a2, x2, i2⟩ := pu_st1 (fun j a => I j a b1) n m (fun j a hj hj2 h => h2 j a b1 hj hj2 h) (m - n) n a1 (Nat.le_refl _) (by omega) i1
  obtain ⟨c, d, e1, e2, q⟩ := h3 a2 b1 i2
  refine ⟨c, d, pu_st_it m a a2 ?_ e1 ps_fu (by unfold ps_fu; omega), pu_st_it n b b1 y1 e2 ps_fu (by unfold ps_fu; omega), q⟩
  have := pu_st_add n (m - n) a a1 a2 x1 x2
  rw [show n + (m - n) = m by omega] at this
  exact this
/-! names: tell, name -/
section
variable {np nf c B f o : Nat} {id so on : Nat → Int32} {kp : Nat → Nat → List Nat} {C M C' M' S : ps_S} {D : Nat → Nat → Nat} {ow : Nat → Nat}
theorem cp_honest (P : pu_CP np id so on kp C) (hn : np ≤ 16) {p : Nat} (hp : p < np) : f_X5_isHonest C (nI p) = some (if so p = 0 then 1 else 0) := by
  unfold f_X5_isHonest
  rw [cp_has P.1 hn hp, pu_sb, if_neg (by decide), if_pos (pu_ib (by omega) (by omega)), nI_clamp (by omega), (P.2 p hp).2.1]
  split <;> rfl
theorem cp_honestno (P : pu_CP np id so on kp C) (hn : np ≤ 16) {x : Int32} (hx : ¬ ∃ p, p < np ∧ x = nI p) : f_X5_isHonest C x = some 0 := by
  unfold f_X5_isHonest
  rw [cp_hasno P.1 hn hx, pu_sb, if_pos rfl]
theorem pu_ent (n v : Nat) : (1000 : Int32) * nI n + nI v = nI (1000 * n + v) := by
  rw [show (1000 : Int32) = nI 1000 from rfl, pu_mul, nI_add]
theorem pu_ediv {n v : Nat} (hn : n < 1000) (hv : v < 1000) : nI (1000 * n + v) / 1000 = nI n := by
  rw [show (1000 : Int32) = nI 1000 from rfl, pk_div (by omega) (by omega) (by omega)]
  congr 1
  omega
theorem newer_ok {n v m w : Nat} (hn : n < 1000) (hv : v < 1000) (hm : m < 1000) (hw : w < 1000) : f_X4_isNewer (nI (1000 * n + v)) (nI (1000 * m + w)) = some (if m < n then 1 else 0) := by
  unfold f_X4_isNewer
  rw [if_neg (pu_ne1 (by omega)), if_neg (pu_ne1 (by omega)), pu_ediv hn hv, pu_ediv hm hw]
  by_cases e : m < n
  · rw [if_neg (nI_ge e (by omega)), if_pos e]
  · rw [if_pos (nI_le (by omega) (by omega)), if_neg e]
theorem newer_1 {n v : Nat} (hn : n < 1000) (hv : v < 1000) : f_X4_isNewer (nI (1000 * n + v)) (-1) = some 1 := by
  unfold f_X4_isNewer
  rw [if_neg (pu_ne1 (by omega)), if_pos rfl]
theorem newer_0 (x : Int32) : f_X4_isNewer (-1) x = some 0 := by
  unfold f_X4_isNewer
  rw [if_pos rfl]
theorem cn_place {p k : Nat} (hp : p < 16) (hk : k < 256) : f_X4_isPlace (nI p) (nI k) = some 1 := by
  unfold f_X4_isPlace f_X4_isKey
  rw [if_neg (nI_pos (by omega)), if_neg (by rw [pu_i16]; exact nI_ge hp (by omega)), if_neg (nI_pos (by omega)), if_neg (lit_ge (x := 256) (n := 256) rfl hk (by omega)), pu_sb, if_neg (by decide)]
theorem at_congr {k : Nat} {T : ps_S} (h2 : T k 2 = C k 2) (h : ∀ b, T (k + 1) b = C (k + 1) b) (i : Int32) : f_X6_at T k i = f_X6_at C k i := by
  unfold f_X6_at
  rw [h2, h]
theorem rn_put (N : rl_N C M) {p k n v : Nat} (hp : p < 16) (hk : k < 256) (hn : n < 1000) (hv : v < 1000) : rl_N (ps_up C (62 + p) k (nI (1000 * n + v))) (ps_up (ps_up M 98 (256 * p + k) (nI n)) 99 (256 * p + k) (nI v)) := by
  refine ⟨fun j hj => by rw [pu_up_k (by omega), pu_up_k (by omega), pu_up_k (by omega)]; exact N.1 j hj, fun q j hq hj => ?_⟩
  by_cases e : q = p ∧ j = k
  · obtain ⟨rfl, rfl⟩ := e
    exact Or.inr ⟨n, v, hn, hv, pu_up_same _ _ _ _, by rw [pu_up_k (by omega), pu_up_same], pu_up_same _ _ _ _⟩
  · have hne : 256 * q + j ≠ 256 * p + k := by omega
    have e1 : ps_up C (62 + p) k (nI (1000 * n + v)) (62 + q) j = C (62 + q) j := by
      show (if _ then _ else _) = _
      rw [if_neg (by omega)]
    rw [e1, pu_up_k (a := 98) (by omega), pu_up_i (a := 98) hne, pu_up_i (a := 99) hne, pu_up_k (a := 99) (by omega)]
    exact N.2 q j hq hj
theorem sim_tell (P : rl_P np id so on kp C M) (N : rl_N C M) {key n v : Nat} (hk : key < 256) (hn' : n < 1000) (hv' : v < 1000) {L : List Nat} (hL : L.length ≤ 3 ∧ ∀ a ∈ L, a < np) (hat : ∀ i, i < 3 → f_X6_at C 29 (nI i) = some (pu_enc L[i]?)) (h13 : M 80 13 = nI L.length) (h90 : ∀ i a, L[i]? = some a → M 90 i = nI a) : ∃ (p : ps_S × Int32) (q : ps_S × Int32), ps_it (fun (a : ps_S × Int32 × Int32) => f_X10_tell_L79 (nI key) (nI n) (nI v) a.1 a.2.1 a.2.2) ps_fu (C, 0, 0) = some p ∧ ps_it (fun (a : ps_S × Int32 × Int32) => f_X11_tell_L151 (nI key) (nI n) (nI v) a.1 a.2.1 a.2.2) ps_fu (M, 0, 0) = some q ∧ p.2 = q.2 ∧ rl_N p.1 q.1 ∧ (∀ a b, (a < 62 ∨ 78 ≤ a) → p.1 a b = C a b) ∧ ∀ a b, a ≠ 98 → a ≠ 99 → q.1 a b = M a b := by
  have hn := P.1.1
  refine pu_lead (s1 := fun (a : ps_S × Int32 × Int32) => f_X10_tell_L79 (nI key) (nI n) (nI v) a.1 a.2.1 a.2.2) (s2 := fun (a : ps_S × Int32 × Int32) => f_X11_tell_L151 (nI key) (nI n) (nI v) a.1 a.2.1 a.2.2) (a := (C, 0, 0)) (b := (M, 0, 0))
    (fun j a b => a.2.2 = nI j ∧ (j < L.length + 1 → b.2.2 = nI j) ∧ (L.length ≤ j → b.2.2 = nI L.length) ∧ a.2.1 = b.2.1 ∧ rl_N a.1 b.1 ∧ (∀ x y, (x < 62 ∨ 78 ≤ x) → a.1 x y = C x y) ∧ ∀ x y, x ≠ 98 → x ≠ 99 → b.1 x y = M x y)
    (fun p q => p.2 = q.2 ∧ rl_N p.1 q.1 ∧ (∀ a b, (a < 62 ∨ 78 ≤ a) → p.1 a b = C a b) ∧ ∀ a b, a ≠ 98 → a ≠ 99 → q.1 a b = M a b) L.length 3 hL.1 (by omega) ⟨rfl, fun _ => rfl, fun h => by
      have : L.length = 0 := by omega
      rw [this]; rfl, rfl, N, fun _ _ _ => rfl, fun _ _ _ _ => rfl⟩ ?_ ?_ ?_
  · rintro j ⟨T, r, i⟩ ⟨U, s, t⟩ hj ⟨hi, ht, -, hrs, hN, fT, fU⟩
    have ht := ht (by omega)
    dsimp only at hi ht hrs hN fT fU ⊢
    subst hi; subst ht; subst hrs
    have hT : pu_CP np id so on kp T := cp_congr P.2.1 hn (fun a b h => fT a b (by omega))
    have hU : pu_MP np id so on kp U := mp_congr P.2.2 (fU _ _ (by omega) (by omega)) (fun a b h1 h2 => fU a b (by omega) (by omega))
    have eat : f_X6_at T 29 (nI j) = some (pu_enc L[j]?) := by rw [at_congr (C := C) (fT _ _ (by omega)) (fun b => fT _ b (by omega))]; exact hat j (by omega)
    obtain ⟨a, ha⟩ : ∃ a, L[j]? = some a := ⟨_, List.getElem?_eq_getElem hj⟩
    have hap := hL.2 a (List.mem_of_getElem? ha)
    rw [ha] at eat
    have eat : f_X6_at T 29 (nI j) = some (nI a) := eat
    have e90 : U 90 j = nI a := by rw [fU _ _ (by omega) (by omega)]; exact h90 j a ha
    unfold f_X10_tell_L79 f_X10_tell_J130 f_X11_tell_L151 f_X11_tell_J221
    rw [if_neg (lit_ge (x := 3) (n := 3) rfl (by omega) (by omega)), eat, pu_sb, cp_honest hT hn hap, pu_sb, fU 80 13 (by omega) (by omega), h13, if_neg (nI_ge hj (by omega)), if_pos (pu_ib (by omega) (by omega)), if_pos (pu_ib (by omega) (by omega)), nI_clamp (n := j) (by omega), e90, if_pos (pu_ib (by omega) (by omega)), nI_clamp (n := a) (by omega), (hU.2.1 a hap).2.1, nI_1]
    by_cases cs : so a = 0
    · rw [if_pos cs, if_neg (by decide), if_pos cs]
      have e256 : (256 : Int32) * nI a + nI key = nI (256 * a + key) := by rw [show (256 : Int32) = nI 256 from rfl, pu_mul, nI_add]
      rw [e256, if_pos (pu_ib (by omega) (by omega)), nI_clamp (n := 256 * a + key) (by omega)]
      unfold f_X4_keep
      rw [cn_place (by omega) hk, pu_sb, if_neg (by decide), if_pos (pu_ib (by omega) (by omega)), if_pos (pu_ib (by omega) (by omega)), nI_clamp (n := a) (by omega), nI_clamp (n := key) (by omega), pu_ent]
      have put : ∃ a' b', (some (.inl (ps_up T (62 + a) key (nI (1000 * n + v)), r + 1, nI (j + 1))) : Option ((ps_S × Int32 × Int32) ⊕ (ps_S × Int32))) = some (.inl a') ∧ (some (.inl (ps_up (ps_up U 98 (256 * a + key) (nI n)) 99 (256 * a + key) (nI v), r + 1, nI (j + 1))) : Option ((ps_S × Int32 × Int32) ⊕ (ps_S × Int32))) = some (.inl b') ∧ a'.2.2 = nI (j + 1) ∧ (j + 1 < L.length + 1 → b'.2.2 = nI (j + 1)) ∧ (L.length ≤ j + 1 → b'.2.2 = nI L.length) ∧ a'.2.1 = b'.2.1 ∧ rl_N a'.1 b'.1 ∧ (∀ x y, (x < 62 ∨ 78 ≤ x) → a'.1 x y = C x y) ∧ ∀ x y, x ≠ 98 → x ≠ 99 → b'.1 x y = M x y := by
        refine ⟨_, _, rfl, rfl, rfl, fun _ => rfl, fun h => ?_, rfl, rn_put hN (by omega) hk hn' hv', fun x y h => by rw [← fT x y h]; exact pu_up_k (by omega), fun x y h1 h2 => by rw [← fU x y h1 h2]; exact (pu_up_k h2).trans (pu_up_k h1)⟩
        have : L.length = j + 1 := by omega
        rw [this]
      have stay : ∃ a' b', (some (.inl (T, r, nI (j + 1))) : Option ((ps_S × Int32 × Int32) ⊕ (ps_S × Int32))) = some (.inl a') ∧ (some (.inl (U, r, nI (j + 1))) : Option ((ps_S × Int32 × Int32) ⊕ (ps_S × Int32))) = some (.inl b') ∧ a'.2.2 = nI (j + 1) ∧ (j + 1 < L.length + 1 → b'.2.2 = nI (j + 1)) ∧ (L.length ≤ j + 1 → b'.2.2 = nI L.length) ∧ a'.2.1 = b'.2.1 ∧ rl_N a'.1 b'.1 ∧ (∀ x y, (x < 62 ∨ 78 ≤ x) → a'.1 x y = C x y) ∧ ∀ x y, x ≠ 98 → x ≠ 99 → b'.1 x y = M x y := by
        refine ⟨_, _, rfl, rfl, rfl, fun _ => rfl, fun h => ?_, rfl, hN, fT, fU⟩
        have : L.length = j + 1 := by omega
        rw [this]
      rcases hN.2 a key (by omega) hk with ⟨x1, x2⟩ | ⟨m, w, hm, hw, x1, x2, x3⟩
      · rw [x1, x2, newer_1 hn' hv', pu_sb, if_neg (by decide), if_pos (pu_ib (by omega) (by omega)), if_pos (pu_ib (by omega) (by omega)), pu_b2 rfl, if_neg (by decide)]
        rw [if_neg (by
          rw [pu_ile, nI_toInt (by omega), show ((-1 : Int32)).toInt = -1 from by decide]
          omega), if_pos (pu_ib (by omega) (by omega)), if_pos (pu_ib (by omega) (by omega))]
        exact put
      · rw [x1, x2, newer_ok hn' hv' hm hw, pu_sb]
        by_cases cm : m < n
        · rw [if_pos cm, if_neg (by decide), if_pos (pu_ib (by omega) (by omega)), if_pos (pu_ib (by omega) (by omega)), pu_b2 rfl, if_neg (by decide), if_neg (nI_ge cm (by omega)), if_pos (pu_ib (by omega) (by omega)), if_pos (pu_ib (by omega) (by omega))]
          exact put
        · rw [if_neg cm, if_pos rfl, pu_b2 rfl, if_pos rfl, if_pos (nI_le (by omega) (by omega))]
          exact stay
    · rw [if_neg cs, if_pos rfl, if_neg cs]
      refine ⟨_, _, rfl, rfl, rfl, fun _ => rfl, fun h => ?_, rfl, hN, fT, fU⟩
      have : L.length = j + 1 := by omega
      rw [this]
  · rintro j ⟨T, r, i⟩ ⟨U, s, t⟩ hj hj3 ⟨hi, -, ht, hrs, hN, fT, fU⟩
    have ht := ht hj
    dsimp only at hi ht hrs hN fT fU ⊢
    subst hi; subst ht; subst hrs
    have hT : pu_CP np id so on kp T := cp_congr P.2.1 hn (fun a b h => fT a b (by omega))
    have eat : f_X6_at T 29 (nI j) = some (pu_enc L[j]?) := by rw [at_congr (C := C) (fT _ _ (by omega)) (fun b => fT _ b (by omega))]; exact hat j (by omega)
    rw [List.getElem?_eq_none hj] at eat
    have eat : f_X6_at T 29 (nI j) = some (-1) := eat
    unfold f_X10_tell_L79 f_X10_tell_J130
    rw [if_neg (lit_ge (x := 3) (n := 3) rfl (by omega) (by omega)), eat, pu_sb, cp_honestno hT hn (pu_m1no hn), pu_sb, if_pos rfl, nI_1]
    exact ⟨_, rfl, rfl, fun h => by omega, fun _ => rfl, rfl, hN, fT, fU⟩
  · rintro ⟨T, r, i⟩ ⟨U, s, t⟩ ⟨hi, -, ht, hrs, hN, fT, fU⟩
    have ht := ht hL.1
    dsimp only at hi ht hrs hN fT fU ⊢
    subst hi; subst ht; subst hrs
    refine ⟨(T, r), (U, r), ?_, ?_, rfl, hN, fT, fU⟩
    · unfold f_X10_tell_L79
      rw [if_pos (show (3 : Int32) ≤ nI 3 by decide)]
    · unfold f_X11_tell_L151
      rw [fU 80 13 (by omega) (by omega), h13, if_pos (nI_le (Nat.le_refl _) (by omega))]
theorem sim_name (P : rl_P np id so on kp C M) (N : rl_N C M) {key : Nat} (hk : key < 256) {L : List Nat} (hL : L.length ≤ 3 ∧ ∀ a ∈ L, a < np) (hat : ∀ i, i < 3 → f_X6_at C 29 (nI i) = some (pu_enc L[i]?)) (h13 : M 80 13 = nI L.length) (h90 : ∀ i a, L[i]? = some a → M 90 i = nI a) : ∃ (p q : Int32), ps_it (fun (a : Int32 × Int32) => f_X10_name_L32 (nI key) C a.1 a.2) ps_fu (-1, 0) = some p ∧ ps_it (fun (a : Int32 × Int32) => f_X11_name_L69 (nI key) M a.1 a.2) ps_fu (-1, 0) = some q ∧ (p = -1 ∧ q = -1 ∨ ∃ a n v, a < 16 ∧ n < 1000 ∧ v < 1000 ∧ p = nI (1000 * n + v) ∧ q = nI (256 * a + key) ∧ M 98 (256 * a + key) = nI n ∧ M 99 (256 * a + key) = nI v) := by
  have hn := P.1.1
  refine pu_lead (s1 := fun (a : Int32 × Int32) => f_X10_name_L32 (nI key) C a.1 a.2) (s2 := fun (a : Int32 × Int32) => f_X11_name_L69 (nI key) M a.1 a.2) (a := (-1, 0)) (b := (-1, 0))
    (fun j a b => a.2 = nI j ∧ (j < L.length + 1 → b.2 = nI j) ∧ (L.length ≤ j → b.2 = nI L.length) ∧ (a.1 = -1 ∧ b.1 = -1 ∨ ∃ x n v, x < 16 ∧ n < 1000 ∧ v < 1000 ∧ a.1 = nI (1000 * n + v) ∧ b.1 = nI (256 * x + key) ∧ M 98 (256 * x + key) = nI n ∧ M 99 (256 * x + key) = nI v))
    (fun p q => (p = -1 ∧ q = -1 ∨ ∃ a n v, a < 16 ∧ n < 1000 ∧ v < 1000 ∧ p = nI (1000 * n + v) ∧ q = nI (256 * a + key) ∧ M 98 (256 * a + key) = nI n ∧ M 99 (256 * a + key) = nI v)) L.length 3 hL.1 (by omega) ⟨rfl, fun _ => rfl, fun h => by
      have : L.length = 0 := by omega
      rw [this]; rfl, Or.inl ⟨rfl, rfl⟩⟩ ?_ ?_ ?_
  · rintro j ⟨r, i⟩ ⟨s, t⟩ hj ⟨hi, ht, -, hrs⟩
    have ht := ht (by omega)
    dsimp only at hi ht hrs ⊢
    subst hi; subst ht
    have eat := hat j (by omega)
    obtain ⟨a, ha⟩ : ∃ a, L[j]? = some a := ⟨_, List.getElem?_eq_getElem hj⟩
    have hap := hL.2 a (List.mem_of_getElem? ha)
    rw [ha] at eat
    have eat : f_X6_at C 29 (nI j) = some (nI a) := eat
    have e90 := h90 j a ha
    have next : ∀ (x y : Int32), (x = -1 ∧ y = -1 ∨ ∃ z n v, z < 16 ∧ n < 1000 ∧ v < 1000 ∧ x = nI (1000 * n + v) ∧ y = nI (256 * z + key) ∧ M 98 (256 * z + key) = nI n ∧ M 99 (256 * z + key) = nI v) → ∃ a' b', (some (.inl (x, nI (j + 1))) : Option ((Int32 × Int32) ⊕ Int32)) = some (.inl a') ∧ (some (.inl (y, nI (j + 1))) : Option ((Int32 × Int32) ⊕ Int32)) = some (.inl b') ∧ a'.2 = nI (j + 1) ∧ (j + 1 < L.length + 1 → b'.2 = nI (j + 1)) ∧ (L.length ≤ j + 1 → b'.2 = nI L.length) ∧ (a'.1 = -1 ∧ b'.1 = -1 ∨ ∃ x n v, x < 16 ∧ n < 1000 ∧ v < 1000 ∧ a'.1 = nI (1000 * n + v) ∧ b'.1 = nI (256 * x + key) ∧ M 98 (256 * x + key) = nI n ∧ M 99 (256 * x + key) = nI v) := by
      intro x y h
      refine ⟨_, _, rfl, rfl, rfl, fun _ => rfl, fun h2 => ?_, h⟩
      have : L.length = j + 1 := by omega
      rw [this]
    unfold f_X10_name_L32 f_X10_name_J78 f_X10_name_J92 f_X11_name_L69 f_X11_name_J124 f_X11_name_J154 f_X11_name_J159 f_X11_name_J161
    rw [if_neg (lit_ge (x := 3) (n := 3) rfl (by omega) (by omega)), eat, pu_sb, cp_honest P.2.1 hn hap, pu_sb, h13, if_neg (nI_ge hj (by omega)), if_pos (pu_ib (by omega) (by omega)), if_pos (pu_ib (by omega) (by omega)), nI_clamp (n := j) (by omega), e90, if_pos (pu_ib (by omega) (by omega)), nI_clamp (n := a) (by omega), (P.2.2.2.1 a hap).2.1, nI_1]
    have e256 : (256 : Int32) * nI a + nI key = nI (256 * a + key) := by rw [show (256 : Int32) = nI 256 from rfl, pu_mul, nI_add]
    rw [e256]
    by_cases cs : so a = 0
    · rw [if_pos cs, if_neg (by decide), if_pos cs, if_pos (pu_ib (by omega) (by omega)), nI_clamp (n := 256 * a + key) (by omega)]
      unfold f_X4_keptBy
      rw [cn_place (by omega) hk, pu_sb, if_neg (by decide), if_pos (pu_ib (by omega) (by omega)), if_pos (pu_ib (by omega) (by omega)), nI_clamp (n := a) (by omega), nI_clamp (n := key) (by omega), pu_sb]
      rcases N.2 a key (by omega) hk with ⟨x1, x2⟩ | ⟨m, w, hm, hw, x1, x2, x3⟩
      · rw [x1, x2, newer_0, pu_sb, if_pos rfl, if_pos rfl, if_pos rfl]
        exact next _ _ hrs
      · rw [x1, x2, if_neg (pu_ne1 (by omega)), if_neg (by decide)]
        rcases hrs with ⟨rfl, rfl⟩ | ⟨z, n, v, hz, hn1, hv1, rfl, rfl, y1, y2⟩
        · rw [newer_1 hm hw, pu_sb, if_neg (by decide), if_pos rfl]
          exact next _ _ (Or.inr ⟨a, m, w, by omega, hm, hw, rfl, rfl, x2, x3⟩)
        · rw [newer_ok hm hw hn1 hv1, pu_sb, if_neg (pu_ne1 (by omega)), if_pos (pu_ib (by omega) (by omega)), if_pos (pu_ib (by omega) (by omega)), nI_clamp (n := 256 * z + key) (by omega), y1]
          by_cases cm : n < m
          · rw [if_pos cm, if_neg (by decide), if_neg (nI_ge cm (by omega))]
            exact next _ _ (Or.inr ⟨a, m, w, by omega, hm, hw, rfl, rfl, x2, x3⟩)
          · rw [if_neg cm, if_pos rfl, if_pos (nI_le (by omega) (by omega))]
            exact next _ _ (Or.inr ⟨z, n, v, hz, hn1, hv1, rfl, rfl, y1, y2⟩)
    · rw [if_neg cs, if_pos rfl, if_neg cs, newer_0, pu_sb, if_pos rfl, if_pos rfl]
      exact next _ _ hrs
  · rintro j ⟨r, i⟩ ⟨s, t⟩ hj hj3 ⟨hi, -, ht, hrs⟩
    have ht := ht hj
    dsimp only at hi ht hrs ⊢
    subst hi; subst ht
    have eat := hat j (by omega)
    rw [List.getElem?_eq_none hj] at eat
    have eat : f_X6_at C 29 (nI j) = some (-1) := eat
    unfold f_X10_name_L32 f_X10_name_J78 f_X10_name_J92
    rw [if_neg (lit_ge (x := 3) (n := 3) rfl (by omega) (by omega)), eat, pu_sb, cp_honestno P.2.1 hn (pu_m1no hn), pu_sb, if_pos rfl, newer_0, pu_sb, if_pos rfl, nI_1]
    exact ⟨_, rfl, rfl, fun h => by omega, fun _ => rfl, hrs⟩
  · rintro ⟨r, i⟩ ⟨s, t⟩ ⟨hi, -, ht, hrs⟩
    have ht := ht hL.1
    dsimp only at hi ht hrs ⊢
    subst hi; subst ht
    refine ⟨r, s, ?_, ?_, hrs⟩
    · unfold f_X10_name_L32
      rw [if_pos (show (3 : Int32) ≤ nI 3 by decide)]
    · unfold f_X11_name_L69
      rw [h13, if_pos (nI_le (Nat.le_refl _) (by omega))]
theorem mtell_1 (x y n v s46 s92 : Int32) : f_X11_tell_J92 S x y n v 0 s46 s92 = some (0, ps_up S 80 0 1) := by
  unfold f_X11_tell_J92 f_X11_tell_J123
  rw [if_pos rfl]
  exact pu_no (by decide) _ (if_pos rfl)
theorem in_some (x a b : Int32) : ∃ v, f_X11_isIn x a b = some v := by
  unfold f_X11_isIn
  split
  · exact ⟨_, rfl⟩
  · split <;> exact ⟨_, rfl⟩
theorem rn_claim (N : rl_N C M) {k : Nat} {v : Int32} : rl_N (ps_up C 60 k v) (ps_up M 97 k v) := by
  refine ⟨fun j hj => ?_, fun p j hp hj => ?_⟩
  · by_cases e : j = k
    · rw [e, pu_up_same, pu_up_same]
    · rw [pu_up_i e, pu_up_i e]; exact N.1 j hj
  · rw [pu_up_k (by omega), pu_up_k (by omega), pu_up_k (by omega)]; exact N.2 p j hp hj
theorem op_tell (Q : rl_Q np id so on kp nf ow D c S S) (x y z u : Int32) : op_K c S (f_cmp (fun r => r) (f_L_tell S x y z u) (fun S => f_X11_tell S x y z u)) := by
  unfold f_L_tell
  have hn := Q.1.1.1
  by_cases hx : ∃ p, p < np ∧ x = nI p
  · obtain ⟨p, hp, rfl⟩ := hx
    have m2 : ∀ s92, f_X11_tell_J92 S (nI p) y z u 1 0 s92 = some (0, ps_up S 80 0 2) := fun _ => by
      unfold f_X11_tell_J92 f_X11_tell_J123
      rw [if_neg (by decide), if_pos rfl]
      exact pu_no (by decide) _ (if_pos rfl)
    have m46 : f_X11_tell_J46 S (nI p) y z u 1 0 = some (0, ps_up S 80 0 2) := by
      unfold f_X11_tell_J46
      rw [if_neg (by decide), if_pos rfl, m2]
    rcases pu_below (x := y) (n := 256) (by omega) with ⟨key, hk, rfl⟩ | ⟨-, hy⟩
    · have ny : f_X10_needBelow (nI key) 256 = some (.inr ()) := nb_ok (n := 256) hk (by omega)
      have iy : f_X11_isIn (nI key) 0 255 = some 1 := in_ok (m := 255) (by omega) (by omega)
      rcases pu_below (x := z) (n := 1000) (by omega) with ⟨n, hn', rfl⟩ | ⟨-, hz⟩
      · have nz : f_X10_needBelow (nI n) 1000 = some (.inr ()) := nb_ok (n := 1000) hn' (by omega)
        have iz : f_X11_isIn (nI n) 0 999 = some 1 := in_ok (m := 999) (by omega) (by omega)
        rcases pu_below (x := u) (n := 1000) (by omega) with ⟨v, hv', rfl⟩ | ⟨-, hu⟩
        · have nu : f_X10_needBelow (nI v) 1000 = some (.inr ()) := nb_ok (n := 1000) hv' (by omega)
          have iu : f_X11_isIn (nI v) 0 999 = some 1 := in_ok (m := 999) (by omega) (by omega)
          have m3 : f_X11_tell_J92 S (nI p) (nI key) (nI n) (nI v) 1 1 0 = some (0, ps_up S 80 0 3) := by
            unfold f_X11_tell_J92 f_X11_tell_J123
            rw [if_neg (by decide), if_neg (by decide), if_pos rfl]
            exact pu_no (by decide) _ (if_pos rfl)
          rcases rp_on Q.1 hp with e | e
          · refine op_no (e := 2) (k := 3) Q ?_ rfl (by decide) ?_
            · unfold f_X10_tell
              rw [pu_bxr (np_ok Q.1 hp), pu_bxr ny, pu_bxr nz, pu_bxr nu, pu_bxl (no_no Q.1 hp e)]
            · show f_X11_tell S (nI p) (nI key) (nI n) (nI v) = _
              unfold f_X11_tell f_X11_tell_J46
              rw [mp_is Q.1.2.2.1 hn hp, pu_sb, iy, pu_sb, if_neg (by decide), iz, pu_sb, if_neg (by decide), iu, pu_sb, if_neg (by decide), if_neg (by decide), if_neg (by decide), if_pos (pu_ib (by omega) (by omega)), nI_clamp (by omega), mp_on Q.1 hp, if_pos e, m3]
          · have key1 : f_X4_isKey (nI key) = some 1 := by
              unfold f_X4_isKey
              rw [if_neg (nI_pos (by omega)), if_neg (lit_ge (x := 256) (n := 256) rfl hk (by omega))]
            by_cases ct : S 60 key = -1 ∨ S 60 key = nI p
            · have may : f_X4_mayTell S (nI p) (nI key) = some 1 := by
                unfold f_X4_mayTell
                rw [key1, pu_sb, if_neg (by decide), if_pos (pu_ib (by omega) (by omega)), nI_clamp (by omega)]
                by_cases c1 : S 60 key = -1
                · rw [if_pos c1]
                · rcases ct with ct | ct
                  · exact absurd ct c1
                  · rw [if_neg c1, if_pos (pu_ib (by omega) (by omega)), if_pos ct]
              refine op_yes Q (fun M QM => ?_)
              have Q0 := rq_0 QM (v := 0)
              have Q1 : rl_Q np id so on kp nf ow D c (ps_up S 60 key (nI p)) (ps_up (ps_up M 80 0 0) 97 key (nI p)) := by
                obtain ⟨P, O, N, DD, F⟩ := Q0
                exact ⟨rp_congr P (fun a b h => pu_up_k (by omega)) (pu_up_k (by omega)) (fun a b h1 h2 => pu_up_k (by omega)), ro_congr O (pu_up_k (by omega)) (pu_up_k (by omega)) (pu_up_k (by omega)) (pu_up_k (by omega)) (pu_up_k (by omega)) (pu_up_k (by omega)), rn_claim N, rd_congr DD (fun a b h1 h2 => pu_up_k (by omega)) (fun b => pu_up_k (by omega)), rf_congr F (pu_up_k (by omega)) (fun b => pu_up_k (by omega)) (fun a b h => pu_up_k (by omega)) (pu_up_k (by omega)) (fun a b h1 h2 => pu_up_k (by omega))⟩
              obtain ⟨C', M', kp', L, e1, e2, P', h6, hL, hat, hdig, h13, h90, f, g⟩ := rl_look Q1.1 hp hk (Or.inr rfl)
              have Q2 := rq_look Q1 P' h6 f g
              obtain ⟨⟨C2, r⟩, ⟨M2, r2⟩, e3, e4, hr, N2, f2, g2⟩ := sim_tell Q2.1 Q2.2.2.1 hk hn' hv' hL hat h13 h90
              dsimp only at hr N2 f2 g2
              subst hr
              refine ⟨C2, r, M2, ?_, fun a b h1 h2 => ?_, ?_, ?_, fun a b h => ?_, ?_, ?_⟩
              · unfold f_X10_tell f_X4_claim
                rw [pu_bxr (np_ok Q.1 hp), pu_bxr ny, pu_bxr nz, pu_bxr nu, pu_bxr (no_ok Q.1 hp e), may, pu_sb, if_neg (by decide), pu_sb, if_neg (by decide), if_pos (pu_ib (by omega) (by omega)), pu_sb, nI_clamp (by omega)]
                have e1 : f_X7_run (ps_up S 60 key (nI p)) (nI p) (nI key) 2 = some C' := e1
                rw [e1, pu_sb, pu_b2 e3]
              · rw [f2 a b (by omega), (fc_look f).1 a b h1 h2, pu_up_k (by omega)]
              · have mm : f_X11_tell M (nI p) (nI key) (nI n) (nI v) = f_X11_tell_J123 M (nI p) (nI key) (nI n) (nI v) 0 := by
                  unfold f_X11_tell f_X11_tell_J46 f_X11_tell_J92
                  rw [mp_is QM.1.2.2.1 hn hp, pu_sb, iy, pu_sb, if_neg (by decide), iz, pu_sb, if_neg (by decide), iu, pu_sb, if_neg (by decide), if_neg (by decide), if_neg (by decide), if_pos (pu_ib (by omega) (by omega)), nI_clamp (by omega), mp_on QM.1 hp, e, if_neg (by decide), if_pos (pu_ib (by omega) (by omega)), nI_clamp (by omega), ← QM.2.2.1.1 key hk]
                  by_cases c1 : S 60 key = -1
                  · rw [if_pos c1, if_neg (by decide), if_neg (by decide), if_neg (by decide)]
                  · rcases ct with ct | ct
                    · exact absurd ct c1
                    · rw [if_neg c1, if_pos (pu_ib (by omega) (by omega)), if_pos ct, if_neg (by decide), if_neg (by decide), if_neg (by decide)]
                rw [mm]
                unfold f_X11_tell_J123
                rw [pu_b2 (pu_h0 M), if_neg (by decide), if_pos (pu_ib (by omega) (by omega)), nI_clamp (by omega)]
                have e2 : f_X11_looksUp (ps_up (ps_up M 80 0 0) 97 key (nI p)) (nI p) (nI key) 2 = some M' := e2
                rw [e2, pu_sb, pu_b2 e4]
              · rw [g2 _ _ (by omega) (by omega), (fm_look g).2, pu_up_k (by omega), pu_up_same]
              · rw [g2 _ _ (by omega) (by omega), (fm_look g).1 a b h, pu_up_k (by omega), pu_up_k (by omega)]
              · obtain ⟨P, O, N, DD, F⟩ := Q2
                exact rl_up (rq_R ⟨rp_congr P (fun a b h => f2 a b (by omega)) (g2 _ _ (by omega) (by omega)) (fun a b h1 h2 => g2 a b (by omega) (by omega)), ro_congr O (f2 _ _ (by omega)) (f2 _ _ (by omega)) (f2 _ _ (by omega)) (g2 _ _ (by omega) (by omega)) (g2 _ _ (by omega) (by omega)) (g2 _ _ (by omega) (by omega)), N2, rd_congr DD (fun a b h1 h2 => f2 a b (by omega)) (fun b => g2 _ b (by omega) (by omega)), rf_congr F (f2 _ _ (by omega)) (fun b => f2 _ b (by omega)) (fun a b h => f2 a b (by omega)) (g2 _ _ (by omega) (by omega)) (fun a b h1 h2 => g2 a b (by omega) (by omega))⟩)
              · rw [f2 _ _ (by omega), (fc_look f).2, pu_up_k (by omega)]
            · have c1 : ¬ S 60 key = -1 := fun h => ct (Or.inl h)
              have c2 : ¬ S 60 key = nI p := fun h => ct (Or.inr h)
              refine op_no (e := 2) (k := 3) Q ?_ rfl (by decide) ?_
              · unfold f_X10_tell f_X4_mayTell
                rw [pu_bxr (np_ok Q.1 hp), pu_bxr ny, pu_bxr nz, pu_bxr nu, pu_bxr (no_ok Q.1 hp e), key1, pu_sb, if_neg (by decide), if_pos (pu_ib (by omega) (by omega)), nI_clamp (by omega), if_neg c1, if_pos (pu_ib (by omega) (by omega)), if_neg c2, pu_sb, if_pos rfl]
              · show f_X11_tell S (nI p) (nI key) (nI n) (nI v) = _
                unfold f_X11_tell f_X11_tell_J46
                rw [mp_is Q.1.2.2.1 hn hp, pu_sb, iy, pu_sb, if_neg (by decide), iz, pu_sb, if_neg (by decide), iu, pu_sb, if_neg (by decide), if_neg (by decide), if_neg (by decide), if_pos (pu_ib (by omega) (by omega)), nI_clamp (by omega), mp_on Q.1 hp, e, if_neg (by decide), if_pos (pu_ib (by omega) (by omega)), nI_clamp (by omega), ← Q.2.2.1.1 key hk, if_neg c1, if_pos (pu_ib (by omega) (by omega)), if_neg c2, m3]
        · refine op_no (e := 0) (k := 2) Q ?_ rfl (by decide) ?_
          · unfold f_X10_tell
            have nu : f_X10_needBelow u 1000 = some (.inl 0) := nb_no (n := 1000) hu
            rw [pu_bxr (np_ok Q.1 hp), pu_bxr ny, pu_bxr nz, pu_bxl nu]
          · show f_X11_tell S (nI p) (nI key) (nI n) u = _
            unfold f_X11_tell
            have iu : f_X11_isIn u 0 999 = some 0 := in_no (m := 999) (n := 1000) (by omega) (by omega) hu
            rw [mp_is Q.1.2.2.1 hn hp, pu_sb, iy, pu_sb, if_neg (by decide), iz, pu_sb, if_neg (by decide), iu, pu_sb, if_pos rfl, m46]
      · refine op_no (e := 0) (k := 2) Q ?_ rfl (by decide) ?_
        · unfold f_X10_tell
          have nz : f_X10_needBelow z 1000 = some (.inl 0) := nb_no (n := 1000) hz
          rw [pu_bxr (np_ok Q.1 hp), pu_bxr ny, pu_bxl nz]
        · show f_X11_tell S (nI p) (nI key) z u = _
          unfold f_X11_tell
          have iz : f_X11_isIn z 0 999 = some 0 := in_no (m := 999) (n := 1000) (by omega) (by omega) hz
          rw [mp_is Q.1.2.2.1 hn hp, pu_sb, iy, pu_sb, if_neg (by decide), iz, pu_sb, if_pos rfl, m46]
    · refine op_no (e := 0) (k := 2) Q ?_ rfl (by decide) ?_
      · unfold f_X10_tell
        have ny : f_X10_needBelow y 256 = some (.inl 0) := nb_no (n := 256) hy
        rw [pu_bxr (np_ok Q.1 hp), pu_bxl ny]
      · show f_X11_tell S (nI p) y z u = _
        unfold f_X11_tell
        have iy : f_X11_isIn y 0 255 = some 0 := in_no (m := 255) (n := 256) (by omega) (by omega) hy
        rw [mp_is Q.1.2.2.1 hn hp, pu_sb, iy, pu_sb, if_pos rfl, m46]
  · refine op_no (e := 1) (k := 1) Q ?_ rfl (by decide) ?_
    · unfold f_X10_tell
      rw [pu_bxl (np_no Q.1 hx)]
    · show f_X11_tell S x y z u = _
      have j : ∀ w, f_X11_tell_J46 S x y z u 0 w = some (0, ps_up S 80 0 1) := fun w => by
        unfold f_X11_tell_J46
        rw [if_pos rfl, mtell_1]
      obtain ⟨vy, iy⟩ := in_some y 0 255
      obtain ⟨vz, iz⟩ := in_some z 0 999
      obtain ⟨vu, iu⟩ := in_some u 0 999
      unfold f_X11_tell
      rw [mp_isno Q.1.2.2.1 Q.1.1.1 hx, pu_sb, iy, pu_sb, iz, pu_sb, iu, pu_sb, j, j]
      split
      · rfl
      · split
        · rfl
        · split <;> rfl
theorem op_name (Q : rl_Q np id so on kp nf ow D c S S) (x y : Int32) : op_K c S (f_cmp (fun r => r) (f_L_name S x y) (fun S => f_X11_name S x y)) := by
  unfold f_L_name
  have hn := Q.1.1.1
  by_cases hx : ∃ p, p < np ∧ x = nI p
  · obtain ⟨p, hp, rfl⟩ := hx
    rcases pu_below (x := y) (n := 256) (by omega) with ⟨key, hk, rfl⟩ | ⟨-, hy⟩
    · have ny : f_X10_needBelow (nI key) 256 = some (.inr ()) := nb_ok (n := 256) hk (by omega)
      have iy : f_X11_isIn (nI key) 0 255 = some 1 := in_ok (m := 255) (by omega) (by omega)
      rcases rp_on Q.1 hp with e | e
      · refine op_no (e := 2) (k := 3) Q ?_ rfl (by decide) ?_
        · unfold f_X10_name
          rw [pu_bxr (np_ok Q.1 hp), pu_bxr ny, pu_bxl (no_no Q.1 hp e)]
        · show f_X11_name S (nI p) (nI key) = _
          unfold f_X11_name f_X11_name_J48
          rw [mp_is Q.1.2.2.1 hn hp, pu_sb, iy, pu_sb, if_neg (by decide), if_neg (by decide), if_pos (pu_ib (by omega) (by omega)), nI_clamp (by omega), mp_on Q.1 hp, if_pos e]
          exact pu_no (by decide) _ (if_pos rfl)
      · refine op_yes Q (fun M QM => ?_)
        have Q0 := rq_0 QM (v := 0)
        obtain ⟨C', M', kp', L, e1, e2, P', h6, hL, hat, hdig, h13, h90, f, g⟩ := rl_look Q0.1 hp hk (Or.inr rfl)
        have Q2 := rq_look Q0 P' h6 f g
        obtain ⟨r, q, e3, e4, hr⟩ := sim_name Q2.1 Q2.2.2.1 hk hL hat h13 h90
        have e1 : f_X7_run S (nI p) (nI key) 2 = some C' := e1
        have e2 : f_X11_looksUp (ps_up M 80 0 0) (nI p) (nI key) 2 = some M' := e2
        refine ⟨C', r, M', ?_, (fc_look f).1, ?_, by rw [(fm_look g).2, pu_up_same], rl_fmt fm_0 (fm_look g).1, rl_up (rq_R Q2), (fc_look f).2⟩
        · unfold f_X10_name
          rw [pu_bxr (np_ok Q.1 hp), pu_bxr ny, pu_bxr (no_ok Q.1 hp e), e1, pu_sb, e3, pu_sb]
        · unfold f_X11_name f_X11_name_J48
          rw [mp_is QM.1.2.2.1 hn hp, pu_sb, iy, pu_sb, if_neg (by decide), if_neg (by decide), if_pos (pu_ib (by omega) (by omega)), nI_clamp (by omega), mp_on QM.1 hp, e, if_neg (by decide), pu_b2 (pu_h0 M), if_neg (by decide), e2, pu_sb, e4, pu_sb]
          rcases hr with ⟨rfl, rfl⟩ | ⟨a, n, v, ha, hn1, hv1, rfl, rfl, y1, y2⟩
          · rw [if_pos rfl]
          · rw [if_neg (pu_ne1 (by omega)), if_pos (pu_ib (by omega) (by omega)), if_pos (pu_ib (by omega) (by omega)), nI_clamp (by omega), y1, y2, pu_ent]
    · refine op_no (e := 0) (k := 2) Q ?_ rfl (by decide) ?_
      · unfold f_X10_name
        have ny : f_X10_needBelow y 256 = some (.inl 0) := nb_no (n := 256) hy
        rw [pu_bxr (np_ok Q.1 hp), pu_bxl ny]
      · show f_X11_name S (nI p) y = _
        unfold f_X11_name f_X11_name_J48
        have iy : f_X11_isIn y 0 255 = some 0 := in_no (m := 255) (n := 256) (by omega) (by omega) hy
        rw [mp_is Q.1.2.2.1 hn hp, pu_sb, iy, pu_sb, if_neg (by decide), if_pos rfl]
        exact pu_no (by decide) _ (if_pos rfl)
  · refine op_no (e := 1) (k := 1) Q ?_ rfl (by decide) ?_
    · unfold f_X10_name
      rw [pu_bxl (np_no Q.1 hx)]
    · show f_X11_name S x y = _
      obtain ⟨vy, iy⟩ := in_some y 0 255
      unfold f_X11_name f_X11_name_J48
      rw [mp_isno Q.1.2.2.1 Q.1.1.1 hx, pu_sb, iy, pu_sb, if_pos rfl]
      exact pu_no (by decide) _ (if_pos rfl)
end
