def ps_tgs (k : Nat) : List (Nat × Nat) := match ps_kd k with
  | 10 => [(0, 1), (1, 22), (2, 36)]
  | 11 => [(0, 37)]
  | 12 => [(0, 1), (1, 79)]
  | 13 => [(0, 60), (1, 61)]
  | 14 => [(0, 2), (1, 3), (2, 4), (3, 5)]
  | 15 => [(0, (k + 1)), (1, (k + 2))]
  | 16 => [(0, 1), (1, 23), (2, 26), (3, 29), (4, 32), (5, 35)]
  | 17 => [(1, (k + 4)), (2, (k + 5)), (3, (k + 1)), (4, (k + 2)), (5, (k + 3))]
  | 18 => [(0, (k + 1))]
  | 19 => [(0, 1), (1, 22), (2, 54), (3, 57), (4, 58), (5, 59), (6, 78), (7, 36)]
  | 20 => [(3, 81), (4, 82), (5, 83), (6, 84), (7, 85), (8, 86), (9, 87), (10, 88), (11, 89), (12, 90), (16, 91), (17, 92), (18, 93), (19, 94), (20, 95), (21, 96), (22, 97), (23, 98), (24, 99), (25, 100), (27, 101)]
  | _ => []
def ps_uo (F : Nat → Nat → Bool) (n : Nat) : Nat → Nat → Bool := fun a j => if a = n then false else F a j
def ps_us (F : Nat → Nat → Bool) (n i : Nat) : Nat → Nat → Bool := fun a j => if a = n ∧ j = i then true else F a j
def ps_T : Nat → Nat → Bool := fun _ _ => true
def ps_z (S : ps_S) (n : Nat) : ps_S := fun a => if a = n then (fun _ => 0) else S a
theorem ps_rf_eq {w w' : ps_X} {k j t : Nat} (hF : w'.2.2 k j = w.2.2 k j) (ha : w.2.2 k j = true → w'.2.1 t = w.2.1 t) : ps_rf w' k j t = ps_rf w k j t := by
  unfold ps_rf
  rw [hF]
  cases h : w.2.2 k j with
  | false => rfl
  | true => rw [ha h]
theorem ps_cel_eq {I : ps_I} {w w' : ps_X} {r : Nat → Int32} {k : Nat} (hF : ∀ p ∈ ps_tgs k, w'.2.2 k p.1 = w.2.2 k p.1) (ha : ∀ p ∈ ps_tgs k, w.2.2 k p.1 = true → w'.2.1 p.2 = w.2.1 p.2) (h2 : ps_kd k = 2 → ∀ i, i < ps_ln k → w'.2.1 (k + 1 + i) = w.2.1 (k + 1 + i)) (h3 : ps_kd k = 3 → ∀ i, r i ≠ 0 → w'.2.1 (103 + 7 * i) = w.2.1 (103 + 7 * i)) : ps_cel I w' r k = ps_cel I w r k := by
  have hp : ∀ j t, (j, t) ∈ ps_tgs k → ps_rf w' k j t = ps_rf w k j t := fun j t h => ps_rf_eq (hF _ h) (ha _ h)
  unfold ps_tgs at hp
  unfold ps_cel
  split at hp
  case _ hk => simp only [hk]; congr 2; rw [hp 0 1 (by simp)]; rw [hp 1 22 (by simp)]; rw [hp 2 36 (by simp)]
  case _ hk => simp only [hk]; congr 2; rw [hp 0 37 (by simp)]
  case _ hk => simp only [hk]; congr 2; rw [hp 0 1 (by simp)]; rw [hp 1 79 (by simp)]
  case _ hk => simp only [hk]; congr 2; rw [hp 0 60 (by simp)]; rw [hp 1 61 (by simp)]
  case _ hk => simp only [hk]; congr 2; rw [hp 0 2 (by simp)]; rw [hp 1 3 (by simp)]; rw [hp 2 4 (by simp)]; rw [hp 3 5 (by simp)]
  case _ hk => simp only [hk]; congr 2; rw [hp 0 (k + 1) (by simp)]; rw [hp 1 (k + 2) (by simp)]
  case _ hk => simp only [hk]; congr 2; rw [hp 0 1 (by simp)]; rw [hp 1 23 (by simp)]; rw [hp 2 26 (by simp)]; rw [hp 3 29 (by simp)]; rw [hp 4 32 (by simp)]; rw [hp 5 35 (by simp)]
  case _ hk => simp only [hk]; congr 2; rw [hp 1 (k + 4) (by simp)]; rw [hp 2 (k + 5) (by simp)]; rw [hp 3 (k + 1) (by simp)]; rw [hp 4 (k + 2) (by simp)]; rw [hp 5 (k + 3) (by simp)]
  case _ hk => simp only [hk]; congr 2; rw [hp 0 (k + 1) (by simp)]
  case _ hk => simp only [hk]; congr 2; rw [hp 0 1 (by simp)]; rw [hp 1 22 (by simp)]; rw [hp 2 54 (by simp)]; rw [hp 3 57 (by simp)]; rw [hp 4 58 (by simp)]; rw [hp 5 59 (by simp)]; rw [hp 6 78 (by simp)]; rw [hp 7 36 (by simp)]
  case _ hk => simp only [hk]; congr 2; rw [hp 3 81 (by simp)]; rw [hp 4 82 (by simp)]; rw [hp 5 83 (by simp)]; rw [hp 6 84 (by simp)]; rw [hp 7 85 (by simp)]; rw [hp 8 86 (by simp)]; rw [hp 9 87 (by simp)]; rw [hp 10 88 (by simp)]; rw [hp 11 89 (by simp)]; rw [hp 12 90 (by simp)]; rw [hp 16 91 (by simp)]; rw [hp 17 92 (by simp)]; rw [hp 18 93 (by simp)]; rw [hp 19 94 (by simp)]; rw [hp 20 95 (by simp)]; rw [hp 21 96 (by simp)]; rw [hp 22 97 (by simp)]; rw [hp 23 98 (by simp)]; rw [hp 24 99 (by simp)]; rw [hp 25 100 (by simp)]; rw [hp 27 101 (by simp)]
  case _ hk1 =>
    split
    · rfl
    · rfl
    · rename_i hk
      congr 7
      funext i
      by_cases hi : i < ps_ln k
      · simp only [if_pos hi]; rw [h2 hk i hi]
      · simp only [if_neg hi]
    · rename_i hk
      congr 7
      funext i
      by_cases hi : r i = 0
      · simp only [if_pos hi]
      · simp only [if_neg hi]; rw [h3 hk i hi]
    · rfl
    all_goals first | rfl | (exfalso; simp_all)
def ps_fitB (F : Nat → Nat → Bool) (n : Nat) : Bool := (List.range n).all (fun k => (ps_tgs k).all (fun p => !F k p.1 || decide (p.2 < n)) && (decide (ps_kd k ≠ 2) || decide (k + ps_ln k < n)))
/-- what the cells below n speak of lies below n -/
def ps_fit (F : Nat → Nat → Bool) (n : Nat) : Prop := ∀ k, k < n → (∀ p ∈ ps_tgs k, F k p.1 = true → p.2 < n) ∧ (ps_kd k = 2 → k + ps_ln k < n)
theorem ps_fit_of {F : Nat → Nat → Bool} {n : Nat} (h : ps_fitB F n = true) : ps_fit F n := by
  intro k hk
  have h1 := List.all_eq_true.mp h k (List.mem_range.mpr hk)
  simp only [Bool.and_eq_true, Bool.or_eq_true, decide_eq_true_eq] at h1
  refine ⟨fun p hp hF => ?_, fun h2 => ?_⟩
  · have h3 := List.all_eq_true.mp h1.1 p hp
    simp only [Bool.or_eq_true, Bool.not_eq_true', decide_eq_true_eq] at h3
    rcases h3 with h3 | h3
    · rw [hF] at h3; cases h3
    · exact h3
  · rcases h1.2 with h3 | h3
    · exact absurd h2 h3
    · exact h3
/-- the cells below n, told anew by addresses that are the same below n -/
theorem ps_ws_re {I : ps_I} {n n' : Nat} {ad ad' : Nat → Nat} {F F' : Nat → Nat → Bool} {S S' : ps_S} (hfit : ps_fit F n) (hinv : ps_inv (n, ad, F) S) (had : ∀ k, k < n → ad' k = ad k) (hF : ∀ k, k < n → F' k = F k) (hS : ∀ k, k < n → S' k = S k) : ∀ k, k < n → ps_cel I (n', ad', F') (S' k) k = ps_cel I (n, ad, F) (S k) k := by
  intro k hk
  rw [hS k hk]
  refine ps_cel_eq (fun p _ => by show F' k p.1 = F k p.1; rw [hF k hk]) (fun p hp h => had _ ((hfit k hk).1 p hp h)) (fun h2 i hi => had _ (by have := (hfit k hk).2 h2; omega)) (fun h3 i hi => ?_)
  have h57 : k = 57 := by
    unfold ps_kd at h3
    split at h3
    · rename_i h103
      have : ∀ k, k < 103 → (ps_tab.getD k (9, 0)).1 = 3 → k = 57 := by decide +kernel
      exact this k h103 h3
    · exfalso
      have h7 : (k - 103) % 7 < 7 := Nat.mod_lt _ (by decide)
      generalize (k - 103) % 7 = d at h3 h7
      have : ∀ d, d < 7 → ([17, 0, 1, 0, 0, 18, 0] : List Nat).getD d 9 = 3 → False := by decide
      exact this d h7 h3
  subst h57
  refine had _ ?_
  have := hinv i hi
  show 103 + 7 * i < n
  have h9 : 110 + 7 * i ≤ n := this
  omega
theorem ps_ws_push {I : ps_I} {n : Nat} {ad ad' : Nat → Nat} {F F' : Nat → Nat → Bool} {S S' : ps_S} {q : Nat} {cell : va_E} (h1 : ad' n = q) (h2 : ∀ k, k < n → ad' k = ad k) (h3 : ps_cel I (n + 1, ad', F') (S' n) n = cell) (h4 : ∀ k, k < n → ps_cel I (n + 1, ad', F') (S' k) k = ps_cel I (n, ad, F) (S k) k) : ps_ws I (n, ad, F) S ++ [(q, cell)] = ps_ws I (n + 1, ad', F') S' := by
  unfold ps_ws
  show (List.range n).map _ ++ [(q, cell)] = (List.range (n + 1)).map _
  rw [List.range_succ, List.map_append]
  congr 1
  · apply List.map_congr_left
    intro k hk
    have hk := List.mem_range.mp hk
    show (ad k, _) = (ad' k, _)
    rw [h2 k hk, h4 k hk]
  · show [(q, cell)] = [(ad' n, _)]
    rw [h1, h3]
def ps_ua (ad : Nat → Nat) (n q : Nat) : Nat → Nat := fun k => if k = n then q else ad k
theorem ps_inv_z {n n' : Nat} {ad ad' : Nat → Nat} {F F' : Nat → Nat → Bool} {S : ps_S} {k : Nat} (h : ps_inv (n, ad, F) S) (hn : n ≤ n') : ps_inv (n', ad', F') (ps_z S k) := fun i hi => by
  by_cases hk : 57 = k
  · exfalso; apply hi; simp [ps_z, hk]
  · have h9 : ps_z S k 57 = S 57 := by simp [ps_z, hk]
    rw [h9] at hi
    have : 110 + 7 * i ≤ n := h i hi
    show 110 + 7 * i ≤ n'
    omega
def ps_nest : List Cond := [.methodLinkNest RX10 11 yX5_init RX10, .methodLinkNest RX7 11 yX6_init RX10, .methodLinkNest RX10 19 yX2_init RX10, .methodLinkNest RX10 34 yX6_init RX10]
def ps_AX (U : State) : Prop := va_AO RX8 U ∧ va_AOA .int U ∧ ∀ w ∈ ps_nest, va_Nw w U
def ps_okC (G : ps_G) (cc : ByteArray) (own : String) (nL : Nat) (Ts : List Cond) (R : Room) : Prop := ps_ok G cc own nL Ts R ∧ G.2.1.2.2.2.1.name = "<init>"
section PA
variable {G : ps_G} {nL kc ks : Nat} {n : Nat} {ad : Nat → Nat} {F F' : Nat → Nat → Bool} {w : ps_X} {S S' : ps_S} {pc : Nat} {lv lv' : List (Nat × Value)} {rest : List Value} {cc : ByteArray} {own : String} {Ts : List Cond} {R : Room}
theorem ps_objI (hG : ps_ok G cc own nL Ts R) {idx a9 : Nat} (h1 : Cond.methodLink own idx objectInit ∈ Ts) (h2 : Cond.instanceMethod objectInit ∈ Ts) (h3 : Cond.code objectInit ⟨#[0xb1]⟩ 1 none ∈ Ts) (hf : 1 ≤ R.frames) (hlo : (rest.map fun v => v.category).sum + 12 ≤ R.locals) (hdg : decode cc pc = .ok (.invokespecial idx, 3)) (kk : ps_V G nL kc ks w S (pc + 3) lv rest) : ps_V G nL kc ks w S pc lv (.ref a9 :: rest) := fun H locs ls hP hD hS hi hl => by
  obtain ⟨⟨hx, hb, hml, hown, hts⟩, hK, hA, hRR⟩ := id hG
  subst hRR
  refine W.objInit hx hb hown (hts _ h1) (hts _ h2) (hts _ h3) rfl (hl.1.trans hml.symm) rfl hdg hf (by show 2 * 0 + _ + 12 ≤ _; omega) ?_
  exact W.eq rfl (kk H locs ls hP hD hS hi hl)
theorem ps_newO (hG : ps_ok G cc own nL Ts R) {C : String} {T : u_T} {N ci index : Nat} (hin : ∀ q ∈ u_ws C T N, q ∈ Ts) (ty : Nat → FieldType) (hty : ∀ k, k < N → parseFieldDescriptor (T k).2.2.1 = some (ty k)) (hcl : Cond.classLink own index C ∈ Ts) (hinst : Cond.instantiable C N ∈ Ts) (hini : Cond.initialized C ∈ Ts) (hc : vwCl[ci]? = some (C, T, N)) {fs : List Value} (hcel : ∀ ad' : Nat → Nat, ps_cel G.2.2.1.2 (n + 1, ad', ps_uo F n) (fun _ => 0) n = .inr (ci, fs)) (hfs : ∀ j, j < N → defaultValue (ty j) = vp_V fs j) (hfit : ps_fit F n) (hcells : kc + 1 ≤ R.cells) (hslots : ks + N ≤ R.slots) (hdg : decode cc pc = .ok (.new index, 3)) (kk : ∀ ad' : Nat → Nat, (∀ k, k ≠ n → ad' k = ad k) → ps_V G nL (kc + 1) (ks + N) (n + 1, ad', ps_uo F n) (ps_z S n) (pc + 3) lv (.ref (ad' n) :: rest)) : ps_V G nL kc ks (n, ad, F) S pc lv rest := fun H locs ls hP hD hS hi hl => by
  obtain ⟨⟨hx, hb, hml, hown, hts⟩, hK, hA, hRR⟩ := id hG
  subst hRR
  refine va_new hx hb hts hin ty hty hown (hts _ hcl) (hts _ hinst) (hts _ hini) hK hP hD hS hA hc hfs hcells hslots hdg (fun q H1 hP1 hD1 hS1 => ?_)
  have e := ps_ws_push (I := G.2.2.1.2) (n := n) (ad := ad) (ad' := ps_ua ad n q) (F := F) (F' := ps_uo F n) (S := S) (S' := ps_z S n) (q := q) (cell := .inr (ci, fs)) (by simp [ps_ua]) (fun k hk => by simp [ps_ua, Nat.ne_of_lt hk]) (by rw [show ps_z S n n = fun _ => 0 by simp [ps_z]]; exact hcel _) (ps_ws_re hfit hi (fun k hk => by simp [ps_ua, Nat.ne_of_lt hk]) (fun k hk => by funext j; simp [ps_uo, Nat.ne_of_lt hk]) (fun k hk => by simp [ps_z, Nat.ne_of_lt hk]))
  rw [e] at hP1 hD1
  have h := kk (ps_ua ad n q) (fun k hk => by simp [ps_ua, hk]) H1 locs ls hP1 hD1 hS1 (ps_inv_z hi (Nat.le_succ n)) hl
  have h9 : ps_ua ad n q n = q := by simp [ps_ua]
  rw [h9] at h
  exact h
theorem ps_newI (hG : ps_ok G cc own nL Ts R) (harr : Cond.arrayClass .int ∈ Ts) {x : Int32} {N' : Nat} (hkd : ps_kd n = 0) (hln : ps_ln n = N') (hn : ¬ x < 0) (hN : x.toNatClampNeg = N') (hbytes : N' * componentBytes .int ≤ 536870912) (hfit : ps_fit F n) (hcells : kc + 1 ≤ R.cells) (hslots : ks + N' ≤ R.slots) (hdg : decode cc pc = .ok (.newarray .int, 2)) (kk : ∀ ad' : Nat → Nat, (∀ k, k ≠ n → ad' k = ad k) → ps_V G nL (kc + 1) (ks + N') (n + 1, ad', ps_uo F n) (ps_z S n) (pc + 2) lv (.ref (ad' n) :: rest)) : ps_V G nL kc ks (n, ad, F) S pc lv (.int x :: rest) := fun H locs ls hP hD hS hi hl => by
  obtain ⟨⟨hx, hb, hml, hown, hts⟩, hK, hA, hRR⟩ := id hG
  subst hRR
  refine va_newa (atype := .int) hx hb (hts _ harr) (ty := .int) rfl hK hP hD hS hA (a0 := (N', .inl (fun _ => 0))) (fun cA => rfl) hn hN hbytes hcells hslots hdg (fun q cA H1 hK1 hP1 hD1 hS1 => ?_)
  have hcA : cA = G.2.2.1.2.1 := by
    have h1 := (hK1.2 5 (cA, .int) rfl).2
    have h2 := (hK.2 0 (G.2.2.1.2.1, .int) rfl).2
    exact Option.some.inj (h1.symm.trans h2)
  subst hcA
  have e := ps_ws_push (I := G.2.2.1.2) (n := n) (ad := ad) (ad' := ps_ua ad n q) (F := F) (F' := ps_uo F n) (S := S) (S' := ps_z S n) (q := q) (cell := .inl (G.2.2.1.2.1, (N', .inl (fun _ => 0)))) (by simp [ps_ua]) (fun k hk => by simp [ps_ua, Nat.ne_of_lt hk]) (by rw [show ps_z S n n = fun _ => 0 by simp [ps_z]]; rw [ps_cel_0 hkd, hln]) (ps_ws_re hfit hi (fun k hk => by simp [ps_ua, Nat.ne_of_lt hk]) (fun k hk => by funext j; simp [ps_uo, Nat.ne_of_lt hk]) (fun k hk => by simp [ps_z, Nat.ne_of_lt hk]))
  rw [e] at hP1 hD1
  have h := kk (ps_ua ad n q) (fun k hk => by simp [ps_ua, hk]) H1 locs ls hP1 hD1 hS1 (ps_inv_z hi (Nat.le_succ n)) hl
  have h9 : ps_ua ad n q n = q := by simp [ps_ua]
  rw [h9] at h
  exact h
theorem ps_newZ (hG : ps_ok G cc own nL Ts R) (harr : Cond.arrayClass .boolean ∈ Ts) {x : Int32} {N' : Nat} (hkd : ps_kd n = 1) (hln : ps_ln n = N') (hn : ¬ x < 0) (hN : x.toNatClampNeg = N') (hbytes : N' * componentBytes .boolean ≤ 536870912) (hfit : ps_fit F n) (hcells : kc + 1 ≤ R.cells) (hslots : ks + N' ≤ R.slots) (hdg : decode cc pc = .ok (.newarray .boolean, 2)) (kk : ∀ ad' : Nat → Nat, (∀ k, k ≠ n → ad' k = ad k) → ps_V G nL (kc + 1) (ks + N') (n + 1, ad', ps_uo F n) (ps_z S n) (pc + 2) lv (.ref (ad' n) :: rest)) : ps_V G nL kc ks (n, ad, F) S pc lv (.int x :: rest) := fun H locs ls hP hD hS hi hl => by
  obtain ⟨⟨hx, hb, hml, hown, hts⟩, hK, hA, hRR⟩ := id hG
  subst hRR
  refine va_newa (atype := .boolean) hx hb (hts _ harr) (ty := .boolean) rfl hK hP hD hS hA (a0 := (N', .inl (fun _ => 0))) (fun cA => rfl) hn hN hbytes hcells hslots hdg (fun q cA H1 hK1 hP1 hD1 hS1 => ?_)
  have hcA : cA = G.2.2.1.2.2.1 := by
    have h1 := (hK1.2 5 (cA, .boolean) rfl).2
    have h2 := (hK.2 1 (G.2.2.1.2.2.1, .boolean) rfl).2
    exact Option.some.inj (h1.symm.trans h2)
  subst hcA
  have e := ps_ws_push (I := G.2.2.1.2) (n := n) (ad := ad) (ad' := ps_ua ad n q) (F := F) (F' := ps_uo F n) (S := S) (S' := ps_z S n) (q := q) (cell := .inl (G.2.2.1.2.2.1, (N', .inl (fun _ => 0)))) (by simp [ps_ua]) (fun k hk => by simp [ps_ua, Nat.ne_of_lt hk]) (by rw [show ps_z S n n = fun _ => 0 by simp [ps_z]]; rw [ps_cel_1 hkd, hln]) (ps_ws_re hfit hi (fun k hk => by simp [ps_ua, Nat.ne_of_lt hk]) (fun k hk => by funext j; simp [ps_uo, Nat.ne_of_lt hk]) (fun k hk => by simp [ps_z, Nat.ne_of_lt hk]))
  rw [e] at hP1 hD1
  have h := kk (ps_ua ad n q) (fun k hk => by simp [ps_ua, hk]) H1 locs ls hP1 hD1 hS1 (ps_inv_z hi (Nat.le_succ n)) hl
  have h9 : ps_ua ad n q n = q := by simp [ps_ua]
  rw [h9] at h
  exact h
theorem ps_newJ (hG : ps_ok G cc own nL Ts R) (harr : Cond.arrayClass .long ∈ Ts) {x : Int32} {N' : Nat} (hkd : ps_kd n = 4) (hln : ps_ln n = N') (hn : ¬ x < 0) (hN : x.toNatClampNeg = N') (hbytes : N' * componentBytes .long ≤ 536870912) (hfit : ps_fit F n) (hcells : kc + 1 ≤ R.cells) (hslots : ks + N' ≤ R.slots) (hdg : decode cc pc = .ok (.newarray .long, 2)) (kk : ∀ ad' : Nat → Nat, (∀ k, k ≠ n → ad' k = ad k) → ps_V G nL (kc + 1) (ks + N') (n + 1, ad', ps_uo F n) (ps_z S n) (pc + 2) lv (.ref (ad' n) :: rest)) : ps_V G nL kc ks (n, ad, F) S pc lv (.int x :: rest) := fun H locs ls hP hD hS hi hl => by
  obtain ⟨⟨hx, hb, hml, hown, hts⟩, hK, hA, hRR⟩ := id hG
  subst hRR
  refine va_newa (atype := .long) hx hb (hts _ harr) (ty := .long) rfl hK hP hD hS hA (a0 := (N', .inr (.inl (fun _ => 0)))) (fun cA => rfl) hn hN hbytes hcells hslots hdg (fun q cA H1 hK1 hP1 hD1 hS1 => ?_)
  have hcA : cA = G.2.2.1.2.2.2.2.2 := by
    have h1 := (hK1.2 5 (cA, .long) rfl).2
    have h2 := (hK.2 4 (G.2.2.1.2.2.2.2.2, .long) rfl).2
    exact Option.some.inj (h1.symm.trans h2)
  subst hcA
  have e := ps_ws_push (I := G.2.2.1.2) (n := n) (ad := ad) (ad' := ps_ua ad n q) (F := F) (F' := ps_uo F n) (S := S) (S' := ps_z S n) (q := q) (cell := .inl (G.2.2.1.2.2.2.2.2, (N', .inr (.inl (fun _ => 0))))) (by simp [ps_ua]) (fun k hk => by simp [ps_ua, Nat.ne_of_lt hk]) (by rw [show ps_z S n n = fun _ => 0 by simp [ps_z]]; rw [ps_cel_4 hkd, hln]; rfl) (ps_ws_re hfit hi (fun k hk => by simp [ps_ua, Nat.ne_of_lt hk]) (fun k hk => by funext j; simp [ps_uo, Nat.ne_of_lt hk]) (fun k hk => by simp [ps_z, Nat.ne_of_lt hk]))
  rw [e] at hP1 hD1
  have h := kk (ps_ua ad n q) (fun k hk => by simp [ps_ua, hk]) H1 locs ls hP1 hD1 hS1 (ps_inv_z hi (Nat.le_succ n)) hl
  have h9 : ps_ua ad n q n = q := by simp [ps_ua]
  rw [h9] at h
  exact h
theorem ps_newF (hG : ps_ok G cc own nL Ts R) {index : Nat} (hcl : Cond.classLink own index RX8 ∈ Ts) (hover : (Cond.arrayOver (.object RX8)).before G.2.1.2.1 G.1.2.2.2.2 = true) {x : Int32} (hkd : ps_kd n = 3) (hln : ps_ln n = 12) (hn : ¬ x < 0) (hN : x.toNatClampNeg = 12) (hfit : ps_fit F n) (hcells : kc + 1 ≤ R.cells) (hslots : ks + 12 ≤ R.slots) (hdg : decode cc pc = .ok (.anewarray index, 3)) (kk : ∀ ad' : Nat → Nat, (∀ k, k ≠ n → ad' k = ad k) → ps_V G nL (kc + 1) (ks + 12) (n + 1, ad', ps_uo F n) (ps_z S n) (pc + 3) lv (.ref (ad' n) :: rest)) : ps_V G nL kc ks (n, ad, F) S pc lv (.int x :: rest) := fun H locs ls hP hD hS hi hl => by
  obtain ⟨⟨hx, hb, hml, hown, hts⟩, hK, hA, hRR⟩ := id hG
  subst hRR
  refine va_newq hx hb hown (hts _ hcl) (va_AO.of hover) hK hP hD hS hA hn hN (by decide) hcells hslots hdg (fun q cA H1 hK1 hP1 hD1 hS1 => ?_)
  have hcA : cA = G.2.2.1.2.2.2.2.1 := by
    obtain ⟨k1, c1, f1, f2, f3, f4⟩ := (hK1.2 5 (cA, .object RX8) rfl).2
    obtain ⟨k2, c2, g1, g2, g3, g4⟩ := (hK.2 3 (G.2.2.1.2.2.2.2.1, .object RX8) rfl).2
    exact Option.some.inj (f4.symm.trans g4)
  subst hcA
  have e := ps_ws_push (I := G.2.2.1.2) (n := n) (ad := ad) (ad' := ps_ua ad n q) (F := F) (F' := ps_uo F n) (S := S) (S' := ps_z S n) (q := q) (cell := .inl (G.2.2.1.2.2.2.2.1, 12, .inr (.inr (.inr (.inr (fun _ => none)))))) (by simp [ps_ua]) (fun k hk => by simp [ps_ua, Nat.ne_of_lt hk]) (by rw [show ps_z S n n = fun _ => 0 by simp [ps_z]]; rw [ps_cel_3 hkd, hln]; rfl) (ps_ws_re hfit hi (fun k hk => by simp [ps_ua, Nat.ne_of_lt hk]) (fun k hk => by funext j; simp [ps_uo, Nat.ne_of_lt hk]) (fun k hk => by simp [ps_z, Nat.ne_of_lt hk]))
  rw [e] at hP1 hD1
  have h := kk (ps_ua ad n q) (fun k hk => by simp [ps_ua, hk]) H1 locs ls hP1 hD1 hS1 (ps_inv_z hi (Nat.le_succ n)) hl
  have h9 : ps_ua ad n q n = q := by simp [ps_ua]
  rw [h9] at h
  exact h
/-- a final field that speaks of the cell t is set: then its cell is as the pool has it -/
theorem ps_putR (hC : ps_okC G cc own nL Ts R) {T : u_T} {N ci index k t : Nat} (g : Bool → List Value) (hin : ∀ q ∈ u_ws own T N, q ∈ Ts) (ty0 : Nat → FieldType) (hty : ∀ k, k < N → parseFieldDescriptor (T k).2.2.1 = some (ty0 k)) (hnm : ∀ a, a < N → ∀ b, b < N → a ≠ b → (T a).2.1 ≠ (T b).2.1) (hk : k < n) (hcl : vwCl[ci]? = some (own, T, N)) (j : Nat) (hj : j < N) (hc : ps_cel G.2.2.1.2 (n, ad, F) (S k) k = .inr (ci, g (F k j))) (hc2 : ps_cel G.2.2.1.2 (n, ad, ps_us F k j) (S k) k = .inr (ci, g true)) (hg : (g (F k j)).set j (.ref (ad t)) = g true) (hlen : j < (g (F k j)).length) (hm : Cond.fieldLink own index (T j).1 (T j).2.1 (T j).2.2.1 ∈ Ts) (hfin : (T j).2.2.2 = true) (hdecl : (T j).1 = own) {ty : FieldType} (hd : parseFieldDescriptor (T j).2.2.1 = some ty) (hn : narrow ty (.ref (ad t)) = .ref (ad t)) (hfit : fits ty (.ref (ad t)) = true) (hdg : decode cc pc = .ok (.putfield index, 3)) (kk : ps_V G nL kc ks (n, ad, ps_us F k j) S (pc + 3) lv rest) : ps_V G nL kc ks (n, ad, F) S pc lv (.ref (ad t) :: .ref (ad k) :: rest) := fun H locs ls hP hD hS hi hl => by
  obtain ⟨hG, hinit⟩ := hC
  have hat := ps_ws_at (I := G.2.2.1.2) (w := (n, ad, F)) (S := S) hk
  rw [hc] at hat
  refine va_putF hG.1.1 hG.1.2.1 hG.1.2.2.2.2 hin ty0 hty hnm hG.1.2.2.2.1 hG.2.1 hP hD hS k hat hcl j hj (hG.1.2.2.2.2 _ hm) (fun _ h => h) hfin hinit hdecl hd hn hfit hlen hdg (fun H1 locs1 hP1 hD1 hS1 => ?_)
  have e : (ps_ws G.2.2.1.2 (n, ad, F) S).set k (ad k, .inr (ci, (g (F k j)).set j (.ref (ad t)))) = ps_ws G.2.2.1.2 (n, ad, ps_us F k j) S := by
    rw [hg, ← hc2]
    apply List.ext_getElem?
    intro i
    rw [List.getElem?_set]
    by_cases hi9 : k = i
    · subst hi9
      have h1 : k < n := hk
      simp [ps_ws, h1]
    · rw [if_neg hi9]
      by_cases h1 : i < n
      · simp only [ps_ws, List.getElem?_map, List.getElem?_range h1, Option.map_some]
        congr 2
        exact (ps_cel_eq (w := (n, ad, F)) (w' := (n, ad, ps_us F k j)) (fun p _ => by show ps_us F k j i p.1 = F i p.1; simp [ps_us, Ne.symm hi9]) (fun _ _ _ => rfl) (fun _ _ _ => rfl) (fun _ _ _ => rfl)).symm
      · simp [ps_ws, h1]
  rw [e] at hP1 hD1
  exact kk H1 locs1 ls hP1 hD1 hS1 hi hl
/-- other flags that say the same of every cell -/
theorem ps_flags {st : List Value} (h : ∀ k, k < n → ∀ p ∈ ps_tgs k, F' k p.1 = F k p.1) (kk : ps_V G nL kc ks (n, ad, F') S pc lv st) : ps_V G nL kc ks (n, ad, F) S pc lv st := fun H locs ls hP hD hS hi hl => by
  have e : ps_ws G.2.2.1.2 (n, ad, F) S = ps_ws G.2.2.1.2 (n, ad, F') S := by
    apply List.map_congr_left
    intro k hk
    have hk := List.mem_range.mp hk
    show (ad k, _) = (ad k, _)
    congr 1
    exact (ps_cel_eq (w := (n, ad, F)) (w' := (n, ad, F')) (fun p hp => h k hk p hp) (fun _ _ _ => rfl) (fun _ _ _ => rfl) (fun _ _ _ => rfl)).symm
  rw [e] at hP hD
  exact kk H locs ls hP hD hS hi hl
end PA
section PM
variable {G : ps_G} {nL kc ks : Nat} {n : Nat} {ad : Nat → Nat} {F F' : Nat → Nat → Bool} {w : ps_X} {S S' : ps_S} {pc : Nat} {lv lv' : List (Nat × Value)} {rest : List Value} {cc : ByteArray} {own : String} {Ts : List Cond} {R : Room}
def ps_zz (S : ps_S) (n m : Nat) : ps_S := fun a => if n ≤ a ∧ a < n + m then (fun _ => 0) else S a
def ps_ub (ad : Nat → Nat) (n q : Nat) (r : Nat → Nat) : Nat → Nat := fun k => if k = n then q else if n < k then r (k - n - 1) else ad k
theorem ps_newM (hG : ps_ok G cc own nL Ts R) {index : Nat} (hcl : Cond.classLink own index "[[I" ∈ Ts) (harr : Cond.arrayClass .int ∈ Ts) (hover : va_AOA .int G.1.2.2.2.2) {x y : Int32} {L : Nat} (hx0 : ¬ x < 0) (hy0 : ¬ y < 0) (hx16 : x.toNatClampNeg = 16) (hy9 : y.toNatClampNeg = L) (hL : L ≤ 256) (hkd : ps_kd n = 2 ∧ ps_ln n = 16) (hrow : ∀ i, i < 16 → ps_kd (n + 1 + i) = 0 ∧ ps_ln (n + 1 + i) = L) (hfit : ps_fit F n) (hcells : kc + 17 ≤ R.cells) (hslots : ks + (16 + 16 * L) ≤ R.slots) (hdg : decode cc pc = .ok (.multianewarray index 2, 4)) (kk : ∀ ad' : Nat → Nat, (∀ k, k < n → ad' k = ad k) → ps_V G nL (kc + 17) (ks + (16 + 16 * L)) (n + 17, ad', F) (ps_zz S n 17) (pc + 4) lv (.ref (ad' n) :: rest)) : ps_V G nL kc ks (n, ad, F) S pc lv (.int y :: .int x :: rest) := fun H locs ls hP hD hS hi hl => by
  obtain ⟨⟨hx, hb, hml, hown, hts⟩, hK, hA, hRR⟩ := id hG
  subst hRR
  have hs1 : ("[" ++ (FieldType.array FieldType.int).toString) = "[[I" := by decide +kernel
  have hs2 : (FieldType.array FieldType.int).toString = "[" ++ FieldType.int.toString := by decide +kernel
  have hcy : G.1.2.2.2.2.vm.findClass (FieldType.array FieldType.int).toString = some G.2.2.1.2.1 := by rw [hs2]; exact (hG.2.1.2 0 (G.2.2.1.2.1, .int) rfl).2
  have hP0 : va_P G.2.2.1.1 vwCl (ps_ws G.2.2.1.2 (n, ad, F) S ++ va_pl [] (fun _ => .inl (G.2.2.1.2.1, (0, .inl (fun _ => 0))))) H := by simpa [va_pl] using hP
  have hD0 : va_D G.2.2.2.1 (ps_ws G.2.2.1.2 (n, ad, F) S ++ va_pl [] (fun _ => .inl (G.2.2.1.2.1, (0, .inl (fun _ => 0))))) := by simpa [va_pl] using hD
  refine va_mna hx hb hown (by rw [hs1]; exact hts _ hcl) hover (hts _ harr) hcy hK hP0 hD0 hS hA (N' := 16) (K' := L) (z := (L, .inl (fun _ => 0))) hx0 hy0 hx16 hy9 (by decide) (by show L * 4 ≤ _; omega) (by omega) rfl rfl (by show kc + 17 ≤ _; exact hcells) hslots (fun c => arrV_new c L (.int 0)) hdg (fun q r cA H1 hinj hnot hK1 hP1 hD1 hS1 => ?_)
  have hcA : cA = G.2.2.1.2.2.2.1 := by
    have h1 : G.1.2.2.2.2.vm.findClass ("[" ++ (FieldType.array .int).toString) = some cA := (hK1.2 5 (cA, .array .int) rfl).2
    have h2 : G.1.2.2.2.2.vm.findClass ("[" ++ (FieldType.array .int).toString) = some G.2.2.1.2.2.2.1 := (hK.2 2 (G.2.2.1.2.2.2.1, .array .int) rfl).2
    exact Option.some.inj (h1.symm.trans h2)
  subst hcA
  have had : ∀ k, k < n → ps_ub ad n q r k = ad k := fun k hk => by simp [ps_ub, Nat.ne_of_lt hk, Nat.not_lt.mpr (Nat.le_of_lt hk)]
  have e : (ps_ws G.2.2.1.2 (n, ad, F) S ++ [(q, .inl (G.2.2.1.2.2.2.1, 16, .inr (.inr (.inr (.inr (fun i => if i < 16 then some (r i) else none))))))]) ++ va_pl ([] ++ (List.range 16).map r) (vr_up (fun _ => .inl (G.2.2.1.2.1, (0, .inl (fun _ => 0)))) ((List.range 16).map r) (.inl (G.2.2.1.2.1, (L, .inl (fun _ => 0))))) = ps_ws G.2.2.1.2 (n + 17, ps_ub ad n q r, F) (ps_zz S n 17) := by
    have e0 : va_pl ([] ++ (List.range 16).map r) (vr_up (fun _ => .inl (G.2.2.1.2.1, (0, .inl (fun _ => 0)))) ((List.range 16).map r) (.inl (G.2.2.1.2.1, (L, .inl (fun _ => 0))))) = (List.range 16).map (fun i => (r i, (.inl (G.2.2.1.2.1, (L, .inl (fun _ => 0))) : va_E))) := by
      unfold va_pl
      rw [List.nil_append, List.map_map]
      apply List.map_congr_left
      intro i hi9
      show (r i, _) = (r i, _)
      rw [vr_up_in (List.mem_map.mpr ⟨i, hi9, rfl⟩)]
    rw [e0]
    unfold ps_ws
    show ((List.range n).map _ ++ [_]) ++ (List.range 16).map _ = (List.range (n + 17)).map _
    rw [show n + 17 = (n + 1) + 16 by omega, List.range_add, List.range_succ (n := n), List.map_append, List.map_append, List.map_map]
    congr 1
    · congr 1
      · apply List.map_congr_left
        intro k hk
        have hk := List.mem_range.mp hk
        show (ad k, _) = (ps_ub ad n q r k, _)
        rw [had k hk]
        congr 1
        exact (ps_ws_re (I := G.2.2.1.2) (n := n) (n' := n + 17) (S := S) (S' := ps_zz S n 17) hfit hi had (fun _ _ => rfl) (fun k hk => by simp [ps_zz, Nat.not_le.mpr hk]) k hk).symm
      · show [(q, _)] = [(ps_ub ad n q r n, _)]
        rw [show ps_ub ad n q r n = q by simp [ps_ub], ps_cel_2 hkd.1, hkd.2]
        congr 9
        funext i
        by_cases hi9 : i < 16
        · simp only [if_pos hi9]
          show some (r i) = some (ps_ub ad n q r (n + 1 + i))
          simp [ps_ub, show ¬ (n + 1 + i = n) by omega, show n < n + 1 + i by omega, show n + 1 + i - n - 1 = i by omega]
        · simp only [if_neg hi9]
    · apply List.map_congr_left
      intro i hi9
      have hi9 := List.mem_range.mp hi9
      show (r i, _) = (ps_ub ad n q r (n + 1 + i), ps_cel _ _ (ps_zz S n 17 (n + 1 + i)) (n + 1 + i))
      rw [show ps_ub ad n q r (n + 1 + i) = r i by simp [ps_ub, show ¬ (n + 1 + i = n) by omega, show n < n + 1 + i by omega, show n + 1 + i - n - 1 = i by omega], show ps_zz S n 17 (n + 1 + i) = fun _ => 0 by simp [ps_zz, show n ≤ n + 1 + i by omega, show n + 1 + i < n + 17 by omega], ps_cel_0 (hrow i hi9).1, (hrow i hi9).2]
  rw [e] at hP1 hD1
  have h := kk (ps_ub ad n q r) had H1 locs ls hP1 hD1 hS1 (fun j hj => by
    by_cases h57 : n ≤ 57 ∧ 57 < n + 17
    · exfalso; apply hj; simp [ps_zz, h57]
    · have h9 : ps_zz S n 17 57 = S 57 := by simp [ps_zz, h57]
      rw [h9] at hj
      have : 110 + 7 * j ≤ n := hi j hj
      show 110 + 7 * j ≤ n + 17
      omega) hl
  have h9 : ps_ub ad n q r n = q := by simp [ps_ub]
  rw [h9] at h
  rw [show kc + 1 + 16 = kc + 17 from rfl, show ks + 16 + 16 * L = ks + (16 + 16 * L) from Nat.add_assoc _ _ _]
  exact h
end PM
theorem ps_AX_same {s U : State} (hvm : s.vm = U.vm) (h : ps_AX s) : ps_AX U := ⟨h.1.moved (hvm ▸ Vm.Alike.refl s.vm), over_moved (hvm ▸ Vm.Alike.refl s.vm) h.2.1, fun w hw => by
  have h9 := h.2.2 w hw
  simp only [ps_nest, List.mem_cons, List.not_mem_nil, or_false] at hw
  rcases hw with rfl | rfl | rfl | rfl <;> exact va_Nw.same rfl hvm h9⟩
theorem ps_AX_warm {s U : State} (hW : s.WarmedH U.vm) (h : ps_AX s) : ps_AX U := ⟨h.1.moved hW.alike, over_moved hW.alike h.2.1, fun w hw => by
  have h9 := h.2.2 w hw
  simp only [ps_nest, List.mem_cons, List.not_mem_nil, or_false] at hw
  rcases hw with rfl | rfl | rfl | rfl <;> exact va_Nw.warmM hW h9⟩
def ps_preC (D : va_G) (I : ps_I) (w : ps_X) (S : ps_S) (sz : Nat) : State → Prop := fun U => ps_pre D I w S sz U ∧ ps_AX U
def ps_MC (l : Launch) (y : MethodName) (ws : List Cond) (rm : Room) (n : Nat) (ad : Nat → Nat) (F : Nat → Nat → Bool) (av : List Value) (S : ps_S) (n2 : Nat) (F2 : Nat → Nat → Bool) (S2 : ps_S) (mc ms : Nat) : Prop := ∀ (D : va_G) (I : ps_I) (sz : Nat), Met l y ws rm (va_Pc av (ps_preC D I (n, ad, F) S sz)) (va_Qv (fun ad2 : Nat → Nat => ∀ k, k < n → ad2 k = ad k) (fun ad2 => ps_pst D I (va_A (ps_ws I (n, ad, F) S) sz) (n2, ad2, F2) S2) (va_A (ps_ws I (n, ad, F) S) sz)) mc ms (va_A (ps_ws I (n, ad, F) S) sz)
theorem ps_callC {G : ps_G} {nL kc ks : Nat} {n n2 k : Nat} {ad : Nat → Nat} {F F2 : Nat → Nat → Bool} {S S2 : ps_S} {pc : Nat} {lv : List (Nat × Value)} {rest As st : List Value} {cc bytes : ByteArray} {own : String} {Ts ws ws' : List Cond} {R rm : Room} {y : MethodName} {maxL index nA mc1 ms1 : Nat} (hG : ps_ok G cc own nL Ts R) (hAX : ps_AX G.1.2.2.2.2) (hM : ps_MC G.1.2.1 y ws rm n ad F (.ref (ad k) :: As) S n2 F2 S2 mc1 ms1) (hg : GoodIn Ts ws) (hw : ws = Cond.code y bytes maxL none :: ws') (hini : Cond.initialized y.cls ∈ Ts) (hlk : Cond.methodLink own index y ∈ Ts) (him : Cond.instanceMethod y ∈ Ts) (hy1 : y.name = "<init>") (hd : y.cls ≠ "java/lang/invoke/MethodHandle" ∧ y.cls ≠ "java/lang/invoke/VarHandle" ∧ (parseMethodDescriptor y.desc).map (fun d => d.parameters.length) = some nA) (hnA : As.length = nA) (hR : rm.frames + 1 ≤ R.frames ∧ 8 + (maxL + 11) + rm.locals ≤ R.locals) (hz : rm.cells = mc1 ∧ rm.slots = ms1) (hz2 : kc + mc1 ≤ R.cells ∧ ks + ms1 ≤ R.slots) (hst : st = As.reverse ++ .ref (ad k) :: rest) (hrm : (rest.map fun v => v.category).sum ≤ 8) (hdg : decode cc pc = .ok (.invokespecial index, 3)) (kk : ∀ ad2 : Nat → Nat, (∀ k, k < n → ad2 k = ad k) → ps_V G nL (kc + mc1) (ks + ms1) (n2, ad2, F2) S2 (pc + 3) lv rest) : ps_V G nL kc ks (n, ad, F) S pc lv st := fun H locs ls hP hD hS hi hl => by
  subst hst
  have hFc := ps_fr hG hD hS
  obtain ⟨⟨hx, hb, hml, hown, hts⟩, hK, hA, hRR⟩ := id hG
  subst hRR
  refine va_callv (va_runI (As := As) (rest := rest) ⟨hx, hb, hml, hown, hts⟩ (hM G.2.2.1.1 G.2.2.1.2 H.size) (cwI nA hts hg hw hz.1 hz.2 (hts _ hini) (hts _ hlk) (hts _ him) hy1 hd hR) ⟨(fun a U g mk q => by
    obtain ⟨q0, ⟨q1, qP, qK, qD⟩, qX⟩ := q
    exact ⟨q0, ⟨q1, qP, va_K.moved (u := U) (U := U.calling g mk a) (Vm.Alike.refl U.vm) qK, qD⟩, ps_AX_same (s := U) (U := U.calling g mk a) rfl qX⟩), fun U hU hW => ⟨rfl, ⟨by rw [hU], by rw [hU]; exact hP, va_K.moved hW.alike hK, hD.weaken (fun _ _ _ _ => trivial), hi⟩, ps_AX_warm hW hAX⟩⟩ rfl hnA hl.1 rfl (lv_room hrm) hdg ⟨hz2.1, hz2.2⟩) hS (fun q _ h => hFc q h) hFc (fun ad2 t H1 locs1 ht hvm hw2 hB hz1 hk1 hS1 => ?_)
  obtain ⟨hP1, hK1, hD1, hi1⟩ := hB
  rw [ht] at hP1
  exact kk ad2 hw2 H1 locs1 ls hP1 (hD1.weaken (fun k q _ h => hFc q.1 h)) hS1 hi1 hl
theorem ps_callN {G : ps_G} {nL kc ks : Nat} {n n2 k : Nat} {ad : Nat → Nat} {F F2 : Nat → Nat → Bool} {S S2 : ps_S} {pc : Nat} {lv : List (Nat × Value)} {rest As st : List Value} {cc bytes : ByteArray} {own : String} {Ts ws ws' : List Cond} {R rm : Room} {y : MethodName} {maxL index nA mc1 ms1 : Nat} (hG : ps_ok G cc own nL Ts R) (hAX : ps_AX G.1.2.2.2.2) (hM : ps_MC G.1.2.1 y ws rm n ad F (.ref (ad k) :: As) S n2 F2 S2 mc1 ms1) (hg : GoodIn Ts ws) (hw : ws = Cond.code y bytes maxL none :: ws') (hini : Cond.initialized y.cls ∈ Ts) (hlk : Cond.methodLinkNest own index y RX10 ∈ ps_nest) (him : Cond.instanceMethod y ∈ Ts) (hy1 : y.name = "<init>") (hd : y.cls ≠ "java/lang/invoke/MethodHandle" ∧ y.cls ≠ "java/lang/invoke/VarHandle" ∧ (parseMethodDescriptor y.desc).map (fun d => d.parameters.length) = some nA) (hnA : As.length = nA) (hR : rm.frames + 1 ≤ R.frames ∧ 8 + (maxL + 11) + rm.locals ≤ R.locals) (hz : rm.cells = mc1 ∧ rm.slots = ms1) (hz2 : kc + mc1 ≤ R.cells ∧ ks + ms1 ≤ R.slots) (hst : st = As.reverse ++ .ref (ad k) :: rest) (hrm : (rest.map fun v => v.category).sum ≤ 8) (hdg : decode cc pc = .ok (.invokespecial index, 3)) (kk : ∀ ad2 : Nat → Nat, (∀ k, k < n → ad2 k = ad k) → ps_V G nL (kc + mc1) (ks + ms1) (n2, ad2, F2) S2 (pc + 3) lv rest) : ps_V G nL kc ks (n, ad, F) S pc lv st := fun H locs ls hP hD hS hi hl => by
  subst hst
  have hFc := ps_fr hG hD hS
  obtain ⟨⟨hx, hb, hml, hown, hts⟩, hK, hA, hRR⟩ := id hG
  subst hRR
  refine va_callv (va_runIN (As := As) (rest := rest) ⟨hx, hb, hml, hown, hts⟩ (hM G.2.2.1.1 G.2.2.1.2 H.size) ⟨va_cnB nA hts hg hw hz.1 hz.2 (hAX.2.2 _ hlk) (hts _ hini) hd hR, hy1, hts _ him⟩ ⟨(fun a U g mk q => by
    obtain ⟨q0, ⟨q1, qP, qK, qD⟩, qX⟩ := q
    exact ⟨q0, ⟨q1, qP, va_K.moved (u := U) (U := U.calling g mk a) (Vm.Alike.refl U.vm) qK, qD⟩, ps_AX_same (s := U) (U := U.calling g mk a) rfl qX⟩), fun U hU hW => ⟨rfl, ⟨by rw [hU], by rw [hU]; exact hP, va_K.moved hW.alike hK, hD.weaken (fun _ _ _ _ => trivial), hi⟩, ps_AX_warm hW hAX⟩⟩ rfl hnA hl.1 rfl (lv_room hrm) hdg ⟨hz2.1, hz2.2⟩) hS (fun q _ h => hFc q h) hFc (fun ad2 t H1 locs1 ht hvm hw2 hB hz1 hk1 hS1 => ?_)
  obtain ⟨hP1, hK1, hD1, hi1⟩ := hB
  rw [ht] at hP1
  exact kk ad2 hw2 H1 locs1 ls hP1 (hD1.weaken (fun k q _ h => hFc q.1 h)) hS1 hi1 hl
theorem ps_mkC {l : Launch} {y : MethodName} {cc : ByteArray} {maxL : Nat} {ws ws' : List Cond} {rm : Room} {own : String} {n n2 : Nat} {ad : Nat → Nat} {F F2 : Nat → Nat → Bool} {av : List Value} {lv0 : List (Nat × Value)} {S S2 : ps_S} {mc ms : Nat} (hy : plainName y.cls = true) (hw : ws = Cond.code y cc maxL none :: ws') (hyc : y.cls = own) (hyn : y.name = "<init>") (hlen : (lg_sl av).length ≤ maxL) (hlv : lv_args 0 av = lv0)
    (walk : ∀ (G : ps_G), G.1.2.1 = l → ps_okC G cc own maxL ws rm ∧ ps_AX G.1.2.2.2.2 → (∀ ad2 : Nat → Nat, (∀ k, k < n → ad2 k = ad k) → ∀ pc lv kc ks, kc ≤ mc → ks ≤ ms → decode cc pc = .ok (.return_, 1) → ps_V G maxL kc ks (n2, ad2, F2) S2 pc lv []) → ps_V G maxL 0 0 (n, ad, F) S 0 lv0 []) : ps_MC l y ws rm n ad F av S n2 F2 S2 mc ms := by
  intro D I sz
  refine Met.ofW (cc := cc) (maxL := maxL) (ret := none) hy hw ?_
  intro p e s m args below meth c s₁ B hml hv
  obtain ⟨rfl, ⟨hsz, hP, hK, hD0, hi⟩, hAX⟩ := hv
  have hx := B.exec
  have hb := B.bytes
  have hr := B.returns
  have hts := atoms_spec (ws := ws) B.pre
  have hown : s.vm.findClass own = some m.cls := hyc ▸ findClass_of_methodNamed B.named
  have hlocks := B.notSynchronized
  subst hsz
  have hD := hD0.self (sz := s.heap.size)
  have hl := lv_entry av (n := maxL) hlen
  rw [lg_entry_eq]
  generalize (lg_sl av ++ List.replicate (maxL - (lg_sl av).length) Slot.unset).toArray = ls at hl ⊢
  rw [hlv] at hl
  refine walk ((p, l, e, rm, s), (m, av.toArray, below, meth, c), (D, I), (va_A (ps_ws I (n, ad, F) S) s.heap.size, s.heap, _)) rfl ⟨⟨⟨⟨hx, hb, hml, hown, hts⟩, hK, fun q h => Or.inr h, rfl⟩, (name_of_methodNamed B.named B.method).1.trans hyn⟩, hAX⟩ ?_ s.heap [] ls hP hD va_S.rf hi hl
  intro ad2 had pc lv kc ks h1 h2 hd H locs ls hP9 hD9 hS9 hi9 hl9
  refine W.widen h1 h2 ?_
  exact W.vret hx hb hr (fun t ht hW => ⟨⟨ad2, rfl, had, by rw [ht]; exact hP9, va_K.moved hW.alike hK, hD9, hi9⟩, hS9.F ht⟩) hS9.2.2 hd
def ps_MF (l : Launch) (y : MethodName) (ws : List Cond) (rm : Room) (n : Nat) (ad : Nat → Nat) (F : Nat → Nat → Bool) (av : List Value) (S : ps_S) (n2 : Nat) (F2 : Nat → Nat → Bool) (S2 : ps_S) (mc ms : Nat) : Prop := ∀ (D : va_G) (I : ps_I) (sz : Nat), Met l y ws rm (va_Pc av (ps_pre D I (n, ad, F) S sz)) (va_Qv (fun ad2 : Nat → Nat => ∀ k, k < n → ad2 k = ad k) (fun ad2 => ps_pst D I (va_A (ps_ws I (n, ad, F) S) sz) (n2, ad2, F2) S2) (va_A (ps_ws I (n, ad, F) S) sz)) mc ms (va_A (ps_ws I (n, ad, F) S) sz)
theorem ps_callF {G : ps_G} {nL kc ks : Nat} {n n2 k : Nat} {ad : Nat → Nat} {F F2 : Nat → Nat → Bool} {S S2 : ps_S} {pc : Nat} {lv : List (Nat × Value)} {rest As st : List Value} {cc bytes : ByteArray} {own : String} {Ts ws ws' : List Cond} {R rm : Room} {y : MethodName} {maxL index nA mc1 ms1 : Nat} (hG : ps_ok G cc own nL Ts R) (hM : ps_MF G.1.2.1 y ws rm n ad F (.ref (ad k) :: As) S n2 F2 S2 mc1 ms1) (hg : GoodIn Ts ws) (hw : ws = Cond.code y bytes maxL none :: ws') (hini : Cond.initialized y.cls ∈ Ts) (hlk : Cond.methodLink own index y ∈ Ts) (him : Cond.instanceMethod y ∈ Ts) (hy1 : y.name = "<init>") (hd : y.cls ≠ "java/lang/invoke/MethodHandle" ∧ y.cls ≠ "java/lang/invoke/VarHandle" ∧ (parseMethodDescriptor y.desc).map (fun d => d.parameters.length) = some nA) (hnA : As.length = nA) (hR : rm.frames + 1 ≤ R.frames ∧ 8 + (maxL + 11) + rm.locals ≤ R.locals) (hz : rm.cells = mc1 ∧ rm.slots = ms1) (hz2 : kc + mc1 ≤ R.cells ∧ ks + ms1 ≤ R.slots) (hst : st = As.reverse ++ .ref (ad k) :: rest) (hrm : (rest.map fun v => v.category).sum ≤ 8) (hdg : decode cc pc = .ok (.invokespecial index, 3)) (kk : ∀ ad2 : Nat → Nat, (∀ k, k < n → ad2 k = ad k) → ps_V G nL (kc + mc1) (ks + ms1) (n2, ad2, F2) S2 (pc + 3) lv rest) : ps_V G nL kc ks (n, ad, F) S pc lv st := fun H locs ls hP hD hS hi hl => by
  subst hst
  have hFc := ps_fr hG hD hS
  obtain ⟨⟨hx, hb, hml, hown, hts⟩, hK, hA, hRR⟩ := id hG
  subst hRR
  refine va_callv (va_runI (As := As) (rest := rest) ⟨hx, hb, hml, hown, hts⟩ (hM G.2.2.1.1 G.2.2.1.2 H.size) (cwI nA hts hg hw hz.1 hz.2 (hts _ hini) (hts _ hlk) (hts _ him) hy1 hd hR) ⟨ps_blind, fun U hU hW => ⟨rfl, ⟨by rw [hU], by rw [hU]; exact hP, va_K.moved hW.alike hK, hD.weaken (fun _ _ _ _ => trivial), hi⟩⟩⟩ rfl hnA hl.1 rfl (lv_room hrm) hdg ⟨hz2.1, hz2.2⟩) hS (fun q _ h => hFc q h) hFc (fun ad2 t H1 locs1 ht hvm hw2 hB hz1 hk1 hS1 => ?_)
  obtain ⟨hP1, hK1, hD1, hi1⟩ := hB
  rw [ht] at hP1
  exact kk ad2 hw2 H1 locs1 ls hP1 (hD1.weaken (fun k q _ h => hFc q.1 h)) hS1 hi1 hl
theorem ps_mkF {l : Launch} {y : MethodName} {cc : ByteArray} {maxL : Nat} {ws ws' : List Cond} {rm : Room} {own : String} {n n2 : Nat} {ad : Nat → Nat} {F F2 : Nat → Nat → Bool} {av : List Value} {lv0 : List (Nat × Value)} {S S2 : ps_S} {mc ms : Nat} (hy : plainName y.cls = true) (hw : ws = Cond.code y cc maxL none :: ws') (hyc : y.cls = own) (hyn : y.name = "<init>") (hlen : (lg_sl av).length ≤ maxL) (hlv : lv_args 0 av = lv0)
    (walk : ∀ (G : ps_G), G.1.2.1 = l → ps_okC G cc own maxL ws rm → (∀ ad2 : Nat → Nat, (∀ k, k < n → ad2 k = ad k) → ∀ pc lv kc ks, kc ≤ mc → ks ≤ ms → decode cc pc = .ok (.return_, 1) → ps_V G maxL kc ks (n2, ad2, F2) S2 pc lv []) → ps_V G maxL 0 0 (n, ad, F) S 0 lv0 []) : ps_MF l y ws rm n ad F av S n2 F2 S2 mc ms := by
  intro D I sz
  refine Met.ofW (cc := cc) (maxL := maxL) (ret := none) hy hw ?_
  intro p e s m args below meth c s₁ B hml hv
  obtain ⟨rfl, hsz, hP, hK, hD0, hi⟩ := hv
  have hx := B.exec
  have hb := B.bytes
  have hr := B.returns
  have hts := atoms_spec (ws := ws) B.pre
  have hown : s.vm.findClass own = some m.cls := hyc ▸ findClass_of_methodNamed B.named
  have hlocks := B.notSynchronized
  subst hsz
  have hD := hD0.self (sz := s.heap.size)
  have hl := lv_entry av (n := maxL) hlen
  rw [lg_entry_eq]
  generalize (lg_sl av ++ List.replicate (maxL - (lg_sl av).length) Slot.unset).toArray = ls at hl ⊢
  rw [hlv] at hl
  refine walk ((p, l, e, rm, s), (m, av.toArray, below, meth, c), (D, I), (va_A (ps_ws I (n, ad, F) S) s.heap.size, s.heap, _)) rfl ⟨⟨⟨hx, hb, hml, hown, hts⟩, hK, fun q h => Or.inr h, rfl⟩, (name_of_methodNamed B.named B.method).1.trans hyn⟩ ?_ s.heap [] ls hP hD va_S.rf hi hl
  intro ad2 had pc lv kc ks h1 h2 hd H locs ls hP9 hD9 hS9 hi9 hl9
  refine W.widen h1 h2 ?_
  exact W.vret hx hb hr (fun t ht hW => ⟨⟨ad2, rfl, had, by rw [ht]; exact hP9, va_K.moved hW.alike hK, hD9, hi9⟩, hS9.F ht⟩) hS9.2.2 hd
