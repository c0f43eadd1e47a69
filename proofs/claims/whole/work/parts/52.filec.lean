def ps_isB (b : Nat) : Prop := ∃ i, b = 103 + 7 * i
theorem ps_isB_q {b : Nat} (h : ps_isB b) (d : Nat) (hd : d < 7) : ps_kd (b + d) = ([17, 0, 1, 0, 0, 18, 0] : List Nat).getD d 9 ∧ ps_ln (b + d) = ([0, 6, 6, 6, 6, 0, 16] : List Nat).getD d 0 ∧ True ∧ b + d ≠ 57 := by
  obtain ⟨i, rfl⟩ := h
  have h1 : ¬ 103 + 7 * i + d < 103 := by omega
  have h2 : (103 + 7 * i + d - 103) % 7 = d := by omega
  refine ⟨?_, ?_, trivial, by omega⟩
  · rw [ps_kd, if_neg h1, h2]
  · rw [ps_ln, if_neg h1, h2]
theorem ps_isB_0 {b : Nat} (h : ps_isB b) : ps_kd (b) = 17 ∧ ps_ln (b) = 0 ∧ True ∧ b ≠ 57 := ps_isB_q h 0 (by decide)
theorem ps_isB_1 {b : Nat} (h : ps_isB b) : ps_kd (b + 1) = 0 ∧ ps_ln (b + 1) = 6 ∧ True ∧ b + 1 ≠ 57 := ps_isB_q h 1 (by decide)
theorem ps_isB_2 {b : Nat} (h : ps_isB b) : ps_kd (b + 2) = 1 ∧ ps_ln (b + 2) = 6 ∧ True ∧ b + 2 ≠ 57 := ps_isB_q h 2 (by decide)
theorem ps_isB_3 {b : Nat} (h : ps_isB b) : ps_kd (b + 3) = 0 ∧ ps_ln (b + 3) = 6 ∧ True ∧ b + 3 ≠ 57 := ps_isB_q h 3 (by decide)
theorem ps_isB_4 {b : Nat} (h : ps_isB b) : ps_kd (b + 4) = 0 ∧ ps_ln (b + 4) = 6 ∧ True ∧ b + 4 ≠ 57 := ps_isB_q h 4 (by decide)
theorem ps_isB_5 {b : Nat} (h : ps_isB b) : ps_kd (b + 5) = 18 ∧ ps_ln (b + 5) = 0 ∧ True ∧ b + 5 ≠ 57 := ps_isB_q h 5 (by decide)
theorem ps_isB_6 {b : Nat} (h : ps_isB b) : ps_kd (b + 6) = 0 ∧ ps_ln (b + 6) = 16 ∧ True ∧ b + 6 ≠ 57 := ps_isB_q h 6 (by decide)
theorem ps_tgs_arr {n : Nat} (hk : ps_kd n = 0 ∨ ps_kd n = 1) : ps_tgs n = [] := by
  rcases hk with hk | hk <;> simp only [ps_tgs, hk]
theorem ps_fit_arr {F : Nat → Nat → Bool} {n : Nat} (h : ps_fit F n) (hk : ps_kd n = 0 ∨ ps_kd n = 1) : ps_fit F (n + 1) := by
  intro k hk9
  by_cases e : k = n
  · subst e
    refine ⟨fun p hp => ?_, fun h2 => ?_⟩
    · rw [ps_tgs_arr hk] at hp; cases hp
    · rcases hk with hk | hk <;> (rw [hk] at h2; cases h2)
  · have h1 := h k (by omega)
    exact ⟨fun p hp hF => Nat.lt_succ_of_lt (h1.1 p hp hF), fun h2 => Nat.lt_succ_of_lt (h1.2 h2)⟩
theorem ps_fit_uo {F : Nat → Nat → Bool} {n : Nat} (h : ps_fit F n) (hk : ps_kd n ≠ 2) : ps_fit (ps_uo F n) (n + 1) := by
  intro k hk9
  by_cases e : k = n
  · subst e
    refine ⟨fun p hp hF => ?_, fun h2 => absurd h2 hk⟩
    simp [ps_uo] at hF
  · have h1 := h k (by omega)
    exact ⟨fun p hp hF => Nat.lt_succ_of_lt (h1.1 p hp (by simpa [ps_uo, e] using hF)), fun h2 => Nat.lt_succ_of_lt (h1.2 h2)⟩
theorem ps_fit_us {F : Nat → Nat → Bool} {n k j : Nat} (h : ps_fit F n) (ht : ∀ p ∈ ps_tgs k, p.1 = j → p.2 < n) : ps_fit (ps_us F k j) n := by
  intro k9 hk9
  refine ⟨fun p hp hF => ?_, (h k9 hk9).2⟩
  by_cases e : k9 = k ∧ p.1 = j
  · obtain ⟨rfl, e2⟩ := e
    exact ht p hp e2
  · exact (h k9 hk9).1 p hp (by simpa [ps_us, e] using hF)
theorem ps_fl_arr {F : Nat → Nat → Bool} {n : Nat} (hk : ps_kd n = 0 ∨ ps_kd n = 1) : ∀ k, k < n + 1 → ∀ p ∈ ps_tgs k, F k p.1 = ps_uo F n k p.1 := by
  intro k _ p hp
  by_cases e : k = n
  · subst e; rw [ps_tgs_arr hk] at hp; cases hp
  · simp [ps_uo, e]
theorem ps_fl_tree {F : Nat → Nat → Bool} {b m : Nat} (hB : ps_isB b) (hF : F (b + 5) 0 = true) : ∀ k, k < m → ∀ p ∈ ps_tgs k, F k p.1 = ps_us (ps_uo F (b + 5)) (b + 5) 0 k p.1 := by
  intro k _ p hp
  by_cases e : k = b + 5
  · subst e
    simp only [ps_tgs, (ps_isB_5 hB).1, List.mem_cons, List.not_mem_nil, or_false] at hp
    subst hp
    simp [ps_us, hF]
  · simp [ps_us, ps_uo, e]
theorem ps_fl_file {b m : Nat} (hB : ps_isB b) : ∀ k, k < m → ∀ p ∈ ps_tgs k, ps_T k p.1 = ps_us (ps_us (ps_us (ps_us (ps_us (ps_uo ps_T b) b 3) b 4) b 5) b 1) b 2 k p.1 := by
  intro k _ p hp
  by_cases e : k = b
  · subst e
    simp only [ps_tgs, (ps_isB_0 hB).1, List.mem_cons, List.not_mem_nil, or_false] at hp
    rcases hp with rfl | rfl | rfl | rfl | rfl <;> simp [ps_T, ps_us]
  · simp [ps_T, ps_us, ps_uo, e]
theorem ps_fit_full {n : Nat} (hB : ps_isB n) : ps_fit ps_T n := by
  obtain ⟨f, rfl⟩ := hB
  intro k hk
  by_cases h : k < 103
  · have h1 : ∀ k, k < 103 → (∀ p ∈ ps_tgs k, p.2 < 103) ∧ (ps_kd k = 2 → k + ps_ln k < 103) := by decide +kernel
    exact ⟨fun p hp _ => by have := (h1 k h).1 p hp; omega, fun h2 => by have := (h1 k h).2 h2; omega⟩
  · obtain ⟨i, d, hd, rfl⟩ : ∃ i d, d < 7 ∧ k = 103 + 7 * i + d := ⟨(k - 103) / 7, (k - 103) % 7, Nat.mod_lt _ (by decide), by omega⟩
    have hB : ps_isB (103 + 7 * i) := ⟨i, rfl⟩
    have hi : i < f := by omega
    have hkd := (ps_isB_q hB d hd).1
    have hcase : d = 0 ∨ d = 1 ∨ d = 2 ∨ d = 3 ∨ d = 4 ∨ d = 5 ∨ d = 6 := by omega
    rcases hcase with rfl | rfl | rfl | rfl | rfl | rfl | rfl
    · have hk0 : ps_kd (103 + 7 * i + 0) = 17 := hkd
      refine ⟨fun p hp _ => ?_, fun h2 => by rw [hk0] at h2; cases h2⟩
      simp only [ps_tgs, hk0, List.mem_cons, List.not_mem_nil, or_false] at hp
      rcases hp with rfl | rfl | rfl | rfl | rfl <;> (show _ < _; omega)
    all_goals first
      | (have hk0 : ps_kd (103 + 7 * i + 5) = 18 := hkd
         refine ⟨fun p hp _ => ?_, fun h2 => by rw [hk0] at h2; cases h2⟩
         simp only [ps_tgs, hk0, List.mem_cons, List.not_mem_nil, or_false] at hp
         subst hp
         show _ < _
         omega)
      | (refine ⟨fun p hp _ => ?_, fun h2 => by rw [hkd] at h2; cases h2⟩
         rw [ps_tgs_arr (by first | exact Or.inl hkd | exact Or.inr hkd)] at hp
         cases hp)
theorem ps_putFI {G : ps_G} {nL kc ks : Nat} {n : Nat} {ad : Nat → Nat} {F : Nat → Nat → Bool} {S : ps_S} {pc : Nat} {lv : List (Nat × Value)} {rest : List Value} {cc : ByteArray} {own : String} {Ts : List Cond} {R : Room} (hC : ps_okC G cc own nL Ts R) {T : u_T} {N ci index k : Nat} {x : Int32} (g : (Nat → Int32) → List Value) (hin : ∀ q ∈ u_ws own T N, q ∈ Ts) (ty0 : Nat → FieldType) (hty : ∀ k, k < N → parseFieldDescriptor (T k).2.2.1 = some (ty0 k)) (hnm : ∀ a, a < N → ∀ b, b < N → a ≠ b → (T a).2.1 ≠ (T b).2.1) (hk : k < n) (h57 : k ≠ 57) (hc : ∀ r, ps_cel G.2.2.1.2 (n, ad, F) r k = .inr (ci, g r)) (hcl : vwCl[ci]? = some (own, T, N)) (j : Nat) (hj : j < N) (hm : Cond.fieldLink own index (T j).1 (T j).2.1 (T j).2.2.1 ∈ Ts) (hfin : (T j).2.2.2 = true) (hdecl : (T j).1 = own) (hd : parseFieldDescriptor (T j).2.2.1 = some .int) (hg : ∀ r, (g r).set j (.int x) = g (fun b => if b = j then x else r b)) (hlen : j < (g (S k)).length) (hdg : decode cc pc = .ok (.putfield index, 3)) (kk : ps_V G nL kc ks (n, ad, F) (ps_up S k j x) (pc + 3) lv rest) : ps_V G nL kc ks (n, ad, F) S pc lv (.int x :: .ref (ad k) :: rest) := fun H locs ls hP hD hS hi hl => by
  obtain ⟨hG, hinit⟩ := hC
  have hat := ps_ws_at (I := G.2.2.1.2) (w := (n, ad, F)) (S := S) hk
  rw [hc] at hat
  refine va_putF hG.1.1 hG.1.2.1 hG.1.2.2.2.2 hin ty0 hty hnm hG.1.2.2.2.1 hG.2.1 hP hD hS k hat hcl j hj (hG.1.2.2.2.2 _ hm) (fun _ h => h) hfin hinit hdecl hd rfl rfl hlen hdg (fun H1 locs1 hP1 hD1 hS1 => ?_)
  have e : (ps_ws G.2.2.1.2 (n, ad, F) S).set k (ad k, .inr (ci, (g (S k)).set j (.int x))) = ps_ws G.2.2.1.2 (n, ad, F) (ps_up S k j x) := by
    rw [hg, ← hc]
    exact ps_ws_set (w := (n, ad, F)) (ps_up_row S k j x) (ps_up_off S k j x)
  rw [e] at hP1 hD1
  exact kk H1 locs1 ls hP1 hD1 hS1 (ps_inv_up hi h57) hl
def ps_MP (l : Launch) (y : MethodName) (ws : List Cond) (rm : Room) (n : Nat) (ad : Nat → Nat) (F : Nat → Nat → Bool) (av : List Value) (S : ps_S) (n2 : Nat) (F2 : Nat → Nat → Bool) (S2 : ps_S) (kr mc ms : Nat) : Prop := ∀ (D : va_G) (I : ps_I) (sz : Nat), Met l y ws rm (va_Pc av (ps_pre D I (n, ad, F) S sz)) (va_Qr (fun ad2 : Nat → Nat => ∀ k, k < n → ad2 k = ad k) (fun ad2 a t => a = ad2 kr ∧ ps_pst D I (va_A (ps_ws I (n, ad, F) S) sz) (n2, ad2, F2) S2 t) (va_A (ps_ws I (n, ad, F) S) sz)) mc ms (va_A (ps_ws I (n, ad, F) S) sz)
theorem ps_callP {G : ps_G} {nL kc ks : Nat} {n n2 kr : Nat} {ad : Nat → Nat} {F F2 : Nat → Nat → Bool} {S S2 : ps_S} {pc : Nat} {lv : List (Nat × Value)} {rest As st : List Value} {cc bytes : ByteArray} {own : String} {Ts ws ws' : List Cond} {R rm : Room} {y : MethodName} {ret : Option FieldType} {maxL index nA mc1 ms1 : Nat} (hG : ps_ok G cc own nL Ts R) (hM : ps_MP G.1.2.1 y ws rm n ad F As S n2 F2 S2 kr mc1 ms1) (hg : GoodIn Ts (va_wsS own index y ws)) (hw : ws = Cond.code y bytes maxL ret :: ws') (hd : y.cls ≠ "java/lang/invoke/MethodHandle" ∧ y.cls ≠ "java/lang/invoke/VarHandle" ∧ (parseMethodDescriptor y.desc).map (fun d => d.parameters.length) = some nA) (hnA : As.length = nA) (hR : rm.frames + 1 ≤ R.frames ∧ 8 + (maxL + 11) + rm.locals ≤ R.locals) (hz : rm.cells = mc1 ∧ rm.slots = ms1) (hz2 : kc + mc1 ≤ R.cells ∧ ks + ms1 ≤ R.slots) (hst : st = As.reverse ++ rest) (hrm : (rest.map fun v => v.category).sum ≤ 8) (hdg : decode cc pc = .ok (.invokestatic index, 3)) (kk : ∀ ad2 : Nat → Nat, (∀ k, k < n → ad2 k = ad k) → ps_V G nL (kc + mc1) (ks + ms1) (n2, ad2, F2) S2 (pc + 3) lv (.ref (ad2 kr) :: rest)) : ps_V G nL kc ks (n, ad, F) S pc lv st := fun H locs ls hP hD hS hi hl => by
  subst hst
  have hFc := ps_fr hG hD hS
  obtain ⟨⟨hx, hb, hml, hown, hts⟩, hK, hA, hRR⟩ := id hG
  subst hRR
  refine va_callr (va_runS (As := As) (rest := rest) ⟨hx, hb, hml, hown, hts⟩ (hM G.2.2.1.1 G.2.2.1.2 H.size) (va_cwS nA hts hg hw hz.1 hz.2 hd hR) ⟨ps_blind, fun U hU hW => ⟨rfl, by rw [hU], by rw [hU]; exact hP, va_K.moved hW.alike hK, hD.weaken (fun _ _ _ _ => trivial), hi⟩⟩ rfl hnA hl.1 rfl (lv_room hrm) hdg ⟨hz2.1, hz2.2⟩) hS (fun q _ h => hFc q h) hFc (fun ad2 ra t H1 locs1 ht hvm hw2 hB hz1 hk1 hS1 => ?_)
  obtain ⟨hra, hP1, hK1, hD1, hi1⟩ := hB
  subst hra
  rw [ht] at hP1
  exact kk ad2 hw2 H1 locs1 ls hP1 (hD1.weaken (fun k q _ h => hFc q.1 h)) hS1 hi1 hl
theorem ps_mkP {l : Launch} {y : MethodName} {cc : ByteArray} {maxL : Nat} {ret : Option FieldType} {ws ws' : List Cond} {rm : Room} {own : String} {n n2 kr : Nat} {ad : Nat → Nat} {F F2 : Nat → Nat → Bool} {av : List Value} {lv0 : List (Nat × Value)} {S S2 : ps_S} {mc ms : Nat} (hy : plainName y.cls = true) (hw : ws = Cond.code y cc maxL ret :: ws') (hyc : y.cls = own) (hret : (∃ n, ret = some (.object n)) ∨ ∃ t, ret = some (.array t)) (hlen : (lg_sl av).length ≤ maxL) (hlv : lv_args 0 av = lv0)
    (walk : ∀ (G : ps_G), G.1.2.1 = l → ps_ok G cc own maxL ws rm → (∀ ad2 : Nat → Nat, (∀ k, k < n → ad2 k = ad k) → ∀ pc lv kc ks, kc ≤ mc → ks ≤ ms → decode cc pc = .ok (.areturn, 1) → ps_V G maxL kc ks (n2, ad2, F2) S2 pc lv [.ref (ad2 kr)]) → ps_V G maxL 0 0 (n, ad, F) S 0 lv0 []) : ps_MP l y ws rm n ad F av S n2 F2 S2 kr mc ms := by
  intro D I sz
  refine Met.ofW (cc := cc) (maxL := maxL) (ret := ret) hy hw ?_
  intro p e s m args below meth c s₁ B hml hv
  obtain ⟨rfl, hsz, hP, hK, hD0, hi⟩ := hv
  have hx := B.exec
  have hb := B.bytes
  have hr := B.returns
  have hts := atoms_spec (ws := ws) B.pre
  have hown : s.vm.findClass own = some m.cls := hyc ▸ findClass_of_methodNamed B.named
  have hlocks := B.notSynchronized
  subst hsz
  have hD := hD0.self (sz := s.heap.size)
  have hl := lv_entry av (n := maxL) hlen
  rw [lg_entry_eq]
  generalize (lg_sl av ++ List.replicate (maxL - (lg_sl av).length) Slot.unset).toArray = ls at hl ⊢
  rw [hlv] at hl
  refine walk ((p, l, e, rm, s), (m, av.toArray, below, meth, c), (D, I), (va_A (ps_ws I (n, ad, F) S) s.heap.size, s.heap, _)) rfl ⟨⟨hx, hb, hml, hown, hts⟩, hK, fun q h => Or.inr h, rfl⟩ ?_ s.heap [] ls hP hD va_S.rf hi hl
  intro ad2 had pc lv kc ks h1 h2 hd H locs ls hP9 hD9 hS9 hi9 hl9
  refine W.widen h1 h2 ?_
  rcases hret with ⟨n9, hret⟩ | ⟨t9, hret⟩
  · exact W.aret (v := .ref (ad2 kr)) hx hb (hr.trans hret) (Or.inl ⟨n9, rfl⟩) (Or.inr ⟨_, rfl⟩) (fun t ht hW => ⟨⟨ad2, ad2 kr, rfl, had, rfl, by rw [ht]; exact hP9, va_K.moved hW.alike hK, hD9, hi9⟩, hS9.F ht⟩) hS9.2.2 hd
  · exact W.aret (v := .ref (ad2 kr)) hx hb (hr.trans hret) (Or.inr ⟨t9, rfl⟩) (Or.inr ⟨_, rfl⟩) (fun t ht hW => ⟨⟨ad2, ad2 kr, rfl, had, rfl, by rw [ht]; exact hP9, va_K.moved hW.alike hK, hD9, hi9⟩, hS9.F ht⟩) hS9.2.2 hd
set_option maxHeartbeats 4000000 in
set_option maxRecDepth 100000 in
theorem c2_X9_hash (l : Launch) {w : ps_X} {S : ps_S} {p0 p1 : Int32} {r : Int32} (h : f_X9_hash p0 p1 = some r) : ps_MetI l yX9_hash wsX9_hash (ps_rm 0 0) w [.int p0, .int p1] S S r := by
  refine ps_mkI (cc := cX9_hash) (maxL := 3) (own := RX9) (by decide +kernel) rfl (Or.inl rfl) rfl (Nat.le_of_ble_eq_true rfl) rfl (fun G hl hG hret => ?_)
  unfold f_X9_hash at h
  refine ps_iload_n hG dX9_hash_0 rfl 0 rfl ?_
  refine ps_bipush (v := 31) hG dX9_hash_1 (by decide) ?_
  refine ps_imul hG dX9_hash_3 ?_
  refine ps_iload_n hG dX9_hash_4 rfl 1 rfl ?_
  refine ps_iadd hG dX9_hash_5 ?_
  refine ps_ldc hG mX9_hash_19 dX9_hash_6 ?_
  refine ps_imul hG dX9_hash_8 ?_
  refine ps_sipush (v := 12345) hG dX9_hash_9 (by decide) ?_
  refine ps_iadd hG dX9_hash_12 ?_
  refine ps_istore_n (lv' := [(2, .int ((((p0 * 31) + p1) * 1103515245) + 12345)), (0, .int p0), (1, .int p1)]) hG dX9_hash_13 rfl (by decide) rfl ?_
  refine ps_iload_n hG dX9_hash_14 rfl 0 rfl ?_
  refine ps_iload_n hG dX9_hash_15 rfl 0 rfl ?_
  refine ps_bipush (v := 16) hG dX9_hash_16 (by decide) ?_
  refine ps_iushr hG dX9_hash_18 ?_
  refine ps_ixor hG dX9_hash_19 ?_
  cases h
  exact hret _ _ dX9_hash_20
set_option maxHeartbeats 4000000 in
set_option maxRecDepth 100000 in
theorem c2_X0_times (l : Launch) {w : ps_X} {S : ps_S} {p0 p1 : Int32} {r : Int32} (h : f_X0_times p0 p1 = some r) : ps_MetI l yX0_times wsX0_times (ps_rm 0 0) w [.int p0, .int p1] S S r := by
  refine ps_mkI (cc := cX0_times) (maxL := 5) (own := RX0) (by decide +kernel) rfl (Or.inl rfl) rfl (Nat.le_of_ble_eq_true rfl) rfl (fun G hl hG hret => ?_)
  unfold f_X0_times at h
  refine ps_iconst (v := 0) hG dX0_times_0 (by decide) ?_
  refine ps_istore_n (lv' := [(2, .int 0), (0, .int p0), (1, .int p1)]) hG dX0_times_1 rfl (by decide) rfl ?_
  refine ps_iload_n hG dX0_times_2 rfl 1 rfl ?_
  refine ps_istore_n (lv' := [(3, .int p0), (2, .int 0), (0, .int p0), (1, .int p1)]) hG dX0_times_3 rfl (by decide) rfl ?_
  refine ps_iconst (v := 0) hG dX0_times_4 (by decide) ?_
  refine ps_istore (lv' := [(4, .int 0), (3, .int p0), (2, .int 0), (0, .int p0), (1, .int p1)]) hG dX0_times_5 (by decide) rfl ?_
  obtain ⟨e2_7, hq7, h⟩ := ps_bd h
  refine (ps_sub [4, 2, 1, 0] rfl (ps_itV (fun (a : Int32 × Int32 × Int32) => ps_V G 5 0 0 w S 7 [(1, .int p1), (2, .int a.1), (3, .int a.2.1), (4, .int a.2.2)] []) (fun (b : Int32) => ps_V G 5 0 0 w S 51 [(2, .int b)] []) ?_ _ _ _ hq7 ?_))
  · intro a r9 h kc ke
    obtain ⟨v2_7, v3_7, v4_7⟩ := a
    replace h : f_X0_times_L7 p1 v2_7 v3_7 v4_7 = some r9 := h
    show ps_V G 5 0 0 w S 7 [(1, .int p1), (2, .int v2_7), (3, .int v3_7), (4, .int v4_7)] []
    unfold f_X0_times_L7 at h
    refine ps_iload hG dX0_times_7 3 rfl ?_
    refine ps_bipush (v := 8) hG dX0_times_9 (by decide) ?_
    refine ps_icmp_ge (tgt := 51) hG dX0_times_11 (by decide) (fun c11 => ?_) (fun c11 => ?_)
    · replace h := ps_ip c11 h
      cases h
      exact (ps_sub [1] rfl (ke _ rfl))
    · replace h := ps_in c11 h
      refine ps_iload_n hG dX0_times_14 rfl 0 rfl ?_
      refine ps_iload hG dX0_times_15 3 rfl ?_
      refine ps_ishr hG dX0_times_17 ?_
      refine ps_iconst (v := 1) hG dX0_times_18 (by decide) ?_
      refine ps_iand hG dX0_times_19 ?_
      refine ps_iconst (v := 1) hG dX0_times_20 (by decide) ?_
      have hJ28 : ∀ (v2_28 : Int32), f_X0_times_J28 v3_7 v4_7 v2_28 = some r9 → ps_V G 5 0 0 w S 28 [(1, .int p1), (2, .int v2_28), (3, .int v3_7), (4, .int v4_7)] [] := by
        intro v2_28 h
        unfold f_X0_times_J28 at h
        refine ps_iload_n hG dX0_times_28 rfl 2 rfl ?_
        refine ps_iconst (v := 1) hG dX0_times_29 (by decide) ?_
        refine ps_ishl hG dX0_times_30 ?_
        refine ps_istore_n (lv' := [(3, .int (v3_7 <<< (1 &&& 31))), (1, .int p1), (2, .int v2_28), (4, .int v4_7)]) hG dX0_times_31 rfl (by decide) rfl ?_
        refine ps_iload_n hG dX0_times_32 rfl 0 rfl ?_
        refine ps_sipush (v := 256) hG dX0_times_33 (by decide) ?_
        have hJ45 : ∀ (v3_45 : Int32), f_X0_times_J45 v4_7 v2_28 v3_45 = some r9 → ps_V G 5 0 0 w S 45 [(1, .int p1), (2, .int v2_28), (3, .int v3_45), (4, .int v4_7)] [] := by
          intro v3_45 h
          unfold f_X0_times_J45 at h
          refine ps_iinc (lv' := [(4, .int (v4_7 + 1)), (1, .int p1), (2, .int v2_28), (3, .int v3_45)]) hG dX0_times_45 3 rfl (by rfl) (by decide) rfl ?_
          refine ps_goto (tgt := 7) hG dX0_times_48 (by decide) ?_
          cases h
          exact (ps_sub [1, 2, 3, 0] rfl (kc _ rfl))
        refine ps_icmp_lt (tgt := 45) hG dX0_times_36 (by decide) (fun c36 => ?_) (fun c36 => ?_)
        · replace h := ps_ip c36 h
          exact (ps_sub [1, 2, 0, 3] rfl (hJ45 (v3_7 <<< (1 &&& 31)) h))
        · replace h := ps_in c36 h
          refine ps_iload_n hG dX0_times_39 rfl 0 rfl ?_
          refine ps_sipush (v := 285) hG dX0_times_40 (by decide) ?_
          refine ps_ixor hG dX0_times_43 ?_
          refine ps_istore_n (lv' := [(3, .int ((v3_7 <<< (1 &&& 31)) ^^^ 285)), (1, .int p1), (2, .int v2_28), (4, .int v4_7)]) hG dX0_times_44 rfl (by decide) rfl ?_
          exact (ps_sub [1, 2, 0, 3] rfl (hJ45 ((v3_7 <<< (1 &&& 31)) ^^^ 285) h))
      refine ps_icmp_ne (tgt := 28) hG dX0_times_21 (by decide) (fun c21 => ?_) (fun c21 => ?_)
      · replace h := ps_in c21 h
        exact (ps_sub [0, 1, 2, 3] rfl (hJ28 v2_7 h))
      · replace h := ps_ip c21 h
        refine ps_iload_n hG dX0_times_24 rfl 1 rfl ?_
        refine ps_iload_n hG dX0_times_25 rfl 2 rfl ?_
        refine ps_ixor hG dX0_times_26 ?_
        refine ps_istore_n (lv' := [(2, .int (v2_7 ^^^ v3_7)), (1, .int p1), (3, .int v3_7), (4, .int v4_7)]) hG dX0_times_27 rfl (by decide) rfl ?_
        exact (ps_sub [1, 0, 2, 3] rfl (hJ28 (v2_7 ^^^ v3_7) h))
  · show ps_V G 5 0 0 w S 51 [(2, .int e2_7)] []
    refine ps_iload_n hG dX0_times_51 rfl 0 rfl ?_
    cases h
    exact hret _ _ dX0_times_52
set_option maxHeartbeats 4000000 in
set_option maxRecDepth 100000 in
theorem c2_X0_weighted (l : Launch) {w : ps_X} {S : ps_S} {p0 p1 : Int32} {r : Int32} (h : f_X0_weighted p0 p1 = some r) : ps_MetI l yX0_weighted wsX0_weighted (ps_rm 1 24) w [.int p0, .int p1] S S r := by
  refine ps_mkI (cc := cX0_weighted) (maxL := 2) (own := RX0) (by decide +kernel) rfl (Or.inl rfl) rfl (Nat.le_of_ble_eq_true rfl) rfl (fun G hl hG hret => ?_)
  unfold f_X0_weighted at h
  refine ps_iconst (v := 1) hG dX0_weighted_0 (by decide) ?_
  refine ps_iload_n hG dX0_weighted_1 rfl 0 rfl ?_
  refine ps_ishl hG dX0_weighted_2 ?_
  refine ps_iload_n hG dX0_weighted_3 rfl 1 rfl ?_
  obtain ⟨r4, hr4, h⟩ := ps_bd h
  refine ps_callSI (As := [.int (1 <<< (p0 &&& 31)), .int p1]) (rest := []) (nA := 2) hG (c2_X0_times _ hr4) gX0_weighted_X0_times rfl (by decide +kernel) rfl ⟨Nat.le_of_ble_eq_true rfl, Nat.le_of_ble_eq_true rfl⟩ ⟨rfl, rfl⟩ ⟨Nat.le_of_ble_eq_true rfl, Nat.le_of_ble_eq_true rfl⟩ rfl (Nat.le_of_ble_eq_true rfl) dX0_weighted_4 ?_
  cases h
  exact hret _ _ dX0_weighted_7
def f_X0_pieces_L12 (b0 : Nat) (p0 : Int32) (T12 : ps_S) (v2_12 : Int32) (v3_12 : Int32) (v4_12 : Int32) : Option ((ps_S × Int32 × Int32 × Int32) ⊕ (ps_S × Int32 × Int32)) :=
  (if 4 ≤ v4_12 then
        some (.inr (T12, v2_12, v3_12))
      else
        (if ps_ib v4_12 6 = true then
        ((f_X0_weighted v4_12 ((p0 >>> ((8 * v4_12) &&& 31)) &&& 255)).bind fun r47 =>
        some (.inl (ps_up T12 (b0 + 4) v4_12.toNatClampNeg ((p0 >>> ((8 * v4_12) &&& 31)) &&& 255), v2_12 ^^^ ((p0 >>> ((8 * v4_12) &&& 31)) &&& 255), v3_12 ^^^ r47, v4_12 + 1))) else none))
def f_X0_pieces (b0 : Nat) (S : ps_S) (p0 : Int32) : Option ps_S :=
  (ps_b3 (ps_it (fun (a : ps_S × Int32 × Int32 × Int32) => f_X0_pieces_L12 b0 p0 a.1 a.2.1 a.2.2.1 a.2.2.2) ps_fu (ps_z S (b0 + 4), 0, 0, 0)) (fun S12 e2_12 e3_12 => some (ps_up (ps_up S12 (b0 + 4) (4 : Int32).toNatClampNeg e2_12) (b0 + 4) (5 : Int32).toNatClampNeg e3_12)))
theorem mX0_pieces__arrayClass_int : Cond.arrayClass .int ∈ wsX0_pieces := List.mem_of_getElem? (i := 1) rfl
set_option maxHeartbeats 4000000 in
set_option maxRecDepth 100000 in
theorem c_X0_pieces (l : Launch) {b0 : Nat} (hB : ps_isB b0) {ad : Nat → Nat} {F : Nat → Nat → Bool} (hfit : ps_fit F (b0 + 4)) {S S2 : ps_S} {p0 : Int32} (h : f_X0_pieces b0 S p0 = some S2) : ps_MP l yX0_pieces wsX0_pieces (ps_rx 2 1 6 45) (b0 + 4) ad F [.int p0] S (b0 + 5) F S2 (b0 + 4) 1 6 := by
  refine ps_mkP (cc := cX0_pieces) (maxL := 6) (own := RX0) (by decide +kernel) rfl rfl (Or.inr ⟨_, rfl⟩) (Nat.le_of_ble_eq_true rfl) rfl (fun G hl hC hret => ?_)
  have hG := hC
  unfold f_X0_pieces at h
  refine ps_bipush (v := 6) hG dX0_pieces_0 (by decide) ?_
  refine ps_newI hG mX0_pieces__arrayClass_int (x := 6) (N' := 6) (ps_isB_4 hB).1 (ps_isB_4 hB).2.1 (by decide) (by decide) (by decide) hfit (Nat.le_of_ble_eq_true rfl) (Nat.le_of_ble_eq_true rfl) dX0_pieces_2 (fun ad1 had1 => ?_)
  have hA1 : ∀ k, k < (b0 + 4) → ad1 k = ad k := fun k hk => had1 k (by omega)
  refine ps_flags (F' := F) (ps_fl_arr (Or.inl (ps_isB_4 hB).1)) ?_
  have fit2 := ps_fit_arr hfit (Or.inl (ps_isB_4 hB).1)
  refine ps_astore_n (lv' := [(1, .ref (ad1 (b0 + 4))), (0, .int p0)]) hG dX0_pieces_4 rfl (by decide) rfl ?_
  refine ps_iconst (v := 0) hG dX0_pieces_5 (by decide) ?_
  refine ps_istore_n (lv' := [(2, .int 0), (1, .ref (ad1 (b0 + 4))), (0, .int p0)]) hG dX0_pieces_6 rfl (by decide) rfl ?_
  refine ps_iconst (v := 0) hG dX0_pieces_7 (by decide) ?_
  refine ps_istore_n (lv' := [(3, .int 0), (2, .int 0), (1, .ref (ad1 (b0 + 4))), (0, .int p0)]) hG dX0_pieces_8 rfl (by decide) rfl ?_
  refine ps_iconst (v := 0) hG dX0_pieces_9 (by decide) ?_
  refine ps_istore (lv' := [(4, .int 0), (3, .int 0), (2, .int 0), (1, .ref (ad1 (b0 + 4))), (0, .int p0)]) hG dX0_pieces_10 (by decide) rfl ?_
  obtain ⟨S12, e2_12, e3_12, hq12, h⟩ := ps_d3 h
  refine (ps_sub [4, 3, 2, 1, 0] rfl (ps_itV (fun (a : ps_S × Int32 × Int32 × Int32) => ps_V G 6 1 6 ((b0 + 5), ad1, F) a.1 12 [(0, .int p0), (1, .ref (ad1 (b0 + 4))), (2, .int a.2.1), (3, .int a.2.2.1), (4, .int a.2.2.2)] []) (fun (b : ps_S × Int32 × Int32) => ps_V G 6 1 6 ((b0 + 5), ad1, F) b.1 58 [(1, .ref (ad1 (b0 + 4))), (2, .int b.2.1), (3, .int b.2.2)] []) ?_ _ _ _ hq12 ?_))
  · intro a r9 h kc ke
    obtain ⟨T12, v2_12, v3_12, v4_12⟩ := a
    replace h : f_X0_pieces_L12 b0 p0 T12 v2_12 v3_12 v4_12 = some r9 := h
    show ps_V G 6 1 6 ((b0 + 5), ad1, F) T12 12 [(0, .int p0), (1, .ref (ad1 (b0 + 4))), (2, .int v2_12), (3, .int v3_12), (4, .int v4_12)] []
    unfold f_X0_pieces_L12 at h
    refine ps_iload hG dX0_pieces_12 4 rfl ?_
    refine ps_iconst (v := 4) hG dX0_pieces_14 (by decide) ?_
    refine ps_icmp_ge (tgt := 58) hG dX0_pieces_15 (by decide) (fun c15 => ?_) (fun c15 => ?_)
    · replace h := ps_ip c15 h
      cases h
      exact (ps_sub [1, 2, 3] rfl (ke _ rfl))
    · replace h := ps_in c15 h
      refine ps_iload_n hG dX0_pieces_18 rfl 0 rfl ?_
      refine ps_bipush (v := 8) hG dX0_pieces_19 (by decide) ?_
      refine ps_iload hG dX0_pieces_21 4 rfl ?_
      refine ps_imul hG dX0_pieces_23 ?_
      refine ps_ishr hG dX0_pieces_24 ?_
      refine ps_sipush (v := 255) hG dX0_pieces_25 (by decide) ?_
      refine ps_iand hG dX0_pieces_28 ?_
      refine ps_istore (lv' := [(5, .int ((p0 >>> ((8 * v4_12) &&& 31)) &&& 255)), (0, .int p0), (1, .ref (ad1 (b0 + 4))), (2, .int v2_12), (3, .int v3_12), (4, .int v4_12)]) hG dX0_pieces_29 (by decide) rfl ?_
      refine ps_aload_n hG dX0_pieces_31 rfl 2 rfl ?_
      refine ps_iload hG dX0_pieces_32 5 rfl ?_
      refine ps_iload hG dX0_pieces_34 0 rfl ?_
      obtain ⟨hb36, h⟩ := ps_ig h
      refine ps_iast hG (ps_isB_4 hB).1 (ps_isB_4 hB).2.1 (by show (b0 + 4) < (b0 + 5); omega) hb36 dX0_pieces_36 ?_
      refine ps_iload_n hG dX0_pieces_37 rfl 3 rfl ?_
      refine ps_iload hG dX0_pieces_38 0 rfl ?_
      refine ps_ixor hG dX0_pieces_40 ?_
      refine ps_istore_n (lv' := [(2, .int (v2_12 ^^^ ((p0 >>> ((8 * v4_12) &&& 31)) &&& 255))), (5, .int ((p0 >>> ((8 * v4_12) &&& 31)) &&& 255)), (0, .int p0), (1, .ref (ad1 (b0 + 4))), (3, .int v3_12), (4, .int v4_12)]) hG dX0_pieces_41 rfl (by decide) rfl ?_
      refine ps_iload_n hG dX0_pieces_42 rfl 4 rfl ?_
      refine ps_iload hG dX0_pieces_43 5 rfl ?_
      refine ps_iload hG dX0_pieces_45 1 rfl ?_
      obtain ⟨r47, hr47, h⟩ := ps_bd h
      refine ps_callSI (As := [.int v4_12, .int ((p0 >>> ((8 * v4_12) &&& 31)) &&& 255)]) (rest := [.int v3_12]) (nA := 2) hG (c2_X0_weighted _ hr47) gX0_pieces_X0_weighted rfl (by decide +kernel) rfl ⟨(Nat.le_of_ble_eq_true rfl), (Nat.le_of_ble_eq_true rfl)⟩ ⟨rfl, rfl⟩ ⟨(Nat.le_of_ble_eq_true rfl), (Nat.le_of_ble_eq_true rfl)⟩ rfl (Nat.le_of_ble_eq_true rfl) dX0_pieces_47 ?_
      refine ps_ixor hG dX0_pieces_50 ?_
      refine ps_istore_n (lv' := [(3, .int (v3_12 ^^^ r47)), (2, .int (v2_12 ^^^ ((p0 >>> ((8 * v4_12) &&& 31)) &&& 255))), (5, .int ((p0 >>> ((8 * v4_12) &&& 31)) &&& 255)), (0, .int p0), (1, .ref (ad1 (b0 + 4))), (4, .int v4_12)]) hG dX0_pieces_51 rfl (by decide) rfl ?_
      refine ps_iinc (lv' := [(4, .int (v4_12 + 1)), (3, .int (v3_12 ^^^ r47)), (2, .int (v2_12 ^^^ ((p0 >>> ((8 * v4_12) &&& 31)) &&& 255))), (5, .int ((p0 >>> ((8 * v4_12) &&& 31)) &&& 255)), (0, .int p0), (1, .ref (ad1 (b0 + 4)))]) hG dX0_pieces_52 5 rfl (by rfl) (by decide) rfl ?_
      refine ps_goto (tgt := 12) hG dX0_pieces_55 (by decide) ?_
      cases h
      exact (ps_sub [4, 5, 2, 1, 0] rfl (kc _ rfl))
  · show ps_V G 6 1 6 ((b0 + 5), ad1, F) S12 58 [(1, .ref (ad1 (b0 + 4))), (2, .int e2_12), (3, .int e3_12)] []
    refine ps_aload_n hG dX0_pieces_58 rfl 0 rfl ?_
    refine ps_iconst (v := 4) hG dX0_pieces_59 (by decide) ?_
    refine ps_iload_n hG dX0_pieces_60 rfl 1 rfl ?_
    refine ps_iast hG (ps_isB_4 hB).1 (ps_isB_4 hB).2.1 (by show (b0 + 4) < (b0 + 5); omega) (by decide) dX0_pieces_61 ?_
    refine ps_aload_n hG dX0_pieces_62 rfl 0 rfl ?_
    refine ps_iconst (v := 5) hG dX0_pieces_63 (by decide) ?_
    refine ps_iload_n hG dX0_pieces_64 rfl 2 rfl ?_
    refine ps_iast hG (ps_isB_4 hB).1 (ps_isB_4 hB).2.1 (by show (b0 + 4) < (b0 + 5); omega) (by decide) dX0_pieces_65 ?_
    refine ps_aload_n hG dX0_pieces_66 rfl 0 rfl ?_
    cases h
    exact hret ad1 hA1 _ _ _ _ (Nat.le_of_ble_eq_true rfl) (Nat.le_of_ble_eq_true rfl) dX0_pieces_67
def f_X9_init_L14 (b0 : Nat) (T14 : ps_S) (v2_14 : Int32) : Option ((ps_S × Int32) ⊕ (ps_S)) :=
  (if 6 ≤ v2_14 then
        some (.inr T14)
      else
        (if 6 ≤ v2_14 then
          some (.inr T14)
        else
          (if ps_ib v2_14 6 = true then
          ((f_X9_hash (T14 (b0 + 4) v2_14.toNatClampNeg) v2_14).bind fun r38 =>
          (if ps_ib (8 + v2_14) 16 = true then
          some (.inl (ps_up T14 (b0 + 6) (8 + v2_14).toNatClampNeg r38, v2_14 + 1)) else none)) else none)))
def f_X9_init_L51 (b0 : Nat) (T51 : ps_S) (v2_51 : Int32) : Option ((ps_S × Int32) ⊕ (ps_S)) :=
  (if v2_51 ≤ 0 then
        some (.inr T51)
      else
        (if ps_ib (2 * v2_51) 16 = true then
        (if ps_ib ((2 * v2_51) + 1) 16 = true then
        ((f_X9_hash (T51 (b0 + 6) (2 * v2_51).toNatClampNeg) (T51 (b0 + 6) ((2 * v2_51) + 1).toNatClampNeg)).bind fun r78 =>
        (if ps_ib v2_51 16 = true then
        some (.inl (ps_up T51 (b0 + 6) v2_51.toNatClampNeg r78, v2_51 + (-1))) else none)) else none) else none))
def f_X9_init (b0 : Nat) (S : ps_S) : Option ps_S :=
  ((ps_it (fun (a : ps_S × Int32) => f_X9_init_L14 b0 a.1 a.2) ps_fu (ps_z S (b0 + 6), 0)).bind (fun S14 => ((ps_it (fun (a : ps_S × Int32) => f_X9_init_L51 b0 a.1 a.2) ps_fu (S14, 7)).bind (fun S51 => some S51))))
theorem inX9_init_X9 : ∀ q ∈ wsX90, q ∈ wsX9_init := fun _ h => List.mem_cons_of_mem _ (List.mem_append_right _ h)
theorem mX9_init__arrayClass_int : Cond.arrayClass .int ∈ wsX9_init := List.mem_of_getElem? (i := 4) rfl
theorem mX9_init__code_objectInit_0xb1_1_none : Cond.code objectInit ⟨#[0xb1]⟩ 1 none ∈ wsX9_init := List.mem_of_getElem? (i := 3) rfl
theorem mX9_init__instanceMethod_objectInit : Cond.instanceMethod objectInit ∈ wsX9_init := List.mem_of_getElem? (i := 2) rfl
theorem mX9_init__methodLink_RX9_3_objectInit : Cond.methodLink RX9 3 objectInit ∈ wsX9_init := List.mem_of_getElem? (i := 1) rfl
theorem mX9_init_f9 : Cond.fieldLink RX9 9 (TX9 0).1 (TX9 0).2.1 (TX9 0).2.2.1 ∈ wsX9_init := List.mem_of_getElem? (i := 5) rfl
set_option maxHeartbeats 4000000 in
set_option maxRecDepth 100000 in
theorem c_X9_init (l : Launch) {b0 : Nat} (hB : ps_isB b0) {ad : Nat → Nat} {F : Nat → Nat → Bool} (hF5 : F (b0 + 5) 0 = true) (hfit : ps_fit (ps_uo F (b0 + 5)) (b0 + 6)) {S S2 : ps_S} (h : f_X9_init b0 S = some S2) : ps_MF l yX9_init wsX9_init (ps_rx 1 1 16 30) (b0 + 6) ad (ps_uo F (b0 + 5)) [.ref (ad (b0 + 5)), .ref (ad (b0 + 4))] S (b0 + 7) F S2 1 16 := by
  refine ps_mkF (cc := cX9_init) (maxL := 3) (own := RX9) (by decide +kernel) rfl rfl rfl (Nat.le_of_ble_eq_true rfl) rfl (fun G hl hC hret => ?_)
  have hG := hC.1
  unfold f_X9_init at h
  refine ps_aload_n hG dX9_init_0 rfl 0 rfl ?_
  refine ps_objI hG mX9_init__methodLink_RX9_3_objectInit mX9_init__instanceMethod_objectInit mX9_init__code_objectInit_0xb1_1_none (Nat.le_of_ble_eq_true rfl) (Nat.le_of_ble_eq_true rfl) dX9_init_1 ?_
  refine ps_aload_n hG dX9_init_4 rfl 0 rfl ?_
  refine ps_bipush (v := 16) hG dX9_init_5 (by decide) ?_
  refine ps_newI hG mX9_init__arrayClass_int (x := 16) (N' := 16) (ps_isB_6 hB).1 (ps_isB_6 hB).2.1 (by decide) (by decide) (by decide) hfit (Nat.le_of_ble_eq_true rfl) (Nat.le_of_ble_eq_true rfl) dX9_init_7 (fun ad1 had1 => ?_)
  have hA1 : ∀ k, k < (b0 + 6) → ad1 k = ad k := fun k hk => had1 k (by omega)
  rw [show ad (b0 + 5) = ad1 (b0 + 5) from (had1 (b0 + 5) (by omega)).symm]
  rw [show ad (b0 + 4) = ad1 (b0 + 4) from (had1 (b0 + 4) (by omega)).symm]
  refine ps_flags (F' := (ps_uo F (b0 + 5))) (ps_fl_arr (Or.inl (ps_isB_6 hB).1)) ?_
  have fit7 := ps_fit_arr hfit (Or.inl (ps_isB_6 hB).1)
  refine ps_putR hC (T := TX9) (N := 1) (ci := 8) (k := (b0 + 5)) (t := (b0 + 6)) (fun b9 => [(if b9 = true then .ref (ad1 ((b0 + 5) + 1)) else .null)]) inX9_init_X9 tyX9 tyX9_ok nmX9 (by show (b0 + 5) < (b0 + 7); omega) rfl 0 (by decide) (ps_cel_18 (ps_isB_5 hB).1 _) (by rw [ps_cel_18 (ps_isB_5 hB).1]; simp [ps_rf, ps_us]) rfl (Nat.le_of_ble_eq_true rfl) mX9_init_f9 rfl rfl (tyX9_ok 0 (by decide)) rfl rfl dX9_init_9 ?_
  have fit9 := ps_fit_us (k := (b0 + 5)) (j := 0) fit7 (fun p hp hj => by simp only [ps_tgs, (ps_isB_5 hB).1, List.mem_cons, List.not_mem_nil, or_false] at hp; rcases hp with rfl <;> first | (exfalso; revert hj; decide) | (show _ < _; omega))
  refine ps_iconst (v := 0) hG dX9_init_12 (by decide) ?_
  refine ps_istore_n (lv' := [(2, .int 0), (0, .ref (ad1 (b0 + 5))), (1, .ref (ad1 (b0 + 4)))]) hG dX9_init_13 rfl (by decide) rfl ?_
  obtain ⟨S14, hq14, h⟩ := ps_bd h
  refine (ps_sub [1, 2, 0] rfl (ps_itV (fun (a : ps_S × Int32) => ps_V G 3 1 16 ((b0 + 7), ad1, (ps_us (ps_uo F (b0 + 5)) (b0 + 5) 0)) a.1 14 [(0, .ref (ad1 (b0 + 5))), (1, .ref (ad1 (b0 + 4))), (2, .int a.2)] []) (fun (b : ps_S) => ps_V G 3 1 16 ((b0 + 7), ad1, (ps_us (ps_uo F (b0 + 5)) (b0 + 5) 0)) b 48 [(0, .ref (ad1 (b0 + 5)))] []) ?_ _ _ _ hq14 ?_))
  · intro a r9 h kc ke
    obtain ⟨T14, v2_14⟩ := a
    replace h : f_X9_init_L14 b0 T14 v2_14 = some r9 := h
    show ps_V G 3 1 16 ((b0 + 7), ad1, (ps_us (ps_uo F (b0 + 5)) (b0 + 5) 0)) T14 14 [(0, .ref (ad1 (b0 + 5))), (1, .ref (ad1 (b0 + 4))), (2, .int v2_14)] []
    unfold f_X9_init_L14 at h
    refine ps_iload_n hG dX9_init_14 rfl 2 rfl ?_
    refine ps_bipush (v := 6) hG dX9_init_15 (by decide) ?_
    refine ps_icmp_ge (tgt := 48) hG dX9_init_17 (by decide) (fun c17 => ?_) (fun c17 => ?_)
    · replace h := ps_ip c17 h
      cases h
      exact (ps_sub [0] rfl (ke _ rfl))
    · replace h := ps_in c17 h
      refine ps_iload_n hG dX9_init_20 rfl 2 rfl ?_
      refine ps_aload_n hG dX9_init_21 rfl 1 rfl ?_
      refine ps_alen (v := 6) hG (ps_isB_4 hB).1 (ps_isB_4 hB).2.1 (by show (b0 + 4) < (b0 + 7); omega) (by decide) dX9_init_22 ?_
      refine ps_icmp_ge (tgt := 48) hG dX9_init_23 (by decide) (fun c23 => ?_) (fun c23 => ?_)
      · replace h := ps_ip c23 h
        cases h
        exact (ps_sub [0] rfl (ke _ rfl))
      · replace h := ps_in c23 h
        refine ps_aload_n hG dX9_init_26 rfl 0 rfl ?_
        refine ps_get (C := RX9) (T := TX9) (N := 1) (ci := 8) (v := .ref (ad1 (b0 + 6))) hG inX9_init_X9 (by show (b0 + 5) < (b0 + 7); omega) (ps_cel_18 (ps_isB_5 hB).1 _) rfl 0 (by decide) mX9_init_f9 (by simp [ps_rf, ps_us, ps_uo]) dX9_init_27 ?_
        refine ps_bipush (v := 8) hG dX9_init_30 (by decide) ?_
        refine ps_iload_n hG dX9_init_32 rfl 2 rfl ?_
        refine ps_iadd hG dX9_init_33 ?_
        refine ps_aload_n hG dX9_init_34 rfl 1 rfl ?_
        refine ps_iload_n hG dX9_init_35 rfl 2 rfl ?_
        obtain ⟨hb36, h⟩ := ps_ig h
        refine ps_iald hG (ps_isB_4 hB).1 (ps_isB_4 hB).2.1 (by show (b0 + 4) < (b0 + 7); omega) hb36 dX9_init_36 ?_
        refine ps_iload_n hG dX9_init_37 rfl 2 rfl ?_
        obtain ⟨r38, hr38, h⟩ := ps_bd h
        refine ps_callSI (As := [.int (T14 (b0 + 4) v2_14.toNatClampNeg), .int v2_14]) (rest := [.int (8 + v2_14), .ref (ad1 (b0 + 6))]) (nA := 2) hG (c2_X9_hash _ hr38) gX9_init_X9_hash rfl (by decide +kernel) rfl ⟨(Nat.le_of_ble_eq_true rfl), (Nat.le_of_ble_eq_true rfl)⟩ ⟨rfl, rfl⟩ ⟨(Nat.le_of_ble_eq_true rfl), (Nat.le_of_ble_eq_true rfl)⟩ rfl (Nat.le_of_ble_eq_true rfl) dX9_init_38 ?_
        obtain ⟨hb41, h⟩ := ps_ig h
        refine ps_iast hG (ps_isB_6 hB).1 (ps_isB_6 hB).2.1 (by show (b0 + 6) < (b0 + 7); omega) hb41 dX9_init_41 ?_
        refine ps_iinc (lv' := [(2, .int (v2_14 + 1)), (0, .ref (ad1 (b0 + 5))), (1, .ref (ad1 (b0 + 4)))]) hG dX9_init_42 2 rfl (by rfl) (by decide) rfl ?_
        refine ps_goto (tgt := 14) hG dX9_init_45 (by decide) ?_
        cases h
        exact (ps_sub [1, 2, 0] rfl (kc _ rfl))
  · show ps_V G 3 1 16 ((b0 + 7), ad1, (ps_us (ps_uo F (b0 + 5)) (b0 + 5) 0)) S14 48 [(0, .ref (ad1 (b0 + 5)))] []
    refine ps_bipush (v := 7) hG dX9_init_48 (by decide) ?_
    refine ps_istore_n (lv' := [(2, .int 7), (0, .ref (ad1 (b0 + 5)))]) hG dX9_init_50 rfl (by decide) rfl ?_
    obtain ⟨S51, hq51, h⟩ := ps_bd h
    refine (ps_sub [1, 0] rfl (ps_itV (fun (a : ps_S × Int32) => ps_V G 3 1 16 ((b0 + 7), ad1, (ps_us (ps_uo F (b0 + 5)) (b0 + 5) 0)) a.1 51 [(0, .ref (ad1 (b0 + 5))), (2, .int a.2)] []) (fun (b : ps_S) => ps_V G 3 1 16 ((b0 + 7), ad1, (ps_us (ps_uo F (b0 + 5)) (b0 + 5) 0)) b 88 [] []) ?_ _ _ _ hq51 ?_))
    · intro a r9 h kc ke
      obtain ⟨T51, v2_51⟩ := a
      replace h : f_X9_init_L51 b0 T51 v2_51 = some r9 := h
      show ps_V G 3 1 16 ((b0 + 7), ad1, (ps_us (ps_uo F (b0 + 5)) (b0 + 5) 0)) T51 51 [(0, .ref (ad1 (b0 + 5))), (2, .int v2_51)] []
      unfold f_X9_init_L51 at h
      refine ps_iload_n hG dX9_init_51 rfl 1 rfl ?_
      refine ps_if_le (tgt := 88) hG dX9_init_52 (by decide) (fun c52 => ?_) (fun c52 => ?_)
      · replace h := ps_ip c52 h
        cases h
        exact (ps_sub [] rfl (ke _ rfl))
      · replace h := ps_in c52 h
        refine ps_aload_n hG dX9_init_55 rfl 0 rfl ?_
        refine ps_get (C := RX9) (T := TX9) (N := 1) (ci := 8) (v := .ref (ad1 (b0 + 6))) hG inX9_init_X9 (by show (b0 + 5) < (b0 + 7); omega) (ps_cel_18 (ps_isB_5 hB).1 _) rfl 0 (by decide) mX9_init_f9 (by simp [ps_rf, ps_us, ps_uo]) dX9_init_56 ?_
        refine ps_iload_n hG dX9_init_59 rfl 1 rfl ?_
        refine ps_aload_n hG dX9_init_60 rfl 0 rfl ?_
        refine ps_get (C := RX9) (T := TX9) (N := 1) (ci := 8) (v := .ref (ad1 (b0 + 6))) hG inX9_init_X9 (by show (b0 + 5) < (b0 + 7); omega) (ps_cel_18 (ps_isB_5 hB).1 _) rfl 0 (by decide) mX9_init_f9 (by simp [ps_rf, ps_us, ps_uo]) dX9_init_61 ?_
        refine ps_iconst (v := 2) hG dX9_init_64 (by decide) ?_
        refine ps_iload_n hG dX9_init_65 rfl 1 rfl ?_
        refine ps_imul hG dX9_init_66 ?_
        obtain ⟨hb67, h⟩ := ps_ig h
        refine ps_iald hG (ps_isB_6 hB).1 (ps_isB_6 hB).2.1 (by show (b0 + 6) < (b0 + 7); omega) hb67 dX9_init_67 ?_
        refine ps_aload_n hG dX9_init_68 rfl 0 rfl ?_
        refine ps_get (C := RX9) (T := TX9) (N := 1) (ci := 8) (v := .ref (ad1 (b0 + 6))) hG inX9_init_X9 (by show (b0 + 5) < (b0 + 7); omega) (ps_cel_18 (ps_isB_5 hB).1 _) rfl 0 (by decide) mX9_init_f9 (by simp [ps_rf, ps_us, ps_uo]) dX9_init_69 ?_
        refine ps_iconst (v := 2) hG dX9_init_72 (by decide) ?_
        refine ps_iload_n hG dX9_init_73 rfl 1 rfl ?_
        refine ps_imul hG dX9_init_74 ?_
        refine ps_iconst (v := 1) hG dX9_init_75 (by decide) ?_
        refine ps_iadd hG dX9_init_76 ?_
        obtain ⟨hb77, h⟩ := ps_ig h
        refine ps_iald hG (ps_isB_6 hB).1 (ps_isB_6 hB).2.1 (by show (b0 + 6) < (b0 + 7); omega) hb77 dX9_init_77 ?_
        obtain ⟨r78, hr78, h⟩ := ps_bd h
        refine ps_callSI (As := [.int (T51 (b0 + 6) (2 * v2_51).toNatClampNeg), .int (T51 (b0 + 6) ((2 * v2_51) + 1).toNatClampNeg)]) (rest := [.int v2_51, .ref (ad1 (b0 + 6))]) (nA := 2) hG (c2_X9_hash _ hr78) gX9_init_X9_hash rfl (by decide +kernel) rfl ⟨(Nat.le_of_ble_eq_true rfl), (Nat.le_of_ble_eq_true rfl)⟩ ⟨rfl, rfl⟩ ⟨(Nat.le_of_ble_eq_true rfl), (Nat.le_of_ble_eq_true rfl)⟩ rfl (Nat.le_of_ble_eq_true rfl) dX9_init_78 ?_
        obtain ⟨hb81, h⟩ := ps_ig h
        refine ps_iast hG (ps_isB_6 hB).1 (ps_isB_6 hB).2.1 (by show (b0 + 6) < (b0 + 7); omega) hb81 dX9_init_81 ?_
        refine ps_iinc (lv' := [(2, .int (v2_51 + (-1))), (0, .ref (ad1 (b0 + 5)))]) hG dX9_init_82 1 rfl (by rfl) (by decide) rfl ?_
        refine ps_goto (tgt := 51) hG dX9_init_85 (by decide) ?_
        cases h
        exact (ps_sub [1, 0] rfl (kc _ rfl))
    · show ps_V G 3 1 16 ((b0 + 7), ad1, (ps_us (ps_uo F (b0 + 5)) (b0 + 5) 0)) S51 88 [] []
      cases h
      exact ps_flags (F' := F) (ps_fl_tree hB hF5) (hret ad1 hA1 _ _ _ _ (Nat.le_of_ble_eq_true rfl) (Nat.le_of_ble_eq_true rfl) dX9_init_88)
def f_X8_init_L58 (b0 : Nat) (T58 : ps_S) (v4_58 : Int32) : Option ((ps_S × Int32) ⊕ (ps_S)) :=
  (if 6 ≤ v4_58 then
        some (.inr T58)
      else
        (if ps_ib v4_58 6 = true then
        some (.inl (ps_up T58 (b0 + 1) v4_58.toNatClampNeg (-1), v4_58 + 1)) else none))
def f_X8_init (b0 : Nat) (S : ps_S) (p1 : Int32) (p2 : Int32) : Option ps_S :=
  ((f_X0_pieces b0 (ps_z (ps_z (ps_z S (b0 + 1)) (b0 + 2)) (b0 + 3)) p2).bind fun S29 =>
  ((f_X9_init b0 (ps_z (ps_up S29 b0 0 p1) (b0 + 5))).bind fun S49 =>
  ((ps_it (fun (a : ps_S × Int32) => f_X8_init_L58 b0 a.1 a.2) ps_fu (S49, 0)).bind (fun S58 => some S58))))
theorem inX8_init_X8 : ∀ q ∈ wsX80, q ∈ wsX8_init := fun _ h => List.mem_cons_of_mem _ (List.mem_append_left _ (List.mem_append_right _ h))
theorem inX8_init_X9 : ∀ q ∈ wsX90, q ∈ wsX8_init := fun _ h => List.mem_cons_of_mem _ (List.mem_append_right _ h)
theorem mX8_init__arrayClass_boolean : Cond.arrayClass .boolean ∈ wsX8_init := List.mem_of_getElem? (i := 6) rfl
theorem mX8_init__arrayClass_int : Cond.arrayClass .int ∈ wsX8_init := List.mem_of_getElem? (i := 4) rfl
theorem mX8_init__classLink_RX8_35_RX9 : Cond.classLink RX8 35 RX9 ∈ wsX8_init := List.mem_of_getElem? (i := 11) rfl
theorem mX8_init__code_objectInit_0xb1_1_none : Cond.code objectInit ⟨#[0xb1]⟩ 1 none ∈ wsX8_init := List.mem_of_getElem? (i := 3) rfl
theorem mX8_init__initialized_RX9 : Cond.initialized RX9 ∈ wsX8_init := List.mem_of_getElem? (i := 13) rfl
theorem mX8_init__instanceMethod_objectInit : Cond.instanceMethod objectInit ∈ wsX8_init := List.mem_of_getElem? (i := 2) rfl
theorem mX8_init__instanceMethod_yX9_init : Cond.instanceMethod yX9_init ∈ wsX8_init := List.mem_of_getElem? (i := 26) rfl
theorem mX8_init__instantiable_RX9_1 : Cond.instantiable RX9 1 ∈ wsX8_init := List.mem_of_getElem? (i := 12) rfl
theorem mX8_init__methodLink_RX8_37_yX9_init : Cond.methodLink RX8 37 yX9_init ∈ wsX8_init := List.mem_of_getElem? (i := 25) rfl
theorem mX8_init__methodLink_RX8_3_objectInit : Cond.methodLink RX8 3 objectInit ∈ wsX8_init := List.mem_of_getElem? (i := 1) rfl
theorem mX8_init_f15 : Cond.fieldLink RX8 15 (TX8 4).1 (TX8 4).2.1 (TX8 4).2.2.1 ∈ wsX8_init := List.mem_of_getElem? (i := 7) rfl
theorem mX8_init_f19 : Cond.fieldLink RX8 19 (TX8 5).1 (TX8 5).2.1 (TX8 5).2.2.1 ∈ wsX8_init := List.mem_of_getElem? (i := 8) rfl
theorem mX8_init_f28 : Cond.fieldLink RX8 28 (TX8 0).1 (TX8 0).2.1 (TX8 0).2.2.1 ∈ wsX8_init := List.mem_of_getElem? (i := 9) rfl
theorem mX8_init_f32 : Cond.fieldLink RX8 32 (TX8 1).1 (TX8 1).2.1 (TX8 1).2.2.1 ∈ wsX8_init := List.mem_of_getElem? (i := 10) rfl
theorem mX8_init_f40 : Cond.fieldLink RX8 40 (TX8 2).1 (TX8 2).2.1 (TX8 2).2.2.1 ∈ wsX8_init := List.mem_of_getElem? (i := 14) rfl
theorem mX8_init_f9 : Cond.fieldLink RX8 9 (TX8 3).1 (TX8 3).2.1 (TX8 3).2.2.1 ∈ wsX8_init := List.mem_of_getElem? (i := 5) rfl
set_option maxHeartbeats 4000000 in
set_option maxRecDepth 100000 in
theorem c_X8_init (l : Launch) {b0 : Nat} (hB : ps_isB b0) {ad : Nat → Nat} (hfit : ps_fit (ps_uo ps_T b0) (b0 + 1)) {S S2 : ps_S} {p1 p2 : Int32} (h : f_X8_init b0 S p1 p2 = some S2) : ps_MF l yX8_init wsX8_init (ps_rx 3 6 41 70) (b0 + 1) ad (ps_uo ps_T b0) [.ref (ad b0), .int p1, .int p2] S (b0 + 7) ps_T S2 6 41 := by
  refine ps_mkF (cc := cX8_init) (maxL := 5) (own := RX8) (by decide +kernel) rfl rfl rfl (Nat.le_of_ble_eq_true rfl) rfl (fun G hl hC hret => ?_)
  have hG := hC.1
  unfold f_X8_init at h
  refine ps_aload_n hG dX8_init_0 rfl 0 rfl ?_
  refine ps_objI hG mX8_init__methodLink_RX8_3_objectInit mX8_init__instanceMethod_objectInit mX8_init__code_objectInit_0xb1_1_none (Nat.le_of_ble_eq_true rfl) (Nat.le_of_ble_eq_true rfl) dX8_init_1 ?_
  refine ps_aload_n hG dX8_init_4 rfl 0 rfl ?_
  refine ps_bipush (v := 6) hG dX8_init_5 (by decide) ?_
  refine ps_newI hG mX8_init__arrayClass_int (x := 6) (N' := 6) (ps_isB_1 hB).1 (ps_isB_1 hB).2.1 (by decide) (by decide) (by decide) hfit (Nat.le_of_ble_eq_true rfl) (Nat.le_of_ble_eq_true rfl) dX8_init_7 (fun ad1 had1 => ?_)
  have hA1 : ∀ k, k < (b0 + 1) → ad1 k = ad k := fun k hk => had1 k (by omega)
  rw [show ad b0 = ad1 b0 from (had1 b0 (by omega)).symm]
  refine ps_flags (F' := (ps_uo ps_T b0)) (ps_fl_arr (Or.inl (ps_isB_1 hB).1)) ?_
  have fit7 := ps_fit_arr hfit (Or.inl (ps_isB_1 hB).1)
  refine ps_putR hC (T := TX8) (N := 6) (ci := 7) (k := b0) (t := (b0 + 1)) (fun b9 => [.int ((ps_z S (b0 + 1)) b0 0), ps_rf ((b0 + 2), ad1, (ps_uo ps_T b0)) b0 1 (b0 + 4), ps_rf ((b0 + 2), ad1, (ps_uo ps_T b0)) b0 2 (b0 + 5), (if b9 = true then .ref (ad1 (b0 + 1)) else .null), ps_rf ((b0 + 2), ad1, (ps_uo ps_T b0)) b0 4 (b0 + 2), ps_rf ((b0 + 2), ad1, (ps_uo ps_T b0)) b0 5 (b0 + 3)]) inX8_init_X8 tyX8 tyX8_ok nmX8 (by show b0 < (b0 + 2); omega) rfl 3 (by decide) (ps_cel_17 (ps_isB_0 hB).1 _) (by rw [ps_cel_17 (ps_isB_0 hB).1]; simp [ps_rf, ps_us]) rfl (Nat.le_of_ble_eq_true rfl) mX8_init_f9 rfl rfl (tyX8_ok 3 (by decide)) rfl rfl dX8_init_9 ?_
  have fit9 := ps_fit_us (k := b0) (j := 3) fit7 (fun p hp hj => by simp only [ps_tgs, (ps_isB_0 hB).1, List.mem_cons, List.not_mem_nil, or_false] at hp; rcases hp with rfl | rfl | rfl | rfl | rfl <;> first | (exfalso; revert hj; decide) | (show _ < _; omega))
  refine ps_aload_n hG dX8_init_12 rfl 0 rfl ?_
  refine ps_bipush (v := 6) hG dX8_init_13 (by decide) ?_
  refine ps_newZ hG mX8_init__arrayClass_boolean (x := 6) (N' := 6) (ps_isB_2 hB).1 (ps_isB_2 hB).2.1 (by decide) (by decide) (by decide) fit9 (Nat.le_of_ble_eq_true rfl) (Nat.le_of_ble_eq_true rfl) dX8_init_15 (fun ad2 had2 => ?_)
  have hA2 : ∀ k, k < (b0 + 1) → ad2 k = ad k := fun k hk => (had2 k (by omega)).trans (hA1 k hk)
  rw [show ad1 b0 = ad2 b0 from (had2 b0 (by omega)).symm]
  refine ps_flags (F' := (ps_us (ps_uo ps_T b0) b0 3)) (ps_fl_arr (Or.inr (ps_isB_2 hB).1)) ?_
  have fit15 := ps_fit_arr fit9 (Or.inr (ps_isB_2 hB).1)
  refine ps_putR hC (T := TX8) (N := 6) (ci := 7) (k := b0) (t := (b0 + 2)) (fun b9 => [.int ((ps_z (ps_z S (b0 + 1)) (b0 + 2)) b0 0), ps_rf ((b0 + 3), ad2, (ps_us (ps_uo ps_T b0) b0 3)) b0 1 (b0 + 4), ps_rf ((b0 + 3), ad2, (ps_us (ps_uo ps_T b0) b0 3)) b0 2 (b0 + 5), ps_rf ((b0 + 3), ad2, (ps_us (ps_uo ps_T b0) b0 3)) b0 3 (b0 + 1), (if b9 = true then .ref (ad2 (b0 + 2)) else .null), ps_rf ((b0 + 3), ad2, (ps_us (ps_uo ps_T b0) b0 3)) b0 5 (b0 + 3)]) inX8_init_X8 tyX8 tyX8_ok nmX8 (by show b0 < (b0 + 3); omega) rfl 4 (by decide) (ps_cel_17 (ps_isB_0 hB).1 _) (by rw [ps_cel_17 (ps_isB_0 hB).1]; simp [ps_rf, ps_us]) rfl (Nat.le_of_ble_eq_true rfl) mX8_init_f15 rfl rfl (tyX8_ok 4 (by decide)) rfl rfl dX8_init_17 ?_
  have fit17 := ps_fit_us (k := b0) (j := 4) fit15 (fun p hp hj => by simp only [ps_tgs, (ps_isB_0 hB).1, List.mem_cons, List.not_mem_nil, or_false] at hp; rcases hp with rfl | rfl | rfl | rfl | rfl <;> first | (exfalso; revert hj; decide) | (show _ < _; omega))
  refine ps_aload_n hG dX8_init_20 rfl 0 rfl ?_
  refine ps_bipush (v := 6) hG dX8_init_21 (by decide) ?_
  refine ps_newI hG mX8_init__arrayClass_int (x := 6) (N' := 6) (ps_isB_3 hB).1 (ps_isB_3 hB).2.1 (by decide) (by decide) (by decide) fit17 (Nat.le_of_ble_eq_true rfl) (Nat.le_of_ble_eq_true rfl) dX8_init_23 (fun ad3 had3 => ?_)
  have hA3 : ∀ k, k < (b0 + 1) → ad3 k = ad k := fun k hk => (had3 k (by omega)).trans (hA2 k hk)
  rw [show ad2 b0 = ad3 b0 from (had3 b0 (by omega)).symm]
  refine ps_flags (F' := (ps_us (ps_us (ps_uo ps_T b0) b0 3) b0 4)) (ps_fl_arr (Or.inl (ps_isB_3 hB).1)) ?_
  have fit23 := ps_fit_arr fit17 (Or.inl (ps_isB_3 hB).1)
  refine ps_putR hC (T := TX8) (N := 6) (ci := 7) (k := b0) (t := (b0 + 3)) (fun b9 => [.int ((ps_z (ps_z (ps_z S (b0 + 1)) (b0 + 2)) (b0 + 3)) b0 0), ps_rf ((b0 + 4), ad3, (ps_us (ps_us (ps_uo ps_T b0) b0 3) b0 4)) b0 1 (b0 + 4), ps_rf ((b0 + 4), ad3, (ps_us (ps_us (ps_uo ps_T b0) b0 3) b0 4)) b0 2 (b0 + 5), ps_rf ((b0 + 4), ad3, (ps_us (ps_us (ps_uo ps_T b0) b0 3) b0 4)) b0 3 (b0 + 1), ps_rf ((b0 + 4), ad3, (ps_us (ps_us (ps_uo ps_T b0) b0 3) b0 4)) b0 4 (b0 + 2), (if b9 = true then .ref (ad3 (b0 + 3)) else .null)]) inX8_init_X8 tyX8 tyX8_ok nmX8 (by show b0 < (b0 + 4); omega) rfl 5 (by decide) (ps_cel_17 (ps_isB_0 hB).1 _) (by rw [ps_cel_17 (ps_isB_0 hB).1]; simp [ps_rf, ps_us]) rfl (Nat.le_of_ble_eq_true rfl) mX8_init_f19 rfl rfl (tyX8_ok 5 (by decide)) rfl rfl dX8_init_25 ?_
  have fit25 := ps_fit_us (k := b0) (j := 5) fit23 (fun p hp hj => by simp only [ps_tgs, (ps_isB_0 hB).1, List.mem_cons, List.not_mem_nil, or_false] at hp; rcases hp with rfl | rfl | rfl | rfl | rfl <;> first | (exfalso; revert hj; decide) | (show _ < _; omega))
  refine ps_iload_n hG dX8_init_28 rfl 2 rfl ?_
  obtain ⟨S29, hr29, h⟩ := ps_bd h
  refine ps_callP (As := [.int p2]) (rest := []) (nA := 1) hG (c_X0_pieces _ hB fit25 hr29) gX8_init_X0_pieces rfl (by decide +kernel) rfl ⟨(Nat.le_of_ble_eq_true rfl), (Nat.le_of_ble_eq_true rfl)⟩ ⟨rfl, rfl⟩ ⟨(Nat.le_of_ble_eq_true rfl), (Nat.le_of_ble_eq_true rfl)⟩ rfl (Nat.le_of_ble_eq_true rfl) dX8_init_29 (fun ad4 had4 => ?_)
  have hA4 : ∀ k, k < (b0 + 1) → ad4 k = ad k := fun k hk => (had4 k (by omega)).trans (hA3 k hk)
  rw [show ad3 b0 = ad4 b0 from (had4 b0 (by omega)).symm]
  have fit29 := ps_fit_arr fit25 (Or.inl (ps_isB_4 hB).1)
  refine ps_astore_n (lv' := [(3, .ref (ad4 (b0 + 4))), (0, .ref (ad4 b0)), (1, .int p1), (2, .int p2)]) hG dX8_init_32 rfl (by decide) rfl ?_
  refine ps_aload_n hG dX8_init_33 rfl 1 rfl ?_
  refine ps_iload_n hG dX8_init_34 rfl 2 rfl ?_
  refine ps_putFI hC (T := TX8) (N := 6) (ci := 7) (k := b0) (fun r => [.int (r 0), ps_rf ((b0 + 5), ad4, (ps_us (ps_us (ps_us (ps_uo ps_T b0) b0 3) b0 4) b0 5)) b0 1 (b0 + 4), ps_rf ((b0 + 5), ad4, (ps_us (ps_us (ps_us (ps_uo ps_T b0) b0 3) b0 4) b0 5)) b0 2 (b0 + 5), ps_rf ((b0 + 5), ad4, (ps_us (ps_us (ps_us (ps_uo ps_T b0) b0 3) b0 4) b0 5)) b0 3 (b0 + 1), ps_rf ((b0 + 5), ad4, (ps_us (ps_us (ps_us (ps_uo ps_T b0) b0 3) b0 4) b0 5)) b0 4 (b0 + 2), ps_rf ((b0 + 5), ad4, (ps_us (ps_us (ps_us (ps_uo ps_T b0) b0 3) b0 4) b0 5)) b0 5 (b0 + 3)]) inX8_init_X8 tyX8 tyX8_ok nmX8 (by show b0 < (b0 + 5); omega) (ps_isB_0 hB).2.2.2 (ps_cel_17 (ps_isB_0 hB).1) rfl 0 (by decide) mX8_init_f28 rfl rfl (tyX8_ok 0 (by decide)) (fun _ => rfl) (Nat.le_of_ble_eq_true rfl) dX8_init_35 ?_
  refine ps_aload_n hG dX8_init_38 rfl 1 rfl ?_
  refine ps_aload_n hG dX8_init_39 rfl 0 rfl ?_
  refine ps_putR hC (T := TX8) (N := 6) (ci := 7) (k := b0) (t := (b0 + 4)) (fun b9 => [.int ((ps_up S29 b0 0 p1) b0 0), (if b9 = true then .ref (ad4 (b0 + 4)) else .null), ps_rf ((b0 + 5), ad4, (ps_us (ps_us (ps_us (ps_uo ps_T b0) b0 3) b0 4) b0 5)) b0 2 (b0 + 5), ps_rf ((b0 + 5), ad4, (ps_us (ps_us (ps_us (ps_uo ps_T b0) b0 3) b0 4) b0 5)) b0 3 (b0 + 1), ps_rf ((b0 + 5), ad4, (ps_us (ps_us (ps_us (ps_uo ps_T b0) b0 3) b0 4) b0 5)) b0 4 (b0 + 2), ps_rf ((b0 + 5), ad4, (ps_us (ps_us (ps_us (ps_uo ps_T b0) b0 3) b0 4) b0 5)) b0 5 (b0 + 3)]) inX8_init_X8 tyX8 tyX8_ok nmX8 (by show b0 < (b0 + 5); omega) rfl 1 (by decide) (ps_cel_17 (ps_isB_0 hB).1 _) (by rw [ps_cel_17 (ps_isB_0 hB).1]; simp [ps_rf, ps_us]) rfl (Nat.le_of_ble_eq_true rfl) mX8_init_f32 rfl rfl (tyX8_ok 1 (by decide)) rfl rfl dX8_init_40 ?_
  have fit40 := ps_fit_us (k := b0) (j := 1) fit29 (fun p hp hj => by simp only [ps_tgs, (ps_isB_0 hB).1, List.mem_cons, List.not_mem_nil, or_false] at hp; rcases hp with rfl | rfl | rfl | rfl | rfl <;> first | (exfalso; revert hj; decide) | (show _ < _; omega))
  refine ps_aload_n hG dX8_init_43 rfl 1 rfl ?_
  refine ps_newO (ci := 8) (N := 1) (T := TX9) (fs := [.null]) hG inX8_init_X9 tyX9 tyX9_ok mX8_init__classLink_RX8_35_RX9 mX8_init__instantiable_RX9_1 mX8_init__initialized_RX9 rfl (fun ad9 => (ps_cel_18 (ps_isB_5 hB).1 _).trans (by simp [ps_rf, ps_uo])) (by decide +kernel) fit40 (Nat.le_of_ble_eq_true rfl) (Nat.le_of_ble_eq_true rfl) dX8_init_44 (fun ad5 had5 => ?_)
  have hA5 : ∀ k, k < (b0 + 1) → ad5 k = ad k := fun k hk => (had5 k (by omega)).trans (hA4 k hk)
  rw [show ad4 (b0 + 4) = ad5 (b0 + 4) from (had5 (b0 + 4) (by omega)).symm]
  rw [show ad4 b0 = ad5 b0 from (had5 b0 (by omega)).symm]
  have fit44 := ps_fit_uo fit40 (by rw [(ps_isB_5 hB).1]; decide)
  refine ps_dup hG dX8_init_47 rfl ?_
  refine ps_aload_n hG dX8_init_48 rfl 0 rfl ?_
  obtain ⟨S49, hr49, h⟩ := ps_bd h
  refine ps_callF (k := (b0 + 5)) (As := [.ref (ad5 (b0 + 4))]) (rest := [.ref (ad5 (b0 + 5)), .ref (ad5 b0)]) (nA := 1) hG (c_X9_init _ hB (F := (ps_us (ps_us (ps_us (ps_us (ps_uo ps_T b0) b0 3) b0 4) b0 5) b0 1)) (by simp [ps_us, ps_uo, ps_T]) fit44 hr49) gX8_init_X9_init rfl mX8_init__initialized_RX9 mX8_init__methodLink_RX8_37_yX9_init mX8_init__instanceMethod_yX9_init rfl (by decide +kernel) rfl ⟨(Nat.le_of_ble_eq_true rfl), (Nat.le_of_ble_eq_true rfl)⟩ ⟨rfl, rfl⟩ ⟨(Nat.le_of_ble_eq_true rfl), (Nat.le_of_ble_eq_true rfl)⟩ rfl (Nat.le_of_ble_eq_true rfl) dX8_init_49 (fun ad6 had6 => ?_)
  have hA6 : ∀ k, k < (b0 + 1) → ad6 k = ad k := fun k hk => (had6 k (by omega)).trans (hA5 k hk)
  rw [show ad5 (b0 + 4) = ad6 (b0 + 4) from (had6 (b0 + 4) (by omega)).symm]
  rw [show ad5 b0 = ad6 b0 from (had6 b0 (by omega)).symm]
  rw [show ad5 (b0 + 5) = ad6 (b0 + 5) from (had6 (b0 + 5) (by omega)).symm]
  refine ps_putR hC (T := TX8) (N := 6) (ci := 7) (k := b0) (t := (b0 + 5)) (fun b9 => [.int (S49 b0 0), ps_rf ((b0 + 7), ad6, (ps_us (ps_us (ps_us (ps_us (ps_uo ps_T b0) b0 3) b0 4) b0 5) b0 1)) b0 1 (b0 + 4), (if b9 = true then .ref (ad6 (b0 + 5)) else .null), ps_rf ((b0 + 7), ad6, (ps_us (ps_us (ps_us (ps_us (ps_uo ps_T b0) b0 3) b0 4) b0 5) b0 1)) b0 3 (b0 + 1), ps_rf ((b0 + 7), ad6, (ps_us (ps_us (ps_us (ps_us (ps_uo ps_T b0) b0 3) b0 4) b0 5) b0 1)) b0 4 (b0 + 2), ps_rf ((b0 + 7), ad6, (ps_us (ps_us (ps_us (ps_us (ps_uo ps_T b0) b0 3) b0 4) b0 5) b0 1)) b0 5 (b0 + 3)]) inX8_init_X8 tyX8 tyX8_ok nmX8 (by show b0 < (b0 + 7); omega) rfl 2 (by decide) (ps_cel_17 (ps_isB_0 hB).1 _) (by rw [ps_cel_17 (ps_isB_0 hB).1]; simp [ps_rf, ps_us]) rfl (Nat.le_of_ble_eq_true rfl) mX8_init_f40 rfl rfl (tyX8_ok 2 (by decide)) rfl rfl dX8_init_52 ?_
  refine ps_iconst (v := 0) hG dX8_init_55 (by decide) ?_
  refine ps_istore (lv' := [(4, .int 0), (3, .ref (ad6 (b0 + 4))), (0, .ref (ad6 b0)), (1, .int p1), (2, .int p2)]) hG dX8_init_56 (by decide) rfl ?_
  obtain ⟨S58, hq58, h⟩ := ps_bd h
  refine (ps_sub [2, 0] rfl (ps_itV (fun (a : ps_S × Int32) => ps_V G 5 6 41 ((b0 + 7), ad6, (ps_us (ps_us (ps_us (ps_us (ps_us (ps_uo ps_T b0) b0 3) b0 4) b0 5) b0 1) b0 2)) a.1 58 [(0, .ref (ad6 b0)), (4, .int a.2)] []) (fun (b : ps_S) => ps_V G 5 6 41 ((b0 + 7), ad6, (ps_us (ps_us (ps_us (ps_us (ps_us (ps_uo ps_T b0) b0 3) b0 4) b0 5) b0 1) b0 2)) b 79 [] []) ?_ _ _ _ hq58 ?_))
  · intro a r9 h kc ke
    obtain ⟨T58, v4_58⟩ := a
    replace h : f_X8_init_L58 b0 T58 v4_58 = some r9 := h
    show ps_V G 5 6 41 ((b0 + 7), ad6, (ps_us (ps_us (ps_us (ps_us (ps_us (ps_uo ps_T b0) b0 3) b0 4) b0 5) b0 1) b0 2)) T58 58 [(0, .ref (ad6 b0)), (4, .int v4_58)] []
    unfold f_X8_init_L58 at h
    refine ps_iload hG dX8_init_58 1 rfl ?_
    refine ps_bipush (v := 6) hG dX8_init_60 (by decide) ?_
    refine ps_icmp_ge (tgt := 79) hG dX8_init_62 (by decide) (fun c62 => ?_) (fun c62 => ?_)
    · replace h := ps_ip c62 h
      cases h
      exact (ps_sub [] rfl (ke _ rfl))
    · replace h := ps_in c62 h
      refine ps_aload_n hG dX8_init_65 rfl 0 rfl ?_
      refine ps_get (C := RX8) (T := TX8) (N := 6) (ci := 7) (v := .ref (ad6 (b0 + 1))) hG inX8_init_X8 (by show b0 < (b0 + 7); omega) (ps_cel_17 (ps_isB_0 hB).1 _) rfl 3 (by decide) mX8_init_f9 (by simp [ps_rf, ps_us, ps_uo]) dX8_init_66 ?_
      refine ps_iload hG dX8_init_69 1 rfl ?_
      refine ps_iconst (v := (-1)) hG dX8_init_71 (by decide) ?_
      obtain ⟨hb72, h⟩ := ps_ig h
      refine ps_iast hG (ps_isB_1 hB).1 (ps_isB_1 hB).2.1 (by show (b0 + 1) < (b0 + 7); omega) hb72 dX8_init_72 ?_
      refine ps_iinc (lv' := [(4, .int (v4_58 + 1)), (0, .ref (ad6 b0))]) hG dX8_init_73 1 rfl (by rfl) (by decide) rfl ?_
      refine ps_goto (tgt := 58) hG dX8_init_76 (by decide) ?_
      cases h
      exact (ps_sub [1, 0] rfl (kc _ rfl))
  · show ps_V G 5 6 41 ((b0 + 7), ad6, (ps_us (ps_us (ps_us (ps_us (ps_us (ps_uo ps_T b0) b0 3) b0 4) b0 5) b0 1) b0 2)) S58 79 [] []
    cases h
    exact ps_flags (F' := ps_T) (ps_fl_file hB) (hret ad6 hA6 _ _ _ _ (Nat.le_of_ble_eq_true rfl) (Nat.le_of_ble_eq_true rfl) dX8_init_79)
