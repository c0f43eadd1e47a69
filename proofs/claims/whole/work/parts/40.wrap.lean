def ps_okL (G : ps_G) (cc : ByteArray) (own : String) (nL : Nat) (Ts : List Cond) (R : Room) (hh : List (Nat × Nat × Nat × Nat)) : Prop :=
  ps_ok G cc own nL Ts R ∧ G.2.2.2.2.1 = G.1.2.2.2.2.heap ∧ ps_XW G.2.2.2.1 G.1.2.2.2.2 ∧ G.1.2.1.stackTraces = false ∧ G.2.1.2.2.2.2.exceptionTable.toList = tableOf hh
def ps_VX (G : ps_G) (nL kc ks : Nat) (w : ps_X) (S : ps_S) (pc : Nat) (lv : List (Nat × Value)) (rest : List Value) (e : Nat) : Prop :=
  ∀ (H : Heap) (locs : List Loc) (ls : Array Slot) (q : Addr) (ce : Cell), va_P G.2.2.1.1 vwCl (ps_ws G.2.2.1.2 w S) H → va_D G.2.2.2.1 (ps_ws G.2.2.1.2 w S) → va_S G.2.2.2.1 G.2.2.2.2.1 H locs → ps_inv w S → lv_has ls nL lv → H[q]? = some ce → ce.vm = .none → G.1.2.2.2.2.vm.findClass (ps_E e) = some ce.cls →
    vx_W G.1.1 G.1.2.1 G.1.2.2.1 G.1.2.2.2.1 G.1.2.2.2.2 G.2.1.1 G.2.1.2.1 G.2.1.2.2.1 G.2.1.2.2.2.1 G.2.1.2.2.2.2 H locs kc ks G.2.2.2.2.2 (F0 G.2.1.1 pc ls rest) q
def ps_ML (l : Launch) (y : MethodName) (ws : List Cond) (rm : Room) (w : ps_X) (av : List Value) (S S' : ps_S) (r : Int32) (mc ms : Nat) : Prop := ∀ (D : va_G) (I : ps_I) (sz : Nat), vx_Met l y ws rm (va_Pc av (ps_preX D I w S sz)) (va_Qi (fun r' (_ : Unit) => r' = r) (fun _ => ps_pst D I (va_A (ps_ws I w S) sz) w S') (va_A (ps_ws I w S) sz)) (ps_XC D I (va_A (ps_ws I w S) sz) w S (fun _ => False)) mc ms (va_A (ps_ws I w S) sz)
def ps_pos : List Nat → Nat → Int32 → Option Int32
  | [], _, _ => none
  | c :: r, e, k => if e = c then some k else ps_pos r e (k + 1)
def ps_lr (x : Option (Nat ⊕ (Int32 × ps_S))) (S : ps_S) (cs : List Nat) (g : Int32 → Int32) : Option (Int32 × ps_S) := x.bind (Sum.elim (fun e => (ps_pos cs e 1).bind fun k => some (k, S)) (fun q => some (0, ps_up q.2 102 0 (g q.1))))
theorem ps_dlr {x : Option (Nat ⊕ (Int32 × ps_S))} {S S' : ps_S} {cs : List Nat} {g : Int32 → Int32} {r : Int32} (h : ps_lr x S cs g = some (r, S')) : ∃ z, x = some z ∧ (∀ e, z = .inl e → ps_pos cs e 1 = some r ∧ S' = S) ∧ (∀ r1 S1, z = .inr (r1, S1) → r = 0 ∧ S' = ps_up S1 102 0 (g r1)) := by
  obtain ⟨z, hz, h2⟩ := ps_bd h
  refine ⟨z, hz, fun e he => ?_, fun r1 S1 he => ?_⟩
  · subst he
    have h3 : ((ps_pos cs e 1).bind fun k => some (k, S)) = some (r, S') := h2
    obtain ⟨k, hk, h4⟩ := ps_bd h3
    cases h4
    exact ⟨hk, rfl⟩
  · subst he
    cases h2
    exact ⟨rfl, rfl⟩
def ps_nz (r : Int32) : Int32 := if r = 0 then 0 else 1
section PLW
variable {G : ps_G} {nL kc ks : Nat} {w : ps_X} {S S' : ps_S} {pc : Nat} {lv lv' : List (Nat × Value)} {rest : List Value} {cc : ByteArray} {own : String} {Ts : List Cond} {R : Room} {hh : List (Nat × Nat × Nat × Nat)}
variable {y : MethodName} {C : String} {T : u_T} {N ci index k maxL : Nat} {fs As : List Value} {bytes : ByteArray} {ret : Option FieldType} {ws ws' : List Cond} {rm : Room}
theorem ps_lcall (hX : ps_okL G cc own nL Ts R hh) {z : Nat ⊕ (Int32 × ps_S)} {st : List Value} {nA mc1 ms1 : Nat} (hM : ps_MXI G.1.2.1 y ws rm w (.ref (w.2.1 k) :: As) S z mc1 ms1) (hg : GoodIn Ts (wsV own index C y ws)) (hw : ws = Cond.code y bytes maxL ret :: ws') (hd : y.cls = C ∧ y.cls ≠ "java/lang/invoke/MethodHandle" ∧ y.cls ≠ "java/lang/invoke/VarHandle" ∧ (parseMethodDescriptor y.desc).map (fun d => d.parameters.length) = some nA) (hnA : As.length = nA) (hR : rm.frames + 1 ≤ R.frames ∧ 8 + (maxL + 11) + rm.locals ≤ R.locals) (hz : rm.cells = mc1 ∧ rm.slots = ms1) (hR9 : kc + mc1 ≤ R.cells ∧ ks + ms1 ≤ R.slots) (hk : k < w.1) (hc : ps_cel G.2.2.1.2 w (S k) k = .inr (ci, fs)) (hcl : vwCl[ci]? = some (C, T, N)) (hst : st = As.reverse ++ .ref (w.2.1 k) :: rest) (hrm : (rest.map fun v => v.category).sum ≤ 8) (hdg : decode cc pc = .ok (.invokevirtual index, 3)) (kx : ∀ e, z = .inl e → ps_VX G nL (kc + mc1) (ks + ms1) w S pc lv rest e) (kk : ∀ r S', z = .inr (r, S') → ps_V G nL (kc + mc1) (ks + ms1) w S' (pc + 3) lv (.int r :: rest)) : ps_V G nL kc ks w S pc lv st := fun H locs ls hP hD hS hi hl => by
  subst hst
  have hG := hX.1
  have hFc := ps_fr hG hD hS
  obtain ⟨-, hH0, hXW, hst, htab⟩ := hX
  obtain ⟨⟨hx, hb, hml, hown, hts⟩, hK, hA, hRR⟩ := id hG
  subst hRR
  have hat := ps_ws_at (I := G.2.2.1.2) (S := S) hk
  rw [hc] at hat
  refine vx_calli (vx_runV (As := As) (rest := rest) ⟨hx, hb, hml, hown, hts⟩ (hM G.2.2.1.1 G.2.2.1.2 H.size) (cwV nA hts hg hw hz.1 hz.2 hd hR) ⟨ps_blindX, va_recv hK hP hcl hat, fun U hU hW => ⟨rfl, ⟨by rw [hU], by rw [hU]; exact hP, va_K.moved hW.alike hK, hD.weaken (fun _ _ _ _ => trivial), hi⟩, ps_XW_go hW hXW (fun a9 h1 h2 => by rw [hU]; rw [hH0] at hS; exact hS.2.1 a9 h1 h2) (fun q hq => hFc q hq)⟩⟩ rfl hnA hl.1 rfl (lv_room hrm) hdg ⟨hR9.1, hR9.2⟩) hS (fun q _ h => hFc q h) hFc (fun q _ h => hFc q h) (fun E ce q9 u t H1 locs1 ht hvm hu hBX hz1 hk1 hS1 hce hcv hcl9 => ?_) (fun r u t H1 locs1 ht hvm hw2 hB hz1 hk1 hS1 => ?_)
  · obtain ⟨rfl, hP1, hK1, hD1, hi1⟩ := hBX
    rw [ht] at hP1
    exact kx u hu H1 locs1 ls q9 ce hP1 (hD1.weaken (fun k9 q _ h => hFc q.1 h)) hS1 hi1 hl hce hcv hcl9
  · obtain ⟨hP1, hK1, hD1, hi1⟩ := hB
    rw [ht] at hP1
    exact kk r u hw2 H1 locs1 ls hP1 (hD1.weaken (fun k q _ h => hFc q.1 h)) hS1 hi1 hl
theorem ps_lcatch (hX : ps_okL G cc own nL Ts R hh) {e a b hp ct : Nat} {name : String} (pre suf : List (Nat × Nat × Nat × Nat)) (hsplit : hh = pre ++ (a, b, hp, ct) :: suf) (nms : List String) (hpass : ∀ (i : Nat) (q : Nat × Nat × Nat × Nat), pre[i]? = some q → q.2.2.2 ≠ 0 ∧ ∃ nm, nms[i]? = some nm ∧ Cond.classLink own q.2.2.2 nm ∈ Ts ∧ (ps_E e, nm) ∈ ps_nc) (hx : covers (⟨a, b, hp, ct⟩ : ExceptionTableEntry) pc = true) (h0 : ct ≠ 0) (hlink : Cond.classLink own ct name ∈ Ts) (hcast : Cond.castable (ps_E e) name ∈ ps_nw) (kk : ∀ q, ps_V G nL kc ks w S hp lv [.ref q]) : ps_VX G nL kc ks w S pc lv rest e := fun H locs ls q ce hP hD hS hi hl hce hcv hcl => by
  obtain ⟨hG, hH0, hXW, hst, htab⟩ := hX
  obtain ⟨⟨hx9, hb, hml, hown, hts⟩, hK, hA, hRR⟩ := id hG
  refine vx_catch hown (tableOf pre) ⟨a, b, hp, ct⟩ (tableOf suf) (by rw [htab, hsplit]; simp [tableOf]) (fun z hz => ?_) hx h0 (hts _ hlink) (va_Nw.use rfl (hXW.2.2.2.1 _ hcast)) hce hcv hcl (kk q H locs ls hP hD hS hi hl)
  obtain ⟨i, hi9⟩ := List.mem_iff_getElem?.mp hz
  simp only [tableOf, List.getElem?_map] at hi9
  cases hq : pre[i]? with
  | none => rw [hq] at hi9; cases hi9
  | some q9 =>
    rw [hq] at hi9
    cases hi9
    obtain ⟨z0, nm, z1, z2, z3⟩ := hpass i q9 hq
    exact Or.inr ⟨z0, nm, hts _ z2, hXW.2.2.2.2 _ z3⟩
theorem ps_last (hG : ps_ok G cc own nL Ts R) {x : Int64} {v : Int32} (hk : 102 < w.1) (hx : x = v.toInt64) (hdg : decode cc pc = .ok (.lastore, 1)) (kk : ps_V G nL kc ks w (ps_up S 102 0 v) (pc + 1) lv rest) : ps_V G nL kc ks w S pc lv (.long x :: .int 0 :: .ref (w.2.1 102) :: rest) := fun H locs ls hP hD hS hi hl => by
  have hat := ps_ws_at (I := G.2.2.1.2) (S := S) hk
  rw [ps_cel_4 ps_q102.1, ps_q102.2.1] at hat
  refine va_last hG.1.1 hG.1.2.1 hG.2.1 hP hD hS 102 4 hat rfl (ps_ib_in (by decide)) hdg (fun H1 locs1 hP1 hD1 hS1 => ?_)
  have e : (ps_ws G.2.2.1.2 w S).set 102 (w.2.1 102, .inl (G.2.2.1.2.2.2.2.2, 1, .inr (.inl (vp_updL (fun i => (S 102 i).toInt64) (0 : Int32).toNatClampNeg x)))) = ps_ws G.2.2.1.2 w (ps_up S 102 0 v) := by
    have e2 : (.inl (G.2.2.1.2.2.2.2.2, 1, .inr (.inl (vp_updL (fun i => (S 102 i).toInt64) (0 : Int32).toNatClampNeg x))) : va_E) = ps_cel G.2.2.1.2 w (ps_up S 102 0 v 102) 102 := by
      rw [ps_cel_4 ps_q102.1, ps_q102.2.1]
      congr 5
      funext i
      show (if i = 0 then x else (S 102 i).toInt64) = (ps_up S 102 0 v 102 i).toInt64
      by_cases hi0 : i = 0
      · subst hi0; simp [ps_up, hx]
      · simp [ps_up, hi0]
    rw [e2]
    exact ps_ws_set rfl (ps_up_off S 102 0 v)
  rw [e] at hP1 hD1
  exact kk H1 locs1 ls hP1 hD1 hS1 (ps_inv_up hi (by decide)) hl
theorem ps_lald (hG : ps_ok G cc own nL Ts R) (hk : 102 < w.1) (hdg : decode cc pc = .ok (.laload, 1)) (kk : ps_V G nL kc ks w S (pc + 1) lv (.long (S 102 0).toInt64 :: rest)) : ps_V G nL kc ks w S pc lv (.int 0 :: .ref (w.2.1 102) :: rest) := fun H locs ls hP hD hS hi hl => by
  have hat := ps_ws_at (I := G.2.2.1.2) (S := S) hk
  rw [ps_cel_4 ps_q102.1, ps_q102.2.1] at hat
  exact va_lald hG.1.1 hG.1.2.1 hG.2.1 hP 102 4 hat rfl (ps_ib_in (by decide)) hdg (kk H locs ls hP hD hS hi hl)
end PLW
theorem ps_mkL {l : Launch} (hflags : l.stackTraces = false) {y : MethodName} {cc : ByteArray} {maxL : Nat} {ws ws' : List Cond} {rm : Room} {own : String} {w : ps_X} {av : List Value} {lv0 : List (Nat × Value)} {S S' : ps_S} {r : Int32} {mc ms : Nat} {hh : List (Nat × Nat × Nat × Nat)} (hy : plainName y.cls = true) (hw : ws = Cond.codeWith y cc maxL (some .int) hh :: ws') (hyc : y.cls = own) (hlen : (lg_sl av).length ≤ maxL) (hlv : lv_args 0 av = lv0)
    (walk : ∀ (G : ps_G), G.1.2.1 = l → ps_okL G cc own maxL ws rm hh → (∀ pc lv kc ks, kc ≤ mc → ks ≤ ms → decode cc pc = .ok (.ireturn, 1) → ps_V G maxL kc ks w S' pc lv [.int r]) → ps_V G maxL 0 0 w S 0 lv0 []) : ps_ML l y ws rm w av S S' r mc ms := by
  intro D I sz
  refine vx_ofWH (cc := cc) (maxL := maxL) (ret := some .int) (hh := hh) hy hw ?_
  intro p e s m args below meth c s₁ B hml hv
  obtain ⟨rfl, ⟨hsz, hP, hK, hD0, hi⟩, hXW⟩ := hv
  have hx := B.exec
  have hb := B.bytes
  have hr := B.returns
  have hts := atoms_spec (ws := ws) B.pre
  have hown : s.vm.findClass own = some m.cls := hyc ▸ findClass_of_methodNamed B.named
  have hlocks := B.notSynchronized
  have htab := vx_table (x := y) B (hts (Cond.codeWith y cc maxL (some .int) hh) (by rw [hw]; exact List.mem_cons_self))
  subst hsz
  have hD := hD0.self (sz := s.heap.size)
  have hl := lv_entry av (n := maxL) hlen
  rw [lg_entry_eq]
  generalize (lg_sl av ++ List.replicate (maxL - (lg_sl av).length) Slot.unset).toArray = ls at hl ⊢
  rw [hlv] at hl
  refine walk ((p, l, e, rm, s), (m, av.toArray, below, meth, c), (D, I), (va_A (ps_ws I w S) s.heap.size, s.heap, _)) rfl ⟨⟨⟨hx, hb, hml, hown, hts⟩, hK, fun q h => Or.inr h, rfl⟩, rfl, hXW, hflags, htab⟩ ?_ s.heap [] ls hP hD va_S.rf hi hl
  intro pc lv kc ks h1 h2 hd H locs ls hP9 hD9 hS9 hi9 hl9
  refine W.widen h1 h2 (vx_ret ?_)
  exact W.iret (v := r) hx hb hr (fun t ht hW => ⟨⟨r, (), rfl, rfl, by rw [ht]; exact hP9, va_K.moved hW.alike hK, hD9, hi9⟩, hS9.F ht⟩) hS9.2.2 hd
def f_L_peer (S : ps_S) (p1 : Int32) (p2 : Int32) (p3 : Int32) : Option (Int32 × ps_S) := ps_lr (f_X10_peer S p1 p2 p3) S [0, 1, 2] (fun r => r)
theorem mL_peer_k13 : Cond.classLink RL 13 "java/lang/IllegalArgumentException" ∈ wsL_peer := List.mem_of_getElem? (i := 1) rfl
theorem mL_peer_k15 : Cond.classLink RL 15 "java/lang/IndexOutOfBoundsException" ∈ wsL_peer := List.mem_of_getElem? (i := 2) rfl
theorem mL_peer_k17 : Cond.classLink RL 17 "java/lang/IllegalStateException" ∈ wsL_peer := List.mem_of_getElem? (i := 3) rfl
set_option maxHeartbeats 4000000 in
set_option maxRecDepth 100000 in
theorem c_L_peer (l : Launch) (hflags : l.stackTraces = false) {w : ps_X} (hw : ps_ww w) {S S' : ps_S} {p1 p2 p3 : Int32} {r : Int32} (h : f_L_peer S p1 p2 p3 = some (r, S')) : ps_ML l yL_peer wsL_peer (ps_rx 8 4 24 157) w [.ref (w.2.1 0), .int p1, .int p2, .int p3, .ref (w.2.1 102)] S S' r 4 24 := by
  refine ps_mkL hflags (cc := cL_peer) (maxL := 6) (own := RL) (by decide +kernel) rfl rfl (Nat.le_of_ble_eq_true rfl) rfl (fun G hl hX hret => ?_)
  have hG := hX.1
  obtain ⟨z, hz, h1, h2⟩ := ps_dlr h
  refine ps_aload hG dL_peer_0 4 rfl ?_
  refine ps_iconst (v := 0) hG dL_peer_2 (by decide) ?_
  refine ps_aload_n hG dL_peer_3 rfl 0 rfl ?_
  refine ps_iload_n hG dL_peer_4 rfl 1 rfl ?_
  refine ps_iload_n hG dL_peer_5 rfl 2 rfl ?_
  refine ps_iload_n hG dL_peer_6 rfl 3 rfl ?_
  refine ps_lcall (As := [.int p1, .int p2, .int p3]) (rest := [.int 0, .ref (w.2.1 102)]) (nA := 3) hX (c_X10_peer _ hX.2.2.2.1 hw hz) gL_peer_X10_peer rfl (by decide +kernel) rfl ⟨(Nat.le_of_ble_eq_true rfl), (Nat.le_of_ble_eq_true rfl)⟩ ⟨rfl, rfl⟩ ⟨(Nat.le_of_ble_eq_true rfl), (Nat.le_of_ble_eq_true rfl)⟩ (ps_lt hw ps_q0.2.2.1) (ps_cel_19 ps_q0.1 _) rfl rfl (Nat.le_of_ble_eq_true rfl) dL_peer_7 (fun e he => ?_) (fun r1 S1 he => ?_)
  · obtain ⟨hk9, rfl⟩ := h1 e he
    simp only [ps_pos] at hk9
    by_cases c0 : e = 0
    · subst c0
      have hk8 : r = 1 := by simp at hk9; exact hk9.symm
      subst hk8
      refine ps_lcatch hX [] [(0, 12, 19, 15), (0, 12, 23, 17)] rfl [] (fun i q hq => by cases hq) rfl (by decide) mL_peer_k13 (by decide) (fun q => ?_)
      refine ps_astore (lv' := [(5, .ref q), (0, .ref (w.2.1 0)), (1, .int p1), (2, .int p2), (3, .int p3), (4, .ref (w.2.1 102))]) hG dL_peer_15 (by decide) rfl ?_
      refine ps_iconst (v := 1) hG dL_peer_17 (by decide) ?_
      exact hret _ _ _ _ (Nat.le_of_ble_eq_true rfl) (Nat.le_of_ble_eq_true rfl) dL_peer_18
    by_cases c1 : e = 1
    · subst c1
      have hk8 : r = 2 := by simp at hk9; exact hk9.symm
      subst hk8
      refine ps_lcatch hX [(0, 12, 15, 13)] [(0, 12, 23, 17)] rfl ["java/lang/IllegalArgumentException"] (fun i q hq => by
        match i, hq with
        | 0, hq => cases hq; exact ⟨by decide, "java/lang/IllegalArgumentException", rfl, mL_peer_k13, by decide⟩
        | i + 1, hq => cases hq) rfl (by decide) mL_peer_k15 (by decide) (fun q => ?_)
      refine ps_astore (lv' := [(5, .ref q), (0, .ref (w.2.1 0)), (1, .int p1), (2, .int p2), (3, .int p3), (4, .ref (w.2.1 102))]) hG dL_peer_19 (by decide) rfl ?_
      refine ps_iconst (v := 2) hG dL_peer_21 (by decide) ?_
      exact hret _ _ _ _ (Nat.le_of_ble_eq_true rfl) (Nat.le_of_ble_eq_true rfl) dL_peer_22
    by_cases c2 : e = 2
    · subst c2
      have hk8 : r = 3 := by simp at hk9; exact hk9.symm
      subst hk8
      refine ps_lcatch hX [(0, 12, 15, 13), (0, 12, 19, 15)] [] rfl ["java/lang/IllegalArgumentException", "java/lang/IndexOutOfBoundsException"] (fun i q hq => by
        match i, hq with
        | 0, hq => cases hq; exact ⟨by decide, "java/lang/IllegalArgumentException", rfl, mL_peer_k13, by decide⟩
        | 1, hq => cases hq; exact ⟨by decide, "java/lang/IndexOutOfBoundsException", rfl, mL_peer_k15, by decide⟩
        | i + 2, hq => cases hq) rfl (by decide) mL_peer_k17 (by decide) (fun q => ?_)
      refine ps_astore (lv' := [(5, .ref q), (0, .ref (w.2.1 0)), (1, .int p1), (2, .int p2), (3, .int p3), (4, .ref (w.2.1 102))]) hG dL_peer_23 (by decide) rfl ?_
      refine ps_iconst (v := 3) hG dL_peer_25 (by decide) ?_
      exact hret _ _ _ _ (Nat.le_of_ble_eq_true rfl) (Nat.le_of_ble_eq_true rfl) dL_peer_26
    simp [c0, c1, c2] at hk9
  · obtain ⟨rfl, rfl⟩ := h2 r1 S1 he
    refine ps_i2l hG dL_peer_10 rfl ?_
    refine ps_last (v := r1) hG (ps_lt hw ps_q102.2.2.1) rfl dL_peer_11 ?_
    refine ps_goto (tgt := 27) hG dL_peer_12 (by decide) ?_
    refine ps_iconst (v := 0) hG dL_peer_27 (by decide) ?_
    exact hret _ _ _ _ (Nat.le_of_ble_eq_true rfl) (Nat.le_of_ble_eq_true rfl) dL_peer_28
def f_L_turn (S : ps_S) (p1 : Int32) (p2 : Int32) : Option (Int32 × ps_S) := ps_lr (f_X10_turn S p1 p2) S [1] ps_nz
theorem mL_turn_k15 : Cond.classLink RL 15 "java/lang/IndexOutOfBoundsException" ∈ wsL_turn := List.mem_of_getElem? (i := 1) rfl
set_option maxHeartbeats 4000000 in
set_option maxRecDepth 100000 in
theorem c_L_turn (l : Launch) (hflags : l.stackTraces = false) {w : ps_X} (hw : ps_ww w) {S S' : ps_S} {p1 p2 : Int32} {r : Int32} (h : f_L_turn S p1 p2 = some (r, S')) : ps_ML l yL_turn wsL_turn (ps_rx 8 1 6 134) w [.ref (w.2.1 0), .int p1, .int p2, .ref (w.2.1 102)] S S' r 1 6 := by
  refine ps_mkL hflags (cc := cL_turn) (maxL := 5) (own := RL) (by decide +kernel) rfl rfl (Nat.le_of_ble_eq_true rfl) rfl (fun G hl hX hret => ?_)
  have hG := hX.1
  obtain ⟨z, hz, h1, h2⟩ := ps_dlr h
  refine ps_aload_n hG dL_turn_0 rfl 3 rfl ?_
  refine ps_iconst (v := 0) hG dL_turn_1 (by decide) ?_
  refine ps_aload_n hG dL_turn_2 rfl 0 rfl ?_
  refine ps_iload_n hG dL_turn_3 rfl 1 rfl ?_
  refine ps_iload_n hG dL_turn_4 rfl 2 rfl ?_
  refine ps_lcall (As := [.int p1, .int p2]) (rest := [.int 0, .ref (w.2.1 102)]) (nA := 2) hX (c_X10_turn _ hX.2.2.2.1 hw hz) gL_turn_X10_turn rfl (by decide +kernel) rfl ⟨(Nat.le_of_ble_eq_true rfl), (Nat.le_of_ble_eq_true rfl)⟩ ⟨rfl, rfl⟩ ⟨(Nat.le_of_ble_eq_true rfl), (Nat.le_of_ble_eq_true rfl)⟩ (ps_lt hw ps_q0.2.2.1) (ps_cel_19 ps_q0.1 _) rfl rfl (Nat.le_of_ble_eq_true rfl) dL_turn_5 (fun e he => ?_) (fun r1 S1 he => ?_)
  · obtain ⟨hk9, rfl⟩ := h1 e he
    simp only [ps_pos] at hk9
    by_cases c0 : e = 1
    · subst c0
      have hk8 : r = 1 := by simp at hk9; exact hk9.symm
      subst hk8
      refine ps_lcatch hX [] [] rfl [] (fun i q hq => by cases hq) rfl (by decide) mL_turn_k15 (by decide) (fun q => ?_)
      refine ps_astore (lv' := [(4, .ref q), (0, .ref (w.2.1 0)), (1, .int p1), (2, .int p2), (3, .ref (w.2.1 102))]) hG dL_turn_20 (by decide) rfl ?_
      refine ps_iconst (v := 1) hG dL_turn_22 (by decide) ?_
      exact hret _ _ _ _ (Nat.le_of_ble_eq_true rfl) (Nat.le_of_ble_eq_true rfl) dL_turn_23
    simp [c0] at hk9
  · obtain ⟨rfl, rfl⟩ := h2 r1 S1 he
    refine ps_if_eq (tgt := 15) hG dL_turn_8 (by decide) (fun c9 => ?_) (fun c9 => ?_)
    · refine ps_lconst (v := 0) hG dL_turn_15 (by decide) ?_
      refine ps_last (v := ps_nz r1) hG (ps_lt hw ps_q102.2.2.1) (by rw [ps_nz, if_pos c9]; rfl) dL_turn_16 ?_
      refine ps_goto (tgt := 24) hG dL_turn_17 (by decide) ?_
      refine ps_iconst (v := 0) hG dL_turn_24 (by decide) ?_
      exact hret _ _ _ _ (Nat.le_of_ble_eq_true rfl) (Nat.le_of_ble_eq_true rfl) dL_turn_25
    · refine ps_lconst (v := 1) hG dL_turn_11 (by decide) ?_
      refine ps_goto (tgt := 16) hG dL_turn_12 (by decide) ?_
      refine ps_last (v := ps_nz r1) hG (ps_lt hw ps_q102.2.2.1) (by rw [ps_nz, if_neg c9]; rfl) dL_turn_16 ?_
      refine ps_goto (tgt := 24) hG dL_turn_17 (by decide) ?_
      refine ps_iconst (v := 0) hG dL_turn_24 (by decide) ?_
      exact hret _ _ _ _ (Nat.le_of_ble_eq_true rfl) (Nat.le_of_ble_eq_true rfl) dL_turn_25
def f_L_bucket (S : ps_S) (p1 : Int32) (p2 : Int32) (p3 : Int32) : Option (Int32 × ps_S) := ps_lr (f_X10_bucket S p1 p2 p3) S [1, 0] (fun r => r)
theorem mL_bucket_k15 : Cond.classLink RL 15 "java/lang/IndexOutOfBoundsException" ∈ wsL_bucket := List.mem_of_getElem? (i := 1) rfl
theorem mL_bucket_k13 : Cond.classLink RL 13 "java/lang/IllegalArgumentException" ∈ wsL_bucket := List.mem_of_getElem? (i := 2) rfl
set_option maxHeartbeats 4000000 in
set_option maxRecDepth 100000 in
theorem c_L_bucket (l : Launch) (hflags : l.stackTraces = false) {w : ps_X} (hw : ps_ww w) {S S' : ps_S} {p1 p2 p3 : Int32} {r : Int32} (h : f_L_bucket S p1 p2 p3 = some (r, S')) : ps_ML l yL_bucket wsL_bucket (ps_rx 8 2 12 134) w [.ref (w.2.1 0), .int p1, .int p2, .int p3, .ref (w.2.1 102)] S S' r 2 12 := by
  refine ps_mkL hflags (cc := cL_bucket) (maxL := 6) (own := RL) (by decide +kernel) rfl rfl (Nat.le_of_ble_eq_true rfl) rfl (fun G hl hX hret => ?_)
  have hG := hX.1
  obtain ⟨z, hz, h1, h2⟩ := ps_dlr h
  refine ps_aload hG dL_bucket_0 4 rfl ?_
  refine ps_iconst (v := 0) hG dL_bucket_2 (by decide) ?_
  refine ps_aload_n hG dL_bucket_3 rfl 0 rfl ?_
  refine ps_iload_n hG dL_bucket_4 rfl 1 rfl ?_
  refine ps_iload_n hG dL_bucket_5 rfl 2 rfl ?_
  refine ps_iload_n hG dL_bucket_6 rfl 3 rfl ?_
  refine ps_lcall (As := [.int p1, .int p2, .int p3]) (rest := [.int 0, .ref (w.2.1 102)]) (nA := 3) hX (c_X10_bucket _ hX.2.2.2.1 hw hz) gL_bucket_X10_bucket rfl (by decide +kernel) rfl ⟨(Nat.le_of_ble_eq_true rfl), (Nat.le_of_ble_eq_true rfl)⟩ ⟨rfl, rfl⟩ ⟨(Nat.le_of_ble_eq_true rfl), (Nat.le_of_ble_eq_true rfl)⟩ (ps_lt hw ps_q0.2.2.1) (ps_cel_19 ps_q0.1 _) rfl rfl (Nat.le_of_ble_eq_true rfl) dL_bucket_7 (fun e he => ?_) (fun r1 S1 he => ?_)
  · obtain ⟨hk9, rfl⟩ := h1 e he
    simp only [ps_pos] at hk9
    by_cases c0 : e = 1
    · subst c0
      have hk8 : r = 1 := by simp at hk9; exact hk9.symm
      subst hk8
      refine ps_lcatch hX [] [(0, 12, 19, 13)] rfl [] (fun i q hq => by cases hq) rfl (by decide) mL_bucket_k15 (by decide) (fun q => ?_)
      refine ps_astore (lv' := [(5, .ref q), (0, .ref (w.2.1 0)), (1, .int p1), (2, .int p2), (3, .int p3), (4, .ref (w.2.1 102))]) hG dL_bucket_15 (by decide) rfl ?_
      refine ps_iconst (v := 1) hG dL_bucket_17 (by decide) ?_
      exact hret _ _ _ _ (Nat.le_of_ble_eq_true rfl) (Nat.le_of_ble_eq_true rfl) dL_bucket_18
    by_cases c1 : e = 0
    · subst c1
      have hk8 : r = 2 := by simp at hk9; exact hk9.symm
      subst hk8
      refine ps_lcatch hX [(0, 12, 15, 15)] [] rfl ["java/lang/IndexOutOfBoundsException"] (fun i q hq => by
        match i, hq with
        | 0, hq => cases hq; exact ⟨by decide, "java/lang/IndexOutOfBoundsException", rfl, mL_bucket_k15, by decide⟩
        | i + 1, hq => cases hq) rfl (by decide) mL_bucket_k13 (by decide) (fun q => ?_)
      refine ps_astore (lv' := [(5, .ref q), (0, .ref (w.2.1 0)), (1, .int p1), (2, .int p2), (3, .int p3), (4, .ref (w.2.1 102))]) hG dL_bucket_19 (by decide) rfl ?_
      refine ps_iconst (v := 2) hG dL_bucket_21 (by decide) ?_
      exact hret _ _ _ _ (Nat.le_of_ble_eq_true rfl) (Nat.le_of_ble_eq_true rfl) dL_bucket_22
    simp [c0, c1] at hk9
  · obtain ⟨rfl, rfl⟩ := h2 r1 S1 he
    refine ps_i2l hG dL_bucket_10 rfl ?_
    refine ps_last (v := r1) hG (ps_lt hw ps_q102.2.2.1) rfl dL_bucket_11 ?_
    refine ps_goto (tgt := 23) hG dL_bucket_12 (by decide) ?_
    refine ps_iconst (v := 0) hG dL_bucket_23 (by decide) ?_
    exact hret _ _ _ _ (Nat.le_of_ble_eq_true rfl) (Nat.le_of_ble_eq_true rfl) dL_bucket_24
def f_L_lookup (S : ps_S) (p1 : Int32) (p2 : Int32) (p3 : Int32) : Option (Int32 × ps_S) := ps_lr (f_X10_lookup S p1 p2 p3) S [1, 0, 2] (fun r => r)
theorem mL_lookup_k15 : Cond.classLink RL 15 "java/lang/IndexOutOfBoundsException" ∈ wsL_lookup := List.mem_of_getElem? (i := 1) rfl
theorem mL_lookup_k13 : Cond.classLink RL 13 "java/lang/IllegalArgumentException" ∈ wsL_lookup := List.mem_of_getElem? (i := 2) rfl
theorem mL_lookup_k17 : Cond.classLink RL 17 "java/lang/IllegalStateException" ∈ wsL_lookup := List.mem_of_getElem? (i := 3) rfl
set_option maxHeartbeats 4000000 in
set_option maxRecDepth 100000 in
theorem c_L_lookup (l : Launch) (hflags : l.stackTraces = false) {w : ps_X} (hw : ps_ww w) {S S' : ps_S} {p1 p2 p3 : Int32} {r : Int32} (h : f_L_lookup S p1 p2 p3 = some (r, S')) : ps_ML l yL_lookup wsL_lookup (ps_rx 8 3 18 156) w [.ref (w.2.1 0), .int p1, .int p2, .int p3, .ref (w.2.1 102)] S S' r 3 18 := by
  refine ps_mkL hflags (cc := cL_lookup) (maxL := 6) (own := RL) (by decide +kernel) rfl rfl (Nat.le_of_ble_eq_true rfl) rfl (fun G hl hX hret => ?_)
  have hG := hX.1
  obtain ⟨z, hz, h1, h2⟩ := ps_dlr h
  refine ps_aload hG dL_lookup_0 4 rfl ?_
  refine ps_iconst (v := 0) hG dL_lookup_2 (by decide) ?_
  refine ps_aload_n hG dL_lookup_3 rfl 0 rfl ?_
  refine ps_iload_n hG dL_lookup_4 rfl 1 rfl ?_
  refine ps_iload_n hG dL_lookup_5 rfl 2 rfl ?_
  refine ps_iload_n hG dL_lookup_6 rfl 3 rfl ?_
  refine ps_lcall (As := [.int p1, .int p2, .int p3]) (rest := [.int 0, .ref (w.2.1 102)]) (nA := 3) hX (c_X10_lookup _ hX.2.2.2.1 hw hz) gL_lookup_X10_lookup rfl (by decide +kernel) rfl ⟨(Nat.le_of_ble_eq_true rfl), (Nat.le_of_ble_eq_true rfl)⟩ ⟨rfl, rfl⟩ ⟨(Nat.le_of_ble_eq_true rfl), (Nat.le_of_ble_eq_true rfl)⟩ (ps_lt hw ps_q0.2.2.1) (ps_cel_19 ps_q0.1 _) rfl rfl (Nat.le_of_ble_eq_true rfl) dL_lookup_7 (fun e he => ?_) (fun r1 S1 he => ?_)
  · obtain ⟨hk9, rfl⟩ := h1 e he
    simp only [ps_pos] at hk9
    by_cases c0 : e = 1
    · subst c0
      have hk8 : r = 1 := by simp at hk9; exact hk9.symm
      subst hk8
      refine ps_lcatch hX [] [(0, 12, 19, 13), (0, 12, 23, 17)] rfl [] (fun i q hq => by cases hq) rfl (by decide) mL_lookup_k15 (by decide) (fun q => ?_)
      refine ps_astore (lv' := [(5, .ref q), (0, .ref (w.2.1 0)), (1, .int p1), (2, .int p2), (3, .int p3), (4, .ref (w.2.1 102))]) hG dL_lookup_15 (by decide) rfl ?_
      refine ps_iconst (v := 1) hG dL_lookup_17 (by decide) ?_
      exact hret _ _ _ _ (Nat.le_of_ble_eq_true rfl) (Nat.le_of_ble_eq_true rfl) dL_lookup_18
    by_cases c1 : e = 0
    · subst c1
      have hk8 : r = 2 := by simp at hk9; exact hk9.symm
      subst hk8
      refine ps_lcatch hX [(0, 12, 15, 15)] [(0, 12, 23, 17)] rfl ["java/lang/IndexOutOfBoundsException"] (fun i q hq => by
        match i, hq with
        | 0, hq => cases hq; exact ⟨by decide, "java/lang/IndexOutOfBoundsException", rfl, mL_lookup_k15, by decide⟩
        | i + 1, hq => cases hq) rfl (by decide) mL_lookup_k13 (by decide) (fun q => ?_)
      refine ps_astore (lv' := [(5, .ref q), (0, .ref (w.2.1 0)), (1, .int p1), (2, .int p2), (3, .int p3), (4, .ref (w.2.1 102))]) hG dL_lookup_19 (by decide) rfl ?_
      refine ps_iconst (v := 2) hG dL_lookup_21 (by decide) ?_
      exact hret _ _ _ _ (Nat.le_of_ble_eq_true rfl) (Nat.le_of_ble_eq_true rfl) dL_lookup_22
    by_cases c2 : e = 2
    · subst c2
      have hk8 : r = 3 := by simp at hk9; exact hk9.symm
      subst hk8
      refine ps_lcatch hX [(0, 12, 15, 15), (0, 12, 19, 13)] [] rfl ["java/lang/IndexOutOfBoundsException", "java/lang/IllegalArgumentException"] (fun i q hq => by
        match i, hq with
        | 0, hq => cases hq; exact ⟨by decide, "java/lang/IndexOutOfBoundsException", rfl, mL_lookup_k15, by decide⟩
        | 1, hq => cases hq; exact ⟨by decide, "java/lang/IllegalArgumentException", rfl, mL_lookup_k13, by decide⟩
        | i + 2, hq => cases hq) rfl (by decide) mL_lookup_k17 (by decide) (fun q => ?_)
      refine ps_astore (lv' := [(5, .ref q), (0, .ref (w.2.1 0)), (1, .int p1), (2, .int p2), (3, .int p3), (4, .ref (w.2.1 102))]) hG dL_lookup_23 (by decide) rfl ?_
      refine ps_iconst (v := 3) hG dL_lookup_25 (by decide) ?_
      exact hret _ _ _ _ (Nat.le_of_ble_eq_true rfl) (Nat.le_of_ble_eq_true rfl) dL_lookup_26
    simp [c0, c1, c2] at hk9
  · obtain ⟨rfl, rfl⟩ := h2 r1 S1 he
    refine ps_i2l hG dL_lookup_10 rfl ?_
    refine ps_last (v := r1) hG (ps_lt hw ps_q102.2.2.1) rfl dL_lookup_11 ?_
    refine ps_goto (tgt := 27) hG dL_lookup_12 (by decide) ?_
    refine ps_iconst (v := 0) hG dL_lookup_27 (by decide) ?_
    exact hret _ _ _ _ (Nat.le_of_ble_eq_true rfl) (Nat.le_of_ble_eq_true rfl) dL_lookup_28
def f_L_closest (S : ps_S) (p1 : Int32) (p2 : Int32) : Option (Int32 × ps_S) := ps_lr (f_X10_closest S p1 p2) S [1, 0] (fun r => r)
theorem mL_closest_k15 : Cond.classLink RL 15 "java/lang/IndexOutOfBoundsException" ∈ wsL_closest := List.mem_of_getElem? (i := 1) rfl
theorem mL_closest_k13 : Cond.classLink RL 13 "java/lang/IllegalArgumentException" ∈ wsL_closest := List.mem_of_getElem? (i := 2) rfl
set_option maxHeartbeats 4000000 in
set_option maxRecDepth 100000 in
theorem c_L_closest (l : Launch) (hflags : l.stackTraces = false) {w : ps_X} (hw : ps_ww w) {S S' : ps_S} {p1 p2 : Int32} {r : Int32} (h : f_L_closest S p1 p2 = some (r, S')) : ps_ML l yL_closest wsL_closest (ps_rx 8 2 12 134) w [.ref (w.2.1 0), .int p1, .int p2, .ref (w.2.1 102)] S S' r 2 12 := by
  refine ps_mkL hflags (cc := cL_closest) (maxL := 5) (own := RL) (by decide +kernel) rfl rfl (Nat.le_of_ble_eq_true rfl) rfl (fun G hl hX hret => ?_)
  have hG := hX.1
  obtain ⟨z, hz, h1, h2⟩ := ps_dlr h
  refine ps_aload_n hG dL_closest_0 rfl 3 rfl ?_
  refine ps_iconst (v := 0) hG dL_closest_1 (by decide) ?_
  refine ps_aload_n hG dL_closest_2 rfl 0 rfl ?_
  refine ps_iload_n hG dL_closest_3 rfl 1 rfl ?_
  refine ps_iload_n hG dL_closest_4 rfl 2 rfl ?_
  refine ps_lcall (As := [.int p1, .int p2]) (rest := [.int 0, .ref (w.2.1 102)]) (nA := 2) hX (c_X10_closest _ hX.2.2.2.1 hw hz) gL_closest_X10_closest rfl (by decide +kernel) rfl ⟨(Nat.le_of_ble_eq_true rfl), (Nat.le_of_ble_eq_true rfl)⟩ ⟨rfl, rfl⟩ ⟨(Nat.le_of_ble_eq_true rfl), (Nat.le_of_ble_eq_true rfl)⟩ (ps_lt hw ps_q0.2.2.1) (ps_cel_19 ps_q0.1 _) rfl rfl (Nat.le_of_ble_eq_true rfl) dL_closest_5 (fun e he => ?_) (fun r1 S1 he => ?_)
  · obtain ⟨hk9, rfl⟩ := h1 e he
    simp only [ps_pos] at hk9
    by_cases c0 : e = 1
    · subst c0
      have hk8 : r = 1 := by simp at hk9; exact hk9.symm
      subst hk8
      refine ps_lcatch hX [] [(0, 10, 17, 13)] rfl [] (fun i q hq => by cases hq) rfl (by decide) mL_closest_k15 (by decide) (fun q => ?_)
      refine ps_astore (lv' := [(4, .ref q), (0, .ref (w.2.1 0)), (1, .int p1), (2, .int p2), (3, .ref (w.2.1 102))]) hG dL_closest_13 (by decide) rfl ?_
      refine ps_iconst (v := 1) hG dL_closest_15 (by decide) ?_
      exact hret _ _ _ _ (Nat.le_of_ble_eq_true rfl) (Nat.le_of_ble_eq_true rfl) dL_closest_16
    by_cases c1 : e = 0
    · subst c1
      have hk8 : r = 2 := by simp at hk9; exact hk9.symm
      subst hk8
      refine ps_lcatch hX [(0, 10, 13, 15)] [] rfl ["java/lang/IndexOutOfBoundsException"] (fun i q hq => by
        match i, hq with
        | 0, hq => cases hq; exact ⟨by decide, "java/lang/IndexOutOfBoundsException", rfl, mL_closest_k15, by decide⟩
        | i + 1, hq => cases hq) rfl (by decide) mL_closest_k13 (by decide) (fun q => ?_)
      refine ps_astore (lv' := [(4, .ref q), (0, .ref (w.2.1 0)), (1, .int p1), (2, .int p2), (3, .ref (w.2.1 102))]) hG dL_closest_17 (by decide) rfl ?_
      refine ps_iconst (v := 2) hG dL_closest_19 (by decide) ?_
      exact hret _ _ _ _ (Nat.le_of_ble_eq_true rfl) (Nat.le_of_ble_eq_true rfl) dL_closest_20
    simp [c0, c1] at hk9
  · obtain ⟨rfl, rfl⟩ := h2 r1 S1 he
    refine ps_i2l hG dL_closest_8 rfl ?_
    refine ps_last (v := r1) hG (ps_lt hw ps_q102.2.2.1) rfl dL_closest_9 ?_
    refine ps_goto (tgt := 21) hG dL_closest_10 (by decide) ?_
    refine ps_iconst (v := 0) hG dL_closest_21 (by decide) ?_
    exact hret _ _ _ _ (Nat.le_of_ble_eq_true rfl) (Nat.le_of_ble_eq_true rfl) dL_closest_22
def f_L_piece (S : ps_S) (p1 : Int32) (p2 : Int32) (p3 : Int32) : Option (Int32 × ps_S) := ps_lr (f_X10_piece S p1 p2 p3) S [1, 0] (fun r => r)
theorem mL_piece_k15 : Cond.classLink RL 15 "java/lang/IndexOutOfBoundsException" ∈ wsL_piece := List.mem_of_getElem? (i := 1) rfl
theorem mL_piece_k13 : Cond.classLink RL 13 "java/lang/IllegalArgumentException" ∈ wsL_piece := List.mem_of_getElem? (i := 2) rfl
set_option maxHeartbeats 4000000 in
set_option maxRecDepth 100000 in
theorem c_L_piece (l : Launch) (hflags : l.stackTraces = false) {w : ps_X} (hw : ps_ww w) {S S' : ps_S} {p1 p2 p3 : Int32} {r : Int32} (h : f_L_piece S p1 p2 p3 = some (r, S')) : ps_ML l yL_piece wsL_piece (ps_rx 8 3 18 136) w [.ref (w.2.1 0), .int p1, .int p2, .int p3, .ref (w.2.1 102)] S S' r 3 18 := by
  refine ps_mkL hflags (cc := cL_piece) (maxL := 6) (own := RL) (by decide +kernel) rfl rfl (Nat.le_of_ble_eq_true rfl) rfl (fun G hl hX hret => ?_)
  have hG := hX.1
  obtain ⟨z, hz, h1, h2⟩ := ps_dlr h
  refine ps_aload hG dL_piece_0 4 rfl ?_
  refine ps_iconst (v := 0) hG dL_piece_2 (by decide) ?_
  refine ps_aload_n hG dL_piece_3 rfl 0 rfl ?_
  refine ps_iload_n hG dL_piece_4 rfl 1 rfl ?_
  refine ps_iload_n hG dL_piece_5 rfl 2 rfl ?_
  refine ps_iload_n hG dL_piece_6 rfl 3 rfl ?_
  refine ps_lcall (As := [.int p1, .int p2, .int p3]) (rest := [.int 0, .ref (w.2.1 102)]) (nA := 3) hX (c_X10_piece _ hX.2.2.2.1 hw hz) gL_piece_X10_piece rfl (by decide +kernel) rfl ⟨(Nat.le_of_ble_eq_true rfl), (Nat.le_of_ble_eq_true rfl)⟩ ⟨rfl, rfl⟩ ⟨(Nat.le_of_ble_eq_true rfl), (Nat.le_of_ble_eq_true rfl)⟩ (ps_lt hw ps_q0.2.2.1) (ps_cel_19 ps_q0.1 _) rfl rfl (Nat.le_of_ble_eq_true rfl) dL_piece_7 (fun e he => ?_) (fun r1 S1 he => ?_)
  · obtain ⟨hk9, rfl⟩ := h1 e he
    simp only [ps_pos] at hk9
    by_cases c0 : e = 1
    · subst c0
      have hk8 : r = 1 := by simp at hk9; exact hk9.symm
      subst hk8
      refine ps_lcatch hX [] [(0, 12, 19, 13)] rfl [] (fun i q hq => by cases hq) rfl (by decide) mL_piece_k15 (by decide) (fun q => ?_)
      refine ps_astore (lv' := [(5, .ref q), (0, .ref (w.2.1 0)), (1, .int p1), (2, .int p2), (3, .int p3), (4, .ref (w.2.1 102))]) hG dL_piece_15 (by decide) rfl ?_
      refine ps_iconst (v := 1) hG dL_piece_17 (by decide) ?_
      exact hret _ _ _ _ (Nat.le_of_ble_eq_true rfl) (Nat.le_of_ble_eq_true rfl) dL_piece_18
    by_cases c1 : e = 0
    · subst c1
      have hk8 : r = 2 := by simp at hk9; exact hk9.symm
      subst hk8
      refine ps_lcatch hX [(0, 12, 15, 15)] [] rfl ["java/lang/IndexOutOfBoundsException"] (fun i q hq => by
        match i, hq with
        | 0, hq => cases hq; exact ⟨by decide, "java/lang/IndexOutOfBoundsException", rfl, mL_piece_k15, by decide⟩
        | i + 1, hq => cases hq) rfl (by decide) mL_piece_k13 (by decide) (fun q => ?_)
      refine ps_astore (lv' := [(5, .ref q), (0, .ref (w.2.1 0)), (1, .int p1), (2, .int p2), (3, .int p3), (4, .ref (w.2.1 102))]) hG dL_piece_19 (by decide) rfl ?_
      refine ps_iconst (v := 2) hG dL_piece_21 (by decide) ?_
      exact hret _ _ _ _ (Nat.le_of_ble_eq_true rfl) (Nat.le_of_ble_eq_true rfl) dL_piece_22
    simp [c0, c1] at hk9
  · obtain ⟨rfl, rfl⟩ := h2 r1 S1 he
    refine ps_i2l hG dL_piece_10 rfl ?_
    refine ps_last (v := r1) hG (ps_lt hw ps_q102.2.2.1) rfl dL_piece_11 ?_
    refine ps_goto (tgt := 23) hG dL_piece_12 (by decide) ?_
    refine ps_iconst (v := 0) hG dL_piece_23 (by decide) ?_
    exact hret _ _ _ _ (Nat.le_of_ble_eq_true rfl) (Nat.le_of_ble_eq_true rfl) dL_piece_24
def f_L_spoil (S : ps_S) (p1 : Int32) (p2 : Int32) : Option (Int32 × ps_S) := ps_lr (f_X10_spoil S p1 p2) S [1, 2] ps_nz
theorem mL_spoil_k15 : Cond.classLink RL 15 "java/lang/IndexOutOfBoundsException" ∈ wsL_spoil := List.mem_of_getElem? (i := 1) rfl
theorem mL_spoil_k17 : Cond.classLink RL 17 "java/lang/IllegalStateException" ∈ wsL_spoil := List.mem_of_getElem? (i := 2) rfl
set_option maxHeartbeats 4000000 in
set_option maxRecDepth 100000 in
theorem c_L_spoil (l : Launch) (hflags : l.stackTraces = false) {w : ps_X} (hw : ps_ww w) {S S' : ps_S} {p1 p2 : Int32} {r : Int32} (h : f_L_spoil S p1 p2 = some (r, S')) : ps_ML l yL_spoil wsL_spoil (ps_rx 8 3 18 136) w [.ref (w.2.1 0), .int p1, .int p2, .ref (w.2.1 102)] S S' r 3 18 := by
  refine ps_mkL hflags (cc := cL_spoil) (maxL := 5) (own := RL) (by decide +kernel) rfl rfl (Nat.le_of_ble_eq_true rfl) rfl (fun G hl hX hret => ?_)
  have hG := hX.1
  obtain ⟨z, hz, h1, h2⟩ := ps_dlr h
  refine ps_aload_n hG dL_spoil_0 rfl 3 rfl ?_
  refine ps_iconst (v := 0) hG dL_spoil_1 (by decide) ?_
  refine ps_aload_n hG dL_spoil_2 rfl 0 rfl ?_
  refine ps_iload_n hG dL_spoil_3 rfl 1 rfl ?_
  refine ps_iload_n hG dL_spoil_4 rfl 2 rfl ?_
  refine ps_lcall (As := [.int p1, .int p2]) (rest := [.int 0, .ref (w.2.1 102)]) (nA := 2) hX (c_X10_spoil _ hX.2.2.2.1 hw hz) gL_spoil_X10_spoil rfl (by decide +kernel) rfl ⟨(Nat.le_of_ble_eq_true rfl), (Nat.le_of_ble_eq_true rfl)⟩ ⟨rfl, rfl⟩ ⟨(Nat.le_of_ble_eq_true rfl), (Nat.le_of_ble_eq_true rfl)⟩ (ps_lt hw ps_q0.2.2.1) (ps_cel_19 ps_q0.1 _) rfl rfl (Nat.le_of_ble_eq_true rfl) dL_spoil_5 (fun e he => ?_) (fun r1 S1 he => ?_)
  · obtain ⟨hk9, rfl⟩ := h1 e he
    simp only [ps_pos] at hk9
    by_cases c0 : e = 1
    · subst c0
      have hk8 : r = 1 := by simp at hk9; exact hk9.symm
      subst hk8
      refine ps_lcatch hX [] [(0, 17, 24, 17)] rfl [] (fun i q hq => by cases hq) rfl (by decide) mL_spoil_k15 (by decide) (fun q => ?_)
      refine ps_astore (lv' := [(4, .ref q), (0, .ref (w.2.1 0)), (1, .int p1), (2, .int p2), (3, .ref (w.2.1 102))]) hG dL_spoil_20 (by decide) rfl ?_
      refine ps_iconst (v := 1) hG dL_spoil_22 (by decide) ?_
      exact hret _ _ _ _ (Nat.le_of_ble_eq_true rfl) (Nat.le_of_ble_eq_true rfl) dL_spoil_23
    by_cases c1 : e = 2
    · subst c1
      have hk8 : r = 2 := by simp at hk9; exact hk9.symm
      subst hk8
      refine ps_lcatch hX [(0, 17, 20, 15)] [] rfl ["java/lang/IndexOutOfBoundsException"] (fun i q hq => by
        match i, hq with
        | 0, hq => cases hq; exact ⟨by decide, "java/lang/IndexOutOfBoundsException", rfl, mL_spoil_k15, by decide⟩
        | i + 1, hq => cases hq) rfl (by decide) mL_spoil_k17 (by decide) (fun q => ?_)
      refine ps_astore (lv' := [(4, .ref q), (0, .ref (w.2.1 0)), (1, .int p1), (2, .int p2), (3, .ref (w.2.1 102))]) hG dL_spoil_24 (by decide) rfl ?_
      refine ps_iconst (v := 2) hG dL_spoil_26 (by decide) ?_
      exact hret _ _ _ _ (Nat.le_of_ble_eq_true rfl) (Nat.le_of_ble_eq_true rfl) dL_spoil_27
    simp [c0, c1] at hk9
  · obtain ⟨rfl, rfl⟩ := h2 r1 S1 he
    refine ps_if_eq (tgt := 15) hG dL_spoil_8 (by decide) (fun c9 => ?_) (fun c9 => ?_)
    · refine ps_lconst (v := 0) hG dL_spoil_15 (by decide) ?_
      refine ps_last (v := ps_nz r1) hG (ps_lt hw ps_q102.2.2.1) (by rw [ps_nz, if_pos c9]; rfl) dL_spoil_16 ?_
      refine ps_goto (tgt := 28) hG dL_spoil_17 (by decide) ?_
      refine ps_iconst (v := 0) hG dL_spoil_28 (by decide) ?_
      exact hret _ _ _ _ (Nat.le_of_ble_eq_true rfl) (Nat.le_of_ble_eq_true rfl) dL_spoil_29
    · refine ps_lconst (v := 1) hG dL_spoil_11 (by decide) ?_
      refine ps_goto (tgt := 16) hG dL_spoil_12 (by decide) ?_
      refine ps_last (v := ps_nz r1) hG (ps_lt hw ps_q102.2.2.1) (by rw [ps_nz, if_neg c9]; rfl) dL_spoil_16 ?_
      refine ps_goto (tgt := 28) hG dL_spoil_17 (by decide) ?_
      refine ps_iconst (v := 0) hG dL_spoil_28 (by decide) ?_
      exact hret _ _ _ _ (Nat.le_of_ble_eq_true rfl) (Nat.le_of_ble_eq_true rfl) dL_spoil_29
def f_L_root (S : ps_S) (p1 : Int32) : Option (Int32 × ps_S) := ps_lr (f_X10_root S p1) S [1] (fun r => r)
theorem mL_root_k15 : Cond.classLink RL 15 "java/lang/IndexOutOfBoundsException" ∈ wsL_root := List.mem_of_getElem? (i := 1) rfl
set_option maxHeartbeats 4000000 in
set_option maxRecDepth 100000 in
theorem c_L_root (l : Launch) (hflags : l.stackTraces = false) {w : ps_X} (hw : ps_ww w) {S S' : ps_S} {p1 : Int32} {r : Int32} (h : f_L_root S p1 = some (r, S')) : ps_ML l yL_root wsL_root (ps_rx 8 1 6 133) w [.ref (w.2.1 0), .int p1, .ref (w.2.1 102)] S S' r 1 6 := by
  refine ps_mkL hflags (cc := cL_root) (maxL := 4) (own := RL) (by decide +kernel) rfl rfl (Nat.le_of_ble_eq_true rfl) rfl (fun G hl hX hret => ?_)
  have hG := hX.1
  obtain ⟨z, hz, h1, h2⟩ := ps_dlr h
  refine ps_aload_n hG dL_root_0 rfl 2 rfl ?_
  refine ps_iconst (v := 0) hG dL_root_1 (by decide) ?_
  refine ps_aload_n hG dL_root_2 rfl 0 rfl ?_
  refine ps_iload_n hG dL_root_3 rfl 1 rfl ?_
  refine ps_lcall (As := [.int p1]) (rest := [.int 0, .ref (w.2.1 102)]) (nA := 1) hX (c_X10_root _ hX.2.2.2.1 hw hz) gL_root_X10_root rfl (by decide +kernel) rfl ⟨(Nat.le_of_ble_eq_true rfl), (Nat.le_of_ble_eq_true rfl)⟩ ⟨rfl, rfl⟩ ⟨(Nat.le_of_ble_eq_true rfl), (Nat.le_of_ble_eq_true rfl)⟩ (ps_lt hw ps_q0.2.2.1) (ps_cel_19 ps_q0.1 _) rfl rfl (Nat.le_of_ble_eq_true rfl) dL_root_4 (fun e he => ?_) (fun r1 S1 he => ?_)
  · obtain ⟨hk9, rfl⟩ := h1 e he
    simp only [ps_pos] at hk9
    by_cases c0 : e = 1
    · subst c0
      have hk8 : r = 1 := by simp at hk9; exact hk9.symm
      subst hk8
      refine ps_lcatch hX [] [] rfl [] (fun i q hq => by cases hq) rfl (by decide) mL_root_k15 (by decide) (fun q => ?_)
      refine ps_astore_n (lv' := [(3, .ref q), (0, .ref (w.2.1 0)), (1, .int p1), (2, .ref (w.2.1 102))]) hG dL_root_12 rfl (by decide) rfl ?_
      refine ps_iconst (v := 1) hG dL_root_13 (by decide) ?_
      exact hret _ _ _ _ (Nat.le_of_ble_eq_true rfl) (Nat.le_of_ble_eq_true rfl) dL_root_14
    simp [c0] at hk9
  · obtain ⟨rfl, rfl⟩ := h2 r1 S1 he
    refine ps_i2l hG dL_root_7 rfl ?_
    refine ps_last (v := r1) hG (ps_lt hw ps_q102.2.2.1) rfl dL_root_8 ?_
    refine ps_goto (tgt := 15) hG dL_root_9 (by decide) ?_
    refine ps_iconst (v := 0) hG dL_root_15 (by decide) ?_
    exact hret _ _ _ _ (Nat.le_of_ble_eq_true rfl) (Nat.le_of_ble_eq_true rfl) dL_root_16
def f_L_proof (S : ps_S) (p1 : Int32) (p2 : Int32) (p3 : Int32) : Option (Int32 × ps_S) := ps_lr (f_X10_proof S p1 p2 p3) S [1, 0] (fun r => r)
theorem mL_proof_k15 : Cond.classLink RL 15 "java/lang/IndexOutOfBoundsException" ∈ wsL_proof := List.mem_of_getElem? (i := 1) rfl
theorem mL_proof_k13 : Cond.classLink RL 13 "java/lang/IllegalArgumentException" ∈ wsL_proof := List.mem_of_getElem? (i := 2) rfl
set_option maxHeartbeats 4000000 in
set_option maxRecDepth 100000 in
theorem c_L_proof (l : Launch) (hflags : l.stackTraces = false) {w : ps_X} (hw : ps_ww w) {S S' : ps_S} {p1 p2 p3 : Int32} {r : Int32} (h : f_L_proof S p1 p2 p3 = some (r, S')) : ps_ML l yL_proof wsL_proof (ps_rx 8 3 18 136) w [.ref (w.2.1 0), .int p1, .int p2, .int p3, .ref (w.2.1 102)] S S' r 3 18 := by
  refine ps_mkL hflags (cc := cL_proof) (maxL := 6) (own := RL) (by decide +kernel) rfl rfl (Nat.le_of_ble_eq_true rfl) rfl (fun G hl hX hret => ?_)
  have hG := hX.1
  obtain ⟨z, hz, h1, h2⟩ := ps_dlr h
  refine ps_aload hG dL_proof_0 4 rfl ?_
  refine ps_iconst (v := 0) hG dL_proof_2 (by decide) ?_
  refine ps_aload_n hG dL_proof_3 rfl 0 rfl ?_
  refine ps_iload_n hG dL_proof_4 rfl 1 rfl ?_
  refine ps_iload_n hG dL_proof_5 rfl 2 rfl ?_
  refine ps_iload_n hG dL_proof_6 rfl 3 rfl ?_
  refine ps_lcall (As := [.int p1, .int p2, .int p3]) (rest := [.int 0, .ref (w.2.1 102)]) (nA := 3) hX (c_X10_proof _ hX.2.2.2.1 hw hz) gL_proof_X10_proof rfl (by decide +kernel) rfl ⟨(Nat.le_of_ble_eq_true rfl), (Nat.le_of_ble_eq_true rfl)⟩ ⟨rfl, rfl⟩ ⟨(Nat.le_of_ble_eq_true rfl), (Nat.le_of_ble_eq_true rfl)⟩ (ps_lt hw ps_q0.2.2.1) (ps_cel_19 ps_q0.1 _) rfl rfl (Nat.le_of_ble_eq_true rfl) dL_proof_7 (fun e he => ?_) (fun r1 S1 he => ?_)
  · obtain ⟨hk9, rfl⟩ := h1 e he
    simp only [ps_pos] at hk9
    by_cases c0 : e = 1
    · subst c0
      have hk8 : r = 1 := by simp at hk9; exact hk9.symm
      subst hk8
      refine ps_lcatch hX [] [(0, 12, 19, 13)] rfl [] (fun i q hq => by cases hq) rfl (by decide) mL_proof_k15 (by decide) (fun q => ?_)
      refine ps_astore (lv' := [(5, .ref q), (0, .ref (w.2.1 0)), (1, .int p1), (2, .int p2), (3, .int p3), (4, .ref (w.2.1 102))]) hG dL_proof_15 (by decide) rfl ?_
      refine ps_iconst (v := 1) hG dL_proof_17 (by decide) ?_
      exact hret _ _ _ _ (Nat.le_of_ble_eq_true rfl) (Nat.le_of_ble_eq_true rfl) dL_proof_18
    by_cases c1 : e = 0
    · subst c1
      have hk8 : r = 2 := by simp at hk9; exact hk9.symm
      subst hk8
      refine ps_lcatch hX [(0, 12, 15, 15)] [] rfl ["java/lang/IndexOutOfBoundsException"] (fun i q hq => by
        match i, hq with
        | 0, hq => cases hq; exact ⟨by decide, "java/lang/IndexOutOfBoundsException", rfl, mL_proof_k15, by decide⟩
        | i + 1, hq => cases hq) rfl (by decide) mL_proof_k13 (by decide) (fun q => ?_)
      refine ps_astore (lv' := [(5, .ref q), (0, .ref (w.2.1 0)), (1, .int p1), (2, .int p2), (3, .int p3), (4, .ref (w.2.1 102))]) hG dL_proof_19 (by decide) rfl ?_
      refine ps_iconst (v := 2) hG dL_proof_21 (by decide) ?_
      exact hret _ _ _ _ (Nat.le_of_ble_eq_true rfl) (Nat.le_of_ble_eq_true rfl) dL_proof_22
    simp [c0, c1] at hk9
  · obtain ⟨rfl, rfl⟩ := h2 r1 S1 he
    refine ps_i2l hG dL_proof_10 rfl ?_
    refine ps_last (v := r1) hG (ps_lt hw ps_q102.2.2.1) rfl dL_proof_11 ?_
    refine ps_goto (tgt := 23) hG dL_proof_12 (by decide) ?_
    refine ps_iconst (v := 0) hG dL_proof_23 (by decide) ?_
    exact hret _ _ _ _ (Nat.le_of_ble_eq_true rfl) (Nat.le_of_ble_eq_true rfl) dL_proof_24
def f_L_isProved (S : ps_S) (p1 : Int32) (p2 : Int32) (p3 : Int32) (p4 : Int32) (p5 : Int32) (p6 : Int32) : Option (Int32 × ps_S) := ps_lr (f_X10_isProved S p1 p2 p3 p4 p5 p6) S [1, 0] ps_nz
theorem mL_isProved_k15 : Cond.classLink RL 15 "java/lang/IndexOutOfBoundsException" ∈ wsL_isProved := List.mem_of_getElem? (i := 1) rfl
theorem mL_isProved_k13 : Cond.classLink RL 13 "java/lang/IllegalArgumentException" ∈ wsL_isProved := List.mem_of_getElem? (i := 2) rfl
set_option maxHeartbeats 4000000 in
set_option maxRecDepth 100000 in
theorem c_L_isProved (l : Launch) (hflags : l.stackTraces = false) {w : ps_X} (hw : ps_ww w) {S S' : ps_S} {p1 p2 p3 p4 p5 p6 : Int32} {r : Int32} (h : f_L_isProved S p1 p2 p3 p4 p5 p6 = some (r, S')) : ps_ML l yL_isProved wsL_isProved (ps_rx 8 3 18 139) w [.ref (w.2.1 0), .int p1, .int p2, .int p3, .int p4, .int p5, .int p6, .ref (w.2.1 102)] S S' r 3 18 := by
  refine ps_mkL hflags (cc := cL_isProved) (maxL := 9) (own := RL) (by decide +kernel) rfl rfl (Nat.le_of_ble_eq_true rfl) rfl (fun G hl hX hret => ?_)
  have hG := hX.1
  obtain ⟨z, hz, h1, h2⟩ := ps_dlr h
  refine ps_aload hG dL_isProved_0 7 rfl ?_
  refine ps_iconst (v := 0) hG dL_isProved_2 (by decide) ?_
  refine ps_aload_n hG dL_isProved_3 rfl 0 rfl ?_
  refine ps_iload_n hG dL_isProved_4 rfl 1 rfl ?_
  refine ps_iload_n hG dL_isProved_5 rfl 2 rfl ?_
  refine ps_iload_n hG dL_isProved_6 rfl 3 rfl ?_
  refine ps_iload hG dL_isProved_7 4 rfl ?_
  refine ps_iload hG dL_isProved_9 5 rfl ?_
  refine ps_iload hG dL_isProved_11 6 rfl ?_
  refine ps_lcall (As := [.int p1, .int p2, .int p3, .int p4, .int p5, .int p6]) (rest := [.int 0, .ref (w.2.1 102)]) (nA := 6) hX (c_X10_isProved _ hX.2.2.2.1 hw hz) gL_isProved_X10_isProved rfl (by decide +kernel) rfl ⟨(Nat.le_of_ble_eq_true rfl), (Nat.le_of_ble_eq_true rfl)⟩ ⟨rfl, rfl⟩ ⟨(Nat.le_of_ble_eq_true rfl), (Nat.le_of_ble_eq_true rfl)⟩ (ps_lt hw ps_q0.2.2.1) (ps_cel_19 ps_q0.1 _) rfl rfl (Nat.le_of_ble_eq_true rfl) dL_isProved_13 (fun e he => ?_) (fun r1 S1 he => ?_)
  · obtain ⟨hk9, rfl⟩ := h1 e he
    simp only [ps_pos] at hk9
    by_cases c0 : e = 1
    · subst c0
      have hk8 : r = 1 := by simp at hk9; exact hk9.symm
      subst hk8
      refine ps_lcatch hX [] [(0, 25, 32, 13)] rfl [] (fun i q hq => by cases hq) rfl (by decide) mL_isProved_k15 (by decide) (fun q => ?_)
      refine ps_astore (lv' := [(8, .ref q), (0, .ref (w.2.1 0)), (1, .int p1), (2, .int p2), (3, .int p3), (4, .int p4), (5, .int p5), (6, .int p6), (7, .ref (w.2.1 102))]) hG dL_isProved_28 (by decide) rfl ?_
      refine ps_iconst (v := 1) hG dL_isProved_30 (by decide) ?_
      exact hret _ _ _ _ (Nat.le_of_ble_eq_true rfl) (Nat.le_of_ble_eq_true rfl) dL_isProved_31
    by_cases c1 : e = 0
    · subst c1
      have hk8 : r = 2 := by simp at hk9; exact hk9.symm
      subst hk8
      refine ps_lcatch hX [(0, 25, 28, 15)] [] rfl ["java/lang/IndexOutOfBoundsException"] (fun i q hq => by
        match i, hq with
        | 0, hq => cases hq; exact ⟨by decide, "java/lang/IndexOutOfBoundsException", rfl, mL_isProved_k15, by decide⟩
        | i + 1, hq => cases hq) rfl (by decide) mL_isProved_k13 (by decide) (fun q => ?_)
      refine ps_astore (lv' := [(8, .ref q), (0, .ref (w.2.1 0)), (1, .int p1), (2, .int p2), (3, .int p3), (4, .int p4), (5, .int p5), (6, .int p6), (7, .ref (w.2.1 102))]) hG dL_isProved_32 (by decide) rfl ?_
      refine ps_iconst (v := 2) hG dL_isProved_34 (by decide) ?_
      exact hret _ _ _ _ (Nat.le_of_ble_eq_true rfl) (Nat.le_of_ble_eq_true rfl) dL_isProved_35
    simp [c0, c1] at hk9
  · obtain ⟨rfl, rfl⟩ := h2 r1 S1 he
    refine ps_if_eq (tgt := 23) hG dL_isProved_16 (by decide) (fun c9 => ?_) (fun c9 => ?_)
    · refine ps_lconst (v := 0) hG dL_isProved_23 (by decide) ?_
      refine ps_last (v := ps_nz r1) hG (ps_lt hw ps_q102.2.2.1) (by rw [ps_nz, if_pos c9]; rfl) dL_isProved_24 ?_
      refine ps_goto (tgt := 36) hG dL_isProved_25 (by decide) ?_
      refine ps_iconst (v := 0) hG dL_isProved_36 (by decide) ?_
      exact hret _ _ _ _ (Nat.le_of_ble_eq_true rfl) (Nat.le_of_ble_eq_true rfl) dL_isProved_37
    · refine ps_lconst (v := 1) hG dL_isProved_19 (by decide) ?_
      refine ps_goto (tgt := 24) hG dL_isProved_20 (by decide) ?_
      refine ps_last (v := ps_nz r1) hG (ps_lt hw ps_q102.2.2.1) (by rw [ps_nz, if_neg c9]; rfl) dL_isProved_24 ?_
      refine ps_goto (tgt := 36) hG dL_isProved_25 (by decide) ?_
      refine ps_iconst (v := 0) hG dL_isProved_36 (by decide) ?_
      exact hret _ _ _ _ (Nat.le_of_ble_eq_true rfl) (Nat.le_of_ble_eq_true rfl) dL_isProved_37
def f_L_mend (S : ps_S) (p1 : Int32) (p2 : Int32) : Option (Int32 × ps_S) := ps_lr (f_X10_mend S p1 p2) S [1, 0] (fun r => r)
theorem mL_mend_k15 : Cond.classLink RL 15 "java/lang/IndexOutOfBoundsException" ∈ wsL_mend := List.mem_of_getElem? (i := 1) rfl
theorem mL_mend_k13 : Cond.classLink RL 13 "java/lang/IllegalArgumentException" ∈ wsL_mend := List.mem_of_getElem? (i := 2) rfl
set_option maxHeartbeats 4000000 in
set_option maxRecDepth 100000 in
theorem c_L_mend (l : Launch) (hflags : l.stackTraces = false) {w : ps_X} (hw : ps_ww w) {S S' : ps_S} {p1 p2 : Int32} {r : Int32} (h : f_L_mend S p1 p2 = some (r, S')) : ps_ML l yL_mend wsL_mend (ps_rx 8 3 18 144) w [.ref (w.2.1 0), .int p1, .int p2, .ref (w.2.1 102)] S S' r 3 18 := by
  refine ps_mkL hflags (cc := cL_mend) (maxL := 5) (own := RL) (by decide +kernel) rfl rfl (Nat.le_of_ble_eq_true rfl) rfl (fun G hl hX hret => ?_)
  have hG := hX.1
  obtain ⟨z, hz, h1, h2⟩ := ps_dlr h
  refine ps_aload_n hG dL_mend_0 rfl 3 rfl ?_
  refine ps_iconst (v := 0) hG dL_mend_1 (by decide) ?_
  refine ps_aload_n hG dL_mend_2 rfl 0 rfl ?_
  refine ps_iload_n hG dL_mend_3 rfl 1 rfl ?_
  refine ps_iload_n hG dL_mend_4 rfl 2 rfl ?_
  refine ps_lcall (As := [.int p1, .int p2]) (rest := [.int 0, .ref (w.2.1 102)]) (nA := 2) hX (c_X10_mend _ hX.2.2.2.1 hw hz) gL_mend_X10_mend rfl (by decide +kernel) rfl ⟨(Nat.le_of_ble_eq_true rfl), (Nat.le_of_ble_eq_true rfl)⟩ ⟨rfl, rfl⟩ ⟨(Nat.le_of_ble_eq_true rfl), (Nat.le_of_ble_eq_true rfl)⟩ (ps_lt hw ps_q0.2.2.1) (ps_cel_19 ps_q0.1 _) rfl rfl (Nat.le_of_ble_eq_true rfl) dL_mend_5 (fun e he => ?_) (fun r1 S1 he => ?_)
  · obtain ⟨hk9, rfl⟩ := h1 e he
    simp only [ps_pos] at hk9
    by_cases c0 : e = 1
    · subst c0
      have hk8 : r = 1 := by simp at hk9; exact hk9.symm
      subst hk8
      refine ps_lcatch hX [] [(0, 10, 17, 13)] rfl [] (fun i q hq => by cases hq) rfl (by decide) mL_mend_k15 (by decide) (fun q => ?_)
      refine ps_astore (lv' := [(4, .ref q), (0, .ref (w.2.1 0)), (1, .int p1), (2, .int p2), (3, .ref (w.2.1 102))]) hG dL_mend_13 (by decide) rfl ?_
      refine ps_iconst (v := 1) hG dL_mend_15 (by decide) ?_
      exact hret _ _ _ _ (Nat.le_of_ble_eq_true rfl) (Nat.le_of_ble_eq_true rfl) dL_mend_16
    by_cases c1 : e = 0
    · subst c1
      have hk8 : r = 2 := by simp at hk9; exact hk9.symm
      subst hk8
      refine ps_lcatch hX [(0, 10, 13, 15)] [] rfl ["java/lang/IndexOutOfBoundsException"] (fun i q hq => by
        match i, hq with
        | 0, hq => cases hq; exact ⟨by decide, "java/lang/IndexOutOfBoundsException", rfl, mL_mend_k15, by decide⟩
        | i + 1, hq => cases hq) rfl (by decide) mL_mend_k13 (by decide) (fun q => ?_)
      refine ps_astore (lv' := [(4, .ref q), (0, .ref (w.2.1 0)), (1, .int p1), (2, .int p2), (3, .ref (w.2.1 102))]) hG dL_mend_17 (by decide) rfl ?_
      refine ps_iconst (v := 2) hG dL_mend_19 (by decide) ?_
      exact hret _ _ _ _ (Nat.le_of_ble_eq_true rfl) (Nat.le_of_ble_eq_true rfl) dL_mend_20
    simp [c0, c1] at hk9
  · obtain ⟨rfl, rfl⟩ := h2 r1 S1 he
    refine ps_i2l hG dL_mend_8 rfl ?_
    refine ps_last (v := r1) hG (ps_lt hw ps_q102.2.2.1) rfl dL_mend_9 ?_
    refine ps_goto (tgt := 21) hG dL_mend_10 (by decide) ?_
    refine ps_iconst (v := 0) hG dL_mend_21 (by decide) ?_
    exact hret _ _ _ _ (Nat.le_of_ble_eq_true rfl) (Nat.le_of_ble_eq_true rfl) dL_mend_22
def f_L_fetch (S : ps_S) (p1 : Int32) (p2 : Int32) : Option (Int32 × ps_S) := ps_lr (f_X10_fetch S p1 p2) S [1, 2] (fun r => r)
theorem mL_fetch_k15 : Cond.classLink RL 15 "java/lang/IndexOutOfBoundsException" ∈ wsL_fetch := List.mem_of_getElem? (i := 1) rfl
theorem mL_fetch_k17 : Cond.classLink RL 17 "java/lang/IllegalStateException" ∈ wsL_fetch := List.mem_of_getElem? (i := 2) rfl
set_option maxHeartbeats 4000000 in
set_option maxRecDepth 100000 in
theorem c_L_fetch (l : Launch) (hflags : l.stackTraces = false) {w : ps_X} (hw : ps_ww w) {S S' : ps_S} {p1 p2 : Int32} {r : Int32} (h : f_L_fetch S p1 p2 = some (r, S')) : ps_ML l yL_fetch wsL_fetch (ps_rx 8 3 18 135) w [.ref (w.2.1 0), .int p1, .int p2, .ref (w.2.1 102)] S S' r 3 18 := by
  refine ps_mkL hflags (cc := cL_fetch) (maxL := 5) (own := RL) (by decide +kernel) rfl rfl (Nat.le_of_ble_eq_true rfl) rfl (fun G hl hX hret => ?_)
  have hG := hX.1
  obtain ⟨z, hz, h1, h2⟩ := ps_dlr h
  refine ps_aload_n hG dL_fetch_0 rfl 3 rfl ?_
  refine ps_iconst (v := 0) hG dL_fetch_1 (by decide) ?_
  refine ps_aload_n hG dL_fetch_2 rfl 0 rfl ?_
  refine ps_iload_n hG dL_fetch_3 rfl 1 rfl ?_
  refine ps_iload_n hG dL_fetch_4 rfl 2 rfl ?_
  refine ps_lcall (As := [.int p1, .int p2]) (rest := [.int 0, .ref (w.2.1 102)]) (nA := 2) hX (c_X10_fetch _ hX.2.2.2.1 hw hz) gL_fetch_X10_fetch rfl (by decide +kernel) rfl ⟨(Nat.le_of_ble_eq_true rfl), (Nat.le_of_ble_eq_true rfl)⟩ ⟨rfl, rfl⟩ ⟨(Nat.le_of_ble_eq_true rfl), (Nat.le_of_ble_eq_true rfl)⟩ (ps_lt hw ps_q0.2.2.1) (ps_cel_19 ps_q0.1 _) rfl rfl (Nat.le_of_ble_eq_true rfl) dL_fetch_5 (fun e he => ?_) (fun r1 S1 he => ?_)
  · obtain ⟨hk9, rfl⟩ := h1 e he
    simp only [ps_pos] at hk9
    by_cases c0 : e = 1
    · subst c0
      have hk8 : r = 1 := by simp at hk9; exact hk9.symm
      subst hk8
      refine ps_lcatch hX [] [(0, 10, 17, 17)] rfl [] (fun i q hq => by cases hq) rfl (by decide) mL_fetch_k15 (by decide) (fun q => ?_)
      refine ps_astore (lv' := [(4, .ref q), (0, .ref (w.2.1 0)), (1, .int p1), (2, .int p2), (3, .ref (w.2.1 102))]) hG dL_fetch_13 (by decide) rfl ?_
      refine ps_iconst (v := 1) hG dL_fetch_15 (by decide) ?_
      exact hret _ _ _ _ (Nat.le_of_ble_eq_true rfl) (Nat.le_of_ble_eq_true rfl) dL_fetch_16
    by_cases c1 : e = 2
    · subst c1
      have hk8 : r = 2 := by simp at hk9; exact hk9.symm
      subst hk8
      refine ps_lcatch hX [(0, 10, 13, 15)] [] rfl ["java/lang/IndexOutOfBoundsException"] (fun i q hq => by
        match i, hq with
        | 0, hq => cases hq; exact ⟨by decide, "java/lang/IndexOutOfBoundsException", rfl, mL_fetch_k15, by decide⟩
        | i + 1, hq => cases hq) rfl (by decide) mL_fetch_k17 (by decide) (fun q => ?_)
      refine ps_astore (lv' := [(4, .ref q), (0, .ref (w.2.1 0)), (1, .int p1), (2, .int p2), (3, .ref (w.2.1 102))]) hG dL_fetch_17 (by decide) rfl ?_
      refine ps_iconst (v := 2) hG dL_fetch_19 (by decide) ?_
      exact hret _ _ _ _ (Nat.le_of_ble_eq_true rfl) (Nat.le_of_ble_eq_true rfl) dL_fetch_20
    simp [c0, c1] at hk9
  · obtain ⟨rfl, rfl⟩ := h2 r1 S1 he
    refine ps_i2l hG dL_fetch_8 rfl ?_
    refine ps_last (v := r1) hG (ps_lt hw ps_q102.2.2.1) rfl dL_fetch_9 ?_
    refine ps_goto (tgt := 21) hG dL_fetch_10 (by decide) ?_
    refine ps_iconst (v := 0) hG dL_fetch_21 (by decide) ?_
    exact hret _ _ _ _ (Nat.le_of_ble_eq_true rfl) (Nat.le_of_ble_eq_true rfl) dL_fetch_22
def f_L_pass (S : ps_S) : Option (Int32 × ps_S) := ps_lr (f_X10_pass S ) S [2] (fun r => r)
theorem mL_pass_k17 : Cond.classLink RL 17 "java/lang/IllegalStateException" ∈ wsL_pass := List.mem_of_getElem? (i := 1) rfl
set_option maxHeartbeats 4000000 in
set_option maxRecDepth 100000 in
theorem c_L_pass (l : Launch) (hflags : l.stackTraces = false) {w : ps_X} (hw : ps_ww w) {S S' : ps_S} {r : Int32} (h : f_L_pass S  = some (r, S')) : ps_ML l yL_pass wsL_pass (ps_rx 7 1 6 178) w [.ref (w.2.1 0), .ref (w.2.1 102)] S S' r 1 6 := by
  refine ps_mkL hflags (cc := cL_pass) (maxL := 3) (own := RL) (by decide +kernel) rfl rfl (Nat.le_of_ble_eq_true rfl) rfl (fun G hl hX hret => ?_)
  have hG := hX.1
  obtain ⟨z, hz, h1, h2⟩ := ps_dlr h
  refine ps_aload_n hG dL_pass_0 rfl 1 rfl ?_
  refine ps_iconst (v := 0) hG dL_pass_1 (by decide) ?_
  refine ps_aload_n hG dL_pass_2 rfl 0 rfl ?_
  refine ps_lcall (As := []) (rest := [.int 0, .ref (w.2.1 102)]) (nA := 0) hX (c_X10_pass _ hX.2.2.2.1 hw hz) gL_pass_X10_pass rfl (by decide +kernel) rfl ⟨(Nat.le_of_ble_eq_true rfl), (Nat.le_of_ble_eq_true rfl)⟩ ⟨rfl, rfl⟩ ⟨(Nat.le_of_ble_eq_true rfl), (Nat.le_of_ble_eq_true rfl)⟩ (ps_lt hw ps_q0.2.2.1) (ps_cel_19 ps_q0.1 _) rfl rfl (Nat.le_of_ble_eq_true rfl) dL_pass_3 (fun e he => ?_) (fun r1 S1 he => ?_)
  · obtain ⟨hk9, rfl⟩ := h1 e he
    simp only [ps_pos] at hk9
    by_cases c0 : e = 2
    · subst c0
      have hk8 : r = 1 := by simp at hk9; exact hk9.symm
      subst hk8
      refine ps_lcatch hX [] [] rfl [] (fun i q hq => by cases hq) rfl (by decide) mL_pass_k17 (by decide) (fun q => ?_)
      refine ps_astore_n (lv' := [(2, .ref q), (0, .ref (w.2.1 0)), (1, .ref (w.2.1 102))]) hG dL_pass_11 rfl (by decide) rfl ?_
      refine ps_iconst (v := 1) hG dL_pass_12 (by decide) ?_
      exact hret _ _ _ _ (Nat.le_of_ble_eq_true rfl) (Nat.le_of_ble_eq_true rfl) dL_pass_13
    simp [c0] at hk9
  · obtain ⟨rfl, rfl⟩ := h2 r1 S1 he
    refine ps_i2l hG dL_pass_6 rfl ?_
    refine ps_last (v := r1) hG (ps_lt hw ps_q102.2.2.1) rfl dL_pass_7 ?_
    refine ps_goto (tgt := 14) hG dL_pass_8 (by decide) ?_
    refine ps_iconst (v := 0) hG dL_pass_14 (by decide) ?_
    exact hret _ _ _ _ (Nat.le_of_ble_eq_true rfl) (Nat.le_of_ble_eq_true rfl) dL_pass_15
def f_L_tell (S : ps_S) (p1 : Int32) (p2 : Int32) (p3 : Int32) (p4 : Int32) : Option (Int32 × ps_S) := ps_lr (f_X10_tell S p1 p2 p3 p4) S [1, 0, 2] (fun r => r)
theorem mL_tell_k15 : Cond.classLink RL 15 "java/lang/IndexOutOfBoundsException" ∈ wsL_tell := List.mem_of_getElem? (i := 1) rfl
theorem mL_tell_k13 : Cond.classLink RL 13 "java/lang/IllegalArgumentException" ∈ wsL_tell := List.mem_of_getElem? (i := 2) rfl
theorem mL_tell_k17 : Cond.classLink RL 17 "java/lang/IllegalStateException" ∈ wsL_tell := List.mem_of_getElem? (i := 3) rfl
set_option maxHeartbeats 4000000 in
set_option maxRecDepth 100000 in
theorem c_L_tell (l : Launch) (hflags : l.stackTraces = false) {w : ps_X} (hw : ps_ww w) {S S' : ps_S} {p1 p2 p3 p4 : Int32} {r : Int32} (h : f_L_tell S p1 p2 p3 p4 = some (r, S')) : ps_ML l yL_tell wsL_tell (ps_rx 8 6 36 160) w [.ref (w.2.1 0), .int p1, .int p2, .int p3, .int p4, .ref (w.2.1 102)] S S' r 6 36 := by
  refine ps_mkL hflags (cc := cL_tell) (maxL := 7) (own := RL) (by decide +kernel) rfl rfl (Nat.le_of_ble_eq_true rfl) rfl (fun G hl hX hret => ?_)
  have hG := hX.1
  obtain ⟨z, hz, h1, h2⟩ := ps_dlr h
  refine ps_aload hG dL_tell_0 5 rfl ?_
  refine ps_iconst (v := 0) hG dL_tell_2 (by decide) ?_
  refine ps_aload_n hG dL_tell_3 rfl 0 rfl ?_
  refine ps_iload_n hG dL_tell_4 rfl 1 rfl ?_
  refine ps_iload_n hG dL_tell_5 rfl 2 rfl ?_
  refine ps_iload_n hG dL_tell_6 rfl 3 rfl ?_
  refine ps_iload hG dL_tell_7 4 rfl ?_
  refine ps_lcall (As := [.int p1, .int p2, .int p3, .int p4]) (rest := [.int 0, .ref (w.2.1 102)]) (nA := 4) hX (c_X10_tell _ hX.2.2.2.1 hw hz) gL_tell_X10_tell rfl (by decide +kernel) rfl ⟨(Nat.le_of_ble_eq_true rfl), (Nat.le_of_ble_eq_true rfl)⟩ ⟨rfl, rfl⟩ ⟨(Nat.le_of_ble_eq_true rfl), (Nat.le_of_ble_eq_true rfl)⟩ (ps_lt hw ps_q0.2.2.1) (ps_cel_19 ps_q0.1 _) rfl rfl (Nat.le_of_ble_eq_true rfl) dL_tell_9 (fun e he => ?_) (fun r1 S1 he => ?_)
  · obtain ⟨hk9, rfl⟩ := h1 e he
    simp only [ps_pos] at hk9
    by_cases c0 : e = 1
    · subst c0
      have hk8 : r = 1 := by simp at hk9; exact hk9.symm
      subst hk8
      refine ps_lcatch hX [] [(0, 14, 21, 13), (0, 14, 25, 17)] rfl [] (fun i q hq => by cases hq) rfl (by decide) mL_tell_k15 (by decide) (fun q => ?_)
      refine ps_astore (lv' := [(6, .ref q), (0, .ref (w.2.1 0)), (1, .int p1), (2, .int p2), (3, .int p3), (4, .int p4), (5, .ref (w.2.1 102))]) hG dL_tell_17 (by decide) rfl ?_
      refine ps_iconst (v := 1) hG dL_tell_19 (by decide) ?_
      exact hret _ _ _ _ (Nat.le_of_ble_eq_true rfl) (Nat.le_of_ble_eq_true rfl) dL_tell_20
    by_cases c1 : e = 0
    · subst c1
      have hk8 : r = 2 := by simp at hk9; exact hk9.symm
      subst hk8
      refine ps_lcatch hX [(0, 14, 17, 15)] [(0, 14, 25, 17)] rfl ["java/lang/IndexOutOfBoundsException"] (fun i q hq => by
        match i, hq with
        | 0, hq => cases hq; exact ⟨by decide, "java/lang/IndexOutOfBoundsException", rfl, mL_tell_k15, by decide⟩
        | i + 1, hq => cases hq) rfl (by decide) mL_tell_k13 (by decide) (fun q => ?_)
      refine ps_astore (lv' := [(6, .ref q), (0, .ref (w.2.1 0)), (1, .int p1), (2, .int p2), (3, .int p3), (4, .int p4), (5, .ref (w.2.1 102))]) hG dL_tell_21 (by decide) rfl ?_
      refine ps_iconst (v := 2) hG dL_tell_23 (by decide) ?_
      exact hret _ _ _ _ (Nat.le_of_ble_eq_true rfl) (Nat.le_of_ble_eq_true rfl) dL_tell_24
    by_cases c2 : e = 2
    · subst c2
      have hk8 : r = 3 := by simp at hk9; exact hk9.symm
      subst hk8
      refine ps_lcatch hX [(0, 14, 17, 15), (0, 14, 21, 13)] [] rfl ["java/lang/IndexOutOfBoundsException", "java/lang/IllegalArgumentException"] (fun i q hq => by
        match i, hq with
        | 0, hq => cases hq; exact ⟨by decide, "java/lang/IndexOutOfBoundsException", rfl, mL_tell_k15, by decide⟩
        | 1, hq => cases hq; exact ⟨by decide, "java/lang/IllegalArgumentException", rfl, mL_tell_k13, by decide⟩
        | i + 2, hq => cases hq) rfl (by decide) mL_tell_k17 (by decide) (fun q => ?_)
      refine ps_astore (lv' := [(6, .ref q), (0, .ref (w.2.1 0)), (1, .int p1), (2, .int p2), (3, .int p3), (4, .int p4), (5, .ref (w.2.1 102))]) hG dL_tell_25 (by decide) rfl ?_
      refine ps_iconst (v := 3) hG dL_tell_27 (by decide) ?_
      exact hret _ _ _ _ (Nat.le_of_ble_eq_true rfl) (Nat.le_of_ble_eq_true rfl) dL_tell_28
    simp [c0, c1, c2] at hk9
  · obtain ⟨rfl, rfl⟩ := h2 r1 S1 he
    refine ps_i2l hG dL_tell_12 rfl ?_
    refine ps_last (v := r1) hG (ps_lt hw ps_q102.2.2.1) rfl dL_tell_13 ?_
    refine ps_goto (tgt := 29) hG dL_tell_14 (by decide) ?_
    refine ps_iconst (v := 0) hG dL_tell_29 (by decide) ?_
    exact hret _ _ _ _ (Nat.le_of_ble_eq_true rfl) (Nat.le_of_ble_eq_true rfl) dL_tell_30
def f_L_name (S : ps_S) (p1 : Int32) (p2 : Int32) : Option (Int32 × ps_S) := ps_lr (f_X10_name S p1 p2) S [1, 0, 2] (fun r => r)
theorem mL_name_k15 : Cond.classLink RL 15 "java/lang/IndexOutOfBoundsException" ∈ wsL_name := List.mem_of_getElem? (i := 1) rfl
theorem mL_name_k13 : Cond.classLink RL 13 "java/lang/IllegalArgumentException" ∈ wsL_name := List.mem_of_getElem? (i := 2) rfl
theorem mL_name_k17 : Cond.classLink RL 17 "java/lang/IllegalStateException" ∈ wsL_name := List.mem_of_getElem? (i := 3) rfl
set_option maxHeartbeats 4000000 in
set_option maxRecDepth 100000 in
theorem c_L_name (l : Launch) (hflags : l.stackTraces = false) {w : ps_X} (hw : ps_ww w) {S S' : ps_S} {p1 p2 : Int32} {r : Int32} (h : f_L_name S p1 p2 = some (r, S')) : ps_ML l yL_name wsL_name (ps_rx 8 3 18 159) w [.ref (w.2.1 0), .int p1, .int p2, .ref (w.2.1 102)] S S' r 3 18 := by
  refine ps_mkL hflags (cc := cL_name) (maxL := 5) (own := RL) (by decide +kernel) rfl rfl (Nat.le_of_ble_eq_true rfl) rfl (fun G hl hX hret => ?_)
  have hG := hX.1
  obtain ⟨z, hz, h1, h2⟩ := ps_dlr h
  refine ps_aload_n hG dL_name_0 rfl 3 rfl ?_
  refine ps_iconst (v := 0) hG dL_name_1 (by decide) ?_
  refine ps_aload_n hG dL_name_2 rfl 0 rfl ?_
  refine ps_iload_n hG dL_name_3 rfl 1 rfl ?_
  refine ps_iload_n hG dL_name_4 rfl 2 rfl ?_
  refine ps_lcall (As := [.int p1, .int p2]) (rest := [.int 0, .ref (w.2.1 102)]) (nA := 2) hX (c_X10_name _ hX.2.2.2.1 hw hz) gL_name_X10_name rfl (by decide +kernel) rfl ⟨(Nat.le_of_ble_eq_true rfl), (Nat.le_of_ble_eq_true rfl)⟩ ⟨rfl, rfl⟩ ⟨(Nat.le_of_ble_eq_true rfl), (Nat.le_of_ble_eq_true rfl)⟩ (ps_lt hw ps_q0.2.2.1) (ps_cel_19 ps_q0.1 _) rfl rfl (Nat.le_of_ble_eq_true rfl) dL_name_5 (fun e he => ?_) (fun r1 S1 he => ?_)
  · obtain ⟨hk9, rfl⟩ := h1 e he
    simp only [ps_pos] at hk9
    by_cases c0 : e = 1
    · subst c0
      have hk8 : r = 1 := by simp at hk9; exact hk9.symm
      subst hk8
      refine ps_lcatch hX [] [(0, 10, 17, 13), (0, 10, 21, 17)] rfl [] (fun i q hq => by cases hq) rfl (by decide) mL_name_k15 (by decide) (fun q => ?_)
      refine ps_astore (lv' := [(4, .ref q), (0, .ref (w.2.1 0)), (1, .int p1), (2, .int p2), (3, .ref (w.2.1 102))]) hG dL_name_13 (by decide) rfl ?_
      refine ps_iconst (v := 1) hG dL_name_15 (by decide) ?_
      exact hret _ _ _ _ (Nat.le_of_ble_eq_true rfl) (Nat.le_of_ble_eq_true rfl) dL_name_16
    by_cases c1 : e = 0
    · subst c1
      have hk8 : r = 2 := by simp at hk9; exact hk9.symm
      subst hk8
      refine ps_lcatch hX [(0, 10, 13, 15)] [(0, 10, 21, 17)] rfl ["java/lang/IndexOutOfBoundsException"] (fun i q hq => by
        match i, hq with
        | 0, hq => cases hq; exact ⟨by decide, "java/lang/IndexOutOfBoundsException", rfl, mL_name_k15, by decide⟩
        | i + 1, hq => cases hq) rfl (by decide) mL_name_k13 (by decide) (fun q => ?_)
      refine ps_astore (lv' := [(4, .ref q), (0, .ref (w.2.1 0)), (1, .int p1), (2, .int p2), (3, .ref (w.2.1 102))]) hG dL_name_17 (by decide) rfl ?_
      refine ps_iconst (v := 2) hG dL_name_19 (by decide) ?_
      exact hret _ _ _ _ (Nat.le_of_ble_eq_true rfl) (Nat.le_of_ble_eq_true rfl) dL_name_20
    by_cases c2 : e = 2
    · subst c2
      have hk8 : r = 3 := by simp at hk9; exact hk9.symm
      subst hk8
      refine ps_lcatch hX [(0, 10, 13, 15), (0, 10, 17, 13)] [] rfl ["java/lang/IndexOutOfBoundsException", "java/lang/IllegalArgumentException"] (fun i q hq => by
        match i, hq with
        | 0, hq => cases hq; exact ⟨by decide, "java/lang/IndexOutOfBoundsException", rfl, mL_name_k15, by decide⟩
        | 1, hq => cases hq; exact ⟨by decide, "java/lang/IllegalArgumentException", rfl, mL_name_k13, by decide⟩
        | i + 2, hq => cases hq) rfl (by decide) mL_name_k17 (by decide) (fun q => ?_)
      refine ps_astore (lv' := [(4, .ref q), (0, .ref (w.2.1 0)), (1, .int p1), (2, .int p2), (3, .ref (w.2.1 102))]) hG dL_name_21 (by decide) rfl ?_
      refine ps_iconst (v := 3) hG dL_name_23 (by decide) ?_
      exact hret _ _ _ _ (Nat.le_of_ble_eq_true rfl) (Nat.le_of_ble_eq_true rfl) dL_name_24
    simp [c0, c1, c2] at hk9
  · obtain ⟨rfl, rfl⟩ := h2 r1 S1 he
    refine ps_i2l hG dL_name_8 rfl ?_
    refine ps_last (v := r1) hG (ps_lt hw ps_q102.2.2.1) rfl dL_name_9 ?_
    refine ps_goto (tgt := 25) hG dL_name_10 (by decide) ?_
    refine ps_iconst (v := 0) hG dL_name_25 (by decide) ?_
    exact hret _ _ _ _ (Nat.le_of_ble_eq_true rfl) (Nat.le_of_ble_eq_true rfl) dL_name_26
def f_L_spread (S : ps_S) (p1 : Int32) : Option (Int32 × ps_S) := ps_lr (f_X10_spread S p1) S [1, 2] (fun r => r)
theorem mL_spread_k15 : Cond.classLink RL 15 "java/lang/IndexOutOfBoundsException" ∈ wsL_spread := List.mem_of_getElem? (i := 1) rfl
theorem mL_spread_k17 : Cond.classLink RL 17 "java/lang/IllegalStateException" ∈ wsL_spread := List.mem_of_getElem? (i := 2) rfl
set_option maxHeartbeats 4000000 in
set_option maxRecDepth 100000 in
theorem c_L_spread (l : Launch) (hflags : l.stackTraces = false) {w : ps_X} (hw : ps_ww w) {S S' : ps_S} {p1 : Int32} {r : Int32} (h : f_L_spread S p1 = some (r, S')) : ps_ML l yL_spread wsL_spread (ps_rx 8 2 12 138) w [.ref (w.2.1 0), .int p1, .ref (w.2.1 102)] S S' r 2 12 := by
  refine ps_mkL hflags (cc := cL_spread) (maxL := 4) (own := RL) (by decide +kernel) rfl rfl (Nat.le_of_ble_eq_true rfl) rfl (fun G hl hX hret => ?_)
  have hG := hX.1
  obtain ⟨z, hz, h1, h2⟩ := ps_dlr h
  refine ps_aload_n hG dL_spread_0 rfl 2 rfl ?_
  refine ps_iconst (v := 0) hG dL_spread_1 (by decide) ?_
  refine ps_aload_n hG dL_spread_2 rfl 0 rfl ?_
  refine ps_iload_n hG dL_spread_3 rfl 1 rfl ?_
  refine ps_lcall (As := [.int p1]) (rest := [.int 0, .ref (w.2.1 102)]) (nA := 1) hX (c_X10_spread _ hX.2.2.2.1 hw hz) gL_spread_X10_spread rfl (by decide +kernel) rfl ⟨(Nat.le_of_ble_eq_true rfl), (Nat.le_of_ble_eq_true rfl)⟩ ⟨rfl, rfl⟩ ⟨(Nat.le_of_ble_eq_true rfl), (Nat.le_of_ble_eq_true rfl)⟩ (ps_lt hw ps_q0.2.2.1) (ps_cel_19 ps_q0.1 _) rfl rfl (Nat.le_of_ble_eq_true rfl) dL_spread_4 (fun e he => ?_) (fun r1 S1 he => ?_)
  · obtain ⟨hk9, rfl⟩ := h1 e he
    simp only [ps_pos] at hk9
    by_cases c0 : e = 1
    · subst c0
      have hk8 : r = 1 := by simp at hk9; exact hk9.symm
      subst hk8
      refine ps_lcatch hX [] [(0, 9, 15, 17)] rfl [] (fun i q hq => by cases hq) rfl (by decide) mL_spread_k15 (by decide) (fun q => ?_)
      refine ps_astore_n (lv' := [(3, .ref q), (0, .ref (w.2.1 0)), (1, .int p1), (2, .ref (w.2.1 102))]) hG dL_spread_12 rfl (by decide) rfl ?_
      refine ps_iconst (v := 1) hG dL_spread_13 (by decide) ?_
      exact hret _ _ _ _ (Nat.le_of_ble_eq_true rfl) (Nat.le_of_ble_eq_true rfl) dL_spread_14
    by_cases c1 : e = 2
    · subst c1
      have hk8 : r = 2 := by simp at hk9; exact hk9.symm
      subst hk8
      refine ps_lcatch hX [(0, 9, 12, 15)] [] rfl ["java/lang/IndexOutOfBoundsException"] (fun i q hq => by
        match i, hq with
        | 0, hq => cases hq; exact ⟨by decide, "java/lang/IndexOutOfBoundsException", rfl, mL_spread_k15, by decide⟩
        | i + 1, hq => cases hq) rfl (by decide) mL_spread_k17 (by decide) (fun q => ?_)
      refine ps_astore_n (lv' := [(3, .ref q), (0, .ref (w.2.1 0)), (1, .int p1), (2, .ref (w.2.1 102))]) hG dL_spread_15 rfl (by decide) rfl ?_
      refine ps_iconst (v := 2) hG dL_spread_16 (by decide) ?_
      exact hret _ _ _ _ (Nat.le_of_ble_eq_true rfl) (Nat.le_of_ble_eq_true rfl) dL_spread_17
    simp [c0, c1] at hk9
  · obtain ⟨rfl, rfl⟩ := h2 r1 S1 he
    refine ps_i2l hG dL_spread_7 rfl ?_
    refine ps_last (v := r1) hG (ps_lt hw ps_q102.2.2.1) rfl dL_spread_8 ?_
    refine ps_goto (tgt := 18) hG dL_spread_9 (by decide) ?_
    refine ps_iconst (v := 0) hG dL_spread_18 (by decide) ?_
    exact hret _ _ _ _ (Nat.le_of_ble_eq_true rfl) (Nat.le_of_ble_eq_true rfl) dL_spread_19
def f_L_owes (S : ps_S) (p1 : Int32) (p2 : Int32) : Option (Int32 × ps_S) := ps_lr (f_X10_owes S p1 p2) S [1] (fun r => r)
theorem mL_owes_k15 : Cond.classLink RL 15 "java/lang/IndexOutOfBoundsException" ∈ wsL_owes := List.mem_of_getElem? (i := 1) rfl
set_option maxHeartbeats 4000000 in
set_option maxRecDepth 100000 in
theorem c_L_owes (l : Launch) (hflags : l.stackTraces = false) {w : ps_X} (hw : ps_ww w) {S S' : ps_S} {p1 p2 : Int32} {r : Int32} (h : f_L_owes S p1 p2 = some (r, S')) : ps_ML l yL_owes wsL_owes (ps_rx 8 2 12 133) w [.ref (w.2.1 0), .int p1, .int p2, .ref (w.2.1 102)] S S' r 2 12 := by
  refine ps_mkL hflags (cc := cL_owes) (maxL := 5) (own := RL) (by decide +kernel) rfl rfl (Nat.le_of_ble_eq_true rfl) rfl (fun G hl hX hret => ?_)
  have hG := hX.1
  obtain ⟨z, hz, h1, h2⟩ := ps_dlr h
  refine ps_aload_n hG dL_owes_0 rfl 3 rfl ?_
  refine ps_iconst (v := 0) hG dL_owes_1 (by decide) ?_
  refine ps_aload_n hG dL_owes_2 rfl 0 rfl ?_
  refine ps_iload_n hG dL_owes_3 rfl 1 rfl ?_
  refine ps_iload_n hG dL_owes_4 rfl 2 rfl ?_
  refine ps_lcall (As := [.int p1, .int p2]) (rest := [.int 0, .ref (w.2.1 102)]) (nA := 2) hX (c_X10_owes _ hX.2.2.2.1 hw hz) gL_owes_X10_owes rfl (by decide +kernel) rfl ⟨(Nat.le_of_ble_eq_true rfl), (Nat.le_of_ble_eq_true rfl)⟩ ⟨rfl, rfl⟩ ⟨(Nat.le_of_ble_eq_true rfl), (Nat.le_of_ble_eq_true rfl)⟩ (ps_lt hw ps_q0.2.2.1) (ps_cel_19 ps_q0.1 _) rfl rfl (Nat.le_of_ble_eq_true rfl) dL_owes_5 (fun e he => ?_) (fun r1 S1 he => ?_)
  · obtain ⟨hk9, rfl⟩ := h1 e he
    simp only [ps_pos] at hk9
    by_cases c0 : e = 1
    · subst c0
      have hk8 : r = 1 := by simp at hk9; exact hk9.symm
      subst hk8
      refine ps_lcatch hX [] [] rfl [] (fun i q hq => by cases hq) rfl (by decide) mL_owes_k15 (by decide) (fun q => ?_)
      refine ps_astore (lv' := [(4, .ref q), (0, .ref (w.2.1 0)), (1, .int p1), (2, .int p2), (3, .ref (w.2.1 102))]) hG dL_owes_13 (by decide) rfl ?_
      refine ps_iconst (v := 1) hG dL_owes_15 (by decide) ?_
      exact hret _ _ _ _ (Nat.le_of_ble_eq_true rfl) (Nat.le_of_ble_eq_true rfl) dL_owes_16
    simp [c0] at hk9
  · obtain ⟨rfl, rfl⟩ := h2 r1 S1 he
    refine ps_i2l hG dL_owes_8 rfl ?_
    refine ps_last (v := r1) hG (ps_lt hw ps_q102.2.2.1) rfl dL_owes_9 ?_
    refine ps_goto (tgt := 17) hG dL_owes_10 (by decide) ?_
    refine ps_iconst (v := 0) hG dL_owes_17 (by decide) ?_
    exact hret _ _ _ _ (Nat.le_of_ble_eq_true rfl) (Nat.le_of_ble_eq_true rfl) dL_owes_18
def f_L_worth (S : ps_S) (p1 : Int32) : Option (Int32 × ps_S) := ps_lr (f_X10_worth S p1) S [1] (fun r => r)
theorem mL_worth_k15 : Cond.classLink RL 15 "java/lang/IndexOutOfBoundsException" ∈ wsL_worth := List.mem_of_getElem? (i := 1) rfl
set_option maxHeartbeats 4000000 in
set_option maxRecDepth 100000 in
theorem c_L_worth (l : Launch) (hflags : l.stackTraces = false) {w : ps_X} (hw : ps_ww w) {S S' : ps_S} {p1 : Int32} {r : Int32} (h : f_L_worth S p1 = some (r, S')) : ps_ML l yL_worth wsL_worth (ps_rx 8 1 6 132) w [.ref (w.2.1 0), .int p1, .ref (w.2.1 102)] S S' r 1 6 := by
  refine ps_mkL hflags (cc := cL_worth) (maxL := 4) (own := RL) (by decide +kernel) rfl rfl (Nat.le_of_ble_eq_true rfl) rfl (fun G hl hX hret => ?_)
  have hG := hX.1
  obtain ⟨z, hz, h1, h2⟩ := ps_dlr h
  refine ps_aload_n hG dL_worth_0 rfl 2 rfl ?_
  refine ps_iconst (v := 0) hG dL_worth_1 (by decide) ?_
  refine ps_aload_n hG dL_worth_2 rfl 0 rfl ?_
  refine ps_iload_n hG dL_worth_3 rfl 1 rfl ?_
  refine ps_lcall (As := [.int p1]) (rest := [.int 0, .ref (w.2.1 102)]) (nA := 1) hX (c_X10_worth _ hX.2.2.2.1 hw hz) gL_worth_X10_worth rfl (by decide +kernel) rfl ⟨(Nat.le_of_ble_eq_true rfl), (Nat.le_of_ble_eq_true rfl)⟩ ⟨rfl, rfl⟩ ⟨(Nat.le_of_ble_eq_true rfl), (Nat.le_of_ble_eq_true rfl)⟩ (ps_lt hw ps_q0.2.2.1) (ps_cel_19 ps_q0.1 _) rfl rfl (Nat.le_of_ble_eq_true rfl) dL_worth_4 (fun e he => ?_) (fun r1 S1 he => ?_)
  · obtain ⟨hk9, rfl⟩ := h1 e he
    simp only [ps_pos] at hk9
    by_cases c0 : e = 1
    · subst c0
      have hk8 : r = 1 := by simp at hk9; exact hk9.symm
      subst hk8
      refine ps_lcatch hX [] [] rfl [] (fun i q hq => by cases hq) rfl (by decide) mL_worth_k15 (by decide) (fun q => ?_)
      refine ps_astore_n (lv' := [(3, .ref q), (0, .ref (w.2.1 0)), (1, .int p1), (2, .ref (w.2.1 102))]) hG dL_worth_12 rfl (by decide) rfl ?_
      refine ps_iconst (v := 1) hG dL_worth_13 (by decide) ?_
      exact hret _ _ _ _ (Nat.le_of_ble_eq_true rfl) (Nat.le_of_ble_eq_true rfl) dL_worth_14
    simp [c0] at hk9
  · obtain ⟨rfl, rfl⟩ := h2 r1 S1 he
    refine ps_i2l hG dL_worth_7 rfl ?_
    refine ps_last (v := r1) hG (ps_lt hw ps_q102.2.2.1) rfl dL_worth_8 ?_
    refine ps_goto (tgt := 15) hG dL_worth_9 (by decide) ?_
    refine ps_iconst (v := 0) hG dL_worth_15 (by decide) ?_
    exact hret _ _ _ _ (Nat.le_of_ble_eq_true rfl) (Nat.le_of_ble_eq_true rfl) dL_worth_16
