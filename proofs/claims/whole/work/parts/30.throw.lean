def ps_E (e : Nat) : String := match e with
  | 0 => "java/lang/IllegalArgumentException"
  | 1 => "java/lang/IndexOutOfBoundsException"
  | _ => "java/lang/IllegalStateException"
def ps_txt : List (Nat × String) := [(86, "there are 16 peers, or one with this id"), (114, "no such place"), (122, "one way or two"), (151, "there are 12 files"), (179, "what is 0 to 3"), (184, "nobody holds this piece"), (210, "at least four pieces are needed"), (222, "there is no day behind the day 500"), (235, "the name is another one's"), (270, "out of range"), (275, "no such peer"), (277, "the peer is not online"), (279, "no such piece"), (281, "no such file")]
def ps_nw : List Cond := [.declares (Bundle.initS "java/lang/RuntimeException"), .declares (Bundle.initS "java/lang/Exception"), .declares (Bundle.initS Bundle.tN), .castable "java/lang/IllegalArgumentException" "java/lang/IllegalArgumentException", .castable "java/lang/IndexOutOfBoundsException" "java/lang/IndexOutOfBoundsException", .castable "java/lang/IllegalStateException" "java/lang/IllegalStateException"]
def ps_nc : List (String × String) := [("java/lang/IllegalArgumentException", "java/lang/IndexOutOfBoundsException"), ("java/lang/IllegalArgumentException", "java/lang/IllegalStateException"), ("java/lang/IndexOutOfBoundsException", "java/lang/IllegalArgumentException"), ("java/lang/IndexOutOfBoundsException", "java/lang/IllegalStateException"), ("java/lang/IllegalStateException", "java/lang/IllegalArgumentException"), ("java/lang/IllegalStateException", "java/lang/IndexOutOfBoundsException")]
def ps_XW (A : Nat → Prop) (U : State) : Prop := vx_Zq Bundle.tN "UNASSIGNED_STACK" Bundle.steD A U U.heap ∧ vx_Zq Bundle.tN "SUPPRESSED_SENTINEL" Bundle.listD A U U.heap ∧ (∀ q ∈ ps_txt, ∃ sa, vk_R RX10 q.1 q.2 sa U) ∧ (∀ w ∈ ps_nw, va_Nw w U) ∧ (∀ q ∈ ps_nc, va_Nc q.1 q.2 U)
theorem ps_nw_moved {s U : State} (hvm : s.vm.Alike U.vm) {w : Cond} (hw : w ∈ ps_nw) (h : va_Nw w s) : va_Nw w U := by
  simp only [ps_nw, List.mem_cons, List.not_mem_nil, or_false] at hw
  rcases hw with rfl | rfl | rfl | rfl | rfl | rfl
  · exact va_tabs rfl (rfl : (s.setVm U.vm).vm = U.vm) (by rw [Cond.declares_setVm hvm]; exact h)
  · exact va_tabs rfl (rfl : (s.setVm U.vm).vm = U.vm) (by rw [Cond.declares_setVm hvm]; exact h)
  · exact va_tabs rfl (rfl : (s.setVm U.vm).vm = U.vm) (by rw [Cond.declares_setVm hvm]; exact h)
  · exact va_tabs rfl (rfl : (s.setVm U.vm).vm = U.vm) (by rw [Cond.castable_setVm hvm]; exact h)
  · exact va_tabs rfl (rfl : (s.setVm U.vm).vm = U.vm) (by rw [Cond.castable_setVm hvm]; exact h)
  · exact va_tabs rfl (rfl : (s.setVm U.vm).vm = U.vm) (by rw [Cond.castable_setVm hvm]; exact h)
theorem ps_XW_go {A B : Nat → Prop} {s U : State} (hW : s.WarmedH U.vm) (h : ps_XW A s) (hq : ∀ a : Nat, a < s.heap.size → ¬ A a → U.heap[a]? = s.heap[a]?) (hAB : ∀ q, B q → A q) : ps_XW B U :=
  ⟨((h.1.moved hW.alike).kept hq).narrow hAB, ((h.2.1.moved hW.alike).kept hq).narrow hAB, fun q hq9 => by obtain ⟨sa, hsa⟩ := h.2.2.1 q hq9; exact ⟨sa, vk_R.warm hW hsa⟩, fun w hw => ps_nw_moved hW.alike hw (h.2.2.2.1 w hw), fun q hq9 => (h.2.2.2.2 q hq9).moved hW.alike⟩
theorem ps_XW_calling {A : Nat → Prop} {U : State} {g : JFrame} {mk : MethodId} {a : Array Value} (h : ps_XW A U) : ps_XW A (U.calling g mk a) :=
  ⟨h.1.moved (u := U) (U := U.calling g mk a) (Vm.Alike.refl U.vm), h.2.1.moved (u := U) (U := U.calling g mk a) (Vm.Alike.refl U.vm), fun q hq9 => by obtain ⟨sa, hsa⟩ := h.2.2.1 q hq9; exact ⟨sa, vk_R.same (u := U) (U := U.calling g mk a) rfl hsa⟩, fun w hw => ps_nw_moved (s := U) (U := U.calling g mk a) (Vm.Alike.refl U.vm) hw (h.2.2.2.1 w hw), fun q hq9 => va_Nc.moved (u := U) (U := U.calling g mk a) (Vm.Alike.refl U.vm) (h.2.2.2.2 q hq9)⟩
def ps_preX (D : va_G) (I : ps_I) (w : ps_X) (S : ps_S) (sz : Nat) : State → Prop := fun U => ps_pre D I w S sz U ∧ ps_XW (va_A (ps_ws I w S) sz) U
theorem ps_blindX {D : va_G} {I : ps_I} {w : ps_X} {S : ps_S} {sz : Nat} {av : List Value} : FrameBlind (va_Pc av (ps_preX D I w S sz)) := fun a U g mk q => by
  obtain ⟨q0, ⟨q1, qP, qK, qD⟩, qX⟩ := q
  exact ⟨q0, ⟨q1, qP, va_K.moved (u := U) (U := U.calling g mk a) (Vm.Alike.refl U.vm) qK, qD⟩, ps_XW_calling qX⟩
/-- a callee that may throw: e with z = .inl e; else z = .inr of the answer and the ints then -/
def ps_XC (D : va_G) (I : ps_I) (A : Nat → Prop) (w : ps_X) (S : ps_S) (P : Nat → Prop) : String → State → State → Prop := vx_X P (fun E e t => E = ps_E e ∧ ps_pst D I A w S t) A
def ps_MXI (l : Launch) (y : MethodName) (ws : List Cond) (rm : Room) (w : ps_X) (av : List Value) (S : ps_S) (z : Nat ⊕ (Int32 × ps_S)) (mc ms : Nat) : Prop := ∀ (D : va_G) (I : ps_I) (sz : Nat), vx_Met l y ws rm (va_Pc av (ps_preX D I w S sz)) (va_Qi (fun r S' => z = .inr (r, S')) (fun S' => ps_pst D I (va_A (ps_ws I w S) sz) w S') (va_A (ps_ws I w S) sz)) (ps_XC D I (va_A (ps_ws I w S) sz) w S (fun e => z = .inl e)) mc ms (va_A (ps_ws I w S) sz)
def ps_MXV (l : Launch) (y : MethodName) (ws : List Cond) (rm : Room) (w : ps_X) (av : List Value) (S : ps_S) (z : Nat ⊕ Unit) (mc ms : Nat) : Prop := ∀ (D : va_G) (I : ps_I) (sz : Nat), vx_Met l y ws rm (va_Pc av (ps_preX D I w S sz)) (va_Qv (fun (_ : Unit) => z = .inr ()) (fun _ => ps_pst D I (va_A (ps_ws I w S) sz) w S) (va_A (ps_ws I w S) sz)) (ps_XC D I (va_A (ps_ws I w S) sz) w S (fun e => z = .inl e)) mc ms (va_A (ps_ws I w S) sz)
def ps_MXR (l : Launch) (y : MethodName) (ws : List Cond) (rm : Room) (w : ps_X) (av : List Value) (S : ps_S) (z : Nat ⊕ Nat) (mc ms : Nat) : Prop := ∀ (D : va_G) (I : ps_I) (sz : Nat), vx_Met l y ws rm (va_Pc av (ps_preX D I w S sz)) (va_Qr (fun u => z = .inr u) (fun u a t => a = w.2.1 u ∧ ps_isF w u ∧ ps_pst D I (va_A (ps_ws I w S) sz) w S t) (va_A (ps_ws I w S) sz)) (ps_XC D I (va_A (ps_ws I w S) sz) w S (fun e => z = .inl e)) mc ms (va_A (ps_ws I w S) sz)
/-- what holds in the body of a method that may throw -/
def ps_okX (G : ps_G) (cc : ByteArray) (own : String) (nL : Nat) (Ts : List Cond) (R : Room) (XC : String → State → State → Prop) (mc ms : Nat) : Prop :=
  ps_ok G cc own nL Ts R ∧ G.2.2.2.2.1 = G.1.2.2.2.2.heap ∧ ps_XW G.2.2.2.1 G.1.2.2.2.2 ∧ G.1.2.1.stackTraces = false ∧ (∀ x ∈ G.2.1.2.2.2.2.exceptionTable.toList, False) ∧ G.2.1.2.2.2.1.locks = false ∧ ∃ Qc, G.2.2.2.2.2 = vx_MQ G.2.1.2.2.1 Qc XC G.2.1.2.1 G.1.2.2.2.2 mc ms G.2.2.2.1
def ps_XE (G : ps_G) (w : ps_X) (S : ps_S) (XC : String → State → State → Prop) (e : Nat) : Prop := ∀ t : State, G.1.2.2.2.2.vm.Alike t.vm → ps_pst G.2.2.1.1 G.2.2.1.2 G.2.2.2.1 w S t → va_F G.2.2.2.1 G.1.2.2.2.2 t → XC (ps_E e) G.1.2.2.2.2 t
def ps_bx {A Z : Type} (x : Option (Nat ⊕ A)) (f : A → Option (Nat ⊕ Z)) : Option (Nat ⊕ Z) := x.bind (Sum.elim (fun e => some (.inl e)) f)
theorem ps_dx {A Z : Type} {x : Option (Nat ⊕ A)} {f : A → Option (Nat ⊕ Z)} {z : Nat ⊕ Z} (h : ps_bx x f = some z) : (∃ q, x = some q) ∧ ∀ q, x = some q → (∀ e, q = .inl e → z = .inl e) ∧ (∀ a, q = .inr a → f a = some z) := by
  obtain ⟨q, hq, h2⟩ := ps_bd h
  refine ⟨⟨q, hq⟩, fun q' hq' => ?_⟩
  cases hq.symm.trans hq'
  refine ⟨fun e he => ?_, fun a ha => ?_⟩
  · subst he; cases h2; rfl
  · subst ha; exact h2
section PX
variable {p : Program} {l : Launch} {e : Env} {R : Room} {s : State} {m : MethodId} {args : Array Value} {below : List Frame} {meth : Method} {c : Code} {H : Heap} {locs : List Loc} {cells slots : Nat} {Q : State → Prop}
variable {mc ms : Nat} {free : Addr → Prop} {A0 A1 : Nat → Prop} {H0 : Heap} {a : Array Value} {pc : Nat} {ls : Array Slot} {st0 rest : List Value}
theorem ps_vcallr {S SX : Type} {post : S → Prop} {px : SX → Prop} {B : S → Nat → State → Prop} {BX : String → SX → State → Prop} {AX : Nat → Prop} (hr : vx_Run p l e R s m args below meth c H locs cells slots mc ms (F0 m pc ls st0) rest (va_Qr post B A1 a) (vx_X px BX AX) free) (hS : va_S A0 H0 H locs) (hA : ∀ q, q < H.size → A1 q → A0 q) (hf : ∀ q, free q → A0 q) (hAX : ∀ q, q < H.size → AX q → A0 q)
    (kx : ∀ (E : String) (ce : Cell) (q9 : Addr) (u : SX) (t : State) (H1 : Heap) (locs1 : List Loc), t.heap = H1 → s.vm.Alike t.vm → px u → BX E u t → H.size ≤ H1.size → (∀ q : Nat, q < H.size → ¬ AX q → H1[q]? = H[q]?) → va_S A0 H0 H1 locs1 → H1[q9]? = some ce → ce.vm = .none → s.vm.findClass E = some ce.cls → vx_W p l e R s m args below meth c H1 locs1 (cells + mc) (slots + ms) Q (F0 m pc ls rest) q9)
    (kk : ∀ (u : S) (ra : Nat) (t : State) (H1 : Heap) (locs1 : List Loc), t.heap = H1 → s.vm.Alike t.vm → post u → B u ra t → H.size ≤ H1.size → (∀ q : Nat, q < H.size → ¬ A1 q → H1[q]? = H[q]?) → va_S A0 H0 H1 locs1 → W p l e R s m args below meth c H1 locs1 (cells + mc) (slots + ms) Q (F0 m (pc + 3) ls (.ref ra :: rest))) : W p l e R s m args below meth c H locs cells slots Q (F0 m pc ls st0) := by
  intro T hT X
  rcases hr T hT X with ⟨v, st₀, t, T', L, h0, X', hL, e1, e2, ⟨⟨u, ra, hv, hp, hb⟩, hF⟩, st⟩ | ⟨q, st₀, t, T', L, E, ce, h0, X', hL, e1, e2, ⟨u, hp, hb, hF⟩, hce, hcv, hcl, st⟩
  · cases hv
    obtain ⟨k1, k2, k3⟩ := vx_keep h0 e1 hS hA hf hL hF
    obtain ⟨t2, a1, b1⟩ := kk u ra t T'.heap (locs ++ L) e1.symm (by rw [← e2]; exact X'.warmed.alike) hp hb k1 k2 k3 T' rfl X'
    exact ⟨t2, st t2 a1, b1⟩
  · obtain ⟨k1, k2, k3⟩ := vx_keep h0 e1 hS hAX hf hL hF
    obtain ⟨t2, a1, b1⟩ := kx E ce q u t T'.heap (locs ++ L) e1.symm (by rw [← e2]; exact X'.warmed.alike) hp hb k1 k2 k3 (by rw [e1]; exact hce) hcv hcl T' rfl X'
    exact ⟨t2, st.trans a1, b1⟩
end PX
section PY
variable {G : ps_G} {nL kc ks : Nat} {w : ps_X} {S S' : ps_S} {pc : Nat} {lv lv' : List (Nat × Value)} {rest : List Value} {cc : ByteArray} {own : String} {Ts : List Cond} {R : Room} {XC : String → State → State → Prop} {mc ms : Nat}
variable {y : MethodName} {C : String} {T : u_T} {N ci index k maxL : Nat} {fs As : List Value} {bytes : ByteArray} {ret : Option FieldType} {ws ws' : List Cond} {rm : Room}
theorem ps_throw (hX : ps_okX G cc RX10 nL Ts R XC mc ms) {cls tx : String} {ik is ic : Nat} (e : Nat) (he : ps_E e = cls) (hXE : ps_XE G w S XC e) (hk : Cond.classLink RX10 ik cls ∈ Ts) (hini : Cond.initialized cls ∈ Ts) (htx : (is, tx) ∈ ps_txt)
    (hg : ∀ q ∈ (vx_atS RX10 ic cls ["java/lang/RuntimeException", "java/lang/Exception"]).filter goodWord, q ∈ Ts) (hn : ∀ q ∈ (vx_atS RX10 ic cls ["java/lang/RuntimeException", "java/lang/Exception"]).filter (fun q => !goodWord q), q ∈ ps_nw) (hcls : Bundle.fit cls = true) (hgood : ∀ q ∈ Cond.classLink RX10 ik cls :: Cond.initialized cls :: vx_atS RX10 ic cls ["java/lang/RuntimeException", "java/lang/Exception"], vx_ot q = true)
    (hRf : 5 < R.frames) (hRl : (rest.map fun v => v.category).sum + 82 ≤ R.locals) (hc : kc + 1 ≤ mc ∧ ks + 6 ≤ ms) (hR : mc ≤ R.cells ∧ ms ≤ R.slots)
    (d0 : decode cc pc = .ok (.new ik, 3)) (d3 : decode cc (pc + 3) = .ok (.dup, 1)) (d4 : decode cc (pc + 4) = .ok (.ldc is, 2)) (d6 : decode cc (pc + 6) = .ok (.invokespecial ic, 3)) (d9 : decode cc (pc + 9) = .ok (.athrow, 1))
    : ps_V G nL kc ks w S pc lv rest := fun H locs ls hP hD hS hi hl => by
  obtain ⟨hG, hH0, hXW, hst, htab, hlk, Qc, hQ⟩ := hX
  obtain ⟨⟨hx, hb, hml, hown, hts⟩, hK, hA, hRR⟩ := hG
  subst hRR
  obtain ⟨sa, hsa⟩ := hXW.2.2.1 _ htx
  rw [hQ]
  rw [hH0] at hS
  refine vx_throwS hx hb hst (names := ["java/lang/RuntimeException", "java/lang/Exception"]) hown hcls (by decide +kernel) (hts _ hk) (hts _ hini) hsa (vx_hat (fun q hq => hts q (hg q hq)) (B := ps_nw) hn (fun q hq => va_Nw.use (by simp only [ps_nw, List.mem_cons, List.not_mem_nil, or_false] at hq; rcases hq with rfl | rfl | rfl | rfl | rfl | rfl <;> rfl) (hXW.2.2.2.1 q hq))) hgood hXW.1 hXW.2.1 hS (hl.1.trans hml.symm) d0 d3 d4 d6 d9 (fun x hx9 => (htab x hx9).elim) hRf hRl (Nat.le_trans hc.1 hR.1) (Nat.le_trans hc.2 hR.2) hlk (fun t hvm hz hq => ?_) (fun z hz => hS.2.2 z hz) hc.1 hc.2
  rw [← he]
  refine hXE t hvm ⟨hP.kept (fun k9 x9 hx9 => hq _ ((hP k9 x9 hx9).lt)), va_K.moved hvm hK, hD, hi⟩ ⟨Nat.le_trans hS.1 hz, fun q h1 h2 => (hq q (Nat.lt_of_lt_of_le h1 hS.1)).trans (hS.2.1 q h1 h2)⟩
theorem ps_throwW (hX : ps_okX G cc RX10 nL Ts R XC mc ms) {cls tx : String} {ik is ic : Nat} (e : Nat) (he : ps_E e = cls) (hXE : ps_XE G w S XC e) (hk : Cond.classLink RX10 ik cls ∈ Ts) (hini : Cond.initialized cls ∈ Ts) (htx : (is, tx) ∈ ps_txt)
    (hg : ∀ q ∈ (vx_atS RX10 ic cls ["java/lang/RuntimeException", "java/lang/Exception"]).filter goodWord, q ∈ Ts) (hn : ∀ q ∈ (vx_atS RX10 ic cls ["java/lang/RuntimeException", "java/lang/Exception"]).filter (fun q => !goodWord q), q ∈ ps_nw) (hcls : Bundle.fit cls = true) (hgood : ∀ q ∈ Cond.classLink RX10 ik cls :: Cond.initialized cls :: vx_atS RX10 ic cls ["java/lang/RuntimeException", "java/lang/Exception"], vx_ot q = true)
    (hRf : 5 < R.frames) (hRl : (rest.map fun v => v.category).sum + 82 ≤ R.locals) (hc : kc + 1 ≤ mc ∧ ks + 6 ≤ ms) (hR : mc ≤ R.cells ∧ ms ≤ R.slots)
    (d0 : decode cc pc = .ok (.new ik, 3)) (d3 : decode cc (pc + 3) = .ok (.dup, 1)) (d4 : decode cc (pc + 4) = .ok (.ldc_w is, 3)) (d7 : decode cc (pc + 7) = .ok (.invokespecial ic, 3)) (d10 : decode cc (pc + 10) = .ok (.athrow, 1))
    : ps_V G nL kc ks w S pc lv rest := fun H locs ls hP hD hS hi hl => by
  obtain ⟨hG, hH0, hXW, hst, htab, hlk, Qc, hQ⟩ := hX
  obtain ⟨⟨hx, hb, hml, hown, hts⟩, hK, hA, hRR⟩ := hG
  subst hRR
  obtain ⟨sa, hsa⟩ := hXW.2.2.1 _ htx
  rw [hQ]
  rw [hH0] at hS
  refine vx_throwSW hx hb hst (names := ["java/lang/RuntimeException", "java/lang/Exception"]) hown hcls (by decide +kernel) (hts _ hk) (hts _ hini) hsa (vx_hat (fun q hq => hts q (hg q hq)) (B := ps_nw) hn (fun q hq => va_Nw.use (by simp only [ps_nw, List.mem_cons, List.not_mem_nil, or_false] at hq; rcases hq with rfl | rfl | rfl | rfl | rfl | rfl <;> rfl) (hXW.2.2.2.1 q hq))) hgood hXW.1 hXW.2.1 hS (hl.1.trans hml.symm) d0 d3 d4 d7 d10 (fun x hx9 => (htab x hx9).elim) hRf hRl (Nat.le_trans hc.1 hR.1) (Nat.le_trans hc.2 hR.2) hlk (fun t hvm hz hq => ?_) (fun z hz => hS.2.2 z hz) hc.1 hc.2
  rw [← he]
  refine hXE t hvm ⟨hP.kept (fun k9 x9 hx9 => hq _ ((hP k9 x9 hx9).lt)), va_K.moved hvm hK, hD, hi⟩ ⟨Nat.le_trans hS.1 hz, fun q h1 h2 => (hq q (Nat.lt_of_lt_of_le h1 hS.1)).trans (hS.2.1 q h1 h2)⟩
theorem ps_xcallVV (hX : ps_okX G cc own nL Ts R XC mc ms) {z : Nat ⊕ Unit} {st : List Value} {nA mc1 ms1 : Nat} (hM : ps_MXV G.1.2.1 y ws rm w (.ref (w.2.1 k) :: As) S z mc1 ms1) (hg : GoodIn Ts (wsV own index C y ws)) (hw : ws = Cond.code y bytes maxL ret :: ws') (hd : y.cls = C ∧ y.cls ≠ "java/lang/invoke/MethodHandle" ∧ y.cls ≠ "java/lang/invoke/VarHandle" ∧ (parseMethodDescriptor y.desc).map (fun d => d.parameters.length) = some nA) (hnA : As.length = nA) (hR : rm.frames + 1 ≤ R.frames ∧ 8 + (maxL + 11) + rm.locals ≤ R.locals) (hz : rm.cells = mc1 ∧ rm.slots = ms1) (hc9 : kc + mc1 ≤ mc ∧ ks + ms1 ≤ ms) (hR9 : mc ≤ R.cells ∧ ms ≤ R.slots) (hk : k < w.1) (hc : ps_cel G.2.2.1.2 w (S k) k = .inr (ci, fs)) (hcl : vwCl[ci]? = some (C, T, N)) (hst : st = As.reverse ++ .ref (w.2.1 k) :: rest) (hrm : (rest.map fun v => v.category).sum ≤ 8) (hdg : decode cc pc = .ok (.invokevirtual index, 3)) (hXE : ∀ e, z = .inl e → ps_XE G w S XC e) (kk : z = .inr () → ps_V G nL (kc + mc1) (ks + ms1) w S (pc + 3) lv rest) : ps_V G nL kc ks w S pc lv st := fun H locs ls hP hD hS hi hl => by
  subst hst
  have hG := hX.1
  have hFc := ps_fr hG hD hS
  obtain ⟨-, hH0, hXW, hst, htab, hlk, Qc, hQ⟩ := hX
  obtain ⟨⟨hx, hb, hml, hown, hts⟩, hK, hA, hRR⟩ := id hG
  subst hRR
  have hat := ps_ws_at (I := G.2.2.1.2) (S := S) hk
  rw [hc] at hat
  refine vx_callv (vx_runV (As := As) (rest := rest) ⟨hx, hb, hml, hown, hts⟩ (hM G.2.2.1.1 G.2.2.1.2 H.size) (cwV nA hts hg hw hz.1 hz.2 hd hR) ⟨ps_blindX, va_recv hK hP hcl hat, fun U hU hW => ⟨rfl, ⟨by rw [hU], by rw [hU]; exact hP, va_K.moved hW.alike hK, hD.weaken (fun _ _ _ _ => trivial), hi⟩, ps_XW_go hW hXW (fun a9 h1 h2 => by rw [hU]; rw [hH0] at hS; exact hS.2.1 a9 h1 h2) (fun q hq => hFc q hq)⟩⟩ rfl hnA hl.1 rfl (lv_room hrm) hdg ⟨Nat.le_trans hc9.1 hR9.1, Nat.le_trans hc9.2 hR9.2⟩) hS (fun q _ h => hFc q h) hFc (fun q _ h => hFc q h) (fun E ce q9 u t H1 locs1 ht hvm hu hBX hz1 hk1 hS1 hce hcv hcl9 => ?_) (fun u t H1 locs1 ht hvm hw2 hB hz1 hk1 hS1 => ?_)
  · obtain ⟨rfl, hP1, hK1, hD1, hi1⟩ := hBX
    rw [hQ]
    refine vx_out (fun x hx9 => (htab x hx9).elim) hlk hce hcv hcl9 (fun t9 ht9 hvm9 => hXE u hu t9 hvm9 ⟨by rw [ht9, ← ht]; exact hP1, va_K.moved hvm9 hK, hD1.weaken (fun k9 q _ h => hFc q.1 h), hi1⟩ ?_) (fun z9 hz9 => hS1.2.2 z9 hz9) hc9.1 hc9.2
    rw [hH0] at hS1
    exact hS1.F ht9
  · obtain ⟨hP1, hK1, hD1, hi1⟩ := hB
    rw [ht] at hP1
    exact kk hw2 H1 locs1 ls hP1 (hD1.weaken (fun k q _ h => hFc q.1 h)) hS1 hi1 hl
theorem ps_xcallSV (hX : ps_okX G cc own nL Ts R XC mc ms) {z : Nat ⊕ Unit} {st : List Value} {nA mc1 ms1 : Nat} (hM : ps_MXV G.1.2.1 y ws rm w As S z mc1 ms1) (hg : GoodIn Ts (va_wsS own index y ws)) (hw : ws = Cond.code y bytes maxL ret :: ws') (hd : y.cls ≠ "java/lang/invoke/MethodHandle" ∧ y.cls ≠ "java/lang/invoke/VarHandle" ∧ (parseMethodDescriptor y.desc).map (fun d => d.parameters.length) = some nA) (hnA : As.length = nA) (hR : rm.frames + 1 ≤ R.frames ∧ 8 + (maxL + 11) + rm.locals ≤ R.locals) (hz : rm.cells = mc1 ∧ rm.slots = ms1) (hc9 : kc + mc1 ≤ mc ∧ ks + ms1 ≤ ms) (hR9 : mc ≤ R.cells ∧ ms ≤ R.slots) (hst : st = As.reverse ++ rest) (hrm : (rest.map fun v => v.category).sum ≤ 8) (hdg : decode cc pc = .ok (.invokestatic index, 3)) (hXE : ∀ e, z = .inl e → ps_XE G w S XC e) (kk : z = .inr () → ps_V G nL (kc + mc1) (ks + ms1) w S (pc + 3) lv rest) : ps_V G nL kc ks w S pc lv st := fun H locs ls hP hD hS hi hl => by
  subst hst
  have hG := hX.1
  have hFc := ps_fr hG hD hS
  obtain ⟨-, hH0, hXW, hst, htab, hlk, Qc, hQ⟩ := hX
  obtain ⟨⟨hx, hb, hml, hown, hts⟩, hK, hA, hRR⟩ := id hG
  subst hRR
  refine vx_callv (vx_runS (As := As) (rest := rest) ⟨hx, hb, hml, hown, hts⟩ (hM G.2.2.1.1 G.2.2.1.2 H.size) (va_cwS nA hts hg hw hz.1 hz.2 hd hR) ⟨ps_blindX, fun U hU hW => ⟨rfl, ⟨by rw [hU], by rw [hU]; exact hP, va_K.moved hW.alike hK, hD.weaken (fun _ _ _ _ => trivial), hi⟩, ps_XW_go hW hXW (fun a9 h1 h2 => by rw [hU]; rw [hH0] at hS; exact hS.2.1 a9 h1 h2) (fun q hq => hFc q hq)⟩⟩ rfl hnA hl.1 rfl (lv_room hrm) hdg ⟨Nat.le_trans hc9.1 hR9.1, Nat.le_trans hc9.2 hR9.2⟩) hS (fun q _ h => hFc q h) hFc (fun q _ h => hFc q h) (fun E ce q9 u t H1 locs1 ht hvm hu hBX hz1 hk1 hS1 hce hcv hcl9 => ?_) (fun u t H1 locs1 ht hvm hw2 hB hz1 hk1 hS1 => ?_)
  · obtain ⟨rfl, hP1, hK1, hD1, hi1⟩ := hBX
    rw [hQ]
    refine vx_out (fun x hx9 => (htab x hx9).elim) hlk hce hcv hcl9 (fun t9 ht9 hvm9 => hXE u hu t9 hvm9 ⟨by rw [ht9, ← ht]; exact hP1, va_K.moved hvm9 hK, hD1.weaken (fun k9 q _ h => hFc q.1 h), hi1⟩ ?_) (fun z9 hz9 => hS1.2.2 z9 hz9) hc9.1 hc9.2
    rw [hH0] at hS1
    exact hS1.F ht9
  · obtain ⟨hP1, hK1, hD1, hi1⟩ := hB
    rw [ht] at hP1
    exact kk hw2 H1 locs1 ls hP1 (hD1.weaken (fun k q _ h => hFc q.1 h)) hS1 hi1 hl
theorem ps_xcallVR (hX : ps_okX G cc own nL Ts R XC mc ms) {z : Nat ⊕ Nat} {st : List Value} {nA mc1 ms1 : Nat} (hM : ps_MXR G.1.2.1 y ws rm w (.ref (w.2.1 k) :: As) S z mc1 ms1) (hg : GoodIn Ts (wsV own index C y ws)) (hw : ws = Cond.code y bytes maxL ret :: ws') (hd : y.cls = C ∧ y.cls ≠ "java/lang/invoke/MethodHandle" ∧ y.cls ≠ "java/lang/invoke/VarHandle" ∧ (parseMethodDescriptor y.desc).map (fun d => d.parameters.length) = some nA) (hnA : As.length = nA) (hR : rm.frames + 1 ≤ R.frames ∧ 8 + (maxL + 11) + rm.locals ≤ R.locals) (hz : rm.cells = mc1 ∧ rm.slots = ms1) (hc9 : kc + mc1 ≤ mc ∧ ks + ms1 ≤ ms) (hR9 : mc ≤ R.cells ∧ ms ≤ R.slots) (hk : k < w.1) (hc : ps_cel G.2.2.1.2 w (S k) k = .inr (ci, fs)) (hcl : vwCl[ci]? = some (C, T, N)) (hst : st = As.reverse ++ .ref (w.2.1 k) :: rest) (hrm : (rest.map fun v => v.category).sum ≤ 8) (hdg : decode cc pc = .ok (.invokevirtual index, 3)) (hXE : ∀ e, z = .inl e → ps_XE G w S XC e) (kk : ∀ u, z = .inr u → ps_isF w u → ps_V G nL (kc + mc1) (ks + ms1) w S (pc + 3) lv (.ref (w.2.1 u) :: rest)) : ps_V G nL kc ks w S pc lv st := fun H locs ls hP hD hS hi hl => by
  subst hst
  have hG := hX.1
  have hFc := ps_fr hG hD hS
  obtain ⟨-, hH0, hXW, hst, htab, hlk, Qc, hQ⟩ := hX
  obtain ⟨⟨hx, hb, hml, hown, hts⟩, hK, hA, hRR⟩ := id hG
  subst hRR
  have hat := ps_ws_at (I := G.2.2.1.2) (S := S) hk
  rw [hc] at hat
  refine ps_vcallr (vx_runV (As := As) (rest := rest) ⟨hx, hb, hml, hown, hts⟩ (hM G.2.2.1.1 G.2.2.1.2 H.size) (cwV nA hts hg hw hz.1 hz.2 hd hR) ⟨ps_blindX, va_recv hK hP hcl hat, fun U hU hW => ⟨rfl, ⟨by rw [hU], by rw [hU]; exact hP, va_K.moved hW.alike hK, hD.weaken (fun _ _ _ _ => trivial), hi⟩, ps_XW_go hW hXW (fun a9 h1 h2 => by rw [hU]; rw [hH0] at hS; exact hS.2.1 a9 h1 h2) (fun q hq => hFc q hq)⟩⟩ rfl hnA hl.1 rfl (lv_room hrm) hdg ⟨Nat.le_trans hc9.1 hR9.1, Nat.le_trans hc9.2 hR9.2⟩) hS (fun q _ h => hFc q h) hFc (fun q _ h => hFc q h) (fun E ce q9 u t H1 locs1 ht hvm hu hBX hz1 hk1 hS1 hce hcv hcl9 => ?_) (fun u ra t H1 locs1 ht hvm hw2 hB hz1 hk1 hS1 => ?_)
  · obtain ⟨rfl, hP1, hK1, hD1, hi1⟩ := hBX
    rw [hQ]
    refine vx_out (fun x hx9 => (htab x hx9).elim) hlk hce hcv hcl9 (fun t9 ht9 hvm9 => hXE u hu t9 hvm9 ⟨by rw [ht9, ← ht]; exact hP1, va_K.moved hvm9 hK, hD1.weaken (fun k9 q _ h => hFc q.1 h), hi1⟩ ?_) (fun z9 hz9 => hS1.2.2 z9 hz9) hc9.1 hc9.2
    rw [hH0] at hS1
    exact hS1.F ht9
  · obtain ⟨hra, hF9, hP1, hK1, hD1, hi1⟩ := hB
    subst hra
    rw [ht] at hP1
    exact kk u hw2 hF9 H1 locs1 ls hP1 (hD1.weaken (fun k q _ h => hFc q.1 h)) hS1 hi1 hl
end PY
def ps_rx (f mc ms lo : Nat) : Room := { frames := f, cells := mc, slots := ms, locals := lo }
theorem ps_widen {G : ps_G} {nL kc ks kc' ks' : Nat} {w : ps_X} {S : ps_S} {pc : Nat} {lv : List (Nat × Value)} {st : List Value} (h1 : kc ≤ kc') (h2 : ks ≤ ks') (kk : ps_V G nL kc' ks' w S pc lv st) : ps_V G nL kc ks w S pc lv st := fun H locs ls hP hD hS hi hl => W.widen h1 h2 (kk H locs ls hP hD hS hi hl)
theorem ps_tg124 : ∀ q ∈ Cond.classLink RX10 120 "java/lang/IllegalArgumentException" :: Cond.initialized "java/lang/IllegalArgumentException" :: vx_atS RX10 124 "java/lang/IllegalArgumentException" ["java/lang/RuntimeException", "java/lang/Exception"], vx_ot q = true := by decide +kernel
theorem ps_tn124 : ∀ q ∈ (vx_atS RX10 124 "java/lang/IllegalArgumentException" ["java/lang/RuntimeException", "java/lang/Exception"]).filter (fun q => !goodWord q), q ∈ ps_nw := by decide +kernel
theorem ps_tg116 : ∀ q ∈ Cond.classLink RX10 112 "java/lang/IndexOutOfBoundsException" :: Cond.initialized "java/lang/IndexOutOfBoundsException" :: vx_atS RX10 116 "java/lang/IndexOutOfBoundsException" ["java/lang/RuntimeException", "java/lang/Exception"], vx_ot q = true := by decide +kernel
theorem ps_tn116 : ∀ q ∈ (vx_atS RX10 116 "java/lang/IndexOutOfBoundsException" ["java/lang/RuntimeException", "java/lang/Exception"]).filter (fun q => !goodWord q), q ∈ ps_nw := by decide +kernel
theorem ps_tg88 : ∀ q ∈ Cond.classLink RX10 84 "java/lang/IllegalStateException" :: Cond.initialized "java/lang/IllegalStateException" :: vx_atS RX10 88 "java/lang/IllegalStateException" ["java/lang/RuntimeException", "java/lang/Exception"], vx_ot q = true := by decide +kernel
theorem ps_tn88 : ∀ q ∈ (vx_atS RX10 88 "java/lang/IllegalStateException" ["java/lang/RuntimeException", "java/lang/Exception"]).filter (fun q => !goodWord q), q ∈ ps_nw := by decide +kernel
theorem ps_tsw4 {G : ps_G} {nL kc ks : Nat} {w : ps_X} {S : ps_S} {pc : Nat} {lv : List (Nat × Value)} {rest : List Value} {cc : ByteArray} {own : String} {Ts : List Cond} {R : Room} (hG : ps_ok G cc own nL Ts R) {x : Int32} {dflt o0 o1 o2 o3 : Int} {len t0 t1 t2 t3 td : Nat} (hdg : decode cc pc = .ok (.tableswitch dflt 0 3 #[o0, o1, o2, o3], len)) (h0 : (pc : Int) + o0 = (t0 : Int)) (h1 : (pc : Int) + o1 = (t1 : Int)) (h2 : (pc : Int) + o2 = (t2 : Int)) (h3 : (pc : Int) + o3 = (t3 : Int)) (hd : (pc : Int) + dflt = (td : Int)) (k0 : x = 0 → ps_V G nL kc ks w S t0 lv rest) (k1 : x = 1 → ps_V G nL kc ks w S t1 lv rest) (k2 : x = 2 → ps_V G nL kc ks w S t2 lv rest) (k3 : x = 3 → ps_V G nL kc ks w S t3 lv rest) (kd : ¬ x = 0 → ¬ x = 1 → ¬ x = 2 → ¬ x = 3 → ps_V G nL kc ks w S td lv rest) : ps_V G nL kc ks w S pc lv (.int x :: rest) := fun H locs ls hP hD hS hi hl => by
  by_cases c0 : x = 0
  · subst c0
    exact lv_tableIn hG.1.1 hG.1.2.1 hdg (by decide) (by decide) rfl h0 (k0 rfl H locs ls hP hD hS hi hl)
  by_cases c1 : x = 1
  · subst c1
    exact lv_tableIn hG.1.1 hG.1.2.1 hdg (by decide) (by decide) rfl h1 (k1 rfl H locs ls hP hD hS hi hl)
  by_cases c2 : x = 2
  · subst c2
    exact lv_tableIn hG.1.1 hG.1.2.1 hdg (by decide) (by decide) rfl h2 (k2 rfl H locs ls hP hD hS hi hl)
  by_cases c3 : x = 3
  · subst c3
    exact lv_tableIn hG.1.1 hG.1.2.1 hdg (by decide) (by decide) rfl h3 (k3 rfl H locs ls hP hD hS hi hl)
  refine lv_tableOut hG.1.1 hG.1.2.1 hdg ?_ hd (kd c0 c1 c2 c3 H locs ls hP hD hS hi hl)
  have e0 : x.toInt ≠ 0 := fun q => c0 (Int32.toInt_inj.mp q)
  have e1 : x.toInt ≠ 1 := fun q => c1 (Int32.toInt_inj.mp q)
  have e2 : x.toInt ≠ 2 := fun q => c2 (Int32.toInt_inj.mp q)
  have e3 : x.toInt ≠ 3 := fun q => c3 (Int32.toInt_inj.mp q)
  omega
theorem ps_mkXI {l : Launch} (hflags : l.stackTraces = false) {y : MethodName} {cc : ByteArray} {maxL : Nat} {ret : Option FieldType} {ws ws' : List Cond} {rm : Room} {own : String} {w : ps_X} {av : List Value} {lv0 : List (Nat × Value)} {S : ps_S} {z : Nat ⊕ (Int32 × ps_S)} {mc ms : Nat} (hy : plainName y.cls = true) (hw : ws = Cond.code y cc maxL ret :: ws') (hret : ret = some .int) (hyc : y.cls = own) (hlen : (lg_sl av).length ≤ maxL) (hlv : lv_args 0 av = lv0)
    (walk : ∀ (G : ps_G) (XC : String → State → State → Prop), G.1.2.1 = l → ps_okX G cc own maxL ws rm XC mc ms → (∀ e, z = .inl e → ps_XE G w S XC e) → (∀ r S', z = .inr (r, S') → ∀ pc lv kc ks, kc ≤ mc → ks ≤ ms → decode cc pc = .ok (.ireturn, 1) → ps_V G maxL kc ks w S' pc lv [.int r]) → ps_V G maxL 0 0 w S 0 lv0 []) : ps_MXI l y ws rm w av S z mc ms := by
  intro D I sz
  refine vx_ofW (cc := cc) (maxL := maxL) (ret := ret) hy hw ?_
  intro p e s m args below meth c s₁ B hml htab hv
  obtain ⟨rfl, ⟨hsz, hP, hK, hD0, hi⟩, hXW⟩ := hv
  have hx := B.exec
  have hb := B.bytes
  have hr := B.returns
  have hts := atoms_spec (ws := ws) B.pre
  have hown : s.vm.findClass own = some m.cls := hyc ▸ findClass_of_methodNamed B.named
  have hlocks := B.notSynchronized
  subst hsz
  have hD := hD0.self (sz := s.heap.size)
  have hl := lv_entry av (n := maxL) hlen
  rw [lg_entry_eq]
  generalize (lg_sl av ++ List.replicate (maxL - (lg_sl av).length) Slot.unset).toArray = ls at hl ⊢
  rw [hlv] at hl
  refine walk ((p, l, e, rm, s), (m, av.toArray, below, meth, c), (D, I), (va_A (ps_ws I w S) s.heap.size, s.heap, _)) _ rfl ⟨⟨⟨hx, hb, hml, hown, hts⟩, hK, fun q h => Or.inr h, rfl⟩, rfl, hXW, hflags, htab, hlocks, _, rfl⟩ (fun e9 he9 t hvm hp hF => ⟨e9, he9, ⟨rfl, hp⟩, hF⟩) ?_ s.heap [] ls hP hD va_S.rf hi hl
  intro r S' hz pc lv kc ks h1 h2 hd H locs ls hP9 hD9 hS9 hi9 hl9
  refine W.widen h1 h2 (vx_ret ?_)
  exact W.iret (v := r) hx hb (hr.trans hret) (fun t ht hW => ⟨⟨r, S', rfl, hz, by rw [ht]; exact hP9, va_K.moved hW.alike hK, hD9, hi9⟩, hS9.F ht⟩) hS9.2.2 hd
theorem ps_mkXZ {l : Launch} (hflags : l.stackTraces = false) {y : MethodName} {cc : ByteArray} {maxL : Nat} {ret : Option FieldType} {ws ws' : List Cond} {rm : Room} {own : String} {w : ps_X} {av : List Value} {lv0 : List (Nat × Value)} {S : ps_S} {z : Nat ⊕ (Int32 × ps_S)} {mc ms : Nat} (hy : plainName y.cls = true) (hw : ws = Cond.code y cc maxL ret :: ws') (hret : ret = some .boolean) (hyc : y.cls = own) (hlen : (lg_sl av).length ≤ maxL) (hlv : lv_args 0 av = lv0)
    (walk : ∀ (G : ps_G) (XC : String → State → State → Prop), G.1.2.1 = l → ps_okX G cc own maxL ws rm XC mc ms → (∀ e, z = .inl e → ps_XE G w S XC e) → (∀ r S', z = .inr (r, S') → ∀ pc lv kc ks, kc ≤ mc → ks ≤ ms → decode cc pc = .ok (.ireturn, 1) → narrow .boolean (.int r) = .int r → ps_V G maxL kc ks w S' pc lv [.int r]) → ps_V G maxL 0 0 w S 0 lv0 []) : ps_MXI l y ws rm w av S z mc ms := by
  intro D I sz
  refine vx_ofW (cc := cc) (maxL := maxL) (ret := ret) hy hw ?_
  intro p e s m args below meth c s₁ B hml htab hv
  obtain ⟨rfl, ⟨hsz, hP, hK, hD0, hi⟩, hXW⟩ := hv
  have hx := B.exec
  have hb := B.bytes
  have hr := B.returns
  have hts := atoms_spec (ws := ws) B.pre
  have hown : s.vm.findClass own = some m.cls := hyc ▸ findClass_of_methodNamed B.named
  have hlocks := B.notSynchronized
  subst hsz
  have hD := hD0.self (sz := s.heap.size)
  have hl := lv_entry av (n := maxL) hlen
  rw [lg_entry_eq]
  generalize (lg_sl av ++ List.replicate (maxL - (lg_sl av).length) Slot.unset).toArray = ls at hl ⊢
  rw [hlv] at hl
  refine walk ((p, l, e, rm, s), (m, av.toArray, below, meth, c), (D, I), (va_A (ps_ws I w S) s.heap.size, s.heap, _)) _ rfl ⟨⟨⟨hx, hb, hml, hown, hts⟩, hK, fun q h => Or.inr h, rfl⟩, rfl, hXW, hflags, htab, hlocks, _, rfl⟩ (fun e9 he9 t hvm hp hF => ⟨e9, he9, ⟨rfl, hp⟩, hF⟩) ?_ s.heap [] ls hP hD va_S.rf hi hl
  intro r S' hz pc lv kc ks h1 h2 hd hn H locs ls hP9 hD9 hS9 hi9 hl9
  refine W.widen h1 h2 (vx_ret ?_)
  exact W.zret (v := r) hx hb (hr.trans hret) hn (fun t ht hW => ⟨⟨r, S', rfl, hz, by rw [ht]; exact hP9, va_K.moved hW.alike hK, hD9, hi9⟩, hS9.F ht⟩) hS9.2.2 hd
theorem ps_mkXV {l : Launch} (hflags : l.stackTraces = false) {y : MethodName} {cc : ByteArray} {maxL : Nat} {ret : Option FieldType} {ws ws' : List Cond} {rm : Room} {own : String} {w : ps_X} {av : List Value} {lv0 : List (Nat × Value)} {S : ps_S} {z : Nat ⊕ Unit} {mc ms : Nat} (hy : plainName y.cls = true) (hw : ws = Cond.code y cc maxL ret :: ws') (hret : ret = none) (hyc : y.cls = own) (hlen : (lg_sl av).length ≤ maxL) (hlv : lv_args 0 av = lv0)
    (walk : ∀ (G : ps_G) (XC : String → State → State → Prop), G.1.2.1 = l → ps_okX G cc own maxL ws rm XC mc ms → (∀ e, z = .inl e → ps_XE G w S XC e) → (z = .inr () → ∀ pc lv kc ks, kc ≤ mc → ks ≤ ms → decode cc pc = .ok (.return_, 1) → ps_V G maxL kc ks w S pc lv []) → ps_V G maxL 0 0 w S 0 lv0 []) : ps_MXV l y ws rm w av S z mc ms := by
  intro D I sz
  refine vx_ofW (cc := cc) (maxL := maxL) (ret := ret) hy hw ?_
  intro p e s m args below meth c s₁ B hml htab hv
  obtain ⟨rfl, ⟨hsz, hP, hK, hD0, hi⟩, hXW⟩ := hv
  have hx := B.exec
  have hb := B.bytes
  have hr := B.returns
  have hts := atoms_spec (ws := ws) B.pre
  have hown : s.vm.findClass own = some m.cls := hyc ▸ findClass_of_methodNamed B.named
  have hlocks := B.notSynchronized
  subst hsz
  have hD := hD0.self (sz := s.heap.size)
  have hl := lv_entry av (n := maxL) hlen
  rw [lg_entry_eq]
  generalize (lg_sl av ++ List.replicate (maxL - (lg_sl av).length) Slot.unset).toArray = ls at hl ⊢
  rw [hlv] at hl
  refine walk ((p, l, e, rm, s), (m, av.toArray, below, meth, c), (D, I), (va_A (ps_ws I w S) s.heap.size, s.heap, _)) _ rfl ⟨⟨⟨hx, hb, hml, hown, hts⟩, hK, fun q h => Or.inr h, rfl⟩, rfl, hXW, hflags, htab, hlocks, _, rfl⟩ (fun e9 he9 t hvm hp hF => ⟨e9, he9, ⟨rfl, hp⟩, hF⟩) ?_ s.heap [] ls hP hD va_S.rf hi hl
  intro hz pc lv kc ks h1 h2 hd H locs ls hP9 hD9 hS9 hi9 hl9
  refine W.widen h1 h2 (vx_ret ?_)
  exact W.vret hx hb (hr.trans hret) (fun t ht hW => ⟨⟨(), rfl, hz, by rw [ht]; exact hP9, va_K.moved hW.alike hK, hD9, hi9⟩, hS9.F ht⟩) hS9.2.2 hd
theorem ps_mkXR {l : Launch} (hflags : l.stackTraces = false) {y : MethodName} {cc : ByteArray} {maxL : Nat} {ret : Option FieldType} {ws ws' : List Cond} {rm : Room} {own : String} {w : ps_X} {av : List Value} {lv0 : List (Nat × Value)} {S : ps_S} {z : Nat ⊕ Nat} {mc ms : Nat} (hy : plainName y.cls = true) (hw : ws = Cond.code y cc maxL ret :: ws') (hret : ∃ n, ret = some (.object n)) (hyc : y.cls = own) (hlen : (lg_sl av).length ≤ maxL) (hlv : lv_args 0 av = lv0)
    (walk : ∀ (G : ps_G) (XC : String → State → State → Prop), G.1.2.1 = l → ps_okX G cc own maxL ws rm XC mc ms → (∀ e, z = .inl e → ps_XE G w S XC e) → (∀ u, z = .inr u → ps_isF w u → ∀ pc lv kc ks, kc ≤ mc → ks ≤ ms → decode cc pc = .ok (.areturn, 1) → ps_V G maxL kc ks w S pc lv [.ref (w.2.1 u)]) → ps_V G maxL 0 0 w S 0 lv0 []) : ps_MXR l y ws rm w av S z mc ms := by
  intro D I sz
  refine vx_ofW (cc := cc) (maxL := maxL) (ret := ret) hy hw ?_
  intro p e s m args below meth c s₁ B hml htab hv
  obtain ⟨rfl, ⟨hsz, hP, hK, hD0, hi⟩, hXW⟩ := hv
  have hx := B.exec
  have hb := B.bytes
  have hr := B.returns
  have hts := atoms_spec (ws := ws) B.pre
  have hown : s.vm.findClass own = some m.cls := hyc ▸ findClass_of_methodNamed B.named
  have hlocks := B.notSynchronized
  subst hsz
  have hD := hD0.self (sz := s.heap.size)
  have hl := lv_entry av (n := maxL) hlen
  rw [lg_entry_eq]
  generalize (lg_sl av ++ List.replicate (maxL - (lg_sl av).length) Slot.unset).toArray = ls at hl ⊢
  rw [hlv] at hl
  refine walk ((p, l, e, rm, s), (m, av.toArray, below, meth, c), (D, I), (va_A (ps_ws I w S) s.heap.size, s.heap, _)) _ rfl ⟨⟨⟨hx, hb, hml, hown, hts⟩, hK, fun q h => Or.inr h, rfl⟩, rfl, hXW, hflags, htab, hlocks, _, rfl⟩ (fun e9 he9 t hvm hp hF => ⟨e9, he9, ⟨rfl, hp⟩, hF⟩) ?_ s.heap [] ls hP hD va_S.rf hi hl
  intro u hz hF9 pc lv kc ks h1 h2 hd H locs ls hP9 hD9 hS9 hi9 hl9
  refine W.widen h1 h2 (vx_ret ?_)
  obtain ⟨n, hret⟩ := hret
  exact W.aret (v := .ref (w.2.1 u)) hx hb (hr.trans hret) (Or.inl ⟨n, rfl⟩) (Or.inr ⟨_, rfl⟩) (fun t ht hW => ⟨⟨u, w.2.1 u, rfl, hz, rfl, hF9, by rw [ht]; exact hP9, va_K.moved hW.alike hK, hD9, hi9⟩, hS9.F ht⟩) hS9.2.2 hd
