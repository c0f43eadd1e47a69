theorem ps_aastF {G : ps_G} {nL kc ks n : Nat} {w : ps_X} {S : ps_S} {pc : Nat} {lv : List (Nat × Value)} {rest : List Value} {cc : ByteArray} {own : String} {Ts : List Cond} {R : Room} (hG : ps_ok G cc own nL Ts R) {i : Int32} (hk : 57 < w.1) (hin : ps_ib i 12 = true) (hn : n = 103 + 7 * i.toNatClampNeg) (hF : ps_isF w n) (hdg : decode cc pc = .ok (.aastore, 1)) (kk : ps_V G nL kc ks w (ps_up S 57 i.toNatClampNeg 1) (pc + 1) lv rest) : ps_V G nL kc ks w S pc lv (.ref (w.2.1 n) :: .int i :: .ref (w.2.1 57) :: rest) := fun H locs ls hP hD hS hi hl => by
  have hat := ps_ws_at (I := G.2.2.1.2) (S := S) hk
  rw [ps_cel_3 (by rfl)] at hat
  have hf0 := ps_isF_0 hF
  have hat2 := ps_ws_at (I := G.2.2.1.2) (S := S) hf0.2.2.1
  rw [ps_cel_17 hf0.1] at hat2
  refine va_astq hG.1.1 hG.1.2.1 hG.2.1 hP hD hS 57 3 n 7 (r := (RX8, TX8, 6)) hat rfl hat2 rfl (ps_ib_in hin) hdg (fun H1 locs1 hP1 hD1 hS1 => ?_)
  have e : (ps_ws G.2.2.1.2 w S).set 57 (w.2.1 57, .inl (G.2.2.1.2.2.2.2.1, ps_ln 57, .inr (.inr (.inr (.inr (va_up (fun i => if S 57 i = 0 then none else some (w.2.1 (103 + 7 * i))) i.toNatClampNeg (some (w.2.1 n)))))))) = ps_ws G.2.2.1.2 w (ps_up S 57 i.toNatClampNeg 1) := by
    have e2 : (.inl (G.2.2.1.2.2.2.2.1, ps_ln 57, .inr (.inr (.inr (.inr (va_up (fun i => if S 57 i = 0 then none else some (w.2.1 (103 + 7 * i))) i.toNatClampNeg (some (w.2.1 n))))))) : va_E) = ps_cel G.2.2.1.2 w (ps_up S 57 i.toNatClampNeg 1 57) 57 := by
      rw [ps_cel_3 (by rfl)]
      have : va_up (fun i => if S 57 i = 0 then none else some (w.2.1 (103 + 7 * i))) i.toNatClampNeg (some (w.2.1 n)) = fun j => if ps_up S 57 i.toNatClampNeg 1 57 j = 0 then none else some (w.2.1 (103 + 7 * j)) := by
        funext j
        by_cases hj : j = i.toNatClampNeg
        · subst hj
          simp [va_up, ps_up, hn]
        · simp [va_up, ps_up, hj]
      rw [this]
    rw [e2]
    exact ps_ws_set rfl (ps_up_off S 57 _ 1)
  rw [e] at hP1 hD1
  refine kk H1 locs1 ls hP1 hD1 hS1 (fun j hj => ?_) hl
  by_cases hj9 : j = i.toNatClampNeg
  · subst hj9
    obtain ⟨i9, h1, h2⟩ := hF
    omega
  · exact hi j (by simpa [ps_up, hj9] using hj)
def ps_MXF (l : Launch) (y : MethodName) (ws : List Cond) (rm : Room) (n : Nat) (ad : Nat → Nat) (av : List Value) (S : ps_S) (z : Nat ⊕ (Int32 × ps_S)) (mc ms : Nat) : Prop := ∀ (D : va_G) (I : ps_I) (sz : Nat), vx_Met l y ws rm (va_Pc av (ps_preX D I (n, ad, ps_T) S sz)) (va_Qi (fun r (u : (Nat → Nat) × ps_S) => (∀ k, k < n → u.1 k = ad k) ∧ z = .inr (r, u.2)) (fun u => ps_pst D I (va_A (ps_ws I (n, ad, ps_T) S) sz) (n + 7, u.1, ps_T) u.2) (va_A (ps_ws I (n, ad, ps_T) S) sz)) (ps_XC D I (va_A (ps_ws I (n, ad, ps_T) S) sz) (n, ad, ps_T) S (fun e => z = .inl e)) mc ms (va_A (ps_ws I (n, ad, ps_T) S) sz)
theorem ps_mkXF {l : Launch} (hflags : l.stackTraces = false) {y : MethodName} {cc : ByteArray} {maxL : Nat} {ret : Option FieldType} {ws ws' : List Cond} {rm : Room} {own : String} {n : Nat} {ad : Nat → Nat} {av : List Value} {lv0 : List (Nat × Value)} {S : ps_S} {z : Nat ⊕ (Int32 × ps_S)} {mc ms : Nat} (hy : plainName y.cls = true) (hw : ws = Cond.code y cc maxL ret :: ws') (hret : ret = some .int) (hyc : y.cls = own) (hlen : (lg_sl av).length ≤ maxL) (hlv : lv_args 0 av = lv0)
    (walk : ∀ (G : ps_G) (XC : String → State → State → Prop), G.1.2.1 = l → ps_okX G cc own maxL ws rm XC mc ms → (∀ e, z = .inl e → ps_XE G (n, ad, ps_T) S XC e) → (∀ (ad2 : Nat → Nat) r S', (∀ k, k < n → ad2 k = ad k) → z = .inr (r, S') → ∀ pc lv kc ks, kc ≤ mc → ks ≤ ms → decode cc pc = .ok (.ireturn, 1) → ps_V G maxL kc ks (n + 7, ad2, ps_T) S' pc lv [.int r]) → ps_V G maxL 0 0 (n, ad, ps_T) S 0 lv0 []) : ps_MXF l y ws rm n ad av S z mc ms := by
  intro D I sz
  refine vx_ofW (cc := cc) (maxL := maxL) (ret := ret) hy hw ?_
  intro p e s m args below meth c s₁ B hml htab hv
  obtain ⟨rfl, ⟨hsz, hP, hK, hD0, hi⟩, hXW⟩ := hv
  have hx := B.exec
  have hb := B.bytes
  have hr := B.returns
  have hts := atoms_spec (ws := ws) B.pre
  have hown : s.vm.findClass own = some m.cls := hyc ▸ findClass_of_methodNamed B.named
  have hlocks := B.notSynchronized
  subst hsz
  have hD := hD0.self (sz := s.heap.size)
  have hl := lv_entry av (n := maxL) hlen
  rw [lg_entry_eq]
  generalize (lg_sl av ++ List.replicate (maxL - (lg_sl av).length) Slot.unset).toArray = ls at hl ⊢
  rw [hlv] at hl
  refine walk ((p, l, e, rm, s), (m, av.toArray, below, meth, c), (D, I), (va_A (ps_ws I (n, ad, ps_T) S) s.heap.size, s.heap, _)) _ rfl ⟨⟨⟨hx, hb, hml, hown, hts⟩, hK, fun q h => Or.inr h, rfl⟩, rfl, hXW, hflags, htab, hlocks, _, rfl⟩ (fun e9 he9 t hvm hp hF => ⟨e9, he9, ⟨rfl, hp⟩, hF⟩) ?_ s.heap [] ls hP hD va_S.rf hi hl
  intro ad2 r S' had hz pc lv kc ks h1 h2 hd H locs ls hP9 hD9 hS9 hi9 hl9
  refine W.widen h1 h2 (vx_ret ?_)
  exact W.iret (v := r) hx hb (hr.trans hret) (fun t ht hW => ⟨⟨r, (ad2, S'), rfl, ⟨had, hz⟩, by rw [ht]; exact hP9, va_K.moved hW.alike hK, hD9, hi9⟩, hS9.F ht⟩) hS9.2.2 hd
def f_X10_file (n : Nat) (S : ps_S) (p1 : Int32) (p2 : Int32) : Option (Nat ⊕ (Int32 × ps_S)) :=
  (ps_bx (f_X10_needPeer S p1) fun _ =>
  (ps_bx (f_X10_needOnline S p1) fun _ =>
  (if (S 0 8) < 0 then
    some (.inl 2)
  else
    (if (S 0 8) < 12 then
      ((f_X8_init n (ps_z S n) p1 p2).bind fun S45 =>
      (if ps_ib (S45 0 8) 12 = true then
      (if S45 0 8 = S 0 8 then
      ((f_X1_storeMissing (ps_up (ps_up S45 57 (S45 0 8).toNatClampNeg 1) 0 8 (((ps_up S45 57 (S45 0 8).toNatClampNeg 1) 0 8) + 1)) n).bind fun S78 =>
      some (.inr (S45 0 8, S78))) else none) else none))
    else
      some (.inl 2)))))
theorem inX10_file_X10 : ∀ q ∈ wsX100, q ∈ wsX10_file := fun _ h => List.mem_cons_of_mem _ (List.mem_append_left _ (List.mem_append_left _ (List.mem_append_left _ (List.mem_append_left _ (List.mem_append_left _ (List.mem_append_left _ (List.mem_append_left _ (List.mem_append_left _ (List.mem_append_right _ h)))))))))
theorem inX10_file_X8 : ∀ q ∈ wsX80, q ∈ wsX10_file := fun _ h => List.mem_cons_of_mem _ (List.mem_append_left _ (List.mem_append_left _ (List.mem_append_left _ (List.mem_append_left _ (List.mem_append_left _ (List.mem_append_left _ (List.mem_append_left _ (List.mem_append_right _ h))))))))
theorem mX10_file_147 : Cond.fieldLink RX10 147 (TX10 8).1 (TX10 8).2.1 (TX10 8).2.2.1 ∈ wsX10_file := List.mem_of_getElem? (i := 3) rfl
theorem mX10_file_41 : Cond.fieldLink RX10 41 (TX10 3).1 (TX10 3).2.1 (TX10 3).2.2.1 ∈ wsX10_file := List.mem_of_getElem? (i := 4) rfl
theorem mX10_file_50 : Cond.fieldLink RX10 50 (TX10 4).1 (TX10 4).2.1 (TX10 4).2.2.1 ∈ wsX10_file := List.mem_of_getElem? (i := 8) rfl
theorem mX10_file_i84 : Cond.initialized "java/lang/IllegalStateException" ∈ wsX10_file := List.mem_of_getElem? (i := 2) rfl
theorem mX10_file_k84 : Cond.classLink RX10 84 "java/lang/IllegalStateException" ∈ wsX10_file := List.mem_of_getElem? (i := 1) rfl
theorem mX10_file_kc39 : Cond.classLink RX10 39 RX8 ∈ wsX10_file := List.mem_of_getElem? (i := 5) rfl
theorem mX10_file_ki39 : Cond.instantiable RX8 6 ∈ wsX10_file := List.mem_of_getElem? (i := 6) rfl
theorem mX10_file_kl39 : Cond.methodLink RX10 153 yX8_init ∈ wsX10_file := List.mem_of_getElem? (i := 33) rfl
theorem mX10_file_km39 : Cond.instanceMethod yX8_init ∈ wsX10_file := List.mem_of_getElem? (i := 34) rfl
theorem mX10_file_kn39 : Cond.initialized RX8 ∈ wsX10_file := List.mem_of_getElem? (i := 7) rfl
theorem gX10_file_t88 : ∀ q ∈ (vx_atS RX10 88 "java/lang/IllegalStateException" ["java/lang/RuntimeException", "java/lang/Exception"]).filter goodWord, q ∈ wsX10_file := fun _ h => List.mem_cons_of_mem _ (List.mem_append_left _ (List.mem_append_right _ h))
set_option maxHeartbeats 4000000 in
set_option maxRecDepth 100000 in
theorem c_X10_file (l : Launch) (hflags : l.stackTraces = false) {n : Nat} {ad : Nat → Nat} (hw : ps_ww (n, ad, ps_T)) {S : ps_S} {p1 p2 : Int32} (hn : n = 103 + 7 * (S 0 8).toNatClampNeg) {z : Nat ⊕ (Int32 × ps_S)} (h : f_X10_file n S p1 p2 = some z) : ps_MXF l yX10_file wsX10_file (ps_rx 7 9 59 156) n ad [.ref (ad 0), .int p1, .int p2] S z 9 59 := by
  refine ps_mkXF hflags (cc := cX10_file) (maxL := 5) (own := RX10) (by decide +kernel) rfl rfl rfl (Nat.le_of_ble_eq_true rfl) rfl (fun G XC hl hX hthr hret => ?_)
  have hG := hX.1
  unfold f_X10_file at h
  refine ps_aload_n hG dX10_file_0 rfl 0 rfl ?_
  refine ps_iload_n hG dX10_file_1 rfl 1 rfl ?_
  obtain ⟨⟨q2, hr2⟩, h2⟩ := ps_dx h
  replace h2 := h2 q2 hr2
  refine ps_xcallVV (As := [.int p1]) (rest := []) (nA := 1) hX (c_X10_needPeer _ hX.2.2.2.1 hw hr2) gX10_file_X10_needPeer rfl (by decide +kernel) rfl ⟨Nat.le_of_ble_eq_true rfl, Nat.le_of_ble_eq_true rfl⟩ ⟨rfl, rfl⟩ ⟨Nat.le_of_ble_eq_true rfl, Nat.le_of_ble_eq_true rfl⟩ ⟨Nat.le_of_ble_eq_true rfl, Nat.le_of_ble_eq_true rfl⟩ (ps_lt hw ps_q0.2.2.1) (ps_cel_19 ps_q0.1 _) rfl rfl (Nat.le_of_ble_eq_true rfl) dX10_file_2 (fun e he => hthr e (h2.1 e he)) (fun hz => ?_)
  replace h := h2.2 _ hz
  refine ps_aload_n hG dX10_file_5 rfl 0 rfl ?_
  refine ps_iload_n hG dX10_file_6 rfl 1 rfl ?_
  obtain ⟨⟨q7, hr7⟩, h7⟩ := ps_dx h
  replace h7 := h7 q7 hr7
  refine ps_xcallVV (As := [.int p1]) (rest := []) (nA := 1) hX (c_X10_needOnline _ hX.2.2.2.1 hw hr7) gX10_file_X10_needOnline rfl (by decide +kernel) rfl ⟨Nat.le_of_ble_eq_true rfl, Nat.le_of_ble_eq_true rfl⟩ ⟨rfl, rfl⟩ ⟨Nat.le_of_ble_eq_true rfl, Nat.le_of_ble_eq_true rfl⟩ ⟨Nat.le_of_ble_eq_true rfl, Nat.le_of_ble_eq_true rfl⟩ (ps_lt hw ps_q0.2.2.1) (ps_cel_19 ps_q0.1 _) rfl rfl (Nat.le_of_ble_eq_true rfl) dX10_file_7 (fun e he => hthr e (h7.1 e he)) (fun hz => ?_)
  replace h := h7.2 _ hz
  refine ps_aload_n hG dX10_file_10 rfl 0 rfl ?_
  refine ps_get19_8 hG inX10_file_X10 ps_q0.1 (ps_lt hw ps_q0.2.2.1) mX10_file_147 dX10_file_11 ?_
  refine ps_if_lt (tgt := 29) hG dX10_file_14 (by decide) (fun c14 => ?_) (fun c14 => ?_)
  · replace h := ps_ip c14 h
    cases h
    exact ps_throw (cls := "java/lang/IllegalStateException") (tx := "there are 12 files") (rest := []) hX 2 rfl (hthr 2 rfl) mX10_file_k84 mX10_file_i84 (by decide) gX10_file_t88 ps_tn88 (by decide +kernel) ps_tg88 (Nat.le_of_ble_eq_true rfl) (Nat.le_of_ble_eq_true rfl) ⟨Nat.le_of_ble_eq_true rfl, Nat.le_of_ble_eq_true rfl⟩ ⟨Nat.le_of_ble_eq_true rfl, Nat.le_of_ble_eq_true rfl⟩ dX10_file_29 dX10_file_32 dX10_file_33 dX10_file_35 dX10_file_38
  · replace h := ps_in c14 h
    refine ps_aload_n hG dX10_file_17 rfl 0 rfl ?_
    refine ps_get19_8 hG inX10_file_X10 ps_q0.1 (ps_lt hw ps_q0.2.2.1) mX10_file_147 dX10_file_18 ?_
    refine ps_aload_n hG dX10_file_21 rfl 0 rfl ?_
    refine ps_get19_3 hG hw inX10_file_X10 ps_q0.1 (ps_lt hw ps_q0.2.2.1) mX10_file_41 dX10_file_22 ?_
    refine ps_alenF (v := 12) hG (ps_lt hw ps_q57.2.2) (by decide) dX10_file_25 ?_
    refine ps_icmp_lt (tgt := 39) hG dX10_file_26 (by decide) (fun c26 => ?_) (fun c26 => ?_)
    · replace h := ps_ip c26 h
      have hB : ps_isB n := ⟨_, hn⟩
      have hfit0 := ps_fit_full hB
      refine ps_newO (ci := 7) (N := 6) (T := TX8) (fs := [.int 0, .null, .null, .null, .null, .null]) hG inX10_file_X8 tyX8 tyX8_ok mX10_file_kc39 mX10_file_ki39 mX10_file_kn39 rfl (fun ad9 => (ps_cel_17 (ps_isB_0 hB).1 _).trans (by simp [ps_rf, ps_uo])) (by decide +kernel) hfit0 (Nat.le_of_ble_eq_true rfl) (Nat.le_of_ble_eq_true rfl) dX10_file_39 (fun ad1 had1 => ?_)
      have hfit1 := ps_fit_uo hfit0 (by rw [(ps_isB_0 hB).1]; decide)
      have hn103 : 103 ≤ n := hw.1
      rw [show ad 0 = ad1 0 from (had1 0 (by omega)).symm]
      refine ps_dup hG dX10_file_42 rfl ?_
      refine ps_iload_n hG dX10_file_43 rfl 1 rfl ?_
      refine ps_iload_n hG dX10_file_44 rfl 2 rfl ?_
      obtain ⟨S45, hr45, h⟩ := ps_bd h
      refine ps_callF (k := n) (As := [.int p1, .int p2]) (rest := [.ref (ad1 n)]) (nA := 2) hG (c_X8_init _ hB hfit1 hr45) gX10_file_X8_init rfl mX10_file_kn39 mX10_file_kl39 mX10_file_km39 rfl (by decide +kernel) rfl ⟨(Nat.le_of_ble_eq_true rfl), (Nat.le_of_ble_eq_true rfl)⟩ ⟨rfl, rfl⟩ ⟨(Nat.le_of_ble_eq_true rfl), (Nat.le_of_ble_eq_true rfl)⟩ rfl (Nat.le_of_ble_eq_true rfl) dX10_file_45 (fun ad2 had2 => ?_)
      rw [show ad1 0 = ad2 0 from (had2 0 (by omega)).symm, show ad1 n = ad2 n from (had2 n (by omega)).symm]
      have hA : ∀ k, k < n → ad2 k = ad k := fun k hk => (had2 k (by omega)).trans (had1 k (by omega))
      obtain ⟨w9, hw9⟩ : ∃ z : ps_X, z = (n + 7, ad2, ps_T) := ⟨_, rfl⟩
      have e9 : ad2 = w9.2.1 := by rw [hw9]
      have hww : ps_ww w9 := by rw [hw9]; exact ⟨by show 103 ≤ n + 7; omega, fun _ _ => rfl⟩
      have hF9 : ps_isF w9 n := by obtain ⟨i, hi⟩ := hB; exact ⟨i, hi, by rw [hw9]; exact Nat.le_refl _⟩
      have hn9 : w9.1 = n + 7 := by rw [hw9]
      rw [← hw9, e9]
      replace hret := fun r S9 hz => hret ad2 r S9 hA hz
      rw [← hw9] at hret
      clear had1 had2 hfit0 hfit1
      have hw0 := hw
      clear hw
      rename ps_ww w9 => hw
      refine ps_astore_n (lv' := [(3, .ref (w9.2.1 n)), (0, .ref (w9.2.1 0)), (1, .int p1), (2, .int p2)]) hG dX10_file_48 rfl (by decide) rfl ?_
      refine ps_aload_n hG dX10_file_49 rfl 1 rfl ?_
      refine ps_get19_8 hG inX10_file_X10 ps_q0.1 (ps_lt hw ps_q0.2.2.1) mX10_file_147 dX10_file_50 ?_
      refine ps_istore (lv' := [(4, .int (S45 0 8)), (3, .ref (w9.2.1 n)), (0, .ref (w9.2.1 0)), (1, .int p1), (2, .int p2)]) hG dX10_file_53 (by decide) rfl ?_
      refine ps_aload_n hG dX10_file_55 rfl 2 rfl ?_
      refine ps_get19_3 hG hw inX10_file_X10 ps_q0.1 (ps_lt hw ps_q0.2.2.1) mX10_file_41 dX10_file_56 ?_
      refine ps_iload hG dX10_file_59 0 rfl ?_
      refine ps_aload_n hG dX10_file_61 rfl 1 rfl ?_
      obtain ⟨hb62, h⟩ := ps_ig h
      obtain ⟨hc62, h⟩ := ps_ig h
      refine ps_aastF hG (ps_lt hw ps_q57.2.2) hb62 (by rw [hc62]; exact hn) hF9 dX10_file_62 ?_
      refine ps_aload_n hG dX10_file_63 rfl 2 rfl ?_
      refine ps_dup hG dX10_file_64 rfl ?_
      refine ps_get19_8 hG inX10_file_X10 ps_q0.1 (ps_lt hw ps_q0.2.2.1) mX10_file_147 dX10_file_65 ?_
      refine ps_iconst (v := 1) hG dX10_file_68 (by decide) ?_
      refine ps_iadd hG dX10_file_69 ?_
      refine ps_put19_8 hG inX10_file_X10 ps_q0.1 (ps_lt hw ps_q0.2.2.1) ps_q0.2.2.2 mX10_file_147 dX10_file_70 ?_
      refine ps_aload_n hG dX10_file_73 rfl 2 rfl ?_
      refine ps_get19_4 hG hw inX10_file_X10 ps_q0.1 (ps_lt hw ps_q0.2.2.1) mX10_file_50 dX10_file_74 ?_
      refine ps_aload_n hG dX10_file_77 rfl 1 rfl ?_
      obtain ⟨S78, hr78, h⟩ := ps_bd h
      refine ps_callVV (As := [.ref (w9.2.1 n)]) (rest := []) (nA := 1) hG (c_X1_storeMissing _ hw hF9 hr78) gX10_file_X1_storeMissing rfl (by decide +kernel) rfl ⟨Nat.le_of_ble_eq_true rfl, Nat.le_of_ble_eq_true rfl⟩ ⟨rfl, rfl⟩ ⟨Nat.le_of_ble_eq_true rfl, Nat.le_of_ble_eq_true rfl⟩ (ps_lt hw ps_q58.2.2.1) (ps_cel_10 ps_q58.1 _) rfl rfl (Nat.le_of_ble_eq_true rfl) dX10_file_78 ?_
      refine ps_iload hG dX10_file_81 0 rfl ?_
      cases h
      exact hret _ _ rfl _ _ _ _ (Nat.le_of_ble_eq_true rfl) (Nat.le_of_ble_eq_true rfl) dX10_file_83
    · replace h := ps_in c26 h
      cases h
      exact ps_throw (cls := "java/lang/IllegalStateException") (tx := "there are 12 files") (rest := []) hX 2 rfl (hthr 2 rfl) mX10_file_k84 mX10_file_i84 (by decide) gX10_file_t88 ps_tn88 (by decide +kernel) ps_tg88 (Nat.le_of_ble_eq_true rfl) (Nat.le_of_ble_eq_true rfl) ⟨Nat.le_of_ble_eq_true rfl, Nat.le_of_ble_eq_true rfl⟩ ⟨Nat.le_of_ble_eq_true rfl, Nat.le_of_ble_eq_true rfl⟩ dX10_file_29 dX10_file_32 dX10_file_33 dX10_file_35 dX10_file_38
theorem ps_lcallF {G : ps_G} {nL kc ks n : Nat} {ad : Nat → Nat} {S : ps_S} {pc : Nat} {lv : List (Nat × Value)} {rest : List Value} {cc : ByteArray} {own : String} {Ts : List Cond} {R : Room} {hh : List (Nat × Nat × Nat × Nat)} {y : MethodName} {C : String} {T : u_T} {N ci index k maxL : Nat} {fs As : List Value} {bytes : ByteArray} {ret : Option FieldType} {ws ws' : List Cond} {rm : Room} (hX : ps_okL G cc own nL Ts R hh) {z : Nat ⊕ (Int32 × ps_S)} {st : List Value} {nA mc1 ms1 : Nat} (hM : ps_MXF G.1.2.1 y ws rm n ad (.ref (ad k) :: As) S z mc1 ms1) (hg : GoodIn Ts (wsV own index C y ws)) (hw : ws = Cond.code y bytes maxL ret :: ws') (hd : y.cls = C ∧ y.cls ≠ "java/lang/invoke/MethodHandle" ∧ y.cls ≠ "java/lang/invoke/VarHandle" ∧ (parseMethodDescriptor y.desc).map (fun d => d.parameters.length) = some nA) (hnA : As.length = nA) (hR : rm.frames + 1 ≤ R.frames ∧ 8 + (maxL + 11) + rm.locals ≤ R.locals) (hz : rm.cells = mc1 ∧ rm.slots = ms1) (hR9 : kc + mc1 ≤ R.cells ∧ ks + ms1 ≤ R.slots) (hk : k < n) (hc : ps_cel G.2.2.1.2 (n, ad, ps_T) (S k) k = .inr (ci, fs)) (hcl : vwCl[ci]? = some (C, T, N)) (hst : st = As.reverse ++ .ref (ad k) :: rest) (hrm : (rest.map fun v => v.category).sum ≤ 8) (hdg : decode cc pc = .ok (.invokevirtual index, 3)) (kx : ∀ e, z = .inl e → ps_VX G nL (kc + mc1) (ks + ms1) (n, ad, ps_T) S pc lv rest e) (kk : ∀ (ad2 : Nat → Nat) r S', (∀ k, k < n → ad2 k = ad k) → z = .inr (r, S') → ps_V G nL (kc + mc1) (ks + ms1) (n + 7, ad2, ps_T) S' (pc + 3) lv (.int r :: rest)) : ps_V G nL kc ks (n, ad, ps_T) S pc lv st := fun H locs ls hP hD hS hi hl => by
  subst hst
  have hG := hX.1
  have hFc := ps_fr hG hD hS
  obtain ⟨-, hH0, hXW, hst, htab⟩ := hX
  obtain ⟨⟨hx, hb, hml, hown, hts⟩, hK, hA, hRR⟩ := id hG
  subst hRR
  have hat := ps_ws_at (I := G.2.2.1.2) (w := (n, ad, ps_T)) (S := S) hk
  rw [hc] at hat
  refine vx_calli (vx_runV (As := As) (rest := rest) ⟨hx, hb, hml, hown, hts⟩ (hM G.2.2.1.1 G.2.2.1.2 H.size) (cwV nA hts hg hw hz.1 hz.2 hd hR) ⟨ps_blindX, va_recv hK hP hcl hat, fun U hU hW => ⟨rfl, ⟨by rw [hU], by rw [hU]; exact hP, va_K.moved hW.alike hK, hD.weaken (fun _ _ _ _ => trivial), hi⟩, ps_XW_go hW hXW (fun a9 h1 h2 => by rw [hU]; rw [hH0] at hS; exact hS.2.1 a9 h1 h2) (fun q hq => hFc q hq)⟩⟩ rfl hnA hl.1 rfl (lv_room hrm) hdg ⟨hR9.1, hR9.2⟩) hS (fun q _ h => hFc q h) hFc (fun q _ h => hFc q h) (fun E ce q9 u t H1 locs1 ht hvm hu hBX hz1 hk1 hS1 hce hcv hcl9 => ?_) (fun r u t H1 locs1 ht hvm hw2 hB hz1 hk1 hS1 => ?_)
  · obtain ⟨rfl, hP1, hK1, hD1, hi1⟩ := hBX
    rw [ht] at hP1
    exact kx u hu H1 locs1 ls q9 ce hP1 (hD1.weaken (fun k9 q _ h => hFc q.1 h)) hS1 hi1 hl hce hcv hcl9
  · obtain ⟨hP1, hK1, hD1, hi1⟩ := hB
    rw [ht] at hP1
    exact kk u.1 r u.2 hw2.1 hw2.2 H1 locs1 ls hP1 (hD1.weaken (fun k q _ h => hFc q.1 h)) hS1 hi1 hl
def ps_MLF (l : Launch) (y : MethodName) (ws : List Cond) (rm : Room) (n : Nat) (ad : Nat → Nat) (av : List Value) (S S' : ps_S) (r : Int32) (mc ms : Nat) : Prop := ∀ (D : va_G) (I : ps_I) (sz : Nat), vx_Met l y ws rm (va_Pc av (ps_preX D I (n, ad, ps_T) S sz)) (va_Qi (fun r' (u : (Nat → Nat) × Nat) => r' = r ∧ (∀ k, k < n → u.1 k = ad k) ∧ u.2 = if r = 0 then n + 7 else n) (fun u => ps_pst D I (va_A (ps_ws I (n, ad, ps_T) S) sz) (u.2, u.1, ps_T) S') (va_A (ps_ws I (n, ad, ps_T) S) sz)) (ps_XC D I (va_A (ps_ws I (n, ad, ps_T) S) sz) (n, ad, ps_T) S (fun _ => False)) mc ms (va_A (ps_ws I (n, ad, ps_T) S) sz)
theorem ps_mkLF {l : Launch} (hflags : l.stackTraces = false) {y : MethodName} {cc : ByteArray} {maxL : Nat} {ws ws' : List Cond} {rm : Room} {own : String} {n : Nat} {ad : Nat → Nat} {av : List Value} {lv0 : List (Nat × Value)} {S S' : ps_S} {r : Int32} {mc ms : Nat} {hh : List (Nat × Nat × Nat × Nat)} (hy : plainName y.cls = true) (hw : ws = Cond.codeWith y cc maxL (some .int) hh :: ws') (hyc : y.cls = own) (hlen : (lg_sl av).length ≤ maxL) (hlv : lv_args 0 av = lv0)
    (walk : ∀ (G : ps_G), G.1.2.1 = l → ps_okL G cc own maxL ws rm hh → (∀ (ad2 : Nat → Nat) n2, (∀ k, k < n → ad2 k = ad k) → n2 = (if r = 0 then n + 7 else n) → ∀ pc lv kc ks, kc ≤ mc → ks ≤ ms → decode cc pc = .ok (.ireturn, 1) → ps_V G maxL kc ks (n2, ad2, ps_T) S' pc lv [.int r]) → ps_V G maxL 0 0 (n, ad, ps_T) S 0 lv0 []) : ps_MLF l y ws rm n ad av S S' r mc ms := by
  intro D I sz
  refine vx_ofWH (cc := cc) (maxL := maxL) (ret := some .int) (hh := hh) hy hw ?_
  intro p e s m args below meth c s₁ B hml hv
  obtain ⟨rfl, ⟨hsz, hP, hK, hD0, hi⟩, hXW⟩ := hv
  have hx := B.exec
  have hb := B.bytes
  have hr := B.returns
  have hts := atoms_spec (ws := ws) B.pre
  have hown : s.vm.findClass own = some m.cls := hyc ▸ findClass_of_methodNamed B.named
  have hlocks := B.notSynchronized
  have htab := vx_table (x := y) B (hts (Cond.codeWith y cc maxL (some .int) hh) (by rw [hw]; exact List.mem_cons_self))
  subst hsz
  have hD := hD0.self (sz := s.heap.size)
  have hl := lv_entry av (n := maxL) hlen
  rw [lg_entry_eq]
  generalize (lg_sl av ++ List.replicate (maxL - (lg_sl av).length) Slot.unset).toArray = ls at hl ⊢
  rw [hlv] at hl
  refine walk ((p, l, e, rm, s), (m, av.toArray, below, meth, c), (D, I), (va_A (ps_ws I (n, ad, ps_T) S) s.heap.size, s.heap, _)) rfl ⟨⟨⟨hx, hb, hml, hown, hts⟩, hK, fun q h => Or.inr h, rfl⟩, rfl, hXW, hflags, htab⟩ ?_ s.heap [] ls hP hD va_S.rf hi hl
  intro ad2 n2 had hn2 pc lv kc ks h1 h2 hd H locs ls hP9 hD9 hS9 hi9 hl9
  refine W.widen h1 h2 (vx_ret ?_)
  exact W.iret (v := r) hx hb hr (fun t ht hW => ⟨⟨r, (ad2, n2), rfl, ⟨rfl, had, hn2⟩, by rw [ht]; exact hP9, va_K.moved hW.alike hK, hD9, hi9⟩, hS9.F ht⟩) hS9.2.2 hd
theorem mL_file_k15 : Cond.classLink RL 15 "java/lang/IndexOutOfBoundsException" ∈ wsL_file := List.mem_of_getElem? (i := 1) rfl
theorem mL_file_k17 : Cond.classLink RL 17 "java/lang/IllegalStateException" ∈ wsL_file := List.mem_of_getElem? (i := 2) rfl
def f_L_file (n : Nat) (S : ps_S) (p1 : Int32) (p2 : Int32) : Option (Int32 × ps_S) := ps_lr (f_X10_file n S p1 p2) S [1, 2] (fun r => r)
set_option maxHeartbeats 4000000 in
set_option maxRecDepth 100000 in
theorem c_L_file (l : Launch) (hflags : l.stackTraces = false) {n : Nat} {ad : Nat → Nat} (hw : ps_ww (n, ad, ps_T)) {S S' : ps_S} {p1 p2 : Int32} (hn : n = 103 + 7 * (S 0 8).toNatClampNeg) {r : Int32} (h : f_L_file n S p1 p2 = some (r, S')) : ps_MLF l yL_file wsL_file (ps_rx 8 9 59 180) n ad [.ref (ad 0), .int p1, .int p2, .ref (ad 102)] S S' r 9 59 := by
  refine ps_mkLF hflags (cc := cL_file) (maxL := 5) (own := RL) (by decide +kernel) rfl rfl (Nat.le_of_ble_eq_true rfl) rfl (fun G hl hX hret => ?_)
  have hG := hX.1
  have hn103 : 103 ≤ n := hw.1
  obtain ⟨z, hz, h1, h2⟩ := ps_dlr h
  show ps_V G 5 0 0 (n, ad, ps_T) S 0 [(0, .ref (ad 0)), (1, .int p1), (2, .int p2), (3, .ref (ad 102))] []
  refine ps_aload_n hG dL_file_0 rfl 3 rfl ?_
  refine ps_iconst (v := 0) hG dL_file_1 (by decide) ?_
  refine ps_aload_n hG dL_file_2 rfl 0 rfl ?_
  refine ps_iload_n hG dL_file_3 rfl 1 rfl ?_
  refine ps_iload_n hG dL_file_4 rfl 2 rfl ?_
  refine ps_lcallF (k := 0) (As := [.int p1, .int p2]) (rest := [.int 0, .ref (ad 102)]) (nA := 2) hX (c_X10_file _ hX.2.2.2.1 hw hn hz) gL_file_X10_file rfl (by decide +kernel) rfl ⟨(Nat.le_of_ble_eq_true rfl), (Nat.le_of_ble_eq_true rfl)⟩ ⟨rfl, rfl⟩ ⟨(Nat.le_of_ble_eq_true rfl), (Nat.le_of_ble_eq_true rfl)⟩ (by omega) (ps_cel_19 ps_q0.1 _) rfl rfl (Nat.le_of_ble_eq_true rfl) dL_file_5 (fun e he => ?_) (fun ad2 r1 S1 had2 he => ?_)
  · obtain ⟨hk9, rfl⟩ := h1 e he
    simp only [ps_pos] at hk9
    by_cases c0 : e = 1
    · subst c0
      have hk8 : r = 1 := by simp at hk9; exact hk9.symm
      subst hk8
      refine ps_lcatch hX [] [(0, 10, 17, 17)] rfl [] (fun i q hq => by cases hq) rfl (by decide) mL_file_k15 (by decide) (fun q => ?_)
      refine ps_astore (lv' := [(4, .ref q), (0, .ref (ad 0)), (1, .int p1), (2, .int p2), (3, .ref (ad 102))]) hG dL_file_13 (by decide) rfl ?_
      refine ps_iconst (v := 1) hG dL_file_15 (by decide) ?_
      exact hret ad n (fun _ _ => rfl) rfl _ _ _ _ (Nat.le_of_ble_eq_true rfl) (Nat.le_of_ble_eq_true rfl) dL_file_16
    by_cases c1 : e = 2
    · subst c1
      have hk8 : r = 2 := by simp at hk9; exact hk9.symm
      subst hk8
      refine ps_lcatch hX [(0, 10, 13, 15)] [] rfl ["java/lang/IndexOutOfBoundsException"] (fun i q hq => by
        match i, hq with
        | 0, hq => cases hq; exact ⟨by decide, "java/lang/IndexOutOfBoundsException", rfl, mL_file_k15, by decide⟩
        | i + 1, hq => cases hq) rfl (by decide) mL_file_k17 (by decide) (fun q => ?_)
      refine ps_astore (lv' := [(4, .ref q), (0, .ref (ad 0)), (1, .int p1), (2, .int p2), (3, .ref (ad 102))]) hG dL_file_17 (by decide) rfl ?_
      refine ps_iconst (v := 2) hG dL_file_19 (by decide) ?_
      exact hret ad n (fun _ _ => rfl) rfl _ _ _ _ (Nat.le_of_ble_eq_true rfl) (Nat.le_of_ble_eq_true rfl) dL_file_20
    simp [c0, c1] at hk9
  · obtain ⟨rfl, rfl⟩ := h2 r1 S1 he
    rw [show ad 102 = ad2 102 from (had2 102 (by omega)).symm]
    refine ps_i2l hG dL_file_8 rfl ?_
    refine ps_last (w := (n + 7, ad2, ps_T)) (v := r1) hG (by show 102 < n + 7; omega) rfl dL_file_9 ?_
    refine ps_goto (tgt := 21) hG dL_file_10 (by decide) ?_
    refine ps_iconst (v := 0) hG dL_file_21 (by decide) ?_
    exact hret ad2 (n + 7) had2 rfl _ _ _ _ (Nat.le_of_ble_eq_true rfl) (Nat.le_of_ble_eq_true rfl) dL_file_22
