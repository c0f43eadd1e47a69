def f_X11_thrown (S : ps_S) : Option Int32 :=
  some (S 80 0)
theorem inX11_thrown_X11 : ∀ q ∈ wsX110, q ∈ wsX11_thrown := fun _ h => List.mem_cons_of_mem _ (List.mem_append_right _ h)
theorem mX11_thrown_74 : Cond.fieldLink RX11 74 (TX11 0).1 (TX11 0).2.1 (TX11 0).2.2.1 ∈ wsX11_thrown := List.mem_of_getElem? (i := 1) rfl
set_option maxHeartbeats 4000000 in
set_option maxRecDepth 100000 in
theorem c_X11_thrown (l : Launch) {w : ps_X} (hw : ps_ww w) {S : ps_S} {r : Int32} (h : f_X11_thrown S = some r) : ps_MetI l yX11_thrown wsX11_thrown (ps_rm 0 0) w [.ref (w.2.1 80)] S S r := by
  refine ps_mkI (cc := cX11_thrown) (maxL := 1) (own := RX11) (by decide +kernel) rfl (Or.inl rfl) rfl (Nat.le_of_ble_eq_true rfl) rfl (fun G hl hG hret => ?_)
  unfold f_X11_thrown at h
  refine ps_aload_n hG dX11_thrown_0 rfl 0 rfl ?_
  refine ps_get20_0 hG inX11_thrown_X11 ps_q80.1 (ps_lt hw ps_q80.2.2.1) mX11_thrown_74 dX11_thrown_1 ?_
  cases h
  exact hret _ _ dX11_thrown_4
def f_X11_holds (S : ps_S) (p1 : Int32) : Option (Int32 × ps_S) :=
  (if p1 = 0 then
    some (1, ps_up S 80 0 p1)
  else
    some (0, ps_up S 80 0 p1))
theorem inX11_holds_X11 : ∀ q ∈ wsX110, q ∈ wsX11_holds := fun _ h => List.mem_cons_of_mem _ (List.mem_append_right _ h)
theorem mX11_holds_74 : Cond.fieldLink RX11 74 (TX11 0).1 (TX11 0).2.1 (TX11 0).2.2.1 ∈ wsX11_holds := List.mem_of_getElem? (i := 1) rfl
set_option maxHeartbeats 4000000 in
set_option maxRecDepth 100000 in
theorem c_X11_holds (l : Launch) {w : ps_X} (hw : ps_ww w) {S S' : ps_S} {p1 : Int32} {r : Int32} (h : f_X11_holds S p1 = some (r, S')) : ps_MetI l yX11_holds wsX11_holds (ps_rm 0 0) w [.ref (w.2.1 80), .int p1] S S' r := by
  refine ps_mkZ (cc := cX11_holds) (maxL := 2) (own := RX11) (by decide +kernel) rfl rfl rfl (Nat.le_of_ble_eq_true rfl) rfl (fun G hl hG hret => ?_)
  unfold f_X11_holds at h
  refine ps_aload_n hG dX11_holds_0 rfl 0 rfl ?_
  refine ps_iload_n hG dX11_holds_1 rfl 1 rfl ?_
  refine ps_put20_0 hG inX11_holds_X11 ps_q80.1 (ps_lt hw ps_q80.2.2.1) ps_q80.2.2.2 mX11_holds_74 dX11_holds_2 ?_
  refine ps_iload_n hG dX11_holds_5 rfl 1 rfl ?_
  refine ps_if_ne (tgt := 13) hG dX11_holds_6 (by decide) (fun c6 => ?_) (fun c6 => ?_)
  · replace h := ps_in c6 h
    refine ps_iconst (v := 0) hG dX11_holds_13 (by decide) ?_
    cases h
    exact hret _ _ dX11_holds_14 rfl
  · replace h := ps_ip c6 h
    refine ps_iconst (v := 1) hG dX11_holds_9 (by decide) ?_
    refine ps_goto (tgt := 14) hG dX11_holds_10 (by decide) ?_
    cases h
    exact hret _ _ dX11_holds_14 rfl
def f_X11_isIn (p0 : Int32) (p1 : Int32) (p2 : Int32) : Option Int32 :=
  (if p0 < p1 then
    some 0
  else
    (if p2 < p0 then
      some 0
    else
      some 1))
set_option maxHeartbeats 4000000 in
set_option maxRecDepth 100000 in
theorem c_X11_isIn (l : Launch) {w : ps_X} (hw : ps_ww w) {S : ps_S} {p0 p1 p2 : Int32} {r : Int32} (h : f_X11_isIn p0 p1 p2 = some r) : ps_MetI l yX11_isIn wsX11_isIn (ps_rm 0 0) w [.int p0, .int p1, .int p2] S S r := by
  refine ps_mkZ (cc := cX11_isIn) (maxL := 3) (own := RX11) (by decide +kernel) rfl rfl rfl (Nat.le_of_ble_eq_true rfl) rfl (fun G hl hG hret => ?_)
  unfold f_X11_isIn at h
  refine ps_iload_n hG dX11_isIn_0 rfl 0 rfl ?_
  refine ps_iload_n hG dX11_isIn_1 rfl 1 rfl ?_
  refine ps_icmp_lt (tgt := 14) hG dX11_isIn_2 (by decide) (fun c2 => ?_) (fun c2 => ?_)
  · replace h := ps_ip c2 h
    refine ps_iconst (v := 0) hG dX11_isIn_14 (by decide) ?_
    cases h
    exact hret _ _ dX11_isIn_15 rfl
  · replace h := ps_in c2 h
    refine ps_iload_n hG dX11_isIn_5 rfl 0 rfl ?_
    refine ps_iload_n hG dX11_isIn_6 rfl 2 rfl ?_
    refine ps_icmp_gt (tgt := 14) hG dX11_isIn_7 (by decide) (fun c7 => ?_) (fun c7 => ?_)
    · replace h := ps_ip c7 h
      refine ps_iconst (v := 0) hG dX11_isIn_14 (by decide) ?_
      cases h
      exact hret _ _ dX11_isIn_15 rfl
    · replace h := ps_in c7 h
      refine ps_iconst (v := 1) hG dX11_isIn_10 (by decide) ?_
      refine ps_goto (tgt := 15) hG dX11_isIn_11 (by decide) ?_
      cases h
      exact hret _ _ dX11_isIn_15 rfl
def f_X11_isPeer (S : ps_S) (p1 : Int32) : Option Int32 :=
  ((f_X11_isIn p1 0 ((S 80 2) - 1)).bind fun r8 =>
  (if r8 = 0 ∨ r8 = 1 then some r8 else none))
theorem inX11_isPeer_X11 : ∀ q ∈ wsX110, q ∈ wsX11_isPeer := fun _ h => List.mem_cons_of_mem _ (List.mem_append_right _ h)
theorem mX11_isPeer_78 : Cond.fieldLink RX11 78 (TX11 2).1 (TX11 2).2.1 (TX11 2).2.2.1 ∈ wsX11_isPeer := List.mem_of_getElem? (i := 1) rfl
set_option maxHeartbeats 4000000 in
set_option maxRecDepth 100000 in
theorem c_X11_isPeer (l : Launch) {w : ps_X} (hw : ps_ww w) {S : ps_S} {p1 : Int32} {r : Int32} (h : f_X11_isPeer S p1 = some r) : ps_MetI l yX11_isPeer wsX11_isPeer (ps_rm 1 22) w [.ref (w.2.1 80), .int p1] S S r := by
  refine ps_mkZ (cc := cX11_isPeer) (maxL := 2) (own := RX11) (by decide +kernel) rfl rfl rfl (Nat.le_of_ble_eq_true rfl) rfl (fun G hl hG hret => ?_)
  unfold f_X11_isPeer at h
  refine ps_iload_n hG dX11_isPeer_0 rfl 1 rfl ?_
  refine ps_iconst (v := 0) hG dX11_isPeer_1 (by decide) ?_
  refine ps_aload_n hG dX11_isPeer_2 rfl 0 rfl ?_
  refine ps_get20_2 hG inX11_isPeer_X11 ps_q80.1 (ps_lt hw ps_q80.2.2.1) mX11_isPeer_78 dX11_isPeer_3 ?_
  refine ps_iconst (v := 1) hG dX11_isPeer_6 (by decide) ?_
  refine ps_isub hG dX11_isPeer_7 ?_
  obtain ⟨r8, hr8, h⟩ := ps_bd h
  refine ps_callSI (As := [.int p1, .int 0, .int ((S 80 2) - 1)]) (rest := []) (nA := 3) hG (c_X11_isIn _ hw hr8) gX11_isPeer_X11_isIn rfl (by decide +kernel) rfl ⟨Nat.le_of_ble_eq_true rfl, Nat.le_of_ble_eq_true rfl⟩ ⟨rfl, rfl⟩ ⟨Nat.le_of_ble_eq_true rfl, Nat.le_of_ble_eq_true rfl⟩ rfl (Nat.le_of_ble_eq_true rfl) dX11_isPeer_8 ?_
  obtain ⟨hz11, h⟩ := ps_ig h
  cases h
  exact hret _ _ dX11_isPeer_11 (ps_z01 hz11)
def f_X11_isFile (S : ps_S) (p1 : Int32) : Option Int32 :=
  ((f_X11_isIn p1 0 ((S 80 15) - 1)).bind fun r8 =>
  (if r8 = 0 ∨ r8 = 1 then some r8 else none))
theorem inX11_isFile_X11 : ∀ q ∈ wsX110, q ∈ wsX11_isFile := fun _ h => List.mem_cons_of_mem _ (List.mem_append_right _ h)
theorem mX11_isFile_85 : Cond.fieldLink RX11 85 (TX11 15).1 (TX11 15).2.1 (TX11 15).2.2.1 ∈ wsX11_isFile := List.mem_of_getElem? (i := 1) rfl
set_option maxHeartbeats 4000000 in
set_option maxRecDepth 100000 in
theorem c_X11_isFile (l : Launch) {w : ps_X} (hw : ps_ww w) {S : ps_S} {p1 : Int32} {r : Int32} (h : f_X11_isFile S p1 = some r) : ps_MetI l yX11_isFile wsX11_isFile (ps_rm 1 22) w [.ref (w.2.1 80), .int p1] S S r := by
  refine ps_mkZ (cc := cX11_isFile) (maxL := 2) (own := RX11) (by decide +kernel) rfl rfl rfl (Nat.le_of_ble_eq_true rfl) rfl (fun G hl hG hret => ?_)
  unfold f_X11_isFile at h
  refine ps_iload_n hG dX11_isFile_0 rfl 1 rfl ?_
  refine ps_iconst (v := 0) hG dX11_isFile_1 (by decide) ?_
  refine ps_aload_n hG dX11_isFile_2 rfl 0 rfl ?_
  refine ps_get20_15 hG inX11_isFile_X11 ps_q80.1 (ps_lt hw ps_q80.2.2.1) mX11_isFile_85 dX11_isFile_3 ?_
  refine ps_iconst (v := 1) hG dX11_isFile_6 (by decide) ?_
  refine ps_isub hG dX11_isFile_7 ?_
  obtain ⟨r8, hr8, h⟩ := ps_bd h
  refine ps_callSI (As := [.int p1, .int 0, .int ((S 80 15) - 1)]) (rest := []) (nA := 3) hG (c_X11_isIn _ hw hr8) gX11_isFile_X11_isIn rfl (by decide +kernel) rfl ⟨Nat.le_of_ble_eq_true rfl, Nat.le_of_ble_eq_true rfl⟩ ⟨rfl, rfl⟩ ⟨Nat.le_of_ble_eq_true rfl, Nat.le_of_ble_eq_true rfl⟩ rfl (Nat.le_of_ble_eq_true rfl) dX11_isFile_8 ?_
  obtain ⟨hz11, h⟩ := ps_ig h
  cases h
  exact hret _ _ dX11_isFile_11 (ps_z01 hz11)
def f_X11_bucketOf_L6  (v2_6 : Int32) (v3_6 : Int32) : Option ((Int32 × Int32) ⊕ (Int32)) :=
  (if v2_6 ≤ 1 then
        some (.inr v3_6)
      else
        some (.inl (v2_6 >>> (1 &&& 31), v3_6 + 1)))
def f_X11_bucketOf (p0 : Int32) (p1 : Int32) : Option Int32 :=
  ((ps_it (fun (a : Int32 × Int32) => f_X11_bucketOf_L6 a.1 a.2) ps_fu (p0 ^^^ p1, 0)).bind (fun e3_6 => some e3_6))
set_option maxHeartbeats 4000000 in
set_option maxRecDepth 100000 in
theorem c_X11_bucketOf (l : Launch) {w : ps_X} (hw : ps_ww w) {S : ps_S} {p0 p1 : Int32} {r : Int32} (h : f_X11_bucketOf p0 p1 = some r) : ps_MetI l yX11_bucketOf wsX11_bucketOf (ps_rm 0 0) w [.int p0, .int p1] S S r := by
  refine ps_mkI (cc := cX11_bucketOf) (maxL := 4) (own := RX11) (by decide +kernel) rfl (Or.inl rfl) rfl (Nat.le_of_ble_eq_true rfl) rfl (fun G hl hG hret => ?_)
  unfold f_X11_bucketOf at h
  refine ps_iload_n hG dX11_bucketOf_0 rfl 0 rfl ?_
  refine ps_iload_n hG dX11_bucketOf_1 rfl 1 rfl ?_
  refine ps_ixor hG dX11_bucketOf_2 ?_
  refine ps_istore_n (lv' := [(2, .int (p0 ^^^ p1)), (0, .int p0), (1, .int p1)]) hG dX11_bucketOf_3 rfl (by decide) rfl ?_
  refine ps_iconst (v := 0) hG dX11_bucketOf_4 (by decide) ?_
  refine ps_istore_n (lv' := [(3, .int 0), (2, .int (p0 ^^^ p1)), (0, .int p0), (1, .int p1)]) hG dX11_bucketOf_5 rfl (by decide) rfl ?_
  obtain ⟨e3_6, hq6, h⟩ := ps_bd h
  refine (ps_sub [1, 0] rfl (ps_itV (fun (a : Int32 × Int32) => ps_V G 4 0 0 w S 6 [(2, .int a.1), (3, .int a.2)] []) (fun (b : Int32) => ps_V G 4 0 0 w S 21 [(3, .int b)] []) ?_ _ _ _ hq6 ?_))
  · intro a r9 h kc ke
    obtain ⟨v2_6, v3_6⟩ := a
    replace h : f_X11_bucketOf_L6 v2_6 v3_6 = some r9 := h
    show ps_V G 4 0 0 w S 6 [(2, .int v2_6), (3, .int v3_6)] []
    unfold f_X11_bucketOf_L6 at h
    refine ps_iload_n hG dX11_bucketOf_6 rfl 0 rfl ?_
    refine ps_iconst (v := 1) hG dX11_bucketOf_7 (by decide) ?_
    refine ps_icmp_le (tgt := 21) hG dX11_bucketOf_8 (by decide) (fun c8 => ?_) (fun c8 => ?_)
    · replace h := ps_ip c8 h
      cases h
      exact (ps_sub [1] rfl (ke _ rfl))
    · replace h := ps_in c8 h
      refine ps_iload_n hG dX11_bucketOf_11 rfl 0 rfl ?_
      refine ps_iconst (v := 1) hG dX11_bucketOf_12 (by decide) ?_
      refine ps_ishr hG dX11_bucketOf_13 ?_
      refine ps_istore_n (lv' := [(2, .int (v2_6 >>> (1 &&& 31))), (3, .int v3_6)]) hG dX11_bucketOf_14 rfl (by decide) rfl ?_
      refine ps_iinc (lv' := [(3, .int (v3_6 + 1)), (2, .int (v2_6 >>> (1 &&& 31)))]) hG dX11_bucketOf_15 1 rfl (by rfl) (by decide) rfl ?_
      refine ps_goto (tgt := 6) hG dX11_bucketOf_18 (by decide) ?_
      cases h
      exact (ps_sub [1, 0] rfl (kc _ rfl))
  · show ps_V G 4 0 0 w S 21 [(3, .int e3_6)] []
    refine ps_iload_n hG dX11_bucketOf_21 rfl 0 rfl ?_
    cases h
    exact hret _ _ dX11_bucketOf_22
def f_X11_hears_J171 (S : ps_S) (p1 : Int32) (r16 : Int32) (s2_171 : Int32) : Option ps_S :=
  (if ps_ib ((2 * ((8 * p1) + r16)) + 1) 256 = true then
            some (ps_up (ps_up S 84 (2 * ((8 * p1) + r16)).toNatClampNeg (S 84 ((2 * ((8 * p1) + r16)) + 1).toNatClampNeg)) 84 ((2 * ((8 * p1) + r16)) + 1).toNatClampNeg s2_171) else none)
def f_X11_hears_J165 (S : ps_S) (p1 : Int32) (p2 : Int32) (r16 : Int32)  : Option ps_S :=
  f_X11_hears_J171 S p1 r16 p2
def f_X11_hears_J115 (S : ps_S) (p1 : Int32) (p2 : Int32) (r16 : Int32) (s0_115 : Int32) : Option ps_S :=
  (if ps_ib (2 * ((8 * p1) + r16)) 256 = true then
          (if ps_ib ((2 * ((8 * p1) + r16)) + 1) 256 = true then
          (if ps_ib (2 * ((8 * p1) + r16)) 256 = true then
          (if s0_115 = 0 then
            (if ps_ib (S 84 (2 * ((8 * p1) + r16)).toNatClampNeg) 16 = true then
            (if ((ps_up S 84 (2 * ((8 * p1) + r16)).toNatClampNeg (S 84 ((2 * ((8 * p1) + r16)) + 1).toNatClampNeg)) 83 (S 84 (2 * ((8 * p1) + r16)).toNatClampNeg).toNatClampNeg) = 0 then
              f_X11_hears_J165 S p1 p2 r16
            else
              f_X11_hears_J171 S p1 r16 (S 84 (2 * ((8 * p1) + r16)).toNatClampNeg)) else none)
          else
            f_X11_hears_J165 S p1 p2 r16) else none) else none) else none)
def f_X11_hears_J71 (S : ps_S) (p1 : Int32) (p2 : Int32) (r16 : Int32)  : Option ps_S :=
  (if 2 ≤ (S 85 ((8 * p1) + r16).toNatClampNeg) then
        (if ps_ib (2 * ((8 * p1) + r16)) 256 = true then
        (if (S 84 (2 * ((8 * p1) + r16)).toNatClampNeg) = p2 then
          f_X11_hears_J115 S p1 p2 r16 1
        else
          f_X11_hears_J115 S p1 p2 r16 0) else none)
      else
        (if ps_ib ((2 * ((8 * p1) + r16)) + (S 85 ((8 * p1) + r16).toNatClampNeg)) 256 = true then
        (if ps_ib ((8 * p1) + r16) 128 = true then
        (if ps_ib ((8 * p1) + r16) 128 = true then
        some (ps_up (ps_up S 84 ((2 * ((8 * p1) + r16)) + (S 85 ((8 * p1) + r16).toNatClampNeg)).toNatClampNeg p2) 85 ((8 * p1) + r16).toNatClampNeg (((ps_up S 84 ((2 * ((8 * p1) + r16)) + (S 85 ((8 * p1) + r16).toNatClampNeg)).toNatClampNeg p2) 85 ((8 * p1) + r16).toNatClampNeg) + 1)) else none) else none) else none))
def f_X11_hears_J51 (S : ps_S) (p1 : Int32) (p2 : Int32) (r16 : Int32)  : Option ps_S :=
  (if (S 85 ((8 * p1) + r16).toNatClampNeg) = 2 then
      (if ps_ib ((2 * ((8 * p1) + r16)) + 1) 256 = true then
      (if (S 84 ((2 * ((8 * p1) + r16)) + 1).toNatClampNeg) = p2 then
        some S
      else
        f_X11_hears_J71 S p1 p2 r16) else none)
    else
      f_X11_hears_J71 S p1 p2 r16)
def f_X11_hears (S : ps_S) (p1 : Int32) (p2 : Int32) : Option ps_S :=
  (if ps_ib p1 16 = true then
  (if ps_ib p2 16 = true then
  ((f_X11_bucketOf (S 81 p1.toNatClampNeg) (S 81 p2.toNatClampNeg)).bind fun r16 =>
  (if ps_ib ((8 * p1) + r16) 128 = true then
  (if (S 85 ((8 * p1) + r16).toNatClampNeg) = 1 then
    (if ps_ib (2 * ((8 * p1) + r16)) 256 = true then
    (if (S 84 (2 * ((8 * p1) + r16)).toNatClampNeg) = p2 then
      some S
    else
      f_X11_hears_J51 S p1 p2 r16) else none)
  else
    f_X11_hears_J51 S p1 p2 r16) else none)) else none) else none)
theorem inX11_hears_X11 : ∀ q ∈ wsX110, q ∈ wsX11_hears := fun _ h => List.mem_cons_of_mem _ (List.mem_append_right _ h)
theorem mX11_hears_16 : Cond.fieldLink RX11 16 (TX11 5).1 (TX11 5).2.1 (TX11 5).2.2.1 ∈ wsX11_hears := List.mem_of_getElem? (i := 4) rfl
theorem mX11_hears_20 : Cond.fieldLink RX11 20 (TX11 6).1 (TX11 6).2.1 (TX11 6).2.2.1 ∈ wsX11_hears := List.mem_of_getElem? (i := 3) rfl
theorem mX11_hears_23 : Cond.fieldLink RX11 23 (TX11 7).1 (TX11 7).2.1 (TX11 7).2.2.1 ∈ wsX11_hears := List.mem_of_getElem? (i := 2) rfl
theorem mX11_hears_7 : Cond.fieldLink RX11 7 (TX11 3).1 (TX11 3).2.1 (TX11 3).2.2.1 ∈ wsX11_hears := List.mem_of_getElem? (i := 1) rfl
set_option maxHeartbeats 4000000 in
set_option maxRecDepth 100000 in
theorem c_X11_hears (l : Launch) {w : ps_X} (hw : ps_ww w) {S S' : ps_S} {p1 p2 : Int32} (h : f_X11_hears S p1 p2 = some S') : ps_MetV l yX11_hears wsX11_hears (ps_rm 1 23) w [.ref (w.2.1 80), .int p1, .int p2] S S' := by
  refine ps_mkV (cc := cX11_hears) (maxL := 8) (own := RX11) (by decide +kernel) rfl rfl rfl (Nat.le_of_ble_eq_true rfl) rfl (fun G hl hG hret => ?_)
  unfold f_X11_hears at h
  refine ps_bipush (v := 8) hG dX11_hears_0 (by decide) ?_
  refine ps_iload_n hG dX11_hears_2 rfl 1 rfl ?_
  refine ps_imul hG dX11_hears_3 ?_
  refine ps_aload_n hG dX11_hears_4 rfl 0 rfl ?_
  refine ps_get20_3 hG hw inX11_hears_X11 ps_q80.1 (ps_lt hw ps_q80.2.2.1) mX11_hears_7 dX11_hears_5 ?_
  refine ps_iload_n hG dX11_hears_8 rfl 1 rfl ?_
  obtain ⟨hb9, h⟩ := ps_ig h
  refine ps_iald hG ps_q81.1 ps_q81.2.1 (ps_lt hw ps_q81.2.2.1) hb9 dX11_hears_9 ?_
  refine ps_aload_n hG dX11_hears_10 rfl 0 rfl ?_
  refine ps_get20_3 hG hw inX11_hears_X11 ps_q80.1 (ps_lt hw ps_q80.2.2.1) mX11_hears_7 dX11_hears_11 ?_
  refine ps_iload_n hG dX11_hears_14 rfl 2 rfl ?_
  obtain ⟨hb15, h⟩ := ps_ig h
  refine ps_iald hG ps_q81.1 ps_q81.2.1 (ps_lt hw ps_q81.2.2.1) hb15 dX11_hears_15 ?_
  obtain ⟨r16, hr16, h⟩ := ps_bd h
  refine ps_callSI (As := [.int (S 81 p1.toNatClampNeg), .int (S 81 p2.toNatClampNeg)]) (rest := [.int (8 * p1)]) (nA := 2) hG (c_X11_bucketOf _ hw hr16) gX11_hears_X11_bucketOf rfl (by decide +kernel) rfl ⟨Nat.le_of_ble_eq_true rfl, Nat.le_of_ble_eq_true rfl⟩ ⟨rfl, rfl⟩ ⟨Nat.le_of_ble_eq_true rfl, Nat.le_of_ble_eq_true rfl⟩ rfl (Nat.le_of_ble_eq_true rfl) dX11_hears_16 ?_
  refine ps_iadd hG dX11_hears_19 ?_
  refine ps_istore_n (lv' := [(3, .int ((8 * p1) + r16)), (0, .ref (w.2.1 80)), (1, .int p1), (2, .int p2)]) hG dX11_hears_20 rfl (by decide) rfl ?_
  refine ps_iconst (v := 2) hG dX11_hears_21 (by decide) ?_
  refine ps_iload_n hG dX11_hears_22 rfl 0 rfl ?_
  refine ps_imul hG dX11_hears_23 ?_
  refine ps_istore (lv' := [(4, .int (2 * ((8 * p1) + r16))), (3, .int ((8 * p1) + r16)), (0, .ref (w.2.1 80)), (1, .int p1), (2, .int p2)]) hG dX11_hears_24 (by decide) rfl ?_
  refine ps_aload_n hG dX11_hears_26 rfl 2 rfl ?_
  refine ps_get20_7 hG hw inX11_hears_X11 ps_q80.1 (ps_lt hw ps_q80.2.2.1) mX11_hears_23 dX11_hears_27 ?_
  refine ps_iload_n hG dX11_hears_30 rfl 1 rfl ?_
  obtain ⟨hb31, h⟩ := ps_ig h
  refine ps_iald hG ps_q85.1 ps_q85.2.1 (ps_lt hw ps_q85.2.2.1) hb31 dX11_hears_31 ?_
  refine ps_istore (lv' := [(5, .int (S 85 ((8 * p1) + r16).toNatClampNeg)), (4, .int (2 * ((8 * p1) + r16))), (3, .int ((8 * p1) + r16)), (0, .ref (w.2.1 80)), (1, .int p1), (2, .int p2)]) hG dX11_hears_32 (by decide) rfl ?_
  refine ps_iload hG dX11_hears_34 0 rfl ?_
  refine ps_iconst (v := 1) hG dX11_hears_36 (by decide) ?_
  have hJ51 : f_X11_hears_J51 S p1 p2 r16 = some S' → ps_V G 8 0 0 w S 51 [(0, .ref (w.2.1 80)), (2, .int p2), (3, .int ((8 * p1) + r16)), (4, .int (2 * ((8 * p1) + r16))), (5, .int (S 85 ((8 * p1) + r16).toNatClampNeg))] [] := by
    intro h
    unfold f_X11_hears_J51 at h
    refine ps_iload hG dX11_hears_51 4 rfl ?_
    refine ps_iconst (v := 2) hG dX11_hears_53 (by decide) ?_
    have hJ71 : f_X11_hears_J71 S p1 p2 r16 = some S' → ps_V G 8 0 0 w S 71 [(0, .ref (w.2.1 80)), (2, .int p2), (3, .int ((8 * p1) + r16)), (4, .int (2 * ((8 * p1) + r16))), (5, .int (S 85 ((8 * p1) + r16).toNatClampNeg))] [] := by
      intro h
      unfold f_X11_hears_J71 at h
      refine ps_iload hG dX11_hears_71 4 rfl ?_
      refine ps_iconst (v := 2) hG dX11_hears_73 (by decide) ?_
      refine ps_icmp_ge (tgt := 99) hG dX11_hears_74 (by decide) (fun c74 => ?_) (fun c74 => ?_)
      · replace h := ps_ip c74 h
        refine ps_aload_n hG dX11_hears_99 rfl 0 rfl ?_
        refine ps_get20_6 hG hw inX11_hears_X11 ps_q80.1 (ps_lt hw ps_q80.2.2.1) mX11_hears_20 dX11_hears_100 ?_
        refine ps_iload hG dX11_hears_103 3 rfl ?_
        obtain ⟨hb105, h⟩ := ps_ig h
        refine ps_iald hG ps_q84.1 ps_q84.2.1 (ps_lt hw ps_q84.2.2.1) hb105 dX11_hears_105 ?_
        refine ps_iload_n hG dX11_hears_106 rfl 1 rfl ?_
        have hJ115 : ∀ (s0_115 : Int32), f_X11_hears_J115 S p1 p2 r16 s0_115 = some S' → ps_V G 8 0 0 w S 115 [(0, .ref (w.2.1 80)), (2, .int p2), (4, .int (2 * ((8 * p1) + r16)))] [.int s0_115] := by
          intro s0_115 h
          unfold f_X11_hears_J115 at h
          refine ps_istore (lv' := [(6, .int s0_115), (0, .ref (w.2.1 80)), (2, .int p2), (4, .int (2 * ((8 * p1) + r16)))]) hG dX11_hears_115 (by decide) rfl ?_
          refine ps_aload_n hG dX11_hears_117 rfl 1 rfl ?_
          refine ps_get20_6 hG hw inX11_hears_X11 ps_q80.1 (ps_lt hw ps_q80.2.2.1) mX11_hears_20 dX11_hears_118 ?_
          refine ps_iload hG dX11_hears_121 3 rfl ?_
          obtain ⟨hb123, h⟩ := ps_ig h
          refine ps_iald hG ps_q84.1 ps_q84.2.1 (ps_lt hw ps_q84.2.2.1) hb123 dX11_hears_123 ?_
          refine ps_istore (lv' := [(7, .int (S 84 (2 * ((8 * p1) + r16)).toNatClampNeg)), (6, .int s0_115), (0, .ref (w.2.1 80)), (2, .int p2), (4, .int (2 * ((8 * p1) + r16)))]) hG dX11_hears_124 (by decide) rfl ?_
          refine ps_aload_n hG dX11_hears_126 rfl 2 rfl ?_
          refine ps_get20_6 hG hw inX11_hears_X11 ps_q80.1 (ps_lt hw ps_q80.2.2.1) mX11_hears_20 dX11_hears_127 ?_
          refine ps_iload hG dX11_hears_130 4 rfl ?_
          refine ps_aload_n hG dX11_hears_132 rfl 2 rfl ?_
          refine ps_get20_6 hG hw inX11_hears_X11 ps_q80.1 (ps_lt hw ps_q80.2.2.1) mX11_hears_20 dX11_hears_133 ?_
          refine ps_iload hG dX11_hears_136 4 rfl ?_
          refine ps_iconst (v := 1) hG dX11_hears_138 (by decide) ?_
          refine ps_iadd hG dX11_hears_139 ?_
          obtain ⟨hb140, h⟩ := ps_ig h
          refine ps_iald hG ps_q84.1 ps_q84.2.1 (ps_lt hw ps_q84.2.2.1) hb140 dX11_hears_140 ?_
          obtain ⟨hb141, h⟩ := ps_ig h
          refine ps_iast hG ps_q84.1 ps_q84.2.1 (ps_lt hw ps_q84.2.2.1) hb141 dX11_hears_141 ?_
          refine ps_aload_n hG dX11_hears_142 rfl 2 rfl ?_
          refine ps_get20_6 hG hw inX11_hears_X11 ps_q80.1 (ps_lt hw ps_q80.2.2.1) mX11_hears_20 dX11_hears_143 ?_
          refine ps_iload hG dX11_hears_146 4 rfl ?_
          refine ps_iconst (v := 1) hG dX11_hears_148 (by decide) ?_
          refine ps_iadd hG dX11_hears_149 ?_
          refine ps_iload hG dX11_hears_150 1 rfl ?_
          have hJ171 : ∀ (s2_171 : Int32), f_X11_hears_J171 S p1 r16 s2_171 = some S' → ps_V G 8 0 0 w (ps_up S 84 (2 * ((8 * p1) + r16)).toNatClampNeg (S 84 ((2 * ((8 * p1) + r16)) + 1).toNatClampNeg)) 171 [] [.int s2_171, .int ((2 * ((8 * p1) + r16)) + 1), .ref (w.2.1 84)] := by
            intro s2_171 h
            unfold f_X11_hears_J171 at h
            obtain ⟨hb171, h⟩ := ps_ig h
            refine ps_iast hG ps_q84.1 ps_q84.2.1 (ps_lt hw ps_q84.2.2.1) hb171 dX11_hears_171 ?_
            cases h
            exact hret _ _ dX11_hears_172
          have hJ165 : f_X11_hears_J165 S p1 p2 r16 = some S' → ps_V G 8 0 0 w (ps_up S 84 (2 * ((8 * p1) + r16)).toNatClampNeg (S 84 ((2 * ((8 * p1) + r16)) + 1).toNatClampNeg)) 165 [(2, .int p2)] [.int ((2 * ((8 * p1) + r16)) + 1), .ref (w.2.1 84)] := by
            intro h
            unfold f_X11_hears_J165 at h
            refine ps_iload_n hG dX11_hears_165 rfl 0 rfl ?_
            refine ps_goto (tgt := 171) hG dX11_hears_166 (by decide) ?_
            exact (ps_sub [] rfl (hJ171 p2 h))
          refine ps_if_ne (tgt := 165) hG dX11_hears_152 (by decide) (fun c152 => ?_) (fun c152 => ?_)
          · replace h := ps_in c152 h
            exact (ps_sub [3] rfl (hJ165  h))
          · replace h := ps_ip c152 h
            refine ps_aload_n hG dX11_hears_155 rfl 2 rfl ?_
            refine ps_get20_5 hG hw inX11_hears_X11 ps_q80.1 (ps_lt hw ps_q80.2.2.1) mX11_hears_16 dX11_hears_156 ?_
            refine ps_iload hG dX11_hears_159 0 rfl ?_
            obtain ⟨hb161, h⟩ := ps_ig h
            refine ps_zald hG ps_q83.1 ps_q83.2.1 (ps_lt hw ps_q83.2.2.1) hb161 dX11_hears_161 ?_
            refine ps_if_ne (tgt := 169) hG dX11_hears_162 (by decide) (fun c162 => ?_) (fun c162 => ?_)
            · replace h := ps_in c162 h
              refine ps_iload hG dX11_hears_169 0 rfl ?_
              exact (ps_sub [] rfl (hJ171 (S 84 (2 * ((8 * p1) + r16)).toNatClampNeg) h))
            · replace h := ps_ip c162 h
              exact (ps_sub [3] rfl (hJ165  h))
        refine ps_icmp_ne (tgt := 114) hG dX11_hears_107 (by decide) (fun c107 => ?_) (fun c107 => ?_)
        · replace h := ps_in c107 h
          refine ps_iconst (v := 0) hG dX11_hears_114 (by decide) ?_
          exact (ps_sub [0, 1, 3] rfl (hJ115 0 h))
        · replace h := ps_ip c107 h
          refine ps_iconst (v := 1) hG dX11_hears_110 (by decide) ?_
          refine ps_goto (tgt := 115) hG dX11_hears_111 (by decide) ?_
          exact (ps_sub [0, 1, 3] rfl (hJ115 1 h))
      · replace h := ps_in c74 h
        refine ps_aload_n hG dX11_hears_77 rfl 0 rfl ?_
        refine ps_get20_6 hG hw inX11_hears_X11 ps_q80.1 (ps_lt hw ps_q80.2.2.1) mX11_hears_20 dX11_hears_78 ?_
        refine ps_iload hG dX11_hears_81 3 rfl ?_
        refine ps_iload hG dX11_hears_83 4 rfl ?_
        refine ps_iadd hG dX11_hears_85 ?_
        refine ps_iload_n hG dX11_hears_86 rfl 1 rfl ?_
        obtain ⟨hb87, h⟩ := ps_ig h
        refine ps_iast hG ps_q84.1 ps_q84.2.1 (ps_lt hw ps_q84.2.2.1) hb87 dX11_hears_87 ?_
        refine ps_aload_n hG dX11_hears_88 rfl 0 rfl ?_
        refine ps_get20_7 hG hw inX11_hears_X11 ps_q80.1 (ps_lt hw ps_q80.2.2.1) mX11_hears_23 dX11_hears_89 ?_
        refine ps_iload_n hG dX11_hears_92 rfl 2 rfl ?_
        refine ps_dup2 hG dX11_hears_93 rfl rfl ?_
        obtain ⟨hb94, h⟩ := ps_ig h
        refine ps_iald hG ps_q85.1 ps_q85.2.1 (ps_lt hw ps_q85.2.2.1) hb94 dX11_hears_94 ?_
        refine ps_iconst (v := 1) hG dX11_hears_95 (by decide) ?_
        refine ps_iadd hG dX11_hears_96 ?_
        obtain ⟨hb97, h⟩ := ps_ig h
        refine ps_iast hG ps_q85.1 ps_q85.2.1 (ps_lt hw ps_q85.2.2.1) hb97 dX11_hears_97 ?_
        cases h
        exact hret _ _ dX11_hears_98
    refine ps_icmp_ne (tgt := 71) hG dX11_hears_54 (by decide) (fun c54 => ?_) (fun c54 => ?_)
    · replace h := ps_in c54 h
      exact (ps_sub [0, 1, 2, 3, 4] rfl (hJ71  h))
    · replace h := ps_ip c54 h
      refine ps_aload_n hG dX11_hears_57 rfl 0 rfl ?_
      refine ps_get20_6 hG hw inX11_hears_X11 ps_q80.1 (ps_lt hw ps_q80.2.2.1) mX11_hears_20 dX11_hears_58 ?_
      refine ps_iload hG dX11_hears_61 3 rfl ?_
      refine ps_iconst (v := 1) hG dX11_hears_63 (by decide) ?_
      refine ps_iadd hG dX11_hears_64 ?_
      obtain ⟨hb65, h⟩ := ps_ig h
      refine ps_iald hG ps_q84.1 ps_q84.2.1 (ps_lt hw ps_q84.2.2.1) hb65 dX11_hears_65 ?_
      refine ps_iload_n hG dX11_hears_66 rfl 1 rfl ?_
      refine ps_icmp_ne (tgt := 71) hG dX11_hears_67 (by decide) (fun c67 => ?_) (fun c67 => ?_)
      · replace h := ps_in c67 h
        exact (ps_sub [0, 1, 2, 3, 4] rfl (hJ71  h))
      · replace h := ps_ip c67 h
        cases h
        exact hret _ _ dX11_hears_70
  refine ps_icmp_ne (tgt := 51) hG dX11_hears_37 (by decide) (fun c37 => ?_) (fun c37 => ?_)
  · replace h := ps_in c37 h
    exact (ps_sub [3, 5, 2, 1, 0] rfl (hJ51  h))
  · replace h := ps_ip c37 h
    refine ps_aload_n hG dX11_hears_40 rfl 3 rfl ?_
    refine ps_get20_6 hG hw inX11_hears_X11 ps_q80.1 (ps_lt hw ps_q80.2.2.1) mX11_hears_20 dX11_hears_41 ?_
    refine ps_iload hG dX11_hears_44 1 rfl ?_
    obtain ⟨hb46, h⟩ := ps_ig h
    refine ps_iald hG ps_q84.1 ps_q84.2.1 (ps_lt hw ps_q84.2.2.1) hb46 dX11_hears_46 ?_
    refine ps_iload_n hG dX11_hears_47 rfl 5 rfl ?_
    refine ps_icmp_eq (tgt := 70) hG dX11_hears_48 (by decide) (fun c48 => ?_) (fun c48 => ?_)
    · replace h := ps_ip c48 h
      cases h
      exact hret _ _ dX11_hears_70
    · replace h := ps_in c48 h
      exact (ps_sub [3, 5, 2, 1, 0] rfl (hJ51  h))
def f_X11_keepsPeer_J64 (v4_5 : Int32) (s0_64 : Int32) : Option ((Int32 × Int32) ⊕ (Int32)) :=
  some (.inl (s0_64, v4_5 + 1))
def f_X11_keepsPeer_L5 (S : ps_S) (p1 : Int32) (p2 : Int32) (v3_5 : Int32) (v4_5 : Int32) : Option ((Int32 × Int32) ⊕ (Int32)) :=
  (if 16 ≤ v4_5 then
        some (.inr v3_5)
      else
        (if v3_5 = 0 then
          (if ps_ib ((8 * p1) + (v4_5 / 2)) 128 = true then
          (if (S 85 ((8 * p1) + (v4_5 / 2)).toNatClampNeg) ≤ (v4_5 - v4_5 / 2 * 2) then
            f_X11_keepsPeer_J64 v4_5 0
          else
            (if ps_ib ((2 * ((8 * p1) + (v4_5 / 2))) + (v4_5 - v4_5 / 2 * 2)) 256 = true then
            (if (S 84 ((2 * ((8 * p1) + (v4_5 / 2))) + (v4_5 - v4_5 / 2 * 2)).toNatClampNeg) = p2 then
              f_X11_keepsPeer_J64 v4_5 1
            else
              f_X11_keepsPeer_J64 v4_5 0) else none)) else none)
        else
          f_X11_keepsPeer_J64 v4_5 1))
def f_X11_keepsPeer (S : ps_S) (p1 : Int32) (p2 : Int32) : Option Int32 :=
  ((ps_it (fun (a : Int32 × Int32) => f_X11_keepsPeer_L5 S p1 p2 a.1 a.2) ps_fu (0, 0)).bind (fun e3_5 => (if e3_5 = 0 ∨ e3_5 = 1 then some e3_5 else none)))
theorem inX11_keepsPeer_X11 : ∀ q ∈ wsX110, q ∈ wsX11_keepsPeer := fun _ h => List.mem_cons_of_mem _ (List.mem_append_right _ h)
theorem mX11_keepsPeer_20 : Cond.fieldLink RX11 20 (TX11 6).1 (TX11 6).2.1 (TX11 6).2.2.1 ∈ wsX11_keepsPeer := List.mem_of_getElem? (i := 2) rfl
theorem mX11_keepsPeer_23 : Cond.fieldLink RX11 23 (TX11 7).1 (TX11 7).2.1 (TX11 7).2.2.1 ∈ wsX11_keepsPeer := List.mem_of_getElem? (i := 1) rfl
set_option maxHeartbeats 4000000 in
set_option maxRecDepth 100000 in
theorem c_X11_keepsPeer (l : Launch) {w : ps_X} (hw : ps_ww w) {S : ps_S} {p1 p2 : Int32} {r : Int32} (h : f_X11_keepsPeer S p1 p2 = some r) : ps_MetI l yX11_keepsPeer wsX11_keepsPeer (ps_rm 0 0) w [.ref (w.2.1 80), .int p1, .int p2] S S r := by
  refine ps_mkZ (cc := cX11_keepsPeer) (maxL := 6) (own := RX11) (by decide +kernel) rfl rfl rfl (Nat.le_of_ble_eq_true rfl) rfl (fun G hl hG hret => ?_)
  unfold f_X11_keepsPeer at h
  refine ps_iconst (v := 0) hG dX11_keepsPeer_0 (by decide) ?_
  refine ps_istore_n (lv' := [(3, .int 0), (0, .ref (w.2.1 80)), (1, .int p1), (2, .int p2)]) hG dX11_keepsPeer_1 rfl (by decide) rfl ?_
  refine ps_iconst (v := 0) hG dX11_keepsPeer_2 (by decide) ?_
  refine ps_istore (lv' := [(4, .int 0), (3, .int 0), (0, .ref (w.2.1 80)), (1, .int p1), (2, .int p2)]) hG dX11_keepsPeer_3 (by decide) rfl ?_
  obtain ⟨e3_5, hq5, h⟩ := ps_bd h
  refine (ps_sub [2, 3, 4, 1, 0] rfl (ps_itV (fun (a : Int32 × Int32) => ps_V G 6 0 0 w S 5 [(0, .ref (w.2.1 80)), (1, .int p1), (2, .int p2), (3, .int a.1), (4, .int a.2)] []) (fun (b : Int32) => ps_V G 6 0 0 w S 71 [(3, .int b)] []) ?_ _ _ _ hq5 ?_))
  · intro a r9 h kc ke
    obtain ⟨v3_5, v4_5⟩ := a
    replace h : f_X11_keepsPeer_L5 S p1 p2 v3_5 v4_5 = some r9 := h
    show ps_V G 6 0 0 w S 5 [(0, .ref (w.2.1 80)), (1, .int p1), (2, .int p2), (3, .int v3_5), (4, .int v4_5)] []
    unfold f_X11_keepsPeer_L5 at h
    refine ps_iload hG dX11_keepsPeer_5 4 rfl ?_
    refine ps_bipush (v := 16) hG dX11_keepsPeer_7 (by decide) ?_
    refine ps_icmp_ge (tgt := 71) hG dX11_keepsPeer_9 (by decide) (fun c9 => ?_) (fun c9 => ?_)
    · replace h := ps_ip c9 h
      cases h
      exact (ps_sub [3] rfl (ke _ rfl))
    · replace h := ps_in c9 h
      refine ps_bipush (v := 8) hG dX11_keepsPeer_12 (by decide) ?_
      refine ps_iload_n hG dX11_keepsPeer_14 rfl 1 rfl ?_
      refine ps_imul hG dX11_keepsPeer_15 ?_
      refine ps_iload hG dX11_keepsPeer_16 4 rfl ?_
      refine ps_iconst (v := 2) hG dX11_keepsPeer_18 (by decide) ?_
      refine ps_idiv hG dX11_keepsPeer_19 (by decide) ?_
      refine ps_iadd hG dX11_keepsPeer_20 ?_
      refine ps_istore (lv' := [(5, .int ((8 * p1) + (v4_5 / 2))), (0, .ref (w.2.1 80)), (1, .int p1), (2, .int p2), (3, .int v3_5), (4, .int v4_5)]) hG dX11_keepsPeer_21 (by decide) rfl ?_
      refine ps_iload_n hG dX11_keepsPeer_23 rfl 4 rfl ?_
      have hJ64 : ∀ (s0_64 : Int32), f_X11_keepsPeer_J64 v4_5 s0_64 = some r9 → ps_V G 6 0 0 w S 64 [(0, .ref (w.2.1 80)), (1, .int p1), (2, .int p2), (4, .int v4_5)] [.int s0_64] := by
        intro s0_64 h
        unfold f_X11_keepsPeer_J64 at h
        refine ps_istore_n (lv' := [(3, .int s0_64), (0, .ref (w.2.1 80)), (1, .int p1), (2, .int p2), (4, .int v4_5)]) hG dX11_keepsPeer_64 rfl (by decide) rfl ?_
        refine ps_iinc (lv' := [(4, .int (v4_5 + 1)), (3, .int s0_64), (0, .ref (w.2.1 80)), (1, .int p1), (2, .int p2)]) hG dX11_keepsPeer_65 4 rfl (by rfl) (by decide) rfl ?_
        refine ps_goto (tgt := 5) hG dX11_keepsPeer_68 (by decide) ?_
        cases h
        exact (ps_sub [2, 3, 4, 1, 0] rfl (kc _ rfl))
      refine ps_if_ne (tgt := 59) hG dX11_keepsPeer_24 (by decide) (fun c24 => ?_) (fun c24 => ?_)
      · replace h := ps_in c24 h
        refine ps_iconst (v := 1) hG dX11_keepsPeer_59 (by decide) ?_
        refine ps_goto (tgt := 64) hG dX11_keepsPeer_60 (by decide) ?_
        exact (ps_sub [1, 2, 3, 5] rfl (hJ64 1 h))
      · replace h := ps_ip c24 h
        refine ps_iload hG dX11_keepsPeer_27 5 rfl ?_
        refine ps_iconst (v := 2) hG dX11_keepsPeer_29 (by decide) ?_
        refine ps_irem hG dX11_keepsPeer_30 (by decide) ?_
        refine ps_aload_n hG dX11_keepsPeer_31 rfl 1 rfl ?_
        refine ps_get20_7 hG hw inX11_keepsPeer_X11 ps_q80.1 (ps_lt hw ps_q80.2.2.1) mX11_keepsPeer_23 dX11_keepsPeer_32 ?_
        refine ps_iload hG dX11_keepsPeer_35 0 rfl ?_
        obtain ⟨hb37, h⟩ := ps_ig h
        refine ps_iald hG ps_q85.1 ps_q85.2.1 (ps_lt hw ps_q85.2.2.1) hb37 dX11_keepsPeer_37 ?_
        refine ps_icmp_ge (tgt := 63) hG dX11_keepsPeer_38 (by decide) (fun c38 => ?_) (fun c38 => ?_)
        · replace h := ps_ip c38 h
          refine ps_iconst (v := 0) hG dX11_keepsPeer_63 (by decide) ?_
          exact (ps_sub [1, 2, 3, 5] rfl (hJ64 0 h))
        · replace h := ps_in c38 h
          refine ps_aload_n hG dX11_keepsPeer_41 rfl 1 rfl ?_
          refine ps_get20_6 hG hw inX11_keepsPeer_X11 ps_q80.1 (ps_lt hw ps_q80.2.2.1) mX11_keepsPeer_20 dX11_keepsPeer_42 ?_
          refine ps_iconst (v := 2) hG dX11_keepsPeer_45 (by decide) ?_
          refine ps_iload hG dX11_keepsPeer_46 0 rfl ?_
          refine ps_imul hG dX11_keepsPeer_48 ?_
          refine ps_iload hG dX11_keepsPeer_49 5 rfl ?_
          refine ps_iconst (v := 2) hG dX11_keepsPeer_51 (by decide) ?_
          refine ps_irem hG dX11_keepsPeer_52 (by decide) ?_
          refine ps_iadd hG dX11_keepsPeer_53 ?_
          obtain ⟨hb54, h⟩ := ps_ig h
          refine ps_iald hG ps_q84.1 ps_q84.2.1 (ps_lt hw ps_q84.2.2.1) hb54 dX11_keepsPeer_54 ?_
          refine ps_iload_n hG dX11_keepsPeer_55 rfl 3 rfl ?_
          refine ps_icmp_ne (tgt := 63) hG dX11_keepsPeer_56 (by decide) (fun c56 => ?_) (fun c56 => ?_)
          · replace h := ps_in c56 h
            refine ps_iconst (v := 0) hG dX11_keepsPeer_63 (by decide) ?_
            exact (ps_sub [1, 2, 3, 5] rfl (hJ64 0 h))
          · replace h := ps_ip c56 h
            refine ps_iconst (v := 1) hG dX11_keepsPeer_59 (by decide) ?_
            refine ps_goto (tgt := 64) hG dX11_keepsPeer_60 (by decide) ?_
            exact (ps_sub [1, 2, 3, 5] rfl (hJ64 1 h))
  · show ps_V G 6 0 0 w S 71 [(3, .int e3_5)] []
    refine ps_iload_n hG dX11_keepsPeer_71 rfl 0 rfl ?_
    obtain ⟨hz72, h⟩ := ps_ig h
    cases h
    exact hret _ _ dX11_keepsPeer_72 (ps_z01 hz72)
def f_X11_picks_J100 (v7_19 : Int32) (s0_100 : Int32) : Option ((Int32 × Int32) ⊕ (Int32)) :=
  some (.inl (s0_100, v7_19 + 1))
def f_X11_picks_J98 (v6_19 : Int32) (v7_19 : Int32)  : Option ((Int32 × Int32) ⊕ (Int32)) :=
  f_X11_picks_J100 v7_19 v6_19
def f_X11_picks_J93 (v7_19 : Int32)  : Option ((Int32 × Int32) ⊕ (Int32)) :=
  f_X11_picks_J100 v7_19 v7_19
def f_X11_picks_J66 (p2 : Int32) (T8 : ps_S) (v6_19 : Int32) (v7_19 : Int32) (s0_66 : Int32) : Option ((Int32 × Int32) ⊕ (Int32)) :=
  (if s0_66 = 0 then
                  f_X11_picks_J98 v6_19 v7_19
                else
                  (if v6_19 = (-1) then
                    f_X11_picks_J93 v7_19
                  else
                    (if ps_ib v6_19 16 = true then
                    (if ((T8 81 v6_19.toNatClampNeg) ^^^ p2) ≤ ((T8 81 v7_19.toNatClampNeg) ^^^ p2) then
                      f_X11_picks_J98 v6_19 v7_19
                    else
                      f_X11_picks_J93 v7_19) else none)))
def f_X11_picks_L19 (p1 : Int32) (p2 : Int32) (T8 : ps_S) (v5_8 : Int32) (v6_19 : Int32) (v7_19 : Int32) : Option ((Int32 × Int32) ⊕ (Int32)) :=
  (if (T8 80 2) ≤ v7_19 then
              some (.inr v6_19)
            else
              (if ps_ib v7_19 16 = true then
              (if ps_ib ((16 * p1) + v7_19) 32 = true then
              (if (T8 86 ((16 * p1) + v7_19).toNatClampNeg) = 0 then
                f_X11_picks_J66 p2 T8 v6_19 v7_19 0
              else
                (if ((T8 81 v7_19.toNatClampNeg) ^^^ p2) ≤ v5_8 then
                  f_X11_picks_J66 p2 T8 v6_19 v7_19 0
                else
                  f_X11_picks_J66 p2 T8 v6_19 v7_19 1)) else none) else none))
def f_X11_picks_J159 (v3_8 : Int32) (x5_126 : Int32) (T159 : ps_S) (v4_159 : Int32) : Option ((ps_S × Int32 × Int32 × Int32) ⊕ ((ps_S × Int32) ⊕ (Int32 × ps_S))) :=
  some (.inl (T159, v3_8 + 1, v4_159, x5_126))
def f_X11_picks_L8 (p1 : Int32) (p2 : Int32) (T8 : ps_S) (v3_8 : Int32) (v4_8 : Int32) (v5_8 : Int32) : Option ((ps_S × Int32 × Int32 × Int32) ⊕ ((ps_S × Int32) ⊕ (Int32 × ps_S))) :=
  (if 3 ≤ v3_8 then
        some (.inr (.inl (T8, v4_8)))
      else
        ((ps_it (fun (a : Int32 × Int32) => f_X11_picks_L19 p1 p2 T8 v5_8 a.1 a.2) ps_fu ((-1), 0)).bind (fun e6_19 => (if e6_19 = (-1) then
          some (.inr (.inr (v4_8, T8)))
        else
          (if ps_ib e6_19 16 = true then
          ps_lts ((T8 81 e6_19.toNatClampNeg) ^^^ p2) (fun x5_126 => (if ps_ib e6_19 16 = true then
          (if (T8 87 e6_19.toNatClampNeg) = 0 then
            (if 2 ≤ v4_8 then
              f_X11_picks_J159 v3_8 x5_126 T8 v4_8
            else
              (if ps_ib v4_8 3 = true then
              f_X11_picks_J159 v3_8 x5_126 (ps_up T8 89 v4_8.toNatClampNeg e6_19) (v4_8 + 1) else none))
          else
            f_X11_picks_J159 v3_8 x5_126 T8 v4_8) else none)) else none)))))
def f_X11_picks (S : ps_S) (p1 : Int32) (p2 : Int32) : Option (Int32 × ps_S) :=
  ps_bs (ps_it (fun (a : ps_S × Int32 × Int32 × Int32) => f_X11_picks_L8 p1 p2 a.1 a.2.1 a.2.2.1 a.2.2.2) ps_fu (S, 0, 0, (-1)))
  (fun q => (fun S8 e4_8 => some (e4_8, S8)) q.1 q.2)
  (fun q => some q)
theorem inX11_picks_X11 : ∀ q ∈ wsX110, q ∈ wsX11_picks := fun _ h => List.mem_cons_of_mem _ (List.mem_append_right _ h)
theorem mX11_picks_26 : Cond.fieldLink RX11 26 (TX11 8).1 (TX11 8).2.1 (TX11 8).2.2.1 ∈ wsX11_picks := List.mem_of_getElem? (i := 3) rfl
theorem mX11_picks_29 : Cond.fieldLink RX11 29 (TX11 9).1 (TX11 9).2.1 (TX11 9).2.2.1 ∈ wsX11_picks := List.mem_of_getElem? (i := 4) rfl
theorem mX11_picks_35 : Cond.fieldLink RX11 35 (TX11 11).1 (TX11 11).2.1 (TX11 11).2.2.1 ∈ wsX11_picks := List.mem_of_getElem? (i := 5) rfl
theorem mX11_picks_7 : Cond.fieldLink RX11 7 (TX11 3).1 (TX11 3).2.1 (TX11 3).2.2.1 ∈ wsX11_picks := List.mem_of_getElem? (i := 2) rfl
theorem mX11_picks_78 : Cond.fieldLink RX11 78 (TX11 2).1 (TX11 2).2.1 (TX11 2).2.2.1 ∈ wsX11_picks := List.mem_of_getElem? (i := 1) rfl
set_option maxHeartbeats 4000000 in
set_option maxRecDepth 100000 in
theorem c_X11_picks (l : Launch) {w : ps_X} (hw : ps_ww w) {S S' : ps_S} {p1 p2 : Int32} {r : Int32} (h : f_X11_picks S p1 p2 = some (r, S')) : ps_MetI l yX11_picks wsX11_picks (ps_rm 0 0) w [.ref (w.2.1 80), .int p1, .int p2] S S' r := by
  refine ps_mkI (cc := cX11_picks) (maxL := 10) (own := RX11) (by decide +kernel) rfl (Or.inl rfl) rfl (Nat.le_of_ble_eq_true rfl) rfl (fun G hl hG hret => ?_)
  unfold f_X11_picks at h
  refine ps_iconst (v := 0) hG dX11_picks_0 (by decide) ?_
  refine ps_istore_n (lv' := [(3, .int 0), (0, .ref (w.2.1 80)), (1, .int p1), (2, .int p2)]) hG dX11_picks_1 rfl (by decide) rfl ?_
  refine ps_iconst (v := 0) hG dX11_picks_2 (by decide) ?_
  refine ps_istore (lv' := [(4, .int 0), (3, .int 0), (0, .ref (w.2.1 80)), (1, .int p1), (2, .int p2)]) hG dX11_picks_3 (by decide) rfl ?_
  refine ps_iconst (v := (-1)) hG dX11_picks_5 (by decide) ?_
  refine ps_istore (lv' := [(5, .int (-1)), (4, .int 0), (3, .int 0), (0, .ref (w.2.1 80)), (1, .int p1), (2, .int p2)]) hG dX11_picks_6 (by decide) rfl ?_
  have h0 := ps_bd h
  obtain ⟨q8, hq8, h⟩ := h0
  refine (ps_sub [3, 4, 5, 2, 1, 0] rfl (ps_itV (fun (a : ps_S × Int32 × Int32 × Int32) => ps_V G 10 0 0 w a.1 8 [(0, .ref (w.2.1 80)), (1, .int p1), (2, .int p2), (3, .int a.2.1), (4, .int a.2.2.1), (5, .int a.2.2.2)] []) (Sum.elim (fun (b : ps_S × Int32) => ps_V G 10 0 0 w b.1 162 [(4, .int b.2)] []) (fun (q : (Int32 × ps_S)) => ∀ pc lv, decode cX11_picks pc = .ok (.ireturn, 1) → ps_V G 10 0 0 w q.2 pc lv [.int q.1])) ?_ _ _ _ hq8 ?_))
  · intro a r9 h kc ke
    obtain ⟨T8, v3_8, v4_8, v5_8⟩ := a
    replace h : f_X11_picks_L8 p1 p2 T8 v3_8 v4_8 v5_8 = some r9 := h
    show ps_V G 10 0 0 w T8 8 [(0, .ref (w.2.1 80)), (1, .int p1), (2, .int p2), (3, .int v3_8), (4, .int v4_8), (5, .int v5_8)] []
    unfold f_X11_picks_L8 at h
    refine ps_iload_n hG dX11_picks_8 rfl 3 rfl ?_
    refine ps_iconst (v := 3) hG dX11_picks_9 (by decide) ?_
    refine ps_icmp_ge (tgt := 162) hG dX11_picks_10 (by decide) (fun c10 => ?_) (fun c10 => ?_)
    · replace h := ps_ip c10 h
      cases h
      exact (ps_sub [4] rfl (ke _ rfl))
    · replace h := ps_in c10 h
      refine ps_iconst (v := (-1)) hG dX11_picks_13 (by decide) ?_
      refine ps_istore (lv' := [(6, .int (-1)), (0, .ref (w.2.1 80)), (1, .int p1), (2, .int p2), (3, .int v3_8), (4, .int v4_8), (5, .int v5_8)]) hG dX11_picks_14 (by decide) rfl ?_
      refine ps_iconst (v := 0) hG dX11_picks_16 (by decide) ?_
      refine ps_istore (lv' := [(7, .int 0), (6, .int (-1)), (0, .ref (w.2.1 80)), (1, .int p1), (2, .int p2), (3, .int v3_8), (4, .int v4_8), (5, .int v5_8)]) hG dX11_picks_17 (by decide) rfl ?_
      obtain ⟨e6_19, hq19, h⟩ := ps_bd h
      refine (ps_sub [2, 3, 4, 5, 6, 7, 1, 0] rfl (ps_itV (fun (a : Int32 × Int32) => ps_V G 10 0 0 w T8 19 [(0, .ref (w.2.1 80)), (1, .int p1), (2, .int p2), (3, .int v3_8), (4, .int v4_8), (5, .int v5_8), (6, .int a.1), (7, .int a.2)] []) (fun (b : Int32) => ps_V G 10 0 0 w T8 108 [(0, .ref (w.2.1 80)), (1, .int p1), (2, .int p2), (3, .int v3_8), (4, .int v4_8), (6, .int b)] []) ?_ _ _ _ hq19 ?_))
      · intro a r9 h kc ke
        obtain ⟨v6_19, v7_19⟩ := a
        replace h : f_X11_picks_L19 p1 p2 T8 v5_8 v6_19 v7_19 = some r9 := h
        show ps_V G 10 0 0 w T8 19 [(0, .ref (w.2.1 80)), (1, .int p1), (2, .int p2), (3, .int v3_8), (4, .int v4_8), (5, .int v5_8), (6, .int v6_19), (7, .int v7_19)] []
        unfold f_X11_picks_L19 at h
        refine ps_iload hG dX11_picks_19 7 rfl ?_
        refine ps_aload_n hG dX11_picks_21 rfl 0 rfl ?_
        refine ps_get20_2 hG inX11_picks_X11 ps_q80.1 (ps_lt hw ps_q80.2.2.1) mX11_picks_78 dX11_picks_22 ?_
        refine ps_icmp_ge (tgt := 108) hG dX11_picks_25 (by decide) (fun c25 => ?_) (fun c25 => ?_)
        · replace h := ps_ip c25 h
          cases h
          exact (ps_sub [0, 1, 2, 3, 4, 6] rfl (ke _ rfl))
        · replace h := ps_in c25 h
          refine ps_aload_n hG dX11_picks_28 rfl 0 rfl ?_
          refine ps_get20_3 hG hw inX11_picks_X11 ps_q80.1 (ps_lt hw ps_q80.2.2.1) mX11_picks_7 dX11_picks_29 ?_
          refine ps_iload hG dX11_picks_32 7 rfl ?_
          obtain ⟨hb34, h⟩ := ps_ig h
          refine ps_iald hG ps_q81.1 ps_q81.2.1 (ps_lt hw ps_q81.2.2.1) hb34 dX11_picks_34 ?_
          refine ps_iload_n hG dX11_picks_35 rfl 2 rfl ?_
          refine ps_ixor hG dX11_picks_36 ?_
          refine ps_istore (lv' := [(8, .int ((T8 81 v7_19.toNatClampNeg) ^^^ p2)), (0, .ref (w.2.1 80)), (1, .int p1), (2, .int p2), (3, .int v3_8), (4, .int v4_8), (5, .int v5_8), (6, .int v6_19), (7, .int v7_19)]) hG dX11_picks_37 (by decide) rfl ?_
          refine ps_aload_n hG dX11_picks_39 rfl 1 rfl ?_
          refine ps_get20_8 hG hw inX11_picks_X11 ps_q80.1 (ps_lt hw ps_q80.2.2.1) mX11_picks_26 dX11_picks_40 ?_
          refine ps_bipush (v := 16) hG dX11_picks_43 (by decide) ?_
          refine ps_iload_n hG dX11_picks_45 rfl 2 rfl ?_
          refine ps_imul hG dX11_picks_46 ?_
          refine ps_iload hG dX11_picks_47 8 rfl ?_
          refine ps_iadd hG dX11_picks_49 ?_
          obtain ⟨hb50, h⟩ := ps_ig h
          refine ps_zald hG ps_q86.1 ps_q86.2.1 (ps_lt hw ps_q86.2.2.1) hb50 dX11_picks_50 ?_
          have hJ66 : ∀ (s0_66 : Int32), f_X11_picks_J66 p2 T8 v6_19 v7_19 s0_66 = some r9 → ps_V G 10 0 0 w T8 66 [(0, .ref (w.2.1 80)), (1, .int p1), (2, .int p2), (3, .int v3_8), (4, .int v4_8), (5, .int v5_8), (6, .int v6_19), (7, .int v7_19), (8, .int ((T8 81 v7_19.toNatClampNeg) ^^^ p2))] [.int s0_66] := by
            intro s0_66 h
            unfold f_X11_picks_J66 at h
            refine ps_istore (lv' := [(9, .int s0_66), (0, .ref (w.2.1 80)), (1, .int p1), (2, .int p2), (3, .int v3_8), (4, .int v4_8), (5, .int v5_8), (6, .int v6_19), (7, .int v7_19), (8, .int ((T8 81 v7_19.toNatClampNeg) ^^^ p2))]) hG dX11_picks_66 (by decide) rfl ?_
            refine ps_iload hG dX11_picks_68 0 rfl ?_
            have hJ100 : ∀ (s0_100 : Int32), f_X11_picks_J100 v7_19 s0_100 = some r9 → ps_V G 10 0 0 w T8 100 [(0, .ref (w.2.1 80)), (1, .int p1), (2, .int p2), (3, .int v3_8), (4, .int v4_8), (5, .int v5_8), (7, .int v7_19)] [.int s0_100] := by
              intro s0_100 h
              unfold f_X11_picks_J100 at h
              refine ps_istore (lv' := [(6, .int s0_100), (0, .ref (w.2.1 80)), (1, .int p1), (2, .int p2), (3, .int v3_8), (4, .int v4_8), (5, .int v5_8), (7, .int v7_19)]) hG dX11_picks_100 (by decide) rfl ?_
              refine ps_iinc (lv' := [(7, .int (v7_19 + 1)), (6, .int s0_100), (0, .ref (w.2.1 80)), (1, .int p1), (2, .int p2), (3, .int v3_8), (4, .int v4_8), (5, .int v5_8)]) hG dX11_picks_102 7 rfl (by rfl) (by decide) rfl ?_
              refine ps_goto (tgt := 19) hG dX11_picks_105 (by decide) ?_
              cases h
              exact (ps_sub [2, 3, 4, 5, 6, 7, 1, 0] rfl (kc _ rfl))
            have hJ98 : f_X11_picks_J98 v6_19 v7_19 = some r9 → ps_V G 10 0 0 w T8 98 [(0, .ref (w.2.1 80)), (1, .int p1), (2, .int p2), (3, .int v3_8), (4, .int v4_8), (5, .int v5_8), (6, .int v6_19), (7, .int v7_19)] [] := by
              intro h
              unfold f_X11_picks_J98 at h
              refine ps_iload hG dX11_picks_98 6 rfl ?_
              exact (ps_sub [0, 1, 2, 3, 4, 5, 7] rfl (hJ100 v6_19 h))
            refine ps_if_eq (tgt := 98) hG dX11_picks_70 (by decide) (fun c70 => ?_) (fun c70 => ?_)
            · replace h := ps_ip c70 h
              exact (ps_sub [1, 2, 3, 4, 5, 6, 7, 8] rfl (hJ98  h))
            · replace h := ps_in c70 h
              refine ps_iload hG dX11_picks_73 7 rfl ?_
              refine ps_iconst (v := (-1)) hG dX11_picks_75 (by decide) ?_
              have hJ93 : f_X11_picks_J93 v7_19 = some r9 → ps_V G 10 0 0 w T8 93 [(0, .ref (w.2.1 80)), (1, .int p1), (2, .int p2), (3, .int v3_8), (4, .int v4_8), (5, .int v5_8), (7, .int v7_19)] [] := by
                intro h
                unfold f_X11_picks_J93 at h
                refine ps_iload hG dX11_picks_93 6 rfl ?_
                refine ps_goto (tgt := 100) hG dX11_picks_95 (by decide) ?_
                exact (ps_sub [0, 1, 2, 3, 4, 5, 6] rfl (hJ100 v7_19 h))
              refine ps_icmp_eq (tgt := 93) hG dX11_picks_76 (by decide) (fun c76 => ?_) (fun c76 => ?_)
              · replace h := ps_ip c76 h
                exact (ps_sub [1, 2, 3, 4, 5, 6, 8] rfl (hJ93  h))
              · replace h := ps_in c76 h
                refine ps_iload hG dX11_picks_79 9 rfl ?_
                refine ps_aload_n hG dX11_picks_81 rfl 1 rfl ?_
                refine ps_get20_3 hG hw inX11_picks_X11 ps_q80.1 (ps_lt hw ps_q80.2.2.1) mX11_picks_7 dX11_picks_82 ?_
                refine ps_iload hG dX11_picks_85 7 rfl ?_
                obtain ⟨hb87, h⟩ := ps_ig h
                refine ps_iald hG ps_q81.1 ps_q81.2.1 (ps_lt hw ps_q81.2.2.1) hb87 dX11_picks_87 ?_
                refine ps_iload_n hG dX11_picks_88 rfl 3 rfl ?_
                refine ps_ixor hG dX11_picks_89 ?_
                refine ps_icmp_ge (tgt := 98) hG dX11_picks_90 (by decide) (fun c90 => ?_) (fun c90 => ?_)
                · replace h := ps_ip c90 h
                  exact (ps_sub [1, 2, 3, 4, 5, 6, 7, 8] rfl (hJ98  h))
                · replace h := ps_in c90 h
                  exact (ps_sub [1, 2, 3, 4, 5, 6, 8] rfl (hJ93  h))
          refine ps_if_eq (tgt := 65) hG dX11_picks_51 (by decide) (fun c51 => ?_) (fun c51 => ?_)
          · replace h := ps_ip c51 h
            refine ps_iconst (v := 0) hG dX11_picks_65 (by decide) ?_
            exact (ps_sub [1, 2, 3, 4, 5, 6, 7, 8, 0] rfl (hJ66 0 h))
          · replace h := ps_in c51 h
            refine ps_iload hG dX11_picks_54 0 rfl ?_
            refine ps_iload hG dX11_picks_56 6 rfl ?_
            refine ps_icmp_le (tgt := 65) hG dX11_picks_58 (by decide) (fun c58 => ?_) (fun c58 => ?_)
            · replace h := ps_ip c58 h
              refine ps_iconst (v := 0) hG dX11_picks_65 (by decide) ?_
              exact (ps_sub [1, 2, 3, 4, 5, 6, 7, 8, 0] rfl (hJ66 0 h))
            · replace h := ps_in c58 h
              refine ps_iconst (v := 1) hG dX11_picks_61 (by decide) ?_
              refine ps_goto (tgt := 66) hG dX11_picks_62 (by decide) ?_
              exact (ps_sub [1, 2, 3, 4, 5, 6, 7, 8, 0] rfl (hJ66 1 h))
      · show ps_V G 10 0 0 w T8 108 [(0, .ref (w.2.1 80)), (1, .int p1), (2, .int p2), (3, .int v3_8), (4, .int v4_8), (6, .int e6_19)] []
        refine ps_iload hG dX11_picks_108 5 rfl ?_
        refine ps_iconst (v := (-1)) hG dX11_picks_110 (by decide) ?_
        refine ps_icmp_ne (tgt := 117) hG dX11_picks_111 (by decide) (fun c111 => ?_) (fun c111 => ?_)
        · replace h := ps_in c111 h
          refine ps_aload_n hG dX11_picks_117 rfl 0 rfl ?_
          refine ps_get20_3 hG hw inX11_picks_X11 ps_q80.1 (ps_lt hw ps_q80.2.2.1) mX11_picks_7 dX11_picks_118 ?_
          refine ps_iload hG dX11_picks_121 5 rfl ?_
          obtain ⟨hb123, h⟩ := ps_ig h
          refine ps_iald hG ps_q81.1 ps_q81.2.1 (ps_lt hw ps_q81.2.2.1) hb123 dX11_picks_123 ?_
          refine ps_iload_n hG dX11_picks_124 rfl 2 rfl ?_
          refine ps_ixor hG dX11_picks_125 ?_
          refine ps_let h (fun x5_126 h => ?_)
          refine ps_istore (lv' := [(5, .int x5_126), (0, .ref (w.2.1 80)), (1, .int p1), (2, .int p2), (3, .int v3_8), (4, .int v4_8), (6, .int e6_19)]) hG dX11_picks_126 (by decide) rfl ?_
          refine ps_iinc (lv' := [(3, .int (v3_8 + 1)), (5, .int x5_126), (0, .ref (w.2.1 80)), (1, .int p1), (2, .int p2), (4, .int v4_8), (6, .int e6_19)]) hG dX11_picks_128 4 rfl (by rfl) (by decide) rfl ?_
          refine ps_aload_n hG dX11_picks_131 rfl 2 rfl ?_
          refine ps_get20_9 hG hw inX11_picks_X11 ps_q80.1 (ps_lt hw ps_q80.2.2.1) mX11_picks_29 dX11_picks_132 ?_
          refine ps_iload hG dX11_picks_135 6 rfl ?_
          obtain ⟨hb137, h⟩ := ps_ig h
          refine ps_zald hG ps_q87.1 ps_q87.2.1 (ps_lt hw ps_q87.2.2.1) hb137 dX11_picks_137 ?_
          have hJ159 : ∀ (T159 : ps_S) (v4_159 : Int32), f_X11_picks_J159 v3_8 x5_126 T159 v4_159 = some r9 → ps_V G 10 0 0 w T159 159 [(0, .ref (w.2.1 80)), (1, .int p1), (2, .int p2), (3, .int (v3_8 + 1)), (4, .int v4_159), (5, .int x5_126)] [] := by
            intro T159 v4_159 h
            unfold f_X11_picks_J159 at h
            refine ps_goto (tgt := 8) hG dX11_picks_159 (by decide) ?_
            cases h
            exact (ps_sub [0, 1, 2, 3, 4, 5] rfl (kc _ rfl))
          refine ps_if_ne (tgt := 159) hG dX11_picks_138 (by decide) (fun c138 => ?_) (fun c138 => ?_)
          · replace h := ps_in c138 h
            exact (ps_sub [2, 3, 4, 0, 5, 1] rfl (hJ159 T8 v4_8 h))
          · replace h := ps_ip c138 h
            refine ps_iload hG dX11_picks_141 5 rfl ?_
            refine ps_iconst (v := 2) hG dX11_picks_143 (by decide) ?_
            refine ps_icmp_ge (tgt := 159) hG dX11_picks_144 (by decide) (fun c144 => ?_) (fun c144 => ?_)
            · replace h := ps_ip c144 h
              exact (ps_sub [2, 3, 4, 0, 5, 1] rfl (hJ159 T8 v4_8 h))
            · replace h := ps_in c144 h
              refine ps_aload_n hG dX11_picks_147 rfl 2 rfl ?_
              refine ps_get20_11 hG hw inX11_picks_X11 ps_q80.1 (ps_lt hw ps_q80.2.2.1) mX11_picks_35 dX11_picks_148 ?_
              refine ps_iload hG dX11_picks_151 5 rfl ?_
              refine ps_iload hG dX11_picks_153 6 rfl ?_
              obtain ⟨hb155, h⟩ := ps_ig h
              refine ps_iast hG ps_q89.1 ps_q89.2.1 (ps_lt hw ps_q89.2.2.1) hb155 dX11_picks_155 ?_
              refine ps_iinc (lv' := [(4, .int (v4_8 + 1)), (3, .int (v3_8 + 1)), (5, .int x5_126), (0, .ref (w.2.1 80)), (1, .int p1), (2, .int p2), (6, .int e6_19)]) hG dX11_picks_156 5 rfl (by rfl) (by decide) rfl ?_
              exact (ps_sub [3, 4, 5, 1, 0, 2] rfl (hJ159 (ps_up T8 89 v4_8.toNatClampNeg e6_19) (v4_8 + 1) h))
        · replace h := ps_ip c111 h
          refine ps_iload hG dX11_picks_114 4 rfl ?_
          cases h
          exact ke _ rfl _ _ dX11_picks_116
  · rcases q8 with ⟨S8, e4_8⟩ | q
    · skip
      show ps_V G 10 0 0 w S8 162 [(4, .int e4_8)] []
      replace h : (some (e4_8, S8)) = some (r, S') := h
      refine ps_iload hG dX11_picks_162 0 rfl ?_
      cases h
      exact hret _ _ dX11_picks_164
    · cases h
      exact hret
def f_X11_asks_J173 (v8_74 : Int32) (s0_173 : Int32) : Option ((Int32 × Int32) ⊕ (Int32)) :=
  some (.inl (s0_173, v8_74 + 1))
def f_X11_asks_J171 (v7_74 : Int32) (v8_74 : Int32)  : Option ((Int32 × Int32) ⊕ (Int32)) :=
  f_X11_asks_J173 v8_74 v7_74
def f_X11_asks_J166 (v8_74 : Int32)  : Option ((Int32 × Int32) ⊕ (Int32)) :=
  f_X11_asks_J173 v8_74 v8_74
def f_X11_asks_J138 (p4 : Int32) (T62 : ps_S) (v7_74 : Int32) (v8_74 : Int32) (s0_138 : Int32) : Option ((Int32 × Int32) ⊕ (Int32)) :=
  (if s0_138 = 0 then
                      f_X11_asks_J171 v7_74 v8_74
                    else
                      (if v7_74 = (-1) then
                        f_X11_asks_J166 v8_74
                      else
                        (if ps_ib v7_74 16 = true then
                        (if ((T62 81 v7_74.toNatClampNeg) ^^^ p4) ≤ ((T62 81 v8_74.toNatClampNeg) ^^^ p4) then
                          f_X11_asks_J171 v7_74 v8_74
                        else
                          f_X11_asks_J166 v8_74) else none)))
def f_X11_asks_L74 (p2 : Int32) (p4 : Int32) (T62 : ps_S) (v5_62 : Int32) (v7_74 : Int32) (v8_74 : Int32) : Option ((Int32 × Int32) ⊕ (Int32)) :=
  (if (T62 80 2) ≤ v8_74 then
                  some (.inr v7_74)
                else
                  (if ps_ib v8_74 16 = true then
                  ((f_X11_keepsPeer T62 p2 v8_74).bind fun r99 =>
                  (if r99 = 0 then
                    f_X11_asks_J138 p4 T62 v7_74 v8_74 0
                  else
                    (if ((T62 81 v8_74.toNatClampNeg) ^^^ p4) ≤ v5_62 then
                      f_X11_asks_J138 p4 T62 v7_74 v8_74 0
                    else
                      (if ps_ib p2 16 = true then
                      (if (T62 82 p2.toNatClampNeg) = 2 then
                        (if ps_ib v8_74 16 = true then
                        (if (T62 82 v8_74.toNatClampNeg) = 2 then
                          f_X11_asks_J138 p4 T62 v7_74 v8_74 1
                        else
                          f_X11_asks_J138 p4 T62 v7_74 v8_74 0) else none)
                      else
                        f_X11_asks_J138 p4 T62 v7_74 v8_74 1) else none)))) else none))
def f_X11_asks_J237 (p3 : Int32) (T62 : ps_S) (v6_62 : Int32) (e7_74 : Int32) (x5_198 : Int32) (s2_237 : Int32) : Option ((ps_S × Int32 × Int32) ⊕ ((ps_S) ⊕ ps_S)) :=
  (if ps_ib ((16 * p3) + e7_74) 32 = true then
                some (.inl (ps_up T62 86 ((16 * p3) + e7_74).toNatClampNeg (vp_nar .boolean s2_237), x5_198, v6_62 + 1)) else none)
def f_X11_asks_L62 (p1 : Int32) (p2 : Int32) (p3 : Int32) (p4 : Int32) (T62 : ps_S) (v5_62 : Int32) (v6_62 : Int32) : Option ((ps_S × Int32 × Int32) ⊕ ((ps_S) ⊕ ps_S)) :=
  (if 3 ≤ v6_62 then
            some (.inr (.inl T62))
          else
            ((ps_it (fun (a : Int32 × Int32) => f_X11_asks_L74 p2 p4 T62 v5_62 a.1 a.2) ps_fu ((-1), 0)).bind (fun e7_74 => (if e7_74 = (-1) then
              some (.inr (.inr T62))
            else
              (if ps_ib e7_74 16 = true then
              ps_lts ((T62 81 e7_74.toNatClampNeg) ^^^ p4) (fun x5_198 => (if ps_ib ((16 * p3) + e7_74) 32 = true then
              (if (T62 86 ((16 * p3) + e7_74).toNatClampNeg) = 0 then
                (if e7_74 = p1 then
                  f_X11_asks_J237 p3 T62 v6_62 e7_74 x5_198 0
                else
                  f_X11_asks_J237 p3 T62 v6_62 e7_74 x5_198 1)
              else
                f_X11_asks_J237 p3 T62 v6_62 e7_74 x5_198 1) else none)) else none)))))
def f_X11_asks (S : ps_S) (p1 : Int32) (p2 : Int32) (p3 : Int32) (p4 : Int32) : Option ps_S :=
  (if ps_ib p2 16 = true then
  (if ps_ib p2 16 = true then
  (if ((ps_up (ps_up S 87 p2.toNatClampNeg (vp_nar .boolean 1)) 80 14 (((ps_up S 87 p2.toNatClampNeg (vp_nar .boolean 1)) 80 14) + 1)) 83 p2.toNatClampNeg) = 0 then
    some (ps_up (ps_up S 87 p2.toNatClampNeg (vp_nar .boolean 1)) 80 14 (((ps_up S 87 p2.toNatClampNeg (vp_nar .boolean 1)) 80 14) + 1))
  else
    (if ps_ib p2 16 = true then
    (if ((ps_up (ps_up S 87 p2.toNatClampNeg (vp_nar .boolean 1)) 80 14 (((ps_up S 87 p2.toNatClampNeg (vp_nar .boolean 1)) 80 14) + 1)) 82 p2.toNatClampNeg) = 1 then
      some (ps_up (ps_up S 87 p2.toNatClampNeg (vp_nar .boolean 1)) 80 14 (((ps_up S 87 p2.toNatClampNeg (vp_nar .boolean 1)) 80 14) + 1))
    else
      ((f_X11_hears (ps_up (ps_up S 87 p2.toNatClampNeg (vp_nar .boolean 1)) 80 14 (((ps_up S 87 p2.toNatClampNeg (vp_nar .boolean 1)) 80 14) + 1)) p2 p1).bind fun S40 =>
      ((f_X11_hears S40 p1 p2).bind fun S46 =>
      (if ps_ib p2 16 = true then
      ps_bs (ps_it (fun (a : ps_S × Int32 × Int32) => f_X11_asks_L62 p1 p2 p3 p4 a.1 a.2.1 a.2.2) ps_fu (ps_up S46 88 p2.toNatClampNeg (vp_nar .boolean 1), (-1), 0))
      (fun q => (fun S62 => some S62) q)
      (fun q => some q) else none)))) else none)) else none) else none)
theorem inX11_asks_X11 : ∀ q ∈ wsX110, q ∈ wsX11_asks := fun _ h => List.mem_cons_of_mem _ (List.mem_append_right _ h)
theorem mX11_asks_13 : Cond.fieldLink RX11 13 (TX11 4).1 (TX11 4).2.1 (TX11 4).2.2.1 ∈ wsX11_asks := List.mem_of_getElem? (i := 4) rfl
theorem mX11_asks_16 : Cond.fieldLink RX11 16 (TX11 5).1 (TX11 5).2.1 (TX11 5).2.2.1 ∈ wsX11_asks := List.mem_of_getElem? (i := 3) rfl
theorem mX11_asks_26 : Cond.fieldLink RX11 26 (TX11 8).1 (TX11 8).2.1 (TX11 8).2.2.1 ∈ wsX11_asks := List.mem_of_getElem? (i := 8) rfl
theorem mX11_asks_29 : Cond.fieldLink RX11 29 (TX11 9).1 (TX11 9).2.1 (TX11 9).2.2.1 ∈ wsX11_asks := List.mem_of_getElem? (i := 1) rfl
theorem mX11_asks_32 : Cond.fieldLink RX11 32 (TX11 10).1 (TX11 10).2.1 (TX11 10).2.2.1 ∈ wsX11_asks := List.mem_of_getElem? (i := 5) rfl
theorem mX11_asks_7 : Cond.fieldLink RX11 7 (TX11 3).1 (TX11 3).2.1 (TX11 3).2.2.1 ∈ wsX11_asks := List.mem_of_getElem? (i := 7) rfl
theorem mX11_asks_78 : Cond.fieldLink RX11 78 (TX11 2).1 (TX11 2).2.1 (TX11 2).2.2.1 ∈ wsX11_asks := List.mem_of_getElem? (i := 6) rfl
theorem mX11_asks_92 : Cond.fieldLink RX11 92 (TX11 14).1 (TX11 14).2.1 (TX11 14).2.2.1 ∈ wsX11_asks := List.mem_of_getElem? (i := 2) rfl
set_option maxHeartbeats 4000000 in
set_option maxRecDepth 100000 in
theorem c_X11_asks (l : Launch) {w : ps_X} (hw : ps_ww w) {S S' : ps_S} {p1 p2 p3 p4 : Int32} (h : f_X11_asks S p1 p2 p3 p4 = some S') : ps_MetV l yX11_asks wsX11_asks (ps_rm 2 50) w [.ref (w.2.1 80), .int p1, .int p2, .int p3, .int p4] S S' := by
  refine ps_mkV (cc := cX11_asks) (maxL := 11) (own := RX11) (by decide +kernel) rfl rfl rfl (Nat.le_of_ble_eq_true rfl) rfl (fun G hl hG hret => ?_)
  unfold f_X11_asks at h
  refine ps_aload_n hG dX11_asks_0 rfl 0 rfl ?_
  refine ps_get20_9 hG hw inX11_asks_X11 ps_q80.1 (ps_lt hw ps_q80.2.2.1) mX11_asks_29 dX11_asks_1 ?_
  refine ps_iload_n hG dX11_asks_4 rfl 2 rfl ?_
  refine ps_iconst (v := 1) hG dX11_asks_5 (by decide) ?_
  obtain ⟨hb6, h⟩ := ps_ig h
  refine ps_zast hG ps_q87.1 ps_q87.2.1 (ps_lt hw ps_q87.2.2.1) hb6 dX11_asks_6 ?_
  refine ps_aload_n hG dX11_asks_7 rfl 0 rfl ?_
  refine ps_dup hG dX11_asks_8 rfl ?_
  refine ps_get20_14 hG inX11_asks_X11 ps_q80.1 (ps_lt hw ps_q80.2.2.1) mX11_asks_92 dX11_asks_9 ?_
  refine ps_iconst (v := 1) hG dX11_asks_12 (by decide) ?_
  refine ps_iadd hG dX11_asks_13 ?_
  refine ps_put20_14 hG inX11_asks_X11 ps_q80.1 (ps_lt hw ps_q80.2.2.1) ps_q80.2.2.2 mX11_asks_92 dX11_asks_14 ?_
  refine ps_aload_n hG dX11_asks_17 rfl 0 rfl ?_
  refine ps_get20_5 hG hw inX11_asks_X11 ps_q80.1 (ps_lt hw ps_q80.2.2.1) mX11_asks_16 dX11_asks_18 ?_
  refine ps_iload_n hG dX11_asks_21 rfl 2 rfl ?_
  obtain ⟨hb22, h⟩ := ps_ig h
  refine ps_zald hG ps_q83.1 ps_q83.2.1 (ps_lt hw ps_q83.2.2.1) hb22 dX11_asks_22 ?_
  refine ps_if_eq (tgt := 36) hG dX11_asks_23 (by decide) (fun c23 => ?_) (fun c23 => ?_)
  · replace h := ps_ip c23 h
    cases h
    exact hret _ _ dX11_asks_36
  · replace h := ps_in c23 h
    refine ps_aload_n hG dX11_asks_26 rfl 0 rfl ?_
    refine ps_get20_4 hG hw inX11_asks_X11 ps_q80.1 (ps_lt hw ps_q80.2.2.1) mX11_asks_13 dX11_asks_27 ?_
    refine ps_iload_n hG dX11_asks_30 rfl 2 rfl ?_
    obtain ⟨hb31, h⟩ := ps_ig h
    refine ps_iald hG ps_q82.1 ps_q82.2.1 (ps_lt hw ps_q82.2.2.1) hb31 dX11_asks_31 ?_
    refine ps_iconst (v := 1) hG dX11_asks_32 (by decide) ?_
    refine ps_icmp_ne (tgt := 37) hG dX11_asks_33 (by decide) (fun c33 => ?_) (fun c33 => ?_)
    · replace h := ps_in c33 h
      refine ps_aload_n hG dX11_asks_37 rfl 0 rfl ?_
      refine ps_iload_n hG dX11_asks_38 rfl 2 rfl ?_
      refine ps_iload_n hG dX11_asks_39 rfl 1 rfl ?_
      obtain ⟨S40, hr40, h⟩ := ps_bd h
      refine ps_callVV (As := [.int p2, .int p1]) (rest := []) (nA := 2) hG (c_X11_hears _ hw hr40) gX11_asks_X11_hears rfl (by decide +kernel) rfl ⟨Nat.le_of_ble_eq_true rfl, Nat.le_of_ble_eq_true rfl⟩ ⟨rfl, rfl⟩ ⟨Nat.le_of_ble_eq_true rfl, Nat.le_of_ble_eq_true rfl⟩ (ps_lt hw ps_q80.2.2.1) (ps_cel_20 ps_q80.1 _) rfl rfl (Nat.le_of_ble_eq_true rfl) dX11_asks_40 ?_
      refine ps_aload_n hG dX11_asks_43 rfl 0 rfl ?_
      refine ps_iload_n hG dX11_asks_44 rfl 1 rfl ?_
      refine ps_iload_n hG dX11_asks_45 rfl 2 rfl ?_
      obtain ⟨S46, hr46, h⟩ := ps_bd h
      refine ps_callVV (As := [.int p1, .int p2]) (rest := []) (nA := 2) hG (c_X11_hears _ hw hr46) gX11_asks_X11_hears rfl (by decide +kernel) rfl ⟨Nat.le_of_ble_eq_true rfl, Nat.le_of_ble_eq_true rfl⟩ ⟨rfl, rfl⟩ ⟨Nat.le_of_ble_eq_true rfl, Nat.le_of_ble_eq_true rfl⟩ (ps_lt hw ps_q80.2.2.1) (ps_cel_20 ps_q80.1 _) rfl rfl (Nat.le_of_ble_eq_true rfl) dX11_asks_46 ?_
      refine ps_aload_n hG dX11_asks_49 rfl 0 rfl ?_
      refine ps_get20_10 hG hw inX11_asks_X11 ps_q80.1 (ps_lt hw ps_q80.2.2.1) mX11_asks_32 dX11_asks_50 ?_
      refine ps_iload_n hG dX11_asks_53 rfl 2 rfl ?_
      refine ps_iconst (v := 1) hG dX11_asks_54 (by decide) ?_
      obtain ⟨hb55, h⟩ := ps_ig h
      refine ps_zast hG ps_q88.1 ps_q88.2.1 (ps_lt hw ps_q88.2.2.1) hb55 dX11_asks_55 ?_
      refine ps_iconst (v := (-1)) hG dX11_asks_56 (by decide) ?_
      refine ps_istore (lv' := [(5, .int (-1)), (0, .ref (w.2.1 80)), (1, .int p1), (2, .int p2), (3, .int p3), (4, .int p4)]) hG dX11_asks_57 (by decide) rfl ?_
      refine ps_iconst (v := 0) hG dX11_asks_59 (by decide) ?_
      refine ps_istore (lv' := [(6, .int 0), (5, .int (-1)), (0, .ref (w.2.1 80)), (1, .int p1), (2, .int p2), (3, .int p3), (4, .int p4)]) hG dX11_asks_60 (by decide) rfl ?_
      have h0 := ps_bd h
      obtain ⟨q62, hq62, h⟩ := h0
      refine (ps_sub [2, 3, 4, 5, 6, 1, 0] rfl (ps_itV (fun (a : ps_S × Int32 × Int32) => ps_V G 11 0 0 w a.1 62 [(0, .ref (w.2.1 80)), (1, .int p1), (2, .int p2), (3, .int p3), (4, .int p4), (5, .int a.2.1), (6, .int a.2.2)] []) (Sum.elim (fun (b : ps_S) => ps_V G 11 0 0 w b 244 [] []) (fun (q : ps_S) => ∀ pc lv, decode cX11_asks pc = .ok (.return_, 1) → ps_V G 11 0 0 w q pc lv [])) ?_ _ _ _ hq62 ?_))
      · intro a r9 h kc ke
        obtain ⟨T62, v5_62, v6_62⟩ := a
        replace h : f_X11_asks_L62 p1 p2 p3 p4 T62 v5_62 v6_62 = some r9 := h
        show ps_V G 11 0 0 w T62 62 [(0, .ref (w.2.1 80)), (1, .int p1), (2, .int p2), (3, .int p3), (4, .int p4), (5, .int v5_62), (6, .int v6_62)] []
        unfold f_X11_asks_L62 at h
        refine ps_iload hG dX11_asks_62 6 rfl ?_
        refine ps_iconst (v := 3) hG dX11_asks_64 (by decide) ?_
        refine ps_icmp_ge (tgt := 244) hG dX11_asks_65 (by decide) (fun c65 => ?_) (fun c65 => ?_)
        · replace h := ps_ip c65 h
          cases h
          exact (ps_sub [] rfl (ke _ rfl))
        · replace h := ps_in c65 h
          refine ps_iconst (v := (-1)) hG dX11_asks_68 (by decide) ?_
          refine ps_istore (lv' := [(7, .int (-1)), (0, .ref (w.2.1 80)), (1, .int p1), (2, .int p2), (3, .int p3), (4, .int p4), (5, .int v5_62), (6, .int v6_62)]) hG dX11_asks_69 (by decide) rfl ?_
          refine ps_iconst (v := 0) hG dX11_asks_71 (by decide) ?_
          refine ps_istore (lv' := [(8, .int 0), (7, .int (-1)), (0, .ref (w.2.1 80)), (1, .int p1), (2, .int p2), (3, .int p3), (4, .int p4), (5, .int v5_62), (6, .int v6_62)]) hG dX11_asks_72 (by decide) rfl ?_
          obtain ⟨e7_74, hq74, h⟩ := ps_bd h
          refine (ps_sub [2, 3, 4, 5, 6, 7, 8, 1, 0] rfl (ps_itV (fun (a : Int32 × Int32) => ps_V G 11 0 0 w T62 74 [(0, .ref (w.2.1 80)), (1, .int p1), (2, .int p2), (3, .int p3), (4, .int p4), (5, .int v5_62), (6, .int v6_62), (7, .int a.1), (8, .int a.2)] []) (fun (b : Int32) => ps_V G 11 0 0 w T62 181 [(0, .ref (w.2.1 80)), (1, .int p1), (2, .int p2), (3, .int p3), (4, .int p4), (6, .int v6_62), (7, .int b)] []) ?_ _ _ _ hq74 ?_))
          · intro a r9 h kc ke
            obtain ⟨v7_74, v8_74⟩ := a
            replace h : f_X11_asks_L74 p2 p4 T62 v5_62 v7_74 v8_74 = some r9 := h
            show ps_V G 11 0 0 w T62 74 [(0, .ref (w.2.1 80)), (1, .int p1), (2, .int p2), (3, .int p3), (4, .int p4), (5, .int v5_62), (6, .int v6_62), (7, .int v7_74), (8, .int v8_74)] []
            unfold f_X11_asks_L74 at h
            refine ps_iload hG dX11_asks_74 8 rfl ?_
            refine ps_aload_n hG dX11_asks_76 rfl 0 rfl ?_
            refine ps_get20_2 hG inX11_asks_X11 ps_q80.1 (ps_lt hw ps_q80.2.2.1) mX11_asks_78 dX11_asks_77 ?_
            refine ps_icmp_ge (tgt := 181) hG dX11_asks_80 (by decide) (fun c80 => ?_) (fun c80 => ?_)
            · replace h := ps_ip c80 h
              cases h
              exact (ps_sub [0, 1, 2, 3, 4, 6, 7] rfl (ke _ rfl))
            · replace h := ps_in c80 h
              refine ps_aload_n hG dX11_asks_83 rfl 0 rfl ?_
              refine ps_get20_3 hG hw inX11_asks_X11 ps_q80.1 (ps_lt hw ps_q80.2.2.1) mX11_asks_7 dX11_asks_84 ?_
              refine ps_iload hG dX11_asks_87 8 rfl ?_
              obtain ⟨hb89, h⟩ := ps_ig h
              refine ps_iald hG ps_q81.1 ps_q81.2.1 (ps_lt hw ps_q81.2.2.1) hb89 dX11_asks_89 ?_
              refine ps_iload hG dX11_asks_90 4 rfl ?_
              refine ps_ixor hG dX11_asks_92 ?_
              refine ps_istore (lv' := [(9, .int ((T62 81 v8_74.toNatClampNeg) ^^^ p4)), (0, .ref (w.2.1 80)), (1, .int p1), (2, .int p2), (3, .int p3), (4, .int p4), (5, .int v5_62), (6, .int v6_62), (7, .int v7_74), (8, .int v8_74)]) hG dX11_asks_93 (by decide) rfl ?_
              refine ps_aload_n hG dX11_asks_95 rfl 1 rfl ?_
              refine ps_iload_n hG dX11_asks_96 rfl 3 rfl ?_
              refine ps_iload hG dX11_asks_97 9 rfl ?_
              obtain ⟨r99, hr99, h⟩ := ps_bd h
              refine ps_callVI (As := [.int p2, .int v8_74]) (rest := []) (nA := 2) hG (c_X11_keepsPeer _ hw hr99) gX11_asks_X11_keepsPeer rfl (by decide +kernel) rfl ⟨Nat.le_of_ble_eq_true rfl, Nat.le_of_ble_eq_true rfl⟩ ⟨rfl, rfl⟩ ⟨Nat.le_of_ble_eq_true rfl, Nat.le_of_ble_eq_true rfl⟩ (ps_lt hw ps_q80.2.2.1) (ps_cel_20 ps_q80.1 _) rfl rfl (Nat.le_of_ble_eq_true rfl) dX11_asks_99 ?_
              have hJ138 : ∀ (s0_138 : Int32), f_X11_asks_J138 p4 T62 v7_74 v8_74 s0_138 = some r9 → ps_V G 11 0 0 w T62 138 [(0, .ref (w.2.1 80)), (1, .int p1), (2, .int p2), (3, .int p3), (4, .int p4), (5, .int v5_62), (6, .int v6_62), (7, .int v7_74), (8, .int v8_74), (9, .int ((T62 81 v8_74.toNatClampNeg) ^^^ p4))] [.int s0_138] := by
                intro s0_138 h
                unfold f_X11_asks_J138 at h
                refine ps_istore (lv' := [(10, .int s0_138), (0, .ref (w.2.1 80)), (1, .int p1), (2, .int p2), (3, .int p3), (4, .int p4), (5, .int v5_62), (6, .int v6_62), (7, .int v7_74), (8, .int v8_74), (9, .int ((T62 81 v8_74.toNatClampNeg) ^^^ p4))]) hG dX11_asks_138 (by decide) rfl ?_
                refine ps_iload hG dX11_asks_140 0 rfl ?_
                have hJ173 : ∀ (s0_173 : Int32), f_X11_asks_J173 v8_74 s0_173 = some r9 → ps_V G 11 0 0 w T62 173 [(0, .ref (w.2.1 80)), (1, .int p1), (2, .int p2), (3, .int p3), (4, .int p4), (5, .int v5_62), (6, .int v6_62), (8, .int v8_74)] [.int s0_173] := by
                  intro s0_173 h
                  unfold f_X11_asks_J173 at h
                  refine ps_istore (lv' := [(7, .int s0_173), (0, .ref (w.2.1 80)), (1, .int p1), (2, .int p2), (3, .int p3), (4, .int p4), (5, .int v5_62), (6, .int v6_62), (8, .int v8_74)]) hG dX11_asks_173 (by decide) rfl ?_
                  refine ps_iinc (lv' := [(8, .int (v8_74 + 1)), (7, .int s0_173), (0, .ref (w.2.1 80)), (1, .int p1), (2, .int p2), (3, .int p3), (4, .int p4), (5, .int v5_62), (6, .int v6_62)]) hG dX11_asks_175 8 rfl (by rfl) (by decide) rfl ?_
                  refine ps_goto (tgt := 74) hG dX11_asks_178 (by decide) ?_
                  cases h
                  exact (ps_sub [2, 3, 4, 5, 6, 7, 8, 1, 0] rfl (kc _ rfl))
                have hJ171 : f_X11_asks_J171 v7_74 v8_74 = some r9 → ps_V G 11 0 0 w T62 171 [(0, .ref (w.2.1 80)), (1, .int p1), (2, .int p2), (3, .int p3), (4, .int p4), (5, .int v5_62), (6, .int v6_62), (7, .int v7_74), (8, .int v8_74)] [] := by
                  intro h
                  unfold f_X11_asks_J171 at h
                  refine ps_iload hG dX11_asks_171 7 rfl ?_
                  exact (ps_sub [0, 1, 2, 3, 4, 5, 6, 8] rfl (hJ173 v7_74 h))
                refine ps_if_eq (tgt := 171) hG dX11_asks_142 (by decide) (fun c142 => ?_) (fun c142 => ?_)
                · replace h := ps_ip c142 h
                  exact (ps_sub [1, 2, 3, 4, 5, 6, 7, 8, 9] rfl (hJ171  h))
                · replace h := ps_in c142 h
                  refine ps_iload hG dX11_asks_145 8 rfl ?_
                  refine ps_iconst (v := (-1)) hG dX11_asks_147 (by decide) ?_
                  have hJ166 : f_X11_asks_J166 v8_74 = some r9 → ps_V G 11 0 0 w T62 166 [(0, .ref (w.2.1 80)), (1, .int p1), (2, .int p2), (3, .int p3), (4, .int p4), (5, .int v5_62), (6, .int v6_62), (8, .int v8_74)] [] := by
                    intro h
                    unfold f_X11_asks_J166 at h
                    refine ps_iload hG dX11_asks_166 7 rfl ?_
                    refine ps_goto (tgt := 173) hG dX11_asks_168 (by decide) ?_
                    exact (ps_sub [0, 1, 2, 3, 4, 5, 6, 7] rfl (hJ173 v8_74 h))
                  refine ps_icmp_eq (tgt := 166) hG dX11_asks_148 (by decide) (fun c148 => ?_) (fun c148 => ?_)
                  · replace h := ps_ip c148 h
                    exact (ps_sub [1, 2, 3, 4, 5, 6, 7, 9] rfl (hJ166  h))
                  · replace h := ps_in c148 h
                    refine ps_iload hG dX11_asks_151 10 rfl ?_
                    refine ps_aload_n hG dX11_asks_153 rfl 1 rfl ?_
                    refine ps_get20_3 hG hw inX11_asks_X11 ps_q80.1 (ps_lt hw ps_q80.2.2.1) mX11_asks_7 dX11_asks_154 ?_
                    refine ps_iload hG dX11_asks_157 8 rfl ?_
                    obtain ⟨hb159, h⟩ := ps_ig h
                    refine ps_iald hG ps_q81.1 ps_q81.2.1 (ps_lt hw ps_q81.2.2.1) hb159 dX11_asks_159 ?_
                    refine ps_iload hG dX11_asks_160 5 rfl ?_
                    refine ps_ixor hG dX11_asks_162 ?_
                    refine ps_icmp_ge (tgt := 171) hG dX11_asks_163 (by decide) (fun c163 => ?_) (fun c163 => ?_)
                    · replace h := ps_ip c163 h
                      exact (ps_sub [1, 2, 3, 4, 5, 6, 7, 8, 9] rfl (hJ171  h))
                    · replace h := ps_in c163 h
                      exact (ps_sub [1, 2, 3, 4, 5, 6, 7, 9] rfl (hJ166  h))
              refine ps_if_eq (tgt := 137) hG dX11_asks_102 (by decide) (fun c102 => ?_) (fun c102 => ?_)
              · replace h := ps_ip c102 h
                refine ps_iconst (v := 0) hG dX11_asks_137 (by decide) ?_
                exact (ps_sub [1, 2, 3, 4, 5, 6, 7, 8, 9, 0] rfl (hJ138 0 h))
              · replace h := ps_in c102 h
                refine ps_iload hG dX11_asks_105 0 rfl ?_
                refine ps_iload hG dX11_asks_107 6 rfl ?_
                refine ps_icmp_le (tgt := 137) hG dX11_asks_109 (by decide) (fun c109 => ?_) (fun c109 => ?_)
                · replace h := ps_ip c109 h
                  refine ps_iconst (v := 0) hG dX11_asks_137 (by decide) ?_
                  exact (ps_sub [1, 2, 3, 4, 5, 6, 7, 8, 9, 0] rfl (hJ138 0 h))
                · replace h := ps_in c109 h
                  refine ps_aload_n hG dX11_asks_112 rfl 1 rfl ?_
                  refine ps_get20_4 hG hw inX11_asks_X11 ps_q80.1 (ps_lt hw ps_q80.2.2.1) mX11_asks_13 dX11_asks_113 ?_
                  refine ps_iload_n hG dX11_asks_116 rfl 3 rfl ?_
                  obtain ⟨hb117, h⟩ := ps_ig h
                  refine ps_iald hG ps_q82.1 ps_q82.2.1 (ps_lt hw ps_q82.2.2.1) hb117 dX11_asks_117 ?_
                  refine ps_iconst (v := 2) hG dX11_asks_118 (by decide) ?_
                  refine ps_icmp_ne (tgt := 133) hG dX11_asks_119 (by decide) (fun c119 => ?_) (fun c119 => ?_)
                  · replace h := ps_in c119 h
                    refine ps_iconst (v := 1) hG dX11_asks_133 (by decide) ?_
                    refine ps_goto (tgt := 138) hG dX11_asks_134 (by decide) ?_
                    exact (ps_sub [1, 2, 3, 4, 5, 6, 7, 8, 9, 0] rfl (hJ138 1 h))
                  · replace h := ps_ip c119 h
                    refine ps_aload_n hG dX11_asks_122 rfl 1 rfl ?_
                    refine ps_get20_4 hG hw inX11_asks_X11 ps_q80.1 (ps_lt hw ps_q80.2.2.1) mX11_asks_13 dX11_asks_123 ?_
                    refine ps_iload hG dX11_asks_126 9 rfl ?_
                    obtain ⟨hb128, h⟩ := ps_ig h
                    refine ps_iald hG ps_q82.1 ps_q82.2.1 (ps_lt hw ps_q82.2.2.1) hb128 dX11_asks_128 ?_
                    refine ps_iconst (v := 2) hG dX11_asks_129 (by decide) ?_
                    refine ps_icmp_ne (tgt := 137) hG dX11_asks_130 (by decide) (fun c130 => ?_) (fun c130 => ?_)
                    · replace h := ps_in c130 h
                      refine ps_iconst (v := 0) hG dX11_asks_137 (by decide) ?_
                      exact (ps_sub [1, 2, 3, 4, 5, 6, 7, 8, 9, 0] rfl (hJ138 0 h))
                    · replace h := ps_ip c130 h
                      refine ps_iconst (v := 1) hG dX11_asks_133 (by decide) ?_
                      refine ps_goto (tgt := 138) hG dX11_asks_134 (by decide) ?_
                      exact (ps_sub [1, 2, 3, 4, 5, 6, 7, 8, 9, 0] rfl (hJ138 1 h))
          · show ps_V G 11 0 0 w T62 181 [(0, .ref (w.2.1 80)), (1, .int p1), (2, .int p2), (3, .int p3), (4, .int p4), (6, .int v6_62), (7, .int e7_74)] []
            refine ps_iload hG dX11_asks_181 6 rfl ?_
            refine ps_iconst (v := (-1)) hG dX11_asks_183 (by decide) ?_
            refine ps_icmp_ne (tgt := 188) hG dX11_asks_184 (by decide) (fun c184 => ?_) (fun c184 => ?_)
            · replace h := ps_in c184 h
              refine ps_aload_n hG dX11_asks_188 rfl 0 rfl ?_
              refine ps_get20_3 hG hw inX11_asks_X11 ps_q80.1 (ps_lt hw ps_q80.2.2.1) mX11_asks_7 dX11_asks_189 ?_
              refine ps_iload hG dX11_asks_192 6 rfl ?_
              obtain ⟨hb194, h⟩ := ps_ig h
              refine ps_iald hG ps_q81.1 ps_q81.2.1 (ps_lt hw ps_q81.2.2.1) hb194 dX11_asks_194 ?_
              refine ps_iload hG dX11_asks_195 4 rfl ?_
              refine ps_ixor hG dX11_asks_197 ?_
              refine ps_let h (fun x5_198 h => ?_)
              refine ps_istore (lv' := [(5, .int x5_198), (0, .ref (w.2.1 80)), (1, .int p1), (2, .int p2), (3, .int p3), (4, .int p4), (6, .int v6_62), (7, .int e7_74)]) hG dX11_asks_198 (by decide) rfl ?_
              refine ps_aload_n hG dX11_asks_200 rfl 1 rfl ?_
              refine ps_get20_8 hG hw inX11_asks_X11 ps_q80.1 (ps_lt hw ps_q80.2.2.1) mX11_asks_26 dX11_asks_201 ?_
              refine ps_bipush (v := 16) hG dX11_asks_204 (by decide) ?_
              refine ps_iload_n hG dX11_asks_206 rfl 4 rfl ?_
              refine ps_imul hG dX11_asks_207 ?_
              refine ps_iload hG dX11_asks_208 7 rfl ?_
              refine ps_iadd hG dX11_asks_210 ?_
              refine ps_aload_n hG dX11_asks_211 rfl 1 rfl ?_
              refine ps_get20_8 hG hw inX11_asks_X11 ps_q80.1 (ps_lt hw ps_q80.2.2.1) mX11_asks_26 dX11_asks_212 ?_
              refine ps_bipush (v := 16) hG dX11_asks_215 (by decide) ?_
              refine ps_iload_n hG dX11_asks_217 rfl 4 rfl ?_
              refine ps_imul hG dX11_asks_218 ?_
              refine ps_iload hG dX11_asks_219 7 rfl ?_
              refine ps_iadd hG dX11_asks_221 ?_
              obtain ⟨hb222, h⟩ := ps_ig h
              refine ps_zald hG ps_q86.1 ps_q86.2.1 (ps_lt hw ps_q86.2.2.1) hb222 dX11_asks_222 ?_
              have hJ237 : ∀ (s2_237 : Int32), f_X11_asks_J237 p3 T62 v6_62 e7_74 x5_198 s2_237 = some r9 → ps_V G 11 0 0 w T62 237 [(0, .ref (w.2.1 80)), (1, .int p1), (2, .int p2), (3, .int p3), (4, .int p4), (5, .int x5_198), (6, .int v6_62)] [.int s2_237, .int ((16 * p3) + e7_74), .ref (w.2.1 86)] := by
                intro s2_237 h
                unfold f_X11_asks_J237 at h
                obtain ⟨hb237, h⟩ := ps_ig h
                refine ps_zast hG ps_q86.1 ps_q86.2.1 (ps_lt hw ps_q86.2.2.1) hb237 dX11_asks_237 ?_
                refine ps_iinc (lv' := [(6, .int (v6_62 + 1)), (0, .ref (w.2.1 80)), (1, .int p1), (2, .int p2), (3, .int p3), (4, .int p4), (5, .int x5_198)]) hG dX11_asks_238 6 rfl (by rfl) (by decide) rfl ?_
                refine ps_goto (tgt := 62) hG dX11_asks_241 (by decide) ?_
                cases h
                exact (ps_sub [1, 2, 3, 4, 5, 6, 0] rfl (kc _ rfl))
              refine ps_if_ne (tgt := 232) hG dX11_asks_223 (by decide) (fun c223 => ?_) (fun c223 => ?_)
              · replace h := ps_in c223 h
                refine ps_iconst (v := 1) hG dX11_asks_232 (by decide) ?_
                refine ps_goto (tgt := 237) hG dX11_asks_233 (by decide) ?_
                exact (ps_sub [1, 2, 3, 4, 5, 0, 6] rfl (hJ237 1 h))
              · replace h := ps_ip c223 h
                refine ps_iload hG dX11_asks_226 7 rfl ?_
                refine ps_iload_n hG dX11_asks_228 rfl 2 rfl ?_
                refine ps_icmp_eq (tgt := 236) hG dX11_asks_229 (by decide) (fun c229 => ?_) (fun c229 => ?_)
                · replace h := ps_ip c229 h
                  refine ps_iconst (v := 0) hG dX11_asks_236 (by decide) ?_
                  exact (ps_sub [1, 2, 3, 4, 5, 0, 6] rfl (hJ237 0 h))
                · replace h := ps_in c229 h
                  refine ps_iconst (v := 1) hG dX11_asks_232 (by decide) ?_
                  refine ps_goto (tgt := 237) hG dX11_asks_233 (by decide) ?_
                  exact (ps_sub [1, 2, 3, 4, 5, 0, 6] rfl (hJ237 1 h))
            · replace h := ps_ip c184 h
              cases h
              exact ke _ rfl _ _ dX11_asks_187
      · rcases q62 with S62 | q
        · skip
          show ps_V G 11 0 0 w S62 244 [] []
          replace h : (some S62) = some S' := h
          cases h
          exact hret _ _ dX11_asks_244
        · cases h
          exact hret
    · replace h := ps_ip c33 h
      cases h
      exact hret _ _ dX11_asks_36
def f_X11_closestOf_J95 (v5_20 : Int32) (s0_95 : Int32) : Option ((Int32 × Int32) ⊕ (Int32)) :=
  some (.inl (s0_95, v5_20 + 1))
def f_X11_closestOf_J93 (v4_20 : Int32) (v5_20 : Int32)  : Option ((Int32 × Int32) ⊕ (Int32)) :=
  f_X11_closestOf_J95 v5_20 v4_20
def f_X11_closestOf_J88 (v5_20 : Int32)  : Option ((Int32 × Int32) ⊕ (Int32)) :=
  f_X11_closestOf_J95 v5_20 v5_20
def f_X11_closestOf_J61 (p1 : Int32) (T9 : ps_S) (v4_20 : Int32) (v5_20 : Int32) (s0_61 : Int32) : Option ((Int32 × Int32) ⊕ (Int32)) :=
  (if s0_61 = 0 then
                  f_X11_closestOf_J93 v4_20 v5_20
                else
                  (if v4_20 = (-1) then
                    f_X11_closestOf_J88 v5_20
                  else
                    (if ps_ib v4_20 16 = true then
                    (if ((T9 81 v4_20.toNatClampNeg) ^^^ p1) ≤ ((T9 81 v5_20.toNatClampNeg) ^^^ p1) then
                      f_X11_closestOf_J93 v4_20 v5_20
                    else
                      f_X11_closestOf_J88 v5_20) else none)))
def f_X11_closestOf_L20 (p1 : Int32) (T9 : ps_S) (v2_9 : Int32) (v4_20 : Int32) (v5_20 : Int32) : Option ((Int32 × Int32) ⊕ (Int32)) :=
  (if (T9 80 2) ≤ v5_20 then
              some (.inr v4_20)
            else
              (if ps_ib v5_20 16 = true then
              (if ps_ib v5_20 16 = true then
              (if (T9 88 v5_20.toNatClampNeg) = 0 then
                f_X11_closestOf_J61 p1 T9 v4_20 v5_20 0
              else
                (if ((T9 81 v5_20.toNatClampNeg) ^^^ p1) ≤ v2_9 then
                  f_X11_closestOf_J61 p1 T9 v4_20 v5_20 0
                else
                  f_X11_closestOf_J61 p1 T9 v4_20 v5_20 1)) else none) else none))
def f_X11_closestOf_J140 (v3_9 : Int32) (T140 : ps_S) (v2_140 : Int32) : Option ((ps_S × Int32 × Int32) ⊕ (ps_S)) :=
  some (.inl (T140, v2_140, v3_9 + 1))
def f_X11_closestOf_L9 (p1 : Int32) (T9 : ps_S) (v2_9 : Int32) (v3_9 : Int32) : Option ((ps_S × Int32 × Int32) ⊕ (ps_S)) :=
  (if 3 ≤ v3_9 then
        some (.inr T9)
      else
        ((ps_it (fun (a : Int32 × Int32) => f_X11_closestOf_L20 p1 T9 v2_9 a.1 a.2) ps_fu ((-1), 0)).bind (fun e4_20 => (if e4_20 = (-1) then
          f_X11_closestOf_J140 v3_9 T9 v2_9
        else
          (if ps_ib (T9 80 13) 3 = true then
          (if ps_ib e4_20 16 = true then
          ps_lts (((ps_up (ps_up T9 90 (T9 80 13).toNatClampNeg e4_20) 80 13 (((ps_up T9 90 (T9 80 13).toNatClampNeg e4_20) 80 13) + 1)) 81 e4_20.toNatClampNeg) ^^^ p1) (fun x2_139 => f_X11_closestOf_J140 v3_9 (ps_up (ps_up T9 90 (T9 80 13).toNatClampNeg e4_20) 80 13 (((ps_up T9 90 (T9 80 13).toNatClampNeg e4_20) 80 13) + 1)) x2_139) else none) else none)))))
def f_X11_closestOf (S : ps_S) (p1 : Int32) : Option ps_S :=
  ((ps_it (fun (a : ps_S × Int32 × Int32) => f_X11_closestOf_L9 p1 a.1 a.2.1 a.2.2) ps_fu (ps_up S 80 13 0, (-1), 0)).bind (fun S9 => some S9))
theorem inX11_closestOf_X11 : ∀ q ∈ wsX110, q ∈ wsX11_closestOf := fun _ h => List.mem_cons_of_mem _ (List.mem_append_right _ h)
theorem mX11_closestOf_114 : Cond.fieldLink RX11 114 (TX11 13).1 (TX11 13).2.1 (TX11 13).2.2.1 ∈ wsX11_closestOf := List.mem_of_getElem? (i := 1) rfl
theorem mX11_closestOf_32 : Cond.fieldLink RX11 32 (TX11 10).1 (TX11 10).2.1 (TX11 10).2.2.1 ∈ wsX11_closestOf := List.mem_of_getElem? (i := 4) rfl
theorem mX11_closestOf_38 : Cond.fieldLink RX11 38 (TX11 12).1 (TX11 12).2.1 (TX11 12).2.2.1 ∈ wsX11_closestOf := List.mem_of_getElem? (i := 5) rfl
theorem mX11_closestOf_7 : Cond.fieldLink RX11 7 (TX11 3).1 (TX11 3).2.1 (TX11 3).2.2.1 ∈ wsX11_closestOf := List.mem_of_getElem? (i := 3) rfl
theorem mX11_closestOf_78 : Cond.fieldLink RX11 78 (TX11 2).1 (TX11 2).2.1 (TX11 2).2.2.1 ∈ wsX11_closestOf := List.mem_of_getElem? (i := 2) rfl
set_option maxHeartbeats 4000000 in
set_option maxRecDepth 100000 in
theorem c_X11_closestOf (l : Launch) {w : ps_X} (hw : ps_ww w) {S S' : ps_S} {p1 : Int32} (h : f_X11_closestOf S p1 = some S') : ps_MetV l yX11_closestOf wsX11_closestOf (ps_rm 0 0) w [.ref (w.2.1 80), .int p1] S S' := by
  refine ps_mkV (cc := cX11_closestOf) (maxL := 8) (own := RX11) (by decide +kernel) rfl rfl rfl (Nat.le_of_ble_eq_true rfl) rfl (fun G hl hG hret => ?_)
  unfold f_X11_closestOf at h
  refine ps_aload_n hG dX11_closestOf_0 rfl 0 rfl ?_
  refine ps_iconst (v := 0) hG dX11_closestOf_1 (by decide) ?_
  refine ps_put20_13 hG inX11_closestOf_X11 ps_q80.1 (ps_lt hw ps_q80.2.2.1) ps_q80.2.2.2 mX11_closestOf_114 dX11_closestOf_2 ?_
  refine ps_iconst (v := (-1)) hG dX11_closestOf_5 (by decide) ?_
  refine ps_istore_n (lv' := [(2, .int (-1)), (0, .ref (w.2.1 80)), (1, .int p1)]) hG dX11_closestOf_6 rfl (by decide) rfl ?_
  refine ps_iconst (v := 0) hG dX11_closestOf_7 (by decide) ?_
  refine ps_istore_n (lv' := [(3, .int 0), (2, .int (-1)), (0, .ref (w.2.1 80)), (1, .int p1)]) hG dX11_closestOf_8 rfl (by decide) rfl ?_
  obtain ⟨S9, hq9, h⟩ := ps_bd h
  refine (ps_sub [2, 3, 1, 0] rfl (ps_itV (fun (a : ps_S × Int32 × Int32) => ps_V G 8 0 0 w a.1 9 [(0, .ref (w.2.1 80)), (1, .int p1), (2, .int a.2.1), (3, .int a.2.2)] []) (fun (b : ps_S) => ps_V G 8 0 0 w b 146 [] []) ?_ _ _ _ hq9 ?_))
  · intro a r9 h kc ke
    obtain ⟨T9, v2_9, v3_9⟩ := a
    replace h : f_X11_closestOf_L9 p1 T9 v2_9 v3_9 = some r9 := h
    show ps_V G 8 0 0 w T9 9 [(0, .ref (w.2.1 80)), (1, .int p1), (2, .int v2_9), (3, .int v3_9)] []
    unfold f_X11_closestOf_L9 at h
    refine ps_iload_n hG dX11_closestOf_9 rfl 3 rfl ?_
    refine ps_iconst (v := 3) hG dX11_closestOf_10 (by decide) ?_
    refine ps_icmp_ge (tgt := 146) hG dX11_closestOf_11 (by decide) (fun c11 => ?_) (fun c11 => ?_)
    · replace h := ps_ip c11 h
      cases h
      exact (ps_sub [] rfl (ke _ rfl))
    · replace h := ps_in c11 h
      refine ps_iconst (v := (-1)) hG dX11_closestOf_14 (by decide) ?_
      refine ps_istore (lv' := [(4, .int (-1)), (0, .ref (w.2.1 80)), (1, .int p1), (2, .int v2_9), (3, .int v3_9)]) hG dX11_closestOf_15 (by decide) rfl ?_
      refine ps_iconst (v := 0) hG dX11_closestOf_17 (by decide) ?_
      refine ps_istore (lv' := [(5, .int 0), (4, .int (-1)), (0, .ref (w.2.1 80)), (1, .int p1), (2, .int v2_9), (3, .int v3_9)]) hG dX11_closestOf_18 (by decide) rfl ?_
      obtain ⟨e4_20, hq20, h⟩ := ps_bd h
      refine (ps_sub [2, 3, 4, 5, 1, 0] rfl (ps_itV (fun (a : Int32 × Int32) => ps_V G 8 0 0 w T9 20 [(0, .ref (w.2.1 80)), (1, .int p1), (2, .int v2_9), (3, .int v3_9), (4, .int a.1), (5, .int a.2)] []) (fun (b : Int32) => ps_V G 8 0 0 w T9 103 [(0, .ref (w.2.1 80)), (1, .int p1), (2, .int v2_9), (3, .int v3_9), (4, .int b)] []) ?_ _ _ _ hq20 ?_))
      · intro a r9 h kc ke
        obtain ⟨v4_20, v5_20⟩ := a
        replace h : f_X11_closestOf_L20 p1 T9 v2_9 v4_20 v5_20 = some r9 := h
        show ps_V G 8 0 0 w T9 20 [(0, .ref (w.2.1 80)), (1, .int p1), (2, .int v2_9), (3, .int v3_9), (4, .int v4_20), (5, .int v5_20)] []
        unfold f_X11_closestOf_L20 at h
        refine ps_iload hG dX11_closestOf_20 5 rfl ?_
        refine ps_aload_n hG dX11_closestOf_22 rfl 0 rfl ?_
        refine ps_get20_2 hG inX11_closestOf_X11 ps_q80.1 (ps_lt hw ps_q80.2.2.1) mX11_closestOf_78 dX11_closestOf_23 ?_
        refine ps_icmp_ge (tgt := 103) hG dX11_closestOf_26 (by decide) (fun c26 => ?_) (fun c26 => ?_)
        · replace h := ps_ip c26 h
          cases h
          exact (ps_sub [0, 1, 2, 3, 4] rfl (ke _ rfl))
        · replace h := ps_in c26 h
          refine ps_aload_n hG dX11_closestOf_29 rfl 0 rfl ?_
          refine ps_get20_3 hG hw inX11_closestOf_X11 ps_q80.1 (ps_lt hw ps_q80.2.2.1) mX11_closestOf_7 dX11_closestOf_30 ?_
          refine ps_iload hG dX11_closestOf_33 5 rfl ?_
          obtain ⟨hb35, h⟩ := ps_ig h
          refine ps_iald hG ps_q81.1 ps_q81.2.1 (ps_lt hw ps_q81.2.2.1) hb35 dX11_closestOf_35 ?_
          refine ps_iload_n hG dX11_closestOf_36 rfl 1 rfl ?_
          refine ps_ixor hG dX11_closestOf_37 ?_
          refine ps_istore (lv' := [(6, .int ((T9 81 v5_20.toNatClampNeg) ^^^ p1)), (0, .ref (w.2.1 80)), (1, .int p1), (2, .int v2_9), (3, .int v3_9), (4, .int v4_20), (5, .int v5_20)]) hG dX11_closestOf_38 (by decide) rfl ?_
          refine ps_aload_n hG dX11_closestOf_40 rfl 1 rfl ?_
          refine ps_get20_10 hG hw inX11_closestOf_X11 ps_q80.1 (ps_lt hw ps_q80.2.2.1) mX11_closestOf_32 dX11_closestOf_41 ?_
          refine ps_iload hG dX11_closestOf_44 6 rfl ?_
          obtain ⟨hb46, h⟩ := ps_ig h
          refine ps_zald hG ps_q88.1 ps_q88.2.1 (ps_lt hw ps_q88.2.2.1) hb46 dX11_closestOf_46 ?_
          have hJ61 : ∀ (s0_61 : Int32), f_X11_closestOf_J61 p1 T9 v4_20 v5_20 s0_61 = some r9 → ps_V G 8 0 0 w T9 61 [(0, .ref (w.2.1 80)), (1, .int p1), (2, .int v2_9), (3, .int v3_9), (4, .int v4_20), (5, .int v5_20), (6, .int ((T9 81 v5_20.toNatClampNeg) ^^^ p1))] [.int s0_61] := by
            intro s0_61 h
            unfold f_X11_closestOf_J61 at h
            refine ps_istore (lv' := [(7, .int s0_61), (0, .ref (w.2.1 80)), (1, .int p1), (2, .int v2_9), (3, .int v3_9), (4, .int v4_20), (5, .int v5_20), (6, .int ((T9 81 v5_20.toNatClampNeg) ^^^ p1))]) hG dX11_closestOf_61 (by decide) rfl ?_
            refine ps_iload hG dX11_closestOf_63 0 rfl ?_
            have hJ95 : ∀ (s0_95 : Int32), f_X11_closestOf_J95 v5_20 s0_95 = some r9 → ps_V G 8 0 0 w T9 95 [(0, .ref (w.2.1 80)), (1, .int p1), (2, .int v2_9), (3, .int v3_9), (5, .int v5_20)] [.int s0_95] := by
              intro s0_95 h
              unfold f_X11_closestOf_J95 at h
              refine ps_istore (lv' := [(4, .int s0_95), (0, .ref (w.2.1 80)), (1, .int p1), (2, .int v2_9), (3, .int v3_9), (5, .int v5_20)]) hG dX11_closestOf_95 (by decide) rfl ?_
              refine ps_iinc (lv' := [(5, .int (v5_20 + 1)), (4, .int s0_95), (0, .ref (w.2.1 80)), (1, .int p1), (2, .int v2_9), (3, .int v3_9)]) hG dX11_closestOf_97 5 rfl (by rfl) (by decide) rfl ?_
              refine ps_goto (tgt := 20) hG dX11_closestOf_100 (by decide) ?_
              cases h
              exact (ps_sub [2, 3, 4, 5, 1, 0] rfl (kc _ rfl))
            have hJ93 : f_X11_closestOf_J93 v4_20 v5_20 = some r9 → ps_V G 8 0 0 w T9 93 [(0, .ref (w.2.1 80)), (1, .int p1), (2, .int v2_9), (3, .int v3_9), (4, .int v4_20), (5, .int v5_20)] [] := by
              intro h
              unfold f_X11_closestOf_J93 at h
              refine ps_iload hG dX11_closestOf_93 4 rfl ?_
              exact (ps_sub [0, 1, 2, 3, 5] rfl (hJ95 v4_20 h))
            refine ps_if_eq (tgt := 93) hG dX11_closestOf_65 (by decide) (fun c65 => ?_) (fun c65 => ?_)
            · replace h := ps_ip c65 h
              exact (ps_sub [1, 2, 3, 4, 5, 6] rfl (hJ93  h))
            · replace h := ps_in c65 h
              refine ps_iload hG dX11_closestOf_68 5 rfl ?_
              refine ps_iconst (v := (-1)) hG dX11_closestOf_70 (by decide) ?_
              have hJ88 : f_X11_closestOf_J88 v5_20 = some r9 → ps_V G 8 0 0 w T9 88 [(0, .ref (w.2.1 80)), (1, .int p1), (2, .int v2_9), (3, .int v3_9), (5, .int v5_20)] [] := by
                intro h
                unfold f_X11_closestOf_J88 at h
                refine ps_iload hG dX11_closestOf_88 4 rfl ?_
                refine ps_goto (tgt := 95) hG dX11_closestOf_90 (by decide) ?_
                exact (ps_sub [0, 1, 2, 3, 4] rfl (hJ95 v5_20 h))
              refine ps_icmp_eq (tgt := 88) hG dX11_closestOf_71 (by decide) (fun c71 => ?_) (fun c71 => ?_)
              · replace h := ps_ip c71 h
                exact (ps_sub [1, 2, 3, 4, 6] rfl (hJ88  h))
              · replace h := ps_in c71 h
                refine ps_iload hG dX11_closestOf_74 7 rfl ?_
                refine ps_aload_n hG dX11_closestOf_76 rfl 1 rfl ?_
                refine ps_get20_3 hG hw inX11_closestOf_X11 ps_q80.1 (ps_lt hw ps_q80.2.2.1) mX11_closestOf_7 dX11_closestOf_77 ?_
                refine ps_iload hG dX11_closestOf_80 5 rfl ?_
                obtain ⟨hb82, h⟩ := ps_ig h
                refine ps_iald hG ps_q81.1 ps_q81.2.1 (ps_lt hw ps_q81.2.2.1) hb82 dX11_closestOf_82 ?_
                refine ps_iload_n hG dX11_closestOf_83 rfl 2 rfl ?_
                refine ps_ixor hG dX11_closestOf_84 ?_
                refine ps_icmp_ge (tgt := 93) hG dX11_closestOf_85 (by decide) (fun c85 => ?_) (fun c85 => ?_)
                · replace h := ps_ip c85 h
                  exact (ps_sub [1, 2, 3, 4, 5, 6] rfl (hJ93  h))
                · replace h := ps_in c85 h
                  exact (ps_sub [1, 2, 3, 4, 6] rfl (hJ88  h))
          refine ps_if_eq (tgt := 60) hG dX11_closestOf_47 (by decide) (fun c47 => ?_) (fun c47 => ?_)
          · replace h := ps_ip c47 h
            refine ps_iconst (v := 0) hG dX11_closestOf_60 (by decide) ?_
            exact (ps_sub [1, 2, 3, 4, 5, 6, 0] rfl (hJ61 0 h))
          · replace h := ps_in c47 h
            refine ps_iload hG dX11_closestOf_50 0 rfl ?_
            refine ps_iload_n hG dX11_closestOf_52 rfl 3 rfl ?_
            refine ps_icmp_le (tgt := 60) hG dX11_closestOf_53 (by decide) (fun c53 => ?_) (fun c53 => ?_)
            · replace h := ps_ip c53 h
              refine ps_iconst (v := 0) hG dX11_closestOf_60 (by decide) ?_
              exact (ps_sub [1, 2, 3, 4, 5, 6, 0] rfl (hJ61 0 h))
            · replace h := ps_in c53 h
              refine ps_iconst (v := 1) hG dX11_closestOf_56 (by decide) ?_
              refine ps_goto (tgt := 61) hG dX11_closestOf_57 (by decide) ?_
              exact (ps_sub [1, 2, 3, 4, 5, 6, 0] rfl (hJ61 1 h))
      · show ps_V G 8 0 0 w T9 103 [(0, .ref (w.2.1 80)), (1, .int p1), (2, .int v2_9), (3, .int v3_9), (4, .int e4_20)] []
        refine ps_iload hG dX11_closestOf_103 4 rfl ?_
        refine ps_iconst (v := (-1)) hG dX11_closestOf_105 (by decide) ?_
        have hJ140 : ∀ (T140 : ps_S) (v2_140 : Int32), f_X11_closestOf_J140 v3_9 T140 v2_140 = some r9 → ps_V G 8 0 0 w T140 140 [(0, .ref (w.2.1 80)), (1, .int p1), (2, .int v2_140), (3, .int v3_9)] [] := by
          intro T140 v2_140 h
          unfold f_X11_closestOf_J140 at h
          refine ps_iinc (lv' := [(3, .int (v3_9 + 1)), (0, .ref (w.2.1 80)), (1, .int p1), (2, .int v2_140)]) hG dX11_closestOf_140 3 rfl (by rfl) (by decide) rfl ?_
          refine ps_goto (tgt := 9) hG dX11_closestOf_143 (by decide) ?_
          cases h
          exact (ps_sub [1, 2, 3, 0] rfl (kc _ rfl))
        refine ps_icmp_eq (tgt := 140) hG dX11_closestOf_106 (by decide) (fun c106 => ?_) (fun c106 => ?_)
        · replace h := ps_ip c106 h
          exact (ps_sub [0, 1, 2, 3] rfl (hJ140 T9 v2_9 h))
        · replace h := ps_in c106 h
          refine ps_aload_n hG dX11_closestOf_109 rfl 0 rfl ?_
          refine ps_get20_12 hG hw inX11_closestOf_X11 ps_q80.1 (ps_lt hw ps_q80.2.2.1) mX11_closestOf_38 dX11_closestOf_110 ?_
          refine ps_aload_n hG dX11_closestOf_113 rfl 0 rfl ?_
          refine ps_get20_13 hG inX11_closestOf_X11 ps_q80.1 (ps_lt hw ps_q80.2.2.1) mX11_closestOf_114 dX11_closestOf_114 ?_
          refine ps_iload hG dX11_closestOf_117 4 rfl ?_
          obtain ⟨hb119, h⟩ := ps_ig h
          refine ps_iast hG ps_q90.1 ps_q90.2.1 (ps_lt hw ps_q90.2.2.1) hb119 dX11_closestOf_119 ?_
          refine ps_aload_n hG dX11_closestOf_120 rfl 0 rfl ?_
          refine ps_dup hG dX11_closestOf_121 rfl ?_
          refine ps_get20_13 hG inX11_closestOf_X11 ps_q80.1 (ps_lt hw ps_q80.2.2.1) mX11_closestOf_114 dX11_closestOf_122 ?_
          refine ps_iconst (v := 1) hG dX11_closestOf_125 (by decide) ?_
          refine ps_iadd hG dX11_closestOf_126 ?_
          refine ps_put20_13 hG inX11_closestOf_X11 ps_q80.1 (ps_lt hw ps_q80.2.2.1) ps_q80.2.2.2 mX11_closestOf_114 dX11_closestOf_127 ?_
          refine ps_aload_n hG dX11_closestOf_130 rfl 0 rfl ?_
          refine ps_get20_3 hG hw inX11_closestOf_X11 ps_q80.1 (ps_lt hw ps_q80.2.2.1) mX11_closestOf_7 dX11_closestOf_131 ?_
          refine ps_iload hG dX11_closestOf_134 4 rfl ?_
          obtain ⟨hb136, h⟩ := ps_ig h
          refine ps_iald hG ps_q81.1 ps_q81.2.1 (ps_lt hw ps_q81.2.2.1) hb136 dX11_closestOf_136 ?_
          refine ps_iload_n hG dX11_closestOf_137 rfl 1 rfl ?_
          refine ps_ixor hG dX11_closestOf_138 ?_
          refine ps_let h (fun x2_139 h => ?_)
          refine ps_istore_n (lv' := [(2, .int x2_139), (0, .ref (w.2.1 80)), (1, .int p1), (3, .int v3_9), (4, .int e4_20)]) hG dX11_closestOf_139 rfl (by decide) rfl ?_
          exact (ps_sub [1, 2, 0, 3] rfl (hJ140 (ps_up (ps_up T9 90 (T9 80 13).toNatClampNeg e4_20) 80 13 (((ps_up T9 90 (T9 80 13).toNatClampNeg e4_20) 80 13) + 1)) x2_139 h))
  · show ps_V G 8 0 0 w S9 146 [] []
    cases h
    exact hret _ _ dX11_closestOf_146
def f_X11_looksUp_L8  (T8 : ps_S) (v4_8 : Int32) : Option ((ps_S × Int32) ⊕ (ps_S)) :=
  (if 16 ≤ v4_8 then
        some (.inr T8)
      else
        (if ps_ib v4_8 32 = true then
        (if ps_ib (16 + v4_8) 32 = true then
        (if ps_ib v4_8 16 = true then
        (if ps_ib v4_8 16 = true then
        some (.inl (ps_up (ps_up (ps_up (ps_up T8 86 v4_8.toNatClampNeg (vp_nar .boolean 0)) 86 (16 + v4_8).toNatClampNeg (vp_nar .boolean 0)) 87 v4_8.toNatClampNeg (vp_nar .boolean 0)) 88 v4_8.toNatClampNeg (vp_nar .boolean 0), v4_8 + 1)) else none) else none) else none) else none))
def f_X11_looksUp_J153 (v7_77 : Int32) (s0_153 : Int32) : Option ((Int32 × Int32) ⊕ (Int32)) :=
  some (.inl (s0_153, v7_77 + 1))
def f_X11_looksUp_J151 (v6_77 : Int32) (v7_77 : Int32)  : Option ((Int32 × Int32) ⊕ (Int32)) :=
  f_X11_looksUp_J153 v7_77 v6_77
def f_X11_looksUp_J146 (v7_77 : Int32)  : Option ((Int32 × Int32) ⊕ (Int32)) :=
  f_X11_looksUp_J153 v7_77 v7_77
def f_X11_looksUp_J119 (p2 : Int32) (T62 : ps_S) (v6_77 : Int32) (v7_77 : Int32) (s0_119 : Int32) : Option ((Int32 × Int32) ⊕ (Int32)) :=
  (if s0_119 = 0 then
                  f_X11_looksUp_J151 v6_77 v7_77
                else
                  (if v6_77 = (-1) then
                    f_X11_looksUp_J146 v7_77
                  else
                    (if ps_ib v6_77 16 = true then
                    (if ((T62 81 v6_77.toNatClampNeg) ^^^ p2) ≤ ((T62 81 v7_77.toNatClampNeg) ^^^ p2) then
                      f_X11_looksUp_J151 v6_77 v7_77
                    else
                      f_X11_looksUp_J146 v7_77) else none)))
def f_X11_looksUp_L77 (p1 : Int32) (p2 : Int32) (T62 : ps_S) (v4_62 : Int32) (v6_77 : Int32) (v7_77 : Int32) : Option ((Int32 × Int32) ⊕ (Int32)) :=
  (if (T62 80 2) ≤ v7_77 then
              some (.inr v6_77)
            else
              (if ps_ib v7_77 16 = true then
              ((f_X11_keepsPeer T62 p1 v7_77).bind fun r101 =>
              (if r101 = 0 then
                f_X11_looksUp_J119 p2 T62 v6_77 v7_77 0
              else
                (if ((T62 81 v7_77.toNatClampNeg) ^^^ p2) ≤ v4_62 then
                  f_X11_looksUp_J119 p2 T62 v6_77 v7_77 0
                else
                  f_X11_looksUp_J119 p2 T62 v6_77 v7_77 1))) else none))
def f_X11_looksUp_J203 (v5_62 : Int32) (T203 : ps_S) (v4_203 : Int32) : Option ((ps_S × Int32 × Int32) ⊕ (ps_S)) :=
  some (.inl (T203, v4_203, v5_62 + 1))
def f_X11_looksUp_J186 (p2 : Int32) (T62 : ps_S) (v5_62 : Int32) (e6_77 : Int32) (s2_186 : Int32) : Option ((ps_S × Int32 × Int32) ⊕ (ps_S)) :=
  (if ps_ib ((16 * s2_186) + e6_77) 32 = true then
            (if ps_ib e6_77 16 = true then
            ps_lts (((ps_up T62 86 ((16 * s2_186) + e6_77).toNatClampNeg (vp_nar .boolean 1)) 81 e6_77.toNatClampNeg) ^^^ p2) (fun x4_201 => f_X11_looksUp_J203 v5_62 (ps_up T62 86 ((16 * s2_186) + e6_77).toNatClampNeg (vp_nar .boolean 1)) x4_201) else none) else none)
def f_X11_looksUp_L62 (p1 : Int32) (p2 : Int32) (p3 : Int32) (T62 : ps_S) (v4_62 : Int32) (v5_62 : Int32) : Option ((ps_S × Int32 × Int32) ⊕ (ps_S)) :=
  (if (T62 80 2) ≤ v5_62 then
        some (.inr T62)
      else
        ((ps_it (fun (a : Int32 × Int32) => f_X11_looksUp_L77 p1 p2 T62 v4_62 a.1 a.2) ps_fu ((-1), 0)).bind (fun e6_77 => (if e6_77 = (-1) then
          f_X11_looksUp_J203 v5_62 T62 v4_62
        else
          (if p3 = 2 then
            f_X11_looksUp_J186 p2 T62 v5_62 e6_77 (v5_62 - v5_62 / 2 * 2)
          else
            f_X11_looksUp_J186 p2 T62 v5_62 e6_77 0)))))
def f_X11_looksUp_J300 (v6_223 : Int32) (T285 : ps_S) (s0_300 : Int32) : Option ((ps_S × Int32 × Int32) ⊕ (ps_S × Int32)) :=
  some (.inl (T285, s0_300, v6_223 + 1))
def f_X11_looksUp_J285 (v5_223 : Int32) (v6_223 : Int32) (r233 : Int32) (T285 : ps_S) : Option ((ps_S × Int32 × Int32) ⊕ (ps_S × Int32)) :=
  (if v5_223 = 0 then
                    (if r233 ≤ 0 then
                      f_X11_looksUp_J300 v6_223 T285 0
                    else
                      f_X11_looksUp_J300 v6_223 T285 1)
                  else
                    f_X11_looksUp_J300 v6_223 T285 1)
def f_X11_looksUp_J269 (p1 : Int32) (p2 : Int32) (v5_223 : Int32) (v6_223 : Int32) (r233 : Int32) (S233 : ps_S) (T269 : ps_S) : Option ((ps_S × Int32 × Int32) ⊕ (ps_S × Int32)) :=
  (if r233 ≤ 1 then
                  f_X11_looksUp_J285 v5_223 v6_223 r233 T269
                else
                  ((f_X11_asks T269 p1 (S233 89 (1 : Int32).toNatClampNeg) v6_223 p2).bind fun S282 =>
                  f_X11_looksUp_J285 v5_223 v6_223 r233 S282))
def f_X11_looksUp_L223 (p1 : Int32) (p2 : Int32) (p3 : Int32) (T223 : ps_S) (v5_223 : Int32) (v6_223 : Int32) : Option ((ps_S × Int32 × Int32) ⊕ (ps_S × Int32)) :=
  (if p3 ≤ v6_223 then
              some (.inr (T223, v5_223))
            else
              (ps_b2 (f_X11_picks T223 v6_223 p2) fun r233 S233 =>
              (if r233 ≤ 0 then
                f_X11_looksUp_J269 p1 p2 v5_223 v6_223 r233 S233 S233
              else
                ((f_X11_asks S233 p1 (S233 89 (0 : Int32).toNatClampNeg) v6_223 p2).bind fun S266 =>
                f_X11_looksUp_J269 p1 p2 v5_223 v6_223 r233 S233 S266))))
def f_X11_looksUp_L212 (p1 : Int32) (p2 : Int32) (p3 : Int32) (T212 : ps_S) (v5_212 : Int32) : Option ((ps_S × Int32) ⊕ (ps_S)) :=
  (if v5_212 = 0 then
        some (.inr T212)
      else
        (ps_b2 (ps_it (fun (a : ps_S × Int32 × Int32) => f_X11_looksUp_L223 p1 p2 p3 a.1 a.2.1 a.2.2) ps_fu (T212, 0, 0)) (fun S223 e5_223 => some (.inl (S223, e5_223)))))
def f_X11_looksUp (S : ps_S) (p1 : Int32) (p2 : Int32) (p3 : Int32) : Option ps_S :=
  ((ps_it (fun (a : ps_S × Int32) => f_X11_looksUp_L8 a.1 a.2) ps_fu (ps_up S 80 14 0, 0)).bind (fun S8 => ((ps_it (fun (a : ps_S × Int32 × Int32) => f_X11_looksUp_L62 p1 p2 p3 a.1 a.2.1 a.2.2) ps_fu (S8, (-1), 0)).bind (fun S62 => ((ps_it (fun (a : ps_S × Int32) => f_X11_looksUp_L212 p1 p2 p3 a.1 a.2) ps_fu (S62, 1)).bind (fun S212 => ((f_X11_closestOf S212 p2).bind fun S313 =>
  some S313)))))))
theorem inX11_looksUp_X11 : ∀ q ∈ wsX110, q ∈ wsX11_looksUp := fun _ h => List.mem_cons_of_mem _ (List.mem_append_right _ h)
theorem mX11_looksUp_26 : Cond.fieldLink RX11 26 (TX11 8).1 (TX11 8).2.1 (TX11 8).2.2.1 ∈ wsX11_looksUp := List.mem_of_getElem? (i := 2) rfl
theorem mX11_looksUp_29 : Cond.fieldLink RX11 29 (TX11 9).1 (TX11 9).2.1 (TX11 9).2.2.1 ∈ wsX11_looksUp := List.mem_of_getElem? (i := 3) rfl
theorem mX11_looksUp_32 : Cond.fieldLink RX11 32 (TX11 10).1 (TX11 10).2.1 (TX11 10).2.2.1 ∈ wsX11_looksUp := List.mem_of_getElem? (i := 4) rfl
theorem mX11_looksUp_35 : Cond.fieldLink RX11 35 (TX11 11).1 (TX11 11).2.1 (TX11 11).2.2.1 ∈ wsX11_looksUp := List.mem_of_getElem? (i := 7) rfl
theorem mX11_looksUp_7 : Cond.fieldLink RX11 7 (TX11 3).1 (TX11 3).2.1 (TX11 3).2.2.1 ∈ wsX11_looksUp := List.mem_of_getElem? (i := 6) rfl
theorem mX11_looksUp_78 : Cond.fieldLink RX11 78 (TX11 2).1 (TX11 2).2.1 (TX11 2).2.2.1 ∈ wsX11_looksUp := List.mem_of_getElem? (i := 5) rfl
theorem mX11_looksUp_92 : Cond.fieldLink RX11 92 (TX11 14).1 (TX11 14).2.1 (TX11 14).2.2.1 ∈ wsX11_looksUp := List.mem_of_getElem? (i := 1) rfl
set_option maxHeartbeats 4000000 in
set_option maxRecDepth 100000 in
theorem c_X11_looksUp (l : Launch) {w : ps_X} (hw : ps_ww w) {S S' : ps_S} {p1 p2 p3 : Int32} (h : f_X11_looksUp S p1 p2 p3 = some S') : ps_MetV l yX11_looksUp wsX11_looksUp (ps_rm 3 80) w [.ref (w.2.1 80), .int p1, .int p2, .int p3] S S' := by
  refine ps_mkV (cc := cX11_looksUp) (maxL := 10) (own := RX11) (by decide +kernel) rfl rfl rfl (Nat.le_of_ble_eq_true rfl) rfl (fun G hl hG hret => ?_)
  unfold f_X11_looksUp at h
  refine ps_aload_n hG dX11_looksUp_0 rfl 0 rfl ?_
  refine ps_iconst (v := 0) hG dX11_looksUp_1 (by decide) ?_
  refine ps_put20_14 hG inX11_looksUp_X11 ps_q80.1 (ps_lt hw ps_q80.2.2.1) ps_q80.2.2.2 mX11_looksUp_92 dX11_looksUp_2 ?_
  refine ps_iconst (v := 0) hG dX11_looksUp_5 (by decide) ?_
  refine ps_istore (lv' := [(4, .int 0), (0, .ref (w.2.1 80)), (1, .int p1), (2, .int p2), (3, .int p3)]) hG dX11_looksUp_6 (by decide) rfl ?_
  obtain ⟨S8, hq8, h⟩ := ps_bd h
  refine (ps_sub [1, 2, 3, 4, 0] rfl (ps_itV (fun (a : ps_S × Int32) => ps_V G 10 0 0 w a.1 8 [(0, .ref (w.2.1 80)), (1, .int p1), (2, .int p2), (3, .int p3), (4, .int a.2)] []) (fun (b : ps_S) => ps_V G 10 0 0 w b 56 [(0, .ref (w.2.1 80)), (1, .int p1), (2, .int p2), (3, .int p3)] []) ?_ _ _ _ hq8 ?_))
  · intro a r9 h kc ke
    obtain ⟨T8, v4_8⟩ := a
    replace h : f_X11_looksUp_L8 T8 v4_8 = some r9 := h
    show ps_V G 10 0 0 w T8 8 [(0, .ref (w.2.1 80)), (1, .int p1), (2, .int p2), (3, .int p3), (4, .int v4_8)] []
    unfold f_X11_looksUp_L8 at h
    refine ps_iload hG dX11_looksUp_8 4 rfl ?_
    refine ps_bipush (v := 16) hG dX11_looksUp_10 (by decide) ?_
    refine ps_icmp_ge (tgt := 56) hG dX11_looksUp_12 (by decide) (fun c12 => ?_) (fun c12 => ?_)
    · replace h := ps_ip c12 h
      cases h
      exact (ps_sub [0, 1, 2, 3] rfl (ke _ rfl))
    · replace h := ps_in c12 h
      refine ps_aload_n hG dX11_looksUp_15 rfl 0 rfl ?_
      refine ps_get20_8 hG hw inX11_looksUp_X11 ps_q80.1 (ps_lt hw ps_q80.2.2.1) mX11_looksUp_26 dX11_looksUp_16 ?_
      refine ps_iload hG dX11_looksUp_19 4 rfl ?_
      refine ps_iconst (v := 0) hG dX11_looksUp_21 (by decide) ?_
      obtain ⟨hb22, h⟩ := ps_ig h
      refine ps_zast hG ps_q86.1 ps_q86.2.1 (ps_lt hw ps_q86.2.2.1) hb22 dX11_looksUp_22 ?_
      refine ps_aload_n hG dX11_looksUp_23 rfl 0 rfl ?_
      refine ps_get20_8 hG hw inX11_looksUp_X11 ps_q80.1 (ps_lt hw ps_q80.2.2.1) mX11_looksUp_26 dX11_looksUp_24 ?_
      refine ps_bipush (v := 16) hG dX11_looksUp_27 (by decide) ?_
      refine ps_iload hG dX11_looksUp_29 4 rfl ?_
      refine ps_iadd hG dX11_looksUp_31 ?_
      refine ps_iconst (v := 0) hG dX11_looksUp_32 (by decide) ?_
      obtain ⟨hb33, h⟩ := ps_ig h
      refine ps_zast hG ps_q86.1 ps_q86.2.1 (ps_lt hw ps_q86.2.2.1) hb33 dX11_looksUp_33 ?_
      refine ps_aload_n hG dX11_looksUp_34 rfl 0 rfl ?_
      refine ps_get20_9 hG hw inX11_looksUp_X11 ps_q80.1 (ps_lt hw ps_q80.2.2.1) mX11_looksUp_29 dX11_looksUp_35 ?_
      refine ps_iload hG dX11_looksUp_38 4 rfl ?_
      refine ps_iconst (v := 0) hG dX11_looksUp_40 (by decide) ?_
      obtain ⟨hb41, h⟩ := ps_ig h
      refine ps_zast hG ps_q87.1 ps_q87.2.1 (ps_lt hw ps_q87.2.2.1) hb41 dX11_looksUp_41 ?_
      refine ps_aload_n hG dX11_looksUp_42 rfl 0 rfl ?_
      refine ps_get20_10 hG hw inX11_looksUp_X11 ps_q80.1 (ps_lt hw ps_q80.2.2.1) mX11_looksUp_32 dX11_looksUp_43 ?_
      refine ps_iload hG dX11_looksUp_46 4 rfl ?_
      refine ps_iconst (v := 0) hG dX11_looksUp_48 (by decide) ?_
      obtain ⟨hb49, h⟩ := ps_ig h
      refine ps_zast hG ps_q88.1 ps_q88.2.1 (ps_lt hw ps_q88.2.2.1) hb49 dX11_looksUp_49 ?_
      refine ps_iinc (lv' := [(4, .int (v4_8 + 1)), (0, .ref (w.2.1 80)), (1, .int p1), (2, .int p2), (3, .int p3)]) hG dX11_looksUp_50 4 rfl (by rfl) (by decide) rfl ?_
      refine ps_goto (tgt := 8) hG dX11_looksUp_53 (by decide) ?_
      cases h
      exact (ps_sub [1, 2, 3, 4, 0] rfl (kc _ rfl))
  · show ps_V G 10 0 0 w S8 56 [(0, .ref (w.2.1 80)), (1, .int p1), (2, .int p2), (3, .int p3)] []
    refine ps_iconst (v := (-1)) hG dX11_looksUp_56 (by decide) ?_
    refine ps_istore (lv' := [(4, .int (-1)), (0, .ref (w.2.1 80)), (1, .int p1), (2, .int p2), (3, .int p3)]) hG dX11_looksUp_57 (by decide) rfl ?_
    refine ps_iconst (v := 0) hG dX11_looksUp_59 (by decide) ?_
    refine ps_istore (lv' := [(5, .int 0), (4, .int (-1)), (0, .ref (w.2.1 80)), (1, .int p1), (2, .int p2), (3, .int p3)]) hG dX11_looksUp_60 (by decide) rfl ?_
    obtain ⟨S62, hq62, h⟩ := ps_bd h
    refine (ps_sub [2, 3, 4, 5, 1, 0] rfl (ps_itV (fun (a : ps_S × Int32 × Int32) => ps_V G 10 0 0 w a.1 62 [(0, .ref (w.2.1 80)), (1, .int p1), (2, .int p2), (3, .int p3), (4, .int a.2.1), (5, .int a.2.2)] []) (fun (b : ps_S) => ps_V G 10 0 0 w b 209 [(0, .ref (w.2.1 80)), (1, .int p1), (2, .int p2), (3, .int p3)] []) ?_ _ _ _ hq62 ?_))
    · intro a r9 h kc ke
      obtain ⟨T62, v4_62, v5_62⟩ := a
      replace h : f_X11_looksUp_L62 p1 p2 p3 T62 v4_62 v5_62 = some r9 := h
      show ps_V G 10 0 0 w T62 62 [(0, .ref (w.2.1 80)), (1, .int p1), (2, .int p2), (3, .int p3), (4, .int v4_62), (5, .int v5_62)] []
      unfold f_X11_looksUp_L62 at h
      refine ps_iload hG dX11_looksUp_62 5 rfl ?_
      refine ps_aload_n hG dX11_looksUp_64 rfl 0 rfl ?_
      refine ps_get20_2 hG inX11_looksUp_X11 ps_q80.1 (ps_lt hw ps_q80.2.2.1) mX11_looksUp_78 dX11_looksUp_65 ?_
      refine ps_icmp_ge (tgt := 209) hG dX11_looksUp_68 (by decide) (fun c68 => ?_) (fun c68 => ?_)
      · replace h := ps_ip c68 h
        cases h
        exact (ps_sub [0, 1, 2, 3] rfl (ke _ rfl))
      · replace h := ps_in c68 h
        refine ps_iconst (v := (-1)) hG dX11_looksUp_71 (by decide) ?_
        refine ps_istore (lv' := [(6, .int (-1)), (0, .ref (w.2.1 80)), (1, .int p1), (2, .int p2), (3, .int p3), (4, .int v4_62), (5, .int v5_62)]) hG dX11_looksUp_72 (by decide) rfl ?_
        refine ps_iconst (v := 0) hG dX11_looksUp_74 (by decide) ?_
        refine ps_istore (lv' := [(7, .int 0), (6, .int (-1)), (0, .ref (w.2.1 80)), (1, .int p1), (2, .int p2), (3, .int p3), (4, .int v4_62), (5, .int v5_62)]) hG dX11_looksUp_75 (by decide) rfl ?_
        obtain ⟨e6_77, hq77, h⟩ := ps_bd h
        refine (ps_sub [2, 3, 4, 5, 6, 7, 1, 0] rfl (ps_itV (fun (a : Int32 × Int32) => ps_V G 10 0 0 w T62 77 [(0, .ref (w.2.1 80)), (1, .int p1), (2, .int p2), (3, .int p3), (4, .int v4_62), (5, .int v5_62), (6, .int a.1), (7, .int a.2)] []) (fun (b : Int32) => ps_V G 10 0 0 w T62 161 [(0, .ref (w.2.1 80)), (1, .int p1), (2, .int p2), (3, .int p3), (4, .int v4_62), (5, .int v5_62), (6, .int b)] []) ?_ _ _ _ hq77 ?_))
        · intro a r9 h kc ke
          obtain ⟨v6_77, v7_77⟩ := a
          replace h : f_X11_looksUp_L77 p1 p2 T62 v4_62 v6_77 v7_77 = some r9 := h
          show ps_V G 10 0 0 w T62 77 [(0, .ref (w.2.1 80)), (1, .int p1), (2, .int p2), (3, .int p3), (4, .int v4_62), (5, .int v5_62), (6, .int v6_77), (7, .int v7_77)] []
          unfold f_X11_looksUp_L77 at h
          refine ps_iload hG dX11_looksUp_77 7 rfl ?_
          refine ps_aload_n hG dX11_looksUp_79 rfl 0 rfl ?_
          refine ps_get20_2 hG inX11_looksUp_X11 ps_q80.1 (ps_lt hw ps_q80.2.2.1) mX11_looksUp_78 dX11_looksUp_80 ?_
          refine ps_icmp_ge (tgt := 161) hG dX11_looksUp_83 (by decide) (fun c83 => ?_) (fun c83 => ?_)
          · replace h := ps_ip c83 h
            cases h
            exact (ps_sub [0, 1, 2, 3, 4, 5, 6] rfl (ke _ rfl))
          · replace h := ps_in c83 h
            refine ps_aload_n hG dX11_looksUp_86 rfl 0 rfl ?_
            refine ps_get20_3 hG hw inX11_looksUp_X11 ps_q80.1 (ps_lt hw ps_q80.2.2.1) mX11_looksUp_7 dX11_looksUp_87 ?_
            refine ps_iload hG dX11_looksUp_90 7 rfl ?_
            obtain ⟨hb92, h⟩ := ps_ig h
            refine ps_iald hG ps_q81.1 ps_q81.2.1 (ps_lt hw ps_q81.2.2.1) hb92 dX11_looksUp_92 ?_
            refine ps_iload_n hG dX11_looksUp_93 rfl 2 rfl ?_
            refine ps_ixor hG dX11_looksUp_94 ?_
            refine ps_istore (lv' := [(8, .int ((T62 81 v7_77.toNatClampNeg) ^^^ p2)), (0, .ref (w.2.1 80)), (1, .int p1), (2, .int p2), (3, .int p3), (4, .int v4_62), (5, .int v5_62), (6, .int v6_77), (7, .int v7_77)]) hG dX11_looksUp_95 (by decide) rfl ?_
            refine ps_aload_n hG dX11_looksUp_97 rfl 1 rfl ?_
            refine ps_iload_n hG dX11_looksUp_98 rfl 2 rfl ?_
            refine ps_iload hG dX11_looksUp_99 8 rfl ?_
            obtain ⟨r101, hr101, h⟩ := ps_bd h
            refine ps_callVI (As := [.int p1, .int v7_77]) (rest := []) (nA := 2) hG (c_X11_keepsPeer _ hw hr101) gX11_looksUp_X11_keepsPeer rfl (by decide +kernel) rfl ⟨Nat.le_of_ble_eq_true rfl, Nat.le_of_ble_eq_true rfl⟩ ⟨rfl, rfl⟩ ⟨Nat.le_of_ble_eq_true rfl, Nat.le_of_ble_eq_true rfl⟩ (ps_lt hw ps_q80.2.2.1) (ps_cel_20 ps_q80.1 _) rfl rfl (Nat.le_of_ble_eq_true rfl) dX11_looksUp_101 ?_
            have hJ119 : ∀ (s0_119 : Int32), f_X11_looksUp_J119 p2 T62 v6_77 v7_77 s0_119 = some r9 → ps_V G 10 0 0 w T62 119 [(0, .ref (w.2.1 80)), (1, .int p1), (2, .int p2), (3, .int p3), (4, .int v4_62), (5, .int v5_62), (6, .int v6_77), (7, .int v7_77), (8, .int ((T62 81 v7_77.toNatClampNeg) ^^^ p2))] [.int s0_119] := by
              intro s0_119 h
              unfold f_X11_looksUp_J119 at h
              refine ps_istore (lv' := [(9, .int s0_119), (0, .ref (w.2.1 80)), (1, .int p1), (2, .int p2), (3, .int p3), (4, .int v4_62), (5, .int v5_62), (6, .int v6_77), (7, .int v7_77), (8, .int ((T62 81 v7_77.toNatClampNeg) ^^^ p2))]) hG dX11_looksUp_119 (by decide) rfl ?_
              refine ps_iload hG dX11_looksUp_121 0 rfl ?_
              have hJ153 : ∀ (s0_153 : Int32), f_X11_looksUp_J153 v7_77 s0_153 = some r9 → ps_V G 10 0 0 w T62 153 [(0, .ref (w.2.1 80)), (1, .int p1), (2, .int p2), (3, .int p3), (4, .int v4_62), (5, .int v5_62), (7, .int v7_77)] [.int s0_153] := by
                intro s0_153 h
                unfold f_X11_looksUp_J153 at h
                refine ps_istore (lv' := [(6, .int s0_153), (0, .ref (w.2.1 80)), (1, .int p1), (2, .int p2), (3, .int p3), (4, .int v4_62), (5, .int v5_62), (7, .int v7_77)]) hG dX11_looksUp_153 (by decide) rfl ?_
                refine ps_iinc (lv' := [(7, .int (v7_77 + 1)), (6, .int s0_153), (0, .ref (w.2.1 80)), (1, .int p1), (2, .int p2), (3, .int p3), (4, .int v4_62), (5, .int v5_62)]) hG dX11_looksUp_155 7 rfl (by rfl) (by decide) rfl ?_
                refine ps_goto (tgt := 77) hG dX11_looksUp_158 (by decide) ?_
                cases h
                exact (ps_sub [2, 3, 4, 5, 6, 7, 1, 0] rfl (kc _ rfl))
              have hJ151 : f_X11_looksUp_J151 v6_77 v7_77 = some r9 → ps_V G 10 0 0 w T62 151 [(0, .ref (w.2.1 80)), (1, .int p1), (2, .int p2), (3, .int p3), (4, .int v4_62), (5, .int v5_62), (6, .int v6_77), (7, .int v7_77)] [] := by
                intro h
                unfold f_X11_looksUp_J151 at h
                refine ps_iload hG dX11_looksUp_151 6 rfl ?_
                exact (ps_sub [0, 1, 2, 3, 4, 5, 7] rfl (hJ153 v6_77 h))
              refine ps_if_eq (tgt := 151) hG dX11_looksUp_123 (by decide) (fun c123 => ?_) (fun c123 => ?_)
              · replace h := ps_ip c123 h
                exact (ps_sub [1, 2, 3, 4, 5, 6, 7, 8] rfl (hJ151  h))
              · replace h := ps_in c123 h
                refine ps_iload hG dX11_looksUp_126 7 rfl ?_
                refine ps_iconst (v := (-1)) hG dX11_looksUp_128 (by decide) ?_
                have hJ146 : f_X11_looksUp_J146 v7_77 = some r9 → ps_V G 10 0 0 w T62 146 [(0, .ref (w.2.1 80)), (1, .int p1), (2, .int p2), (3, .int p3), (4, .int v4_62), (5, .int v5_62), (7, .int v7_77)] [] := by
                  intro h
                  unfold f_X11_looksUp_J146 at h
                  refine ps_iload hG dX11_looksUp_146 6 rfl ?_
                  refine ps_goto (tgt := 153) hG dX11_looksUp_148 (by decide) ?_
                  exact (ps_sub [0, 1, 2, 3, 4, 5, 6] rfl (hJ153 v7_77 h))
                refine ps_icmp_eq (tgt := 146) hG dX11_looksUp_129 (by decide) (fun c129 => ?_) (fun c129 => ?_)
                · replace h := ps_ip c129 h
                  exact (ps_sub [1, 2, 3, 4, 5, 6, 8] rfl (hJ146  h))
                · replace h := ps_in c129 h
                  refine ps_iload hG dX11_looksUp_132 9 rfl ?_
                  refine ps_aload_n hG dX11_looksUp_134 rfl 1 rfl ?_
                  refine ps_get20_3 hG hw inX11_looksUp_X11 ps_q80.1 (ps_lt hw ps_q80.2.2.1) mX11_looksUp_7 dX11_looksUp_135 ?_
                  refine ps_iload hG dX11_looksUp_138 7 rfl ?_
                  obtain ⟨hb140, h⟩ := ps_ig h
                  refine ps_iald hG ps_q81.1 ps_q81.2.1 (ps_lt hw ps_q81.2.2.1) hb140 dX11_looksUp_140 ?_
                  refine ps_iload_n hG dX11_looksUp_141 rfl 3 rfl ?_
                  refine ps_ixor hG dX11_looksUp_142 ?_
                  refine ps_icmp_ge (tgt := 151) hG dX11_looksUp_143 (by decide) (fun c143 => ?_) (fun c143 => ?_)
                  · replace h := ps_ip c143 h
                    exact (ps_sub [1, 2, 3, 4, 5, 6, 7, 8] rfl (hJ151  h))
                  · replace h := ps_in c143 h
                    exact (ps_sub [1, 2, 3, 4, 5, 6, 8] rfl (hJ146  h))
            refine ps_if_eq (tgt := 118) hG dX11_looksUp_104 (by decide) (fun c104 => ?_) (fun c104 => ?_)
            · replace h := ps_ip c104 h
              refine ps_iconst (v := 0) hG dX11_looksUp_118 (by decide) ?_
              exact (ps_sub [1, 2, 3, 4, 5, 6, 7, 8, 0] rfl (hJ119 0 h))
            · replace h := ps_in c104 h
              refine ps_iload hG dX11_looksUp_107 0 rfl ?_
              refine ps_iload hG dX11_looksUp_109 5 rfl ?_
              refine ps_icmp_le (tgt := 118) hG dX11_looksUp_111 (by decide) (fun c111 => ?_) (fun c111 => ?_)
              · replace h := ps_ip c111 h
                refine ps_iconst (v := 0) hG dX11_looksUp_118 (by decide) ?_
                exact (ps_sub [1, 2, 3, 4, 5, 6, 7, 8, 0] rfl (hJ119 0 h))
              · replace h := ps_in c111 h
                refine ps_iconst (v := 1) hG dX11_looksUp_114 (by decide) ?_
                refine ps_goto (tgt := 119) hG dX11_looksUp_115 (by decide) ?_
                exact (ps_sub [1, 2, 3, 4, 5, 6, 7, 8, 0] rfl (hJ119 1 h))
        · show ps_V G 10 0 0 w T62 161 [(0, .ref (w.2.1 80)), (1, .int p1), (2, .int p2), (3, .int p3), (4, .int v4_62), (5, .int v5_62), (6, .int e6_77)] []
          refine ps_iload hG dX11_looksUp_161 6 rfl ?_
          refine ps_iconst (v := (-1)) hG dX11_looksUp_163 (by decide) ?_
          have hJ203 : ∀ (T203 : ps_S) (v4_203 : Int32), f_X11_looksUp_J203 v5_62 T203 v4_203 = some r9 → ps_V G 10 0 0 w T203 203 [(0, .ref (w.2.1 80)), (1, .int p1), (2, .int p2), (3, .int p3), (4, .int v4_203), (5, .int v5_62)] [] := by
            intro T203 v4_203 h
            unfold f_X11_looksUp_J203 at h
            refine ps_iinc (lv' := [(5, .int (v5_62 + 1)), (0, .ref (w.2.1 80)), (1, .int p1), (2, .int p2), (3, .int p3), (4, .int v4_203)]) hG dX11_looksUp_203 5 rfl (by rfl) (by decide) rfl ?_
            refine ps_goto (tgt := 62) hG dX11_looksUp_206 (by decide) ?_
            cases h
            exact (ps_sub [1, 2, 3, 4, 5, 0] rfl (kc _ rfl))
          refine ps_icmp_eq (tgt := 203) hG dX11_looksUp_164 (by decide) (fun c164 => ?_) (fun c164 => ?_)
          · replace h := ps_ip c164 h
            exact (ps_sub [0, 1, 2, 3, 4, 5] rfl (hJ203 T62 v4_62 h))
          · replace h := ps_in c164 h
            refine ps_aload_n hG dX11_looksUp_167 rfl 0 rfl ?_
            refine ps_get20_8 hG hw inX11_looksUp_X11 ps_q80.1 (ps_lt hw ps_q80.2.2.1) mX11_looksUp_26 dX11_looksUp_168 ?_
            refine ps_bipush (v := 16) hG dX11_looksUp_171 (by decide) ?_
            refine ps_iload_n hG dX11_looksUp_173 rfl 3 rfl ?_
            refine ps_iconst (v := 2) hG dX11_looksUp_174 (by decide) ?_
            have hJ186 : ∀ (s2_186 : Int32), f_X11_looksUp_J186 p2 T62 v5_62 e6_77 s2_186 = some r9 → ps_V G 10 0 0 w T62 186 [(0, .ref (w.2.1 80)), (1, .int p1), (2, .int p2), (3, .int p3), (5, .int v5_62), (6, .int e6_77)] [.int s2_186, .int 16, .ref (w.2.1 86)] := by
              intro s2_186 h
              unfold f_X11_looksUp_J186 at h
              refine ps_imul hG dX11_looksUp_186 ?_
              refine ps_iload hG dX11_looksUp_187 5 rfl ?_
              refine ps_iadd hG dX11_looksUp_189 ?_
              refine ps_iconst (v := 1) hG dX11_looksUp_190 (by decide) ?_
              obtain ⟨hb191, h⟩ := ps_ig h
              refine ps_zast hG ps_q86.1 ps_q86.2.1 (ps_lt hw ps_q86.2.2.1) hb191 dX11_looksUp_191 ?_
              refine ps_aload_n hG dX11_looksUp_192 rfl 0 rfl ?_
              refine ps_get20_3 hG hw inX11_looksUp_X11 ps_q80.1 (ps_lt hw ps_q80.2.2.1) mX11_looksUp_7 dX11_looksUp_193 ?_
              refine ps_iload hG dX11_looksUp_196 5 rfl ?_
              obtain ⟨hb198, h⟩ := ps_ig h
              refine ps_iald hG ps_q81.1 ps_q81.2.1 (ps_lt hw ps_q81.2.2.1) hb198 dX11_looksUp_198 ?_
              refine ps_iload_n hG dX11_looksUp_199 rfl 2 rfl ?_
              refine ps_ixor hG dX11_looksUp_200 ?_
              refine ps_let h (fun x4_201 h => ?_)
              refine ps_istore (lv' := [(4, .int x4_201), (0, .ref (w.2.1 80)), (1, .int p1), (2, .int p2), (3, .int p3), (5, .int v5_62), (6, .int e6_77)]) hG dX11_looksUp_201 (by decide) rfl ?_
              exact (ps_sub [1, 2, 3, 4, 0, 5] rfl (hJ203 (ps_up T62 86 ((16 * s2_186) + e6_77).toNatClampNeg (vp_nar .boolean 1)) x4_201 h))
            refine ps_icmp_ne (tgt := 185) hG dX11_looksUp_175 (by decide) (fun c175 => ?_) (fun c175 => ?_)
            · replace h := ps_in c175 h
              refine ps_iconst (v := 0) hG dX11_looksUp_185 (by decide) ?_
              exact (ps_sub [0, 1, 2, 3, 5, 6] rfl (hJ186 0 h))
            · replace h := ps_ip c175 h
              refine ps_iload hG dX11_looksUp_178 5 rfl ?_
              refine ps_iconst (v := 2) hG dX11_looksUp_180 (by decide) ?_
              refine ps_irem hG dX11_looksUp_181 (by decide) ?_
              refine ps_goto (tgt := 186) hG dX11_looksUp_182 (by decide) ?_
              exact (ps_sub [0, 1, 2, 3, 5, 6] rfl (hJ186 (v5_62 - v5_62 / 2 * 2) h))
    · show ps_V G 10 0 0 w S62 209 [(0, .ref (w.2.1 80)), (1, .int p1), (2, .int p2), (3, .int p3)] []
      refine ps_iconst (v := 1) hG dX11_looksUp_209 (by decide) ?_
      refine ps_istore (lv' := [(5, .int 1), (0, .ref (w.2.1 80)), (1, .int p1), (2, .int p2), (3, .int p3)]) hG dX11_looksUp_210 (by decide) rfl ?_
      obtain ⟨S212, hq212, h⟩ := ps_bd h
      refine (ps_sub [1, 2, 3, 4, 0] rfl (ps_itV (fun (a : ps_S × Int32) => ps_V G 10 0 0 w a.1 212 [(0, .ref (w.2.1 80)), (1, .int p1), (2, .int p2), (3, .int p3), (5, .int a.2)] []) (fun (b : ps_S) => ps_V G 10 0 0 w b 311 [(0, .ref (w.2.1 80)), (2, .int p2)] []) ?_ _ _ _ hq212 ?_))
      · intro a r9 h kc ke
        obtain ⟨T212, v5_212⟩ := a
        replace h : f_X11_looksUp_L212 p1 p2 p3 T212 v5_212 = some r9 := h
        show ps_V G 10 0 0 w T212 212 [(0, .ref (w.2.1 80)), (1, .int p1), (2, .int p2), (3, .int p3), (5, .int v5_212)] []
        unfold f_X11_looksUp_L212 at h
        refine ps_iload hG dX11_looksUp_212 4 rfl ?_
        refine ps_if_eq (tgt := 311) hG dX11_looksUp_214 (by decide) (fun c214 => ?_) (fun c214 => ?_)
        · replace h := ps_ip c214 h
          cases h
          exact (ps_sub [0, 2] rfl (ke _ rfl))
        · replace h := ps_in c214 h
          refine ps_iconst (v := 0) hG dX11_looksUp_217 (by decide) ?_
          refine ps_istore (lv' := [(5, .int 0), (0, .ref (w.2.1 80)), (1, .int p1), (2, .int p2), (3, .int p3)]) hG dX11_looksUp_218 (by decide) rfl ?_
          refine ps_iconst (v := 0) hG dX11_looksUp_220 (by decide) ?_
          refine ps_istore (lv' := [(6, .int 0), (5, .int 0), (0, .ref (w.2.1 80)), (1, .int p1), (2, .int p2), (3, .int p3)]) hG dX11_looksUp_221 (by decide) rfl ?_
          obtain ⟨S223, e5_223, hq223, h⟩ := ps_d2 h
          refine (ps_sub [2, 3, 4, 5, 1, 0] rfl (ps_itV (fun (a : ps_S × Int32 × Int32) => ps_V G 10 0 0 w a.1 223 [(0, .ref (w.2.1 80)), (1, .int p1), (2, .int p2), (3, .int p3), (5, .int a.2.1), (6, .int a.2.2)] []) (fun (b : ps_S × Int32) => ps_V G 10 0 0 w b.1 308 [(0, .ref (w.2.1 80)), (1, .int p1), (2, .int p2), (3, .int p3), (5, .int b.2)] []) ?_ _ _ _ hq223 ?_))
          · intro a r9 h kc ke
            obtain ⟨T223, v5_223, v6_223⟩ := a
            replace h : f_X11_looksUp_L223 p1 p2 p3 T223 v5_223 v6_223 = some r9 := h
            show ps_V G 10 0 0 w T223 223 [(0, .ref (w.2.1 80)), (1, .int p1), (2, .int p2), (3, .int p3), (5, .int v5_223), (6, .int v6_223)] []
            unfold f_X11_looksUp_L223 at h
            refine ps_iload hG dX11_looksUp_223 5 rfl ?_
            refine ps_iload_n hG dX11_looksUp_225 rfl 3 rfl ?_
            refine ps_icmp_ge (tgt := 308) hG dX11_looksUp_226 (by decide) (fun c226 => ?_) (fun c226 => ?_)
            · replace h := ps_ip c226 h
              cases h
              exact (ps_sub [0, 1, 2, 3, 4] rfl (ke _ rfl))
            · replace h := ps_in c226 h
              refine ps_aload_n hG dX11_looksUp_229 rfl 0 rfl ?_
              refine ps_iload hG dX11_looksUp_230 5 rfl ?_
              refine ps_iload_n hG dX11_looksUp_232 rfl 2 rfl ?_
              obtain ⟨r233, S233, hr233, h⟩ := ps_d2 h
              refine ps_callVI (As := [.int v6_223, .int p2]) (rest := []) (nA := 2) hG (c_X11_picks _ hw hr233) gX11_looksUp_X11_picks rfl (by decide +kernel) rfl ⟨Nat.le_of_ble_eq_true rfl, Nat.le_of_ble_eq_true rfl⟩ ⟨rfl, rfl⟩ ⟨Nat.le_of_ble_eq_true rfl, Nat.le_of_ble_eq_true rfl⟩ (ps_lt hw ps_q80.2.2.1) (ps_cel_20 ps_q80.1 _) rfl rfl (Nat.le_of_ble_eq_true rfl) dX11_looksUp_233 ?_
              refine ps_istore (lv' := [(7, .int r233), (0, .ref (w.2.1 80)), (1, .int p1), (2, .int p2), (3, .int p3), (5, .int v5_223), (6, .int v6_223)]) hG dX11_looksUp_236 (by decide) rfl ?_
              refine ps_aload_n hG dX11_looksUp_238 rfl 1 rfl ?_
              refine ps_get20_11 hG hw inX11_looksUp_X11 ps_q80.1 (ps_lt hw ps_q80.2.2.1) mX11_looksUp_35 dX11_looksUp_239 ?_
              refine ps_iconst (v := 0) hG dX11_looksUp_242 (by decide) ?_
              refine ps_iald hG ps_q89.1 ps_q89.2.1 (ps_lt hw ps_q89.2.2.1) (by decide) dX11_looksUp_243 ?_
              refine ps_istore (lv' := [(8, .int (S233 89 (0 : Int32).toNatClampNeg)), (7, .int r233), (0, .ref (w.2.1 80)), (1, .int p1), (2, .int p2), (3, .int p3), (5, .int v5_223), (6, .int v6_223)]) hG dX11_looksUp_244 (by decide) rfl ?_
              refine ps_aload_n hG dX11_looksUp_246 rfl 2 rfl ?_
              refine ps_get20_11 hG hw inX11_looksUp_X11 ps_q80.1 (ps_lt hw ps_q80.2.2.1) mX11_looksUp_35 dX11_looksUp_247 ?_
              refine ps_iconst (v := 1) hG dX11_looksUp_250 (by decide) ?_
              refine ps_iald hG ps_q89.1 ps_q89.2.1 (ps_lt hw ps_q89.2.2.1) (by decide) dX11_looksUp_251 ?_
              refine ps_istore (lv' := [(9, .int (S233 89 (1 : Int32).toNatClampNeg)), (8, .int (S233 89 (0 : Int32).toNatClampNeg)), (7, .int r233), (0, .ref (w.2.1 80)), (1, .int p1), (2, .int p2), (3, .int p3), (5, .int v5_223), (6, .int v6_223)]) hG dX11_looksUp_252 (by decide) rfl ?_
              refine ps_iload hG dX11_looksUp_254 2 rfl ?_
              have hJ269 : ∀ (T269 : ps_S), f_X11_looksUp_J269 p1 p2 v5_223 v6_223 r233 S233 T269 = some r9 → ps_V G 10 0 0 w T269 269 [(0, .ref (w.2.1 80)), (1, .int p1), (2, .int p2), (3, .int p3), (5, .int v5_223), (6, .int v6_223), (7, .int r233), (9, .int (S233 89 (1 : Int32).toNatClampNeg))] [] := by
                intro T269 h
                unfold f_X11_looksUp_J269 at h
                refine ps_iload hG dX11_looksUp_269 6 rfl ?_
                refine ps_iconst (v := 1) hG dX11_looksUp_271 (by decide) ?_
                have hJ285 : ∀ (T285 : ps_S), f_X11_looksUp_J285 v5_223 v6_223 r233 T285 = some r9 → ps_V G 10 0 0 w T285 285 [(0, .ref (w.2.1 80)), (1, .int p1), (2, .int p2), (3, .int p3), (5, .int v5_223), (6, .int v6_223), (7, .int r233)] [] := by
                  intro T285 h
                  unfold f_X11_looksUp_J285 at h
                  refine ps_iload hG dX11_looksUp_285 4 rfl ?_
                  have hJ300 : ∀ (s0_300 : Int32), f_X11_looksUp_J300 v6_223 T285 s0_300 = some r9 → ps_V G 10 0 0 w T285 300 [(0, .ref (w.2.1 80)), (1, .int p1), (2, .int p2), (3, .int p3), (6, .int v6_223)] [.int s0_300] := by
                    intro s0_300 h
                    unfold f_X11_looksUp_J300 at h
                    refine ps_istore (lv' := [(5, .int s0_300), (0, .ref (w.2.1 80)), (1, .int p1), (2, .int p2), (3, .int p3), (6, .int v6_223)]) hG dX11_looksUp_300 (by decide) rfl ?_
                    refine ps_iinc (lv' := [(6, .int (v6_223 + 1)), (5, .int s0_300), (0, .ref (w.2.1 80)), (1, .int p1), (2, .int p2), (3, .int p3)]) hG dX11_looksUp_302 5 rfl (by rfl) (by decide) rfl ?_
                    refine ps_goto (tgt := 223) hG dX11_looksUp_305 (by decide) ?_
                    cases h
                    exact (ps_sub [2, 3, 4, 5, 1, 0] rfl (kc _ rfl))
                  refine ps_if_ne (tgt := 295) hG dX11_looksUp_287 (by decide) (fun c287 => ?_) (fun c287 => ?_)
                  · replace h := ps_in c287 h
                    refine ps_iconst (v := 1) hG dX11_looksUp_295 (by decide) ?_
                    refine ps_goto (tgt := 300) hG dX11_looksUp_296 (by decide) ?_
                    exact (ps_sub [0, 1, 2, 3, 5] rfl (hJ300 1 h))
                  · replace h := ps_ip c287 h
                    refine ps_iload hG dX11_looksUp_290 6 rfl ?_
                    refine ps_if_le (tgt := 299) hG dX11_looksUp_292 (by decide) (fun c292 => ?_) (fun c292 => ?_)
                    · replace h := ps_ip c292 h
                      refine ps_iconst (v := 0) hG dX11_looksUp_299 (by decide) ?_
                      exact (ps_sub [0, 1, 2, 3, 5] rfl (hJ300 0 h))
                    · replace h := ps_in c292 h
                      refine ps_iconst (v := 1) hG dX11_looksUp_295 (by decide) ?_
                      refine ps_goto (tgt := 300) hG dX11_looksUp_296 (by decide) ?_
                      exact (ps_sub [0, 1, 2, 3, 5] rfl (hJ300 1 h))
                refine ps_icmp_le (tgt := 285) hG dX11_looksUp_272 (by decide) (fun c272 => ?_) (fun c272 => ?_)
                · replace h := ps_ip c272 h
                  exact (ps_sub [0, 1, 2, 3, 4, 5, 6] rfl (hJ285 T269 h))
                · replace h := ps_in c272 h
                  refine ps_aload_n hG dX11_looksUp_275 rfl 0 rfl ?_
                  refine ps_iload_n hG dX11_looksUp_276 rfl 1 rfl ?_
                  refine ps_iload hG dX11_looksUp_277 7 rfl ?_
                  refine ps_iload hG dX11_looksUp_279 5 rfl ?_
                  refine ps_iload_n hG dX11_looksUp_281 rfl 2 rfl ?_
                  obtain ⟨S282, hr282, h⟩ := ps_bd h
                  refine ps_callVV (As := [.int p1, .int (S233 89 (1 : Int32).toNatClampNeg), .int v6_223, .int p2]) (rest := []) (nA := 4) hG (c_X11_asks _ hw hr282) gX11_looksUp_X11_asks rfl (by decide +kernel) rfl ⟨Nat.le_of_ble_eq_true rfl, Nat.le_of_ble_eq_true rfl⟩ ⟨rfl, rfl⟩ ⟨Nat.le_of_ble_eq_true rfl, Nat.le_of_ble_eq_true rfl⟩ (ps_lt hw ps_q80.2.2.1) (ps_cel_20 ps_q80.1 _) rfl rfl (Nat.le_of_ble_eq_true rfl) dX11_looksUp_282 ?_
                  exact (ps_sub [0, 1, 2, 3, 4, 5, 6] rfl (hJ285 S282 h))
              refine ps_if_le (tgt := 269) hG dX11_looksUp_256 (by decide) (fun c256 => ?_) (fun c256 => ?_)
              · replace h := ps_ip c256 h
                exact (ps_sub [3, 4, 5, 6, 7, 8, 2, 0] rfl (hJ269 S233 h))
              · replace h := ps_in c256 h
                refine ps_aload_n hG dX11_looksUp_259 rfl 3 rfl ?_
                refine ps_iload_n hG dX11_looksUp_260 rfl 4 rfl ?_
                refine ps_iload hG dX11_looksUp_261 1 rfl ?_
                refine ps_iload hG dX11_looksUp_263 8 rfl ?_
                refine ps_iload_n hG dX11_looksUp_265 rfl 5 rfl ?_
                obtain ⟨S266, hr266, h⟩ := ps_bd h
                refine ps_callVV (As := [.int p1, .int (S233 89 (0 : Int32).toNatClampNeg), .int v6_223, .int p2]) (rest := []) (nA := 4) hG (c_X11_asks _ hw hr266) gX11_looksUp_X11_asks rfl (by decide +kernel) rfl ⟨Nat.le_of_ble_eq_true rfl, Nat.le_of_ble_eq_true rfl⟩ ⟨rfl, rfl⟩ ⟨Nat.le_of_ble_eq_true rfl, Nat.le_of_ble_eq_true rfl⟩ (ps_lt hw ps_q80.2.2.1) (ps_cel_20 ps_q80.1 _) rfl rfl (Nat.le_of_ble_eq_true rfl) dX11_looksUp_266 ?_
                exact (ps_sub [3, 4, 5, 6, 7, 8, 2, 0] rfl (hJ269 S266 h))
          · show ps_V G 10 0 0 w S223 308 [(0, .ref (w.2.1 80)), (1, .int p1), (2, .int p2), (3, .int p3), (5, .int e5_223)] []
            refine ps_goto (tgt := 212) hG dX11_looksUp_308 (by decide) ?_
            cases h
            exact (ps_sub [0, 1, 2, 3, 4] rfl (kc _ rfl))
      · show ps_V G 10 0 0 w S212 311 [(0, .ref (w.2.1 80)), (2, .int p2)] []
        refine ps_aload_n hG dX11_looksUp_311 rfl 0 rfl ?_
        refine ps_iload_n hG dX11_looksUp_312 rfl 1 rfl ?_
        obtain ⟨S313, hr313, h⟩ := ps_bd h
        refine ps_callVV (As := [.int p2]) (rest := []) (nA := 1) hG (c_X11_closestOf _ hw hr313) gX11_looksUp_X11_closestOf rfl (by decide +kernel) rfl ⟨Nat.le_of_ble_eq_true rfl, Nat.le_of_ble_eq_true rfl⟩ ⟨rfl, rfl⟩ ⟨Nat.le_of_ble_eq_true rfl, Nat.le_of_ble_eq_true rfl⟩ (ps_lt hw ps_q80.2.2.1) (ps_cel_20 ps_q80.1 _) rfl rfl (Nat.le_of_ble_eq_true rfl) dX11_looksUp_313 ?_
        cases h
        exact hret _ _ dX11_looksUp_316
def f_X11_told_L9 (S : ps_S) (v1_9 : Int32) (v2_9 : Int32) : Option ((Int32 × Int32) ⊕ (Int32)) :=
  (if v2_9 < 0 then
        some (.inr v1_9)
      else
        (if ps_ib v2_9 3 = true then
        some (.inl (((32 * v1_9) + (S 90 v2_9.toNatClampNeg)) + 1, v2_9 + (-1))) else none))
def f_X11_told (S : ps_S) : Option Int32 :=
  ((ps_it (fun (a : Int32 × Int32) => f_X11_told_L9 S a.1 a.2) ps_fu (0, (S 80 13) - 1)).bind (fun e1_9 => some e1_9))
theorem inX11_told_X11 : ∀ q ∈ wsX110, q ∈ wsX11_told := fun _ h => List.mem_cons_of_mem _ (List.mem_append_right _ h)
theorem mX11_told_114 : Cond.fieldLink RX11 114 (TX11 13).1 (TX11 13).2.1 (TX11 13).2.2.1 ∈ wsX11_told := List.mem_of_getElem? (i := 1) rfl
theorem mX11_told_38 : Cond.fieldLink RX11 38 (TX11 12).1 (TX11 12).2.1 (TX11 12).2.2.1 ∈ wsX11_told := List.mem_of_getElem? (i := 2) rfl
set_option maxHeartbeats 4000000 in
set_option maxRecDepth 100000 in
theorem c_X11_told (l : Launch) {w : ps_X} (hw : ps_ww w) {S : ps_S} {r : Int32} (h : f_X11_told S = some r) : ps_MetI l yX11_told wsX11_told (ps_rm 0 0) w [.ref (w.2.1 80)] S S r := by
  refine ps_mkI (cc := cX11_told) (maxL := 3) (own := RX11) (by decide +kernel) rfl (Or.inl rfl) rfl (Nat.le_of_ble_eq_true rfl) rfl (fun G hl hG hret => ?_)
  unfold f_X11_told at h
  refine ps_iconst (v := 0) hG dX11_told_0 (by decide) ?_
  refine ps_istore_n (lv' := [(1, .int 0), (0, .ref (w.2.1 80))]) hG dX11_told_1 rfl (by decide) rfl ?_
  refine ps_aload_n hG dX11_told_2 rfl 1 rfl ?_
  refine ps_get20_13 hG inX11_told_X11 ps_q80.1 (ps_lt hw ps_q80.2.2.1) mX11_told_114 dX11_told_3 ?_
  refine ps_iconst (v := 1) hG dX11_told_6 (by decide) ?_
  refine ps_isub hG dX11_told_7 ?_
  refine ps_istore_n (lv' := [(2, .int ((S 80 13) - 1)), (1, .int 0), (0, .ref (w.2.1 80))]) hG dX11_told_8 rfl (by decide) rfl ?_
  obtain ⟨e1_9, hq9, h⟩ := ps_bd h
  refine (ps_sub [2, 1, 0] rfl (ps_itV (fun (a : Int32 × Int32) => ps_V G 3 0 0 w S 9 [(0, .ref (w.2.1 80)), (1, .int a.1), (2, .int a.2)] []) (fun (b : Int32) => ps_V G 3 0 0 w S 33 [(1, .int b)] []) ?_ _ _ _ hq9 ?_))
  · intro a r9 h kc ke
    obtain ⟨v1_9, v2_9⟩ := a
    replace h : f_X11_told_L9 S v1_9 v2_9 = some r9 := h
    show ps_V G 3 0 0 w S 9 [(0, .ref (w.2.1 80)), (1, .int v1_9), (2, .int v2_9)] []
    unfold f_X11_told_L9 at h
    refine ps_iload_n hG dX11_told_9 rfl 2 rfl ?_
    refine ps_if_lt (tgt := 33) hG dX11_told_10 (by decide) (fun c10 => ?_) (fun c10 => ?_)
    · replace h := ps_ip c10 h
      cases h
      exact (ps_sub [1] rfl (ke _ rfl))
    · replace h := ps_in c10 h
      refine ps_bipush (v := 32) hG dX11_told_13 (by decide) ?_
      refine ps_iload_n hG dX11_told_15 rfl 1 rfl ?_
      refine ps_imul hG dX11_told_16 ?_
      refine ps_aload_n hG dX11_told_17 rfl 0 rfl ?_
      refine ps_get20_12 hG hw inX11_told_X11 ps_q80.1 (ps_lt hw ps_q80.2.2.1) mX11_told_38 dX11_told_18 ?_
      refine ps_iload_n hG dX11_told_21 rfl 2 rfl ?_
      obtain ⟨hb22, h⟩ := ps_ig h
      refine ps_iald hG ps_q90.1 ps_q90.2.1 (ps_lt hw ps_q90.2.2.1) hb22 dX11_told_22 ?_
      refine ps_iadd hG dX11_told_23 ?_
      refine ps_iconst (v := 1) hG dX11_told_24 (by decide) ?_
      refine ps_iadd hG dX11_told_25 ?_
      refine ps_istore_n (lv' := [(1, .int (((32 * v1_9) + (S 90 v2_9.toNatClampNeg)) + 1)), (0, .ref (w.2.1 80)), (2, .int v2_9)]) hG dX11_told_26 rfl (by decide) rfl ?_
      refine ps_iinc (lv' := [(2, .int (v2_9 + (-1))), (1, .int (((32 * v1_9) + (S 90 v2_9.toNatClampNeg)) + 1)), (0, .ref (w.2.1 80))]) hG dX11_told_27 2 rfl (by rfl) (by decide) rfl ?_
      refine ps_goto (tgt := 9) hG dX11_told_30 (by decide) ?_
      cases h
      exact (ps_sub [2, 1, 0] rfl (kc _ rfl))
  · show ps_V G 3 0 0 w S 33 [(1, .int e1_9)] []
    refine ps_iload_n hG dX11_told_33 rfl 0 rfl ?_
    cases h
    exact hret _ _ dX11_told_34
def f_X11_isId_J31 (v3_4 : Int32) (s0_31 : Int32) : Option ((Int32 × Int32) ⊕ (Int32)) :=
  some (.inl (s0_31, v3_4 + 1))
def f_X11_isId_L4 (S : ps_S) (p1 : Int32) (v2_4 : Int32) (v3_4 : Int32) : Option ((Int32 × Int32) ⊕ (Int32)) :=
  (if (S 80 2) ≤ v3_4 then
        some (.inr v2_4)
      else
        (if v2_4 = 0 then
          (if ps_ib v3_4 16 = true then
          (if (S 81 v3_4.toNatClampNeg) = p1 then
            f_X11_isId_J31 v3_4 1
          else
            f_X11_isId_J31 v3_4 0) else none)
        else
          f_X11_isId_J31 v3_4 1))
def f_X11_isId (S : ps_S) (p1 : Int32) : Option Int32 :=
  ((ps_it (fun (a : Int32 × Int32) => f_X11_isId_L4 S p1 a.1 a.2) ps_fu (0, 0)).bind (fun e2_4 => (if e2_4 = 0 ∨ e2_4 = 1 then some e2_4 else none)))
theorem inX11_isId_X11 : ∀ q ∈ wsX110, q ∈ wsX11_isId := fun _ h => List.mem_cons_of_mem _ (List.mem_append_right _ h)
theorem mX11_isId_7 : Cond.fieldLink RX11 7 (TX11 3).1 (TX11 3).2.1 (TX11 3).2.2.1 ∈ wsX11_isId := List.mem_of_getElem? (i := 2) rfl
theorem mX11_isId_78 : Cond.fieldLink RX11 78 (TX11 2).1 (TX11 2).2.1 (TX11 2).2.2.1 ∈ wsX11_isId := List.mem_of_getElem? (i := 1) rfl
set_option maxHeartbeats 4000000 in
set_option maxRecDepth 100000 in
theorem c_X11_isId (l : Launch) {w : ps_X} (hw : ps_ww w) {S : ps_S} {p1 : Int32} {r : Int32} (h : f_X11_isId S p1 = some r) : ps_MetI l yX11_isId wsX11_isId (ps_rm 0 0) w [.ref (w.2.1 80), .int p1] S S r := by
  refine ps_mkZ (cc := cX11_isId) (maxL := 4) (own := RX11) (by decide +kernel) rfl rfl rfl (Nat.le_of_ble_eq_true rfl) rfl (fun G hl hG hret => ?_)
  unfold f_X11_isId at h
  refine ps_iconst (v := 0) hG dX11_isId_0 (by decide) ?_
  refine ps_istore_n (lv' := [(2, .int 0), (0, .ref (w.2.1 80)), (1, .int p1)]) hG dX11_isId_1 rfl (by decide) rfl ?_
  refine ps_iconst (v := 0) hG dX11_isId_2 (by decide) ?_
  refine ps_istore_n (lv' := [(3, .int 0), (2, .int 0), (0, .ref (w.2.1 80)), (1, .int p1)]) hG dX11_isId_3 rfl (by decide) rfl ?_
  obtain ⟨e2_4, hq4, h⟩ := ps_bd h
  refine (ps_sub [2, 3, 1, 0] rfl (ps_itV (fun (a : Int32 × Int32) => ps_V G 4 0 0 w S 4 [(0, .ref (w.2.1 80)), (1, .int p1), (2, .int a.1), (3, .int a.2)] []) (fun (b : Int32) => ps_V G 4 0 0 w S 38 [(2, .int b)] []) ?_ _ _ _ hq4 ?_))
  · intro a r9 h kc ke
    obtain ⟨v2_4, v3_4⟩ := a
    replace h : f_X11_isId_L4 S p1 v2_4 v3_4 = some r9 := h
    show ps_V G 4 0 0 w S 4 [(0, .ref (w.2.1 80)), (1, .int p1), (2, .int v2_4), (3, .int v3_4)] []
    unfold f_X11_isId_L4 at h
    refine ps_iload_n hG dX11_isId_4 rfl 3 rfl ?_
    refine ps_aload_n hG dX11_isId_5 rfl 0 rfl ?_
    refine ps_get20_2 hG inX11_isId_X11 ps_q80.1 (ps_lt hw ps_q80.2.2.1) mX11_isId_78 dX11_isId_6 ?_
    refine ps_icmp_ge (tgt := 38) hG dX11_isId_9 (by decide) (fun c9 => ?_) (fun c9 => ?_)
    · replace h := ps_ip c9 h
      cases h
      exact (ps_sub [2] rfl (ke _ rfl))
    · replace h := ps_in c9 h
      refine ps_iload_n hG dX11_isId_12 rfl 2 rfl ?_
      have hJ31 : ∀ (s0_31 : Int32), f_X11_isId_J31 v3_4 s0_31 = some r9 → ps_V G 4 0 0 w S 31 [(0, .ref (w.2.1 80)), (1, .int p1), (3, .int v3_4)] [.int s0_31] := by
        intro s0_31 h
        unfold f_X11_isId_J31 at h
        refine ps_istore_n (lv' := [(2, .int s0_31), (0, .ref (w.2.1 80)), (1, .int p1), (3, .int v3_4)]) hG dX11_isId_31 rfl (by decide) rfl ?_
        refine ps_iinc (lv' := [(3, .int (v3_4 + 1)), (2, .int s0_31), (0, .ref (w.2.1 80)), (1, .int p1)]) hG dX11_isId_32 3 rfl (by rfl) (by decide) rfl ?_
        refine ps_goto (tgt := 4) hG dX11_isId_35 (by decide) ?_
        cases h
        exact (ps_sub [2, 3, 1, 0] rfl (kc _ rfl))
      refine ps_if_ne (tgt := 26) hG dX11_isId_13 (by decide) (fun c13 => ?_) (fun c13 => ?_)
      · replace h := ps_in c13 h
        refine ps_iconst (v := 1) hG dX11_isId_26 (by decide) ?_
        refine ps_goto (tgt := 31) hG dX11_isId_27 (by decide) ?_
        exact (ps_sub [0, 1, 3] rfl (hJ31 1 h))
      · replace h := ps_ip c13 h
        refine ps_aload_n hG dX11_isId_16 rfl 0 rfl ?_
        refine ps_get20_3 hG hw inX11_isId_X11 ps_q80.1 (ps_lt hw ps_q80.2.2.1) mX11_isId_7 dX11_isId_17 ?_
        refine ps_iload_n hG dX11_isId_20 rfl 3 rfl ?_
        obtain ⟨hb21, h⟩ := ps_ig h
        refine ps_iald hG ps_q81.1 ps_q81.2.1 (ps_lt hw ps_q81.2.2.1) hb21 dX11_isId_21 ?_
        refine ps_iload_n hG dX11_isId_22 rfl 1 rfl ?_
        refine ps_icmp_ne (tgt := 30) hG dX11_isId_23 (by decide) (fun c23 => ?_) (fun c23 => ?_)
        · replace h := ps_in c23 h
          refine ps_iconst (v := 0) hG dX11_isId_30 (by decide) ?_
          exact (ps_sub [0, 1, 3] rfl (hJ31 0 h))
        · replace h := ps_ip c23 h
          refine ps_iconst (v := 1) hG dX11_isId_26 (by decide) ?_
          refine ps_goto (tgt := 31) hG dX11_isId_27 (by decide) ?_
          exact (ps_sub [0, 1, 3] rfl (hJ31 1 h))
  · show ps_V G 4 0 0 w S 38 [(2, .int e2_4)] []
    refine ps_iload_n hG dX11_isId_38 rfl 0 rfl ?_
    obtain ⟨hz39, h⟩ := ps_ig h
    cases h
    exact hret _ _ dX11_isId_39 (ps_z01 hz39)
