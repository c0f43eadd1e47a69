def f_X9_hash (p0 : Int32) (p1 : Int32) : Option Int32 :=
  some (((((p0 * 31) + p1) * 1103515245) + 12345) ^^^ (ps_ushr ((((p0 * 31) + p1) * 1103515245) + 12345) 16))
theorem mX9_hash_19 : Cond.constant RX9 19 (1103515245) ∈ wsX9_hash := List.mem_of_getElem? (i := 1) rfl
set_option maxHeartbeats 4000000 in
set_option maxRecDepth 100000 in
theorem c_X9_hash (l : Launch) {w : ps_X} (hw : ps_ww w) {S : ps_S} {p0 p1 : Int32} {r : Int32} (h : f_X9_hash p0 p1 = some r) : ps_MetI l yX9_hash wsX9_hash (ps_rm 0 0) w [.int p0, .int p1] S S r := by
  refine ps_mkI (cc := cX9_hash) (maxL := 3) (own := RX9) (by decide +kernel) rfl (Or.inl rfl) rfl (Nat.le_of_ble_eq_true rfl) rfl (fun G hl hG hret => ?_)
  unfold f_X9_hash at h
  refine ps_iload_n hG dX9_hash_0 rfl 0 rfl ?_
  refine ps_bipush (v := 31) hG dX9_hash_1 (by decide) ?_
  refine ps_imul hG dX9_hash_3 ?_
  refine ps_iload_n hG dX9_hash_4 rfl 1 rfl ?_
  refine ps_iadd hG dX9_hash_5 ?_
  refine ps_ldc hG mX9_hash_19 dX9_hash_6 ?_
  refine ps_imul hG dX9_hash_8 ?_
  refine ps_sipush (v := 12345) hG dX9_hash_9 (by decide) ?_
  refine ps_iadd hG dX9_hash_12 ?_
  refine ps_istore_n (lv' := [(2, .int ((((p0 * 31) + p1) * 1103515245) + 12345)), (0, .int p0), (1, .int p1)]) hG dX9_hash_13 rfl (by decide) rfl ?_
  refine ps_iload_n hG dX9_hash_14 rfl 0 rfl ?_
  refine ps_iload_n hG dX9_hash_15 rfl 0 rfl ?_
  refine ps_bipush (v := 16) hG dX9_hash_16 (by decide) ?_
  refine ps_iushr hG dX9_hash_18 ?_
  refine ps_ixor hG dX9_hash_19 ?_
  cases h
  exact hret _ _ dX9_hash_20
def f_X9_above (p0 : Int32) (p1 : Int32) (p2 : Int32) : Option Int32 :=
  (if (p0 - p0 / 2 * 2) = 0 then
    ((f_X9_hash p1 p2).bind fun r8 =>
    some r8)
  else
    ((f_X9_hash p2 p1).bind fun r16 =>
    some r16))
set_option maxHeartbeats 4000000 in
set_option maxRecDepth 100000 in
theorem c_X9_above (l : Launch) {w : ps_X} (hw : ps_ww w) {S : ps_S} {p0 p1 p2 : Int32} {r : Int32} (h : f_X9_above p0 p1 p2 = some r) : ps_MetI l yX9_above wsX9_above (ps_rm 1 22) w [.int p0, .int p1, .int p2] S S r := by
  refine ps_mkI (cc := cX9_above) (maxL := 3) (own := RX9) (by decide +kernel) rfl (Or.inl rfl) rfl (Nat.le_of_ble_eq_true rfl) rfl (fun G hl hG hret => ?_)
  unfold f_X9_above at h
  refine ps_iload_n hG dX9_above_0 rfl 0 rfl ?_
  refine ps_iconst (v := 2) hG dX9_above_1 (by decide) ?_
  refine ps_irem hG dX9_above_2 (by decide) ?_
  refine ps_if_ne (tgt := 14) hG dX9_above_3 (by decide) (fun c3 => ?_) (fun c3 => ?_)
  · replace h := ps_in c3 h
    refine ps_iload_n hG dX9_above_14 rfl 2 rfl ?_
    refine ps_iload_n hG dX9_above_15 rfl 1 rfl ?_
    obtain ⟨r16, hr16, h⟩ := ps_bd h
    refine ps_callSI (As := [.int p2, .int p1]) (rest := []) (nA := 2) hG (c_X9_hash _ hw hr16) gX9_above_X9_hash rfl (by decide +kernel) rfl ⟨Nat.le_of_ble_eq_true rfl, Nat.le_of_ble_eq_true rfl⟩ ⟨rfl, rfl⟩ ⟨Nat.le_of_ble_eq_true rfl, Nat.le_of_ble_eq_true rfl⟩ rfl (Nat.le_of_ble_eq_true rfl) dX9_above_16 ?_
    cases h
    exact hret _ _ dX9_above_19
  · replace h := ps_ip c3 h
    refine ps_iload_n hG dX9_above_6 rfl 1 rfl ?_
    refine ps_iload_n hG dX9_above_7 rfl 2 rfl ?_
    obtain ⟨r8, hr8, h⟩ := ps_bd h
    refine ps_callSI (As := [.int p1, .int p2]) (rest := []) (nA := 2) hG (c_X9_hash _ hw hr8) gX9_above_X9_hash rfl (by decide +kernel) rfl ⟨Nat.le_of_ble_eq_true rfl, Nat.le_of_ble_eq_true rfl⟩ ⟨rfl, rfl⟩ ⟨Nat.le_of_ble_eq_true rfl, Nat.le_of_ble_eq_true rfl⟩ rfl (Nat.le_of_ble_eq_true rfl) dX9_above_8 ?_
    refine ps_goto (tgt := 19) hG dX9_above_11 (by decide) ?_
    cases h
    exact hret _ _ dX9_above_19
def f_X9_climb (p0 : Int32) (p1 : Int32) (p2 : Int32) (p3 : Int32) (p4 : Int32) : Option Int32 :=
  ((f_X9_hash p1 p0).bind fun r10 =>
  ((f_X9_above (8 + p0) r10 p2).bind fun r14 =>
  ((f_X9_above ((8 + p0) >>> (1 &&& 31)) r14 p3).bind fun r26 =>
  ((f_X9_above ((8 + p0) >>> (2 &&& 31)) r26 p4).bind fun r39 =>
  some r39))))
set_option maxHeartbeats 4000000 in
set_option maxRecDepth 100000 in
theorem c_X9_climb (l : Launch) {w : ps_X} (hw : ps_ww w) {S : ps_S} {p0 p1 p2 p3 p4 : Int32} {r : Int32} (h : f_X9_climb p0 p1 p2 p3 p4 = some r) : ps_MetI l yX9_climb wsX9_climb (ps_rm 2 44) w [.int p0, .int p1, .int p2, .int p3, .int p4] S S r := by
  refine ps_mkI (cc := cX9_climb) (maxL := 8) (own := RX9) (by decide +kernel) rfl (Or.inl rfl) rfl (Nat.le_of_ble_eq_true rfl) rfl (fun G hl hG hret => ?_)
  unfold f_X9_climb at h
  refine ps_bipush (v := 8) hG dX9_climb_0 (by decide) ?_
  refine ps_iload_n hG dX9_climb_2 rfl 0 rfl ?_
  refine ps_iadd hG dX9_climb_3 ?_
  refine ps_istore (lv' := [(5, .int (8 + p0)), (0, .int p0), (1, .int p1), (2, .int p2), (3, .int p3), (4, .int p4)]) hG dX9_climb_4 (by decide) rfl ?_
  refine ps_iload hG dX9_climb_6 0 rfl ?_
  refine ps_iload_n hG dX9_climb_8 rfl 2 rfl ?_
  refine ps_iload_n hG dX9_climb_9 rfl 1 rfl ?_
  obtain ⟨r10, hr10, h⟩ := ps_bd h
  refine ps_callSI (As := [.int p1, .int p0]) (rest := [.int (8 + p0)]) (nA := 2) hG (c_X9_hash _ hw hr10) gX9_climb_X9_hash rfl (by decide +kernel) rfl ⟨Nat.le_of_ble_eq_true rfl, Nat.le_of_ble_eq_true rfl⟩ ⟨rfl, rfl⟩ ⟨Nat.le_of_ble_eq_true rfl, Nat.le_of_ble_eq_true rfl⟩ rfl (Nat.le_of_ble_eq_true rfl) dX9_climb_10 ?_
  refine ps_iload_n hG dX9_climb_13 rfl 3 rfl ?_
  obtain ⟨r14, hr14, h⟩ := ps_bd h
  refine ps_callSI (As := [.int (8 + p0), .int r10, .int p2]) (rest := []) (nA := 3) hG (c_X9_above _ hw hr14) gX9_climb_X9_above rfl (by decide +kernel) rfl ⟨Nat.le_of_ble_eq_true rfl, Nat.le_of_ble_eq_true rfl⟩ ⟨rfl, rfl⟩ ⟨Nat.le_of_ble_eq_true rfl, Nat.le_of_ble_eq_true rfl⟩ rfl (Nat.le_of_ble_eq_true rfl) dX9_climb_14 ?_
  refine ps_istore (lv' := [(6, .int r14), (5, .int (8 + p0)), (0, .int p0), (1, .int p1), (2, .int p2), (3, .int p3), (4, .int p4)]) hG dX9_climb_17 (by decide) rfl ?_
  refine ps_iload hG dX9_climb_19 1 rfl ?_
  refine ps_iconst (v := 1) hG dX9_climb_21 (by decide) ?_
  refine ps_ishr hG dX9_climb_22 ?_
  refine ps_iload hG dX9_climb_23 0 rfl ?_
  refine ps_iload_n hG dX9_climb_25 rfl 5 rfl ?_
  obtain ⟨r26, hr26, h⟩ := ps_bd h
  refine ps_callSI (As := [.int ((8 + p0) >>> (1 &&& 31)), .int r14, .int p3]) (rest := []) (nA := 3) hG (c_X9_above _ hw hr26) gX9_climb_X9_above rfl (by decide +kernel) rfl ⟨Nat.le_of_ble_eq_true rfl, Nat.le_of_ble_eq_true rfl⟩ ⟨rfl, rfl⟩ ⟨Nat.le_of_ble_eq_true rfl, Nat.le_of_ble_eq_true rfl⟩ rfl (Nat.le_of_ble_eq_true rfl) dX9_climb_26 ?_
  refine ps_istore (lv' := [(7, .int r26), (6, .int r14), (5, .int (8 + p0)), (0, .int p0), (1, .int p1), (2, .int p2), (3, .int p3), (4, .int p4)]) hG dX9_climb_29 (by decide) rfl ?_
  refine ps_iload hG dX9_climb_31 2 rfl ?_
  refine ps_iconst (v := 2) hG dX9_climb_33 (by decide) ?_
  refine ps_ishr hG dX9_climb_34 ?_
  refine ps_iload hG dX9_climb_35 0 rfl ?_
  refine ps_iload hG dX9_climb_37 7 rfl ?_
  obtain ⟨r39, hr39, h⟩ := ps_bd h
  refine ps_callSI (As := [.int ((8 + p0) >>> (2 &&& 31)), .int r26, .int p4]) (rest := []) (nA := 3) hG (c_X9_above _ hw hr39) gX9_climb_X9_above rfl (by decide +kernel) rfl ⟨Nat.le_of_ble_eq_true rfl, Nat.le_of_ble_eq_true rfl⟩ ⟨rfl, rfl⟩ ⟨Nat.le_of_ble_eq_true rfl, Nat.le_of_ble_eq_true rfl⟩ rfl (Nat.le_of_ble_eq_true rfl) dX9_climb_39 ?_
  cases h
  exact hret _ _ dX9_climb_42
def f_X9_top (S : ps_S) (k : Nat) : Option Int32 :=
  some (S (k + 1) (1 : Int32).toNatClampNeg)
theorem inX9_top_X9 : ∀ q ∈ wsX90, q ∈ wsX9_top := fun _ h => List.mem_cons_of_mem _ (List.mem_append_right _ h)
theorem mX9_top_9 : Cond.fieldLink RX9 9 (TX9 0).1 (TX9 0).2.1 (TX9 0).2.2.1 ∈ wsX9_top := List.mem_of_getElem? (i := 1) rfl
set_option maxHeartbeats 4000000 in
set_option maxRecDepth 100000 in
theorem c_X9_top (l : Launch) {w : ps_X} (hw : ps_ww w) {k : Nat} (hk : ps_isT w k) {S : ps_S} {r : Int32} (h : f_X9_top S k = some r) : ps_MetI l yX9_top wsX9_top (ps_rm 0 0) w [.ref (w.2.1 k)] S S r := by
  refine ps_mkI (cc := cX9_top) (maxL := 1) (own := RX9) (by decide +kernel) rfl (Or.inl rfl) rfl (Nat.le_of_ble_eq_true rfl) rfl (fun G hl hG hret => ?_)
  unfold f_X9_top at h
  refine ps_aload_n hG dX9_top_0 rfl 0 rfl ?_
  refine ps_get18_0 hG hw inX9_top_X9 (ps_isT_0 hk).1 (ps_isT_0 hk).2.2.1 mX9_top_9 dX9_top_1 ?_
  refine ps_iconst (v := 1) hG dX9_top_4 (by decide) ?_
  refine ps_iald hG (ps_isT_1 hk).1 (ps_isT_1 hk).2.1 (ps_isT_1 hk).2.2.1 (by decide) dX9_top_5 ?_
  cases h
  exact hret _ _ dX9_top_6
def f_X9_leaf (S : ps_S) (k : Nat) (p1 : Int32) : Option Int32 :=
  (if p1 < 0 then
    some 0
  else
    (if 6 ≤ p1 then
      some 0
    else
      (if ps_ib (8 + p1) 16 = true then
      some (S (k + 1) (8 + p1).toNatClampNeg) else none)))
theorem inX9_leaf_X9 : ∀ q ∈ wsX90, q ∈ wsX9_leaf := fun _ h => List.mem_cons_of_mem _ (List.mem_append_right _ h)
theorem mX9_leaf_9 : Cond.fieldLink RX9 9 (TX9 0).1 (TX9 0).2.1 (TX9 0).2.2.1 ∈ wsX9_leaf := List.mem_of_getElem? (i := 1) rfl
set_option maxHeartbeats 4000000 in
set_option maxRecDepth 100000 in
theorem c_X9_leaf (l : Launch) {w : ps_X} (hw : ps_ww w) {k : Nat} (hk : ps_isT w k) {S : ps_S} {p1 : Int32} {r : Int32} (h : f_X9_leaf S k p1 = some r) : ps_MetI l yX9_leaf wsX9_leaf (ps_rm 0 0) w [.ref (w.2.1 k), .int p1] S S r := by
  refine ps_mkI (cc := cX9_leaf) (maxL := 2) (own := RX9) (by decide +kernel) rfl (Or.inl rfl) rfl (Nat.le_of_ble_eq_true rfl) rfl (fun G hl hG hret => ?_)
  unfold f_X9_leaf at h
  refine ps_iload_n hG dX9_leaf_0 rfl 1 rfl ?_
  refine ps_if_lt (tgt := 22) hG dX9_leaf_1 (by decide) (fun c1 => ?_) (fun c1 => ?_)
  · replace h := ps_ip c1 h
    refine ps_iconst (v := 0) hG dX9_leaf_22 (by decide) ?_
    cases h
    exact hret _ _ dX9_leaf_23
  · replace h := ps_in c1 h
    refine ps_iload_n hG dX9_leaf_4 rfl 1 rfl ?_
    refine ps_bipush (v := 6) hG dX9_leaf_5 (by decide) ?_
    refine ps_icmp_ge (tgt := 22) hG dX9_leaf_7 (by decide) (fun c7 => ?_) (fun c7 => ?_)
    · replace h := ps_ip c7 h
      refine ps_iconst (v := 0) hG dX9_leaf_22 (by decide) ?_
      cases h
      exact hret _ _ dX9_leaf_23
    · replace h := ps_in c7 h
      refine ps_aload_n hG dX9_leaf_10 rfl 0 rfl ?_
      refine ps_get18_0 hG hw inX9_leaf_X9 (ps_isT_0 hk).1 (ps_isT_0 hk).2.2.1 mX9_leaf_9 dX9_leaf_11 ?_
      refine ps_bipush (v := 8) hG dX9_leaf_14 (by decide) ?_
      refine ps_iload_n hG dX9_leaf_16 rfl 1 rfl ?_
      refine ps_iadd hG dX9_leaf_17 ?_
      obtain ⟨hb18, h⟩ := ps_ig h
      refine ps_iald hG (ps_isT_1 hk).1 (ps_isT_1 hk).2.1 (ps_isT_1 hk).2.2.1 hb18 dX9_leaf_18 ?_
      refine ps_goto (tgt := 23) hG dX9_leaf_19 (by decide) ?_
      cases h
      exact hret _ _ dX9_leaf_23
def f_X9_neighbour (S : ps_S) (k : Nat) (p1 : Int32) (p2 : Int32) : Option Int32 :=
  (if p1 < 0 then
    some 0
  else
    (if 6 ≤ p1 then
      some 0
    else
      (if p2 < 0 then
        some 0
      else
        (if p2 < 3 then
          (if ps_ib (((8 + p1) >>> (p2 &&& 31)) ^^^ 1) 16 = true then
          some (S (k + 1) (((8 + p1) >>> (p2 &&& 31)) ^^^ 1).toNatClampNeg) else none)
        else
          some 0))))
theorem inX9_neighbour_X9 : ∀ q ∈ wsX90, q ∈ wsX9_neighbour := fun _ h => List.mem_cons_of_mem _ (List.mem_append_right _ h)
theorem mX9_neighbour_9 : Cond.fieldLink RX9 9 (TX9 0).1 (TX9 0).2.1 (TX9 0).2.2.1 ∈ wsX9_neighbour := List.mem_of_getElem? (i := 1) rfl
set_option maxHeartbeats 4000000 in
set_option maxRecDepth 100000 in
theorem c_X9_neighbour (l : Launch) {w : ps_X} (hw : ps_ww w) {k : Nat} (hk : ps_isT w k) {S : ps_S} {p1 p2 : Int32} {r : Int32} (h : f_X9_neighbour S k p1 p2 = some r) : ps_MetI l yX9_neighbour wsX9_neighbour (ps_rm 0 0) w [.ref (w.2.1 k), .int p1, .int p2] S S r := by
  refine ps_mkI (cc := cX9_neighbour) (maxL := 3) (own := RX9) (by decide +kernel) rfl (Or.inl rfl) rfl (Nat.le_of_ble_eq_true rfl) rfl (fun G hl hG hret => ?_)
  unfold f_X9_neighbour at h
  refine ps_iload_n hG dX9_neighbour_0 rfl 1 rfl ?_
  refine ps_if_lt (tgt := 19) hG dX9_neighbour_1 (by decide) (fun c1 => ?_) (fun c1 => ?_)
  · replace h := ps_ip c1 h
    refine ps_iconst (v := 0) hG dX9_neighbour_19 (by decide) ?_
    cases h
    exact hret _ _ dX9_neighbour_20
  · replace h := ps_in c1 h
    refine ps_iload_n hG dX9_neighbour_4 rfl 1 rfl ?_
    refine ps_bipush (v := 6) hG dX9_neighbour_5 (by decide) ?_
    refine ps_icmp_ge (tgt := 19) hG dX9_neighbour_7 (by decide) (fun c7 => ?_) (fun c7 => ?_)
    · replace h := ps_ip c7 h
      refine ps_iconst (v := 0) hG dX9_neighbour_19 (by decide) ?_
      cases h
      exact hret _ _ dX9_neighbour_20
    · replace h := ps_in c7 h
      refine ps_iload_n hG dX9_neighbour_10 rfl 2 rfl ?_
      refine ps_if_lt (tgt := 19) hG dX9_neighbour_11 (by decide) (fun c11 => ?_) (fun c11 => ?_)
      · replace h := ps_ip c11 h
        refine ps_iconst (v := 0) hG dX9_neighbour_19 (by decide) ?_
        cases h
        exact hret _ _ dX9_neighbour_20
      · replace h := ps_in c11 h
        refine ps_iload_n hG dX9_neighbour_14 rfl 2 rfl ?_
        refine ps_iconst (v := 3) hG dX9_neighbour_15 (by decide) ?_
        refine ps_icmp_lt (tgt := 21) hG dX9_neighbour_16 (by decide) (fun c16 => ?_) (fun c16 => ?_)
        · replace h := ps_ip c16 h
          refine ps_aload_n hG dX9_neighbour_21 rfl 0 rfl ?_
          refine ps_get18_0 hG hw inX9_neighbour_X9 (ps_isT_0 hk).1 (ps_isT_0 hk).2.2.1 mX9_neighbour_9 dX9_neighbour_22 ?_
          refine ps_bipush (v := 8) hG dX9_neighbour_25 (by decide) ?_
          refine ps_iload_n hG dX9_neighbour_27 rfl 1 rfl ?_
          refine ps_iadd hG dX9_neighbour_28 ?_
          refine ps_iload_n hG dX9_neighbour_29 rfl 2 rfl ?_
          refine ps_ishr hG dX9_neighbour_30 ?_
          refine ps_iconst (v := 1) hG dX9_neighbour_31 (by decide) ?_
          refine ps_ixor hG dX9_neighbour_32 ?_
          obtain ⟨hb33, h⟩ := ps_ig h
          refine ps_iald hG (ps_isT_1 hk).1 (ps_isT_1 hk).2.1 (ps_isT_1 hk).2.2.1 hb33 dX9_neighbour_33 ?_
          cases h
          exact hret _ _ dX9_neighbour_34
        · replace h := ps_in c16 h
          refine ps_iconst (v := 0) hG dX9_neighbour_19 (by decide) ?_
          cases h
          exact hret _ _ dX9_neighbour_20
