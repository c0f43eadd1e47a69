def f_X2_isPlace (p0 : Int32) (p1 : Int32) : Option Int32 :=
  (if p0 < 0 then
    some 0
  else
    (if 16 ≤ p0 then
      some 0
    else
      (if p1 < 0 then
        some 0
      else
        (if 16 ≤ p1 then
          some 0
        else
          some 1))))
set_option maxHeartbeats 4000000 in
set_option maxRecDepth 100000 in
theorem c_X2_isPlace (l : Launch) {w : ps_X} (hw : ps_ww w) {S : ps_S} {p0 p1 : Int32} {r : Int32} (h : f_X2_isPlace p0 p1 = some r) : ps_MetI l yX2_isPlace wsX2_isPlace (ps_rm 0 0) w [.int p0, .int p1] S S r := by
  refine ps_mkZ (cc := cX2_isPlace) (maxL := 2) (own := RX2) (by decide +kernel) rfl rfl rfl (Nat.le_of_ble_eq_true rfl) rfl (fun G hl hG hret => ?_)
  unfold f_X2_isPlace at h
  refine ps_iload_n hG dX2_isPlace_0 rfl 0 rfl ?_
  refine ps_if_lt (tgt := 24) hG dX2_isPlace_1 (by decide) (fun c1 => ?_) (fun c1 => ?_)
  · replace h := ps_ip c1 h
    refine ps_iconst (v := 0) hG dX2_isPlace_24 (by decide) ?_
    cases h
    exact hret _ _ dX2_isPlace_25 rfl
  · replace h := ps_in c1 h
    refine ps_iload_n hG dX2_isPlace_4 rfl 0 rfl ?_
    refine ps_bipush (v := 16) hG dX2_isPlace_5 (by decide) ?_
    refine ps_icmp_ge (tgt := 24) hG dX2_isPlace_7 (by decide) (fun c7 => ?_) (fun c7 => ?_)
    · replace h := ps_ip c7 h
      refine ps_iconst (v := 0) hG dX2_isPlace_24 (by decide) ?_
      cases h
      exact hret _ _ dX2_isPlace_25 rfl
    · replace h := ps_in c7 h
      refine ps_iload_n hG dX2_isPlace_10 rfl 1 rfl ?_
      refine ps_if_lt (tgt := 24) hG dX2_isPlace_11 (by decide) (fun c11 => ?_) (fun c11 => ?_)
      · replace h := ps_ip c11 h
        refine ps_iconst (v := 0) hG dX2_isPlace_24 (by decide) ?_
        cases h
        exact hret _ _ dX2_isPlace_25 rfl
      · replace h := ps_in c11 h
        refine ps_iload_n hG dX2_isPlace_14 rfl 1 rfl ?_
        refine ps_bipush (v := 16) hG dX2_isPlace_15 (by decide) ?_
        refine ps_icmp_ge (tgt := 24) hG dX2_isPlace_17 (by decide) (fun c17 => ?_) (fun c17 => ?_)
        · replace h := ps_ip c17 h
          refine ps_iconst (v := 0) hG dX2_isPlace_24 (by decide) ?_
          cases h
          exact hret _ _ dX2_isPlace_25 rfl
        · replace h := ps_in c17 h
          refine ps_iconst (v := 1) hG dX2_isPlace_20 (by decide) ?_
          refine ps_goto (tgt := 25) hG dX2_isPlace_21 (by decide) ?_
          cases h
          exact hret _ _ dX2_isPlace_25 rfl
def f_X2_debt (S : ps_S) (p1 : Int32) (p2 : Int32) : Option Int32 :=
  ((f_X2_isPlace p1 p2).bind fun r2 =>
  (if r2 = 0 then
    some 0
  else
    (if ps_ib p1 16 = true then
    (if ps_ib p2 16 = true then
    some (S (38 + p1.toNatClampNeg) p2.toNatClampNeg) else none) else none)))
theorem inX2_debt_X2 : ∀ q ∈ wsX20, q ∈ wsX2_debt := fun _ h => List.mem_cons_of_mem _ (List.mem_append_right _ h)
theorem mX2_debt_11 : Cond.fieldLink RX2 11 (TX2 0).1 (TX2 0).2.1 (TX2 0).2.2.1 ∈ wsX2_debt := List.mem_of_getElem? (i := 1) rfl
set_option maxHeartbeats 4000000 in
set_option maxRecDepth 100000 in
theorem c_X2_debt (l : Launch) {w : ps_X} (hw : ps_ww w) {S : ps_S} {p1 p2 : Int32} {r : Int32} (h : f_X2_debt S p1 p2 = some r) : ps_MetI l yX2_debt wsX2_debt (ps_rm 1 21) w [.ref (w.2.1 36), .int p1, .int p2] S S r := by
  refine ps_mkI (cc := cX2_debt) (maxL := 3) (own := RX2) (by decide +kernel) rfl (Or.inl rfl) rfl (Nat.le_of_ble_eq_true rfl) rfl (fun G hl hG hret => ?_)
  unfold f_X2_debt at h
  refine ps_iload_n hG dX2_debt_0 rfl 1 rfl ?_
  refine ps_iload_n hG dX2_debt_1 rfl 2 rfl ?_
  obtain ⟨r2, hr2, h⟩ := ps_bd h
  refine ps_callSI (As := [.int p1, .int p2]) (rest := []) (nA := 2) hG (c_X2_isPlace _ hw hr2) gX2_debt_X2_isPlace rfl (by decide +kernel) rfl ⟨Nat.le_of_ble_eq_true rfl, Nat.le_of_ble_eq_true rfl⟩ ⟨rfl, rfl⟩ ⟨Nat.le_of_ble_eq_true rfl, Nat.le_of_ble_eq_true rfl⟩ rfl (Nat.le_of_ble_eq_true rfl) dX2_debt_2 ?_
  refine ps_if_eq (tgt := 19) hG dX2_debt_5 (by decide) (fun c5 => ?_) (fun c5 => ?_)
  · replace h := ps_ip c5 h
    refine ps_iconst (v := 0) hG dX2_debt_19 (by decide) ?_
    cases h
    exact hret _ _ dX2_debt_20
  · replace h := ps_in c5 h
    refine ps_aload_n hG dX2_debt_8 rfl 0 rfl ?_
    refine ps_get11_0 hG hw inX2_debt_X2 ps_q36.1 (ps_lt hw ps_q36.2.2.1) mX2_debt_11 dX2_debt_9 ?_
    refine ps_iload_n hG dX2_debt_12 rfl 1 rfl ?_
    obtain ⟨hb13, h⟩ := ps_ig h
    refine ps_aald (b := 38) hG ps_q37.1 ps_q37.2.1 (ps_lt hw ps_q37.2.2.1) rfl hb13 dX2_debt_13 ?_
    refine ps_iload_n hG dX2_debt_14 rfl 2 rfl ?_
    obtain ⟨hb15, h⟩ := ps_ig h
    refine ps_iald hG (ps_k38 hb13).1 (ps_k38 hb13).2.1 (ps_lt hw (ps_k38 hb13).2.2.1) hb15 dX2_debt_15 ?_
    refine ps_goto (tgt := 20) hG dX2_debt_16 (by decide) ?_
    cases h
    exact hret _ _ dX2_debt_20
def f_X2_owe (S : ps_S) (p1 : Int32) (p2 : Int32) (p3 : Int32) : Option ps_S :=
  ((f_X2_isPlace p1 p2).bind fun r2 =>
  (if r2 = 0 then
    some S
  else
    (if p1 = p2 then
      some S
    else
      (if ps_ib p1 16 = true then
      (if ps_ib p2 16 = true then
      (if ps_ib p2 16 = true then
      some (ps_up S (38 + p1.toNatClampNeg) p2.toNatClampNeg ((S (38 + p1.toNatClampNeg) p2.toNatClampNeg) + p3)) else none) else none) else none))))
theorem inX2_owe_X2 : ∀ q ∈ wsX20, q ∈ wsX2_owe := fun _ h => List.mem_cons_of_mem _ (List.mem_append_right _ h)
theorem mX2_owe_11 : Cond.fieldLink RX2 11 (TX2 0).1 (TX2 0).2.1 (TX2 0).2.2.1 ∈ wsX2_owe := List.mem_of_getElem? (i := 1) rfl
set_option maxHeartbeats 4000000 in
set_option maxRecDepth 100000 in
theorem c_X2_owe (l : Launch) {w : ps_X} (hw : ps_ww w) {S S' : ps_S} {p1 p2 p3 : Int32} (h : f_X2_owe S p1 p2 p3 = some S') : ps_MetV l yX2_owe wsX2_owe (ps_rm 1 21) w [.ref (w.2.1 36), .int p1, .int p2, .int p3] S S' := by
  refine ps_mkV (cc := cX2_owe) (maxL := 4) (own := RX2) (by decide +kernel) rfl rfl rfl (Nat.le_of_ble_eq_true rfl) rfl (fun G hl hG hret => ?_)
  unfold f_X2_owe at h
  refine ps_iload_n hG dX2_owe_0 rfl 1 rfl ?_
  refine ps_iload_n hG dX2_owe_1 rfl 2 rfl ?_
  obtain ⟨r2, hr2, h⟩ := ps_bd h
  refine ps_callSI (As := [.int p1, .int p2]) (rest := []) (nA := 2) hG (c_X2_isPlace _ hw hr2) gX2_owe_X2_isPlace rfl (by decide +kernel) rfl ⟨Nat.le_of_ble_eq_true rfl, Nat.le_of_ble_eq_true rfl⟩ ⟨rfl, rfl⟩ ⟨Nat.le_of_ble_eq_true rfl, Nat.le_of_ble_eq_true rfl⟩ rfl (Nat.le_of_ble_eq_true rfl) dX2_owe_2 ?_
  refine ps_if_eq (tgt := 25) hG dX2_owe_5 (by decide) (fun c5 => ?_) (fun c5 => ?_)
  · replace h := ps_ip c5 h
    cases h
    exact hret _ _ dX2_owe_25
  · replace h := ps_in c5 h
    refine ps_iload_n hG dX2_owe_8 rfl 1 rfl ?_
    refine ps_iload_n hG dX2_owe_9 rfl 2 rfl ?_
    refine ps_icmp_eq (tgt := 25) hG dX2_owe_10 (by decide) (fun c10 => ?_) (fun c10 => ?_)
    · replace h := ps_ip c10 h
      cases h
      exact hret _ _ dX2_owe_25
    · replace h := ps_in c10 h
      refine ps_aload_n hG dX2_owe_13 rfl 0 rfl ?_
      refine ps_get11_0 hG hw inX2_owe_X2 ps_q36.1 (ps_lt hw ps_q36.2.2.1) mX2_owe_11 dX2_owe_14 ?_
      refine ps_iload_n hG dX2_owe_17 rfl 1 rfl ?_
      obtain ⟨hb18, h⟩ := ps_ig h
      refine ps_aald (b := 38) hG ps_q37.1 ps_q37.2.1 (ps_lt hw ps_q37.2.2.1) rfl hb18 dX2_owe_18 ?_
      refine ps_iload_n hG dX2_owe_19 rfl 2 rfl ?_
      refine ps_dup2 hG dX2_owe_20 rfl rfl ?_
      obtain ⟨hb21, h⟩ := ps_ig h
      refine ps_iald hG (ps_k38 hb18).1 (ps_k38 hb18).2.1 (ps_lt hw (ps_k38 hb18).2.2.1) hb21 dX2_owe_21 ?_
      refine ps_iload_n hG dX2_owe_22 rfl 3 rfl ?_
      refine ps_iadd hG dX2_owe_23 ?_
      obtain ⟨hb24, h⟩ := ps_ig h
      refine ps_iast hG (ps_k38 hb18).1 (ps_k38 hb18).2.1 (ps_lt hw (ps_k38 hb18).2.2.1) hb24 dX2_owe_24 ?_
      cases h
      exact hret _ _ dX2_owe_25
def f_X2_balance_L4 (S : ps_S) (p1 : Int32) (v2_4 : Int32) (v3_4 : Int32) : Option ((Int32 × Int32) ⊕ (Int32)) :=
  (if 16 ≤ v3_4 then
        some (.inr v2_4)
      else
        ((f_X2_debt S v3_4 p1).bind fun r14 =>
        ((f_X2_debt S p1 v3_4).bind fun r20 =>
        some (.inl (v2_4 + (r14 - r20), v3_4 + 1)))))
def f_X2_balance (S : ps_S) (p1 : Int32) : Option Int32 :=
  ((ps_it (fun (a : Int32 × Int32) => f_X2_balance_L4 S p1 a.1 a.2) ps_fu (0, 0)).bind (fun e2_4 => some e2_4))
set_option maxHeartbeats 4000000 in
set_option maxRecDepth 100000 in
theorem c_X2_balance (l : Launch) {w : ps_X} (hw : ps_ww w) {S : ps_S} {p1 : Int32} {r : Int32} (h : f_X2_balance S p1 = some r) : ps_MetI l yX2_balance wsX2_balance (ps_rm 2 43) w [.ref (w.2.1 36), .int p1] S S r := by
  refine ps_mkI (cc := cX2_balance) (maxL := 4) (own := RX2) (by decide +kernel) rfl (Or.inl rfl) rfl (Nat.le_of_ble_eq_true rfl) rfl (fun G hl hG hret => ?_)
  unfold f_X2_balance at h
  refine ps_iconst (v := 0) hG dX2_balance_0 (by decide) ?_
  refine ps_istore_n (lv' := [(2, .int 0), (0, .ref (w.2.1 36)), (1, .int p1)]) hG dX2_balance_1 rfl (by decide) rfl ?_
  refine ps_iconst (v := 0) hG dX2_balance_2 (by decide) ?_
  refine ps_istore_n (lv' := [(3, .int 0), (2, .int 0), (0, .ref (w.2.1 36)), (1, .int p1)]) hG dX2_balance_3 rfl (by decide) rfl ?_
  obtain ⟨e2_4, hq4, h⟩ := ps_bd h
  refine (ps_sub [2, 3, 1, 0] rfl (ps_itV (fun (a : Int32 × Int32) => ps_V G 4 0 0 w S 4 [(0, .ref (w.2.1 36)), (1, .int p1), (2, .int a.1), (3, .int a.2)] []) (fun (b : Int32) => ps_V G 4 0 0 w S 32 [(2, .int b)] []) ?_ _ _ _ hq4 ?_))
  · intro a r9 h kc ke
    obtain ⟨v2_4, v3_4⟩ := a
    replace h : f_X2_balance_L4 S p1 v2_4 v3_4 = some r9 := h
    show ps_V G 4 0 0 w S 4 [(0, .ref (w.2.1 36)), (1, .int p1), (2, .int v2_4), (3, .int v3_4)] []
    unfold f_X2_balance_L4 at h
    refine ps_iload_n hG dX2_balance_4 rfl 3 rfl ?_
    refine ps_bipush (v := 16) hG dX2_balance_5 (by decide) ?_
    refine ps_icmp_ge (tgt := 32) hG dX2_balance_7 (by decide) (fun c7 => ?_) (fun c7 => ?_)
    · replace h := ps_ip c7 h
      cases h
      exact (ps_sub [2] rfl (ke _ rfl))
    · replace h := ps_in c7 h
      refine ps_iload_n hG dX2_balance_10 rfl 2 rfl ?_
      refine ps_aload_n hG dX2_balance_11 rfl 0 rfl ?_
      refine ps_iload_n hG dX2_balance_12 rfl 3 rfl ?_
      refine ps_iload_n hG dX2_balance_13 rfl 1 rfl ?_
      obtain ⟨r14, hr14, h⟩ := ps_bd h
      refine ps_callVI (As := [.int v3_4, .int p1]) (rest := [.int v2_4]) (nA := 2) hG (c_X2_debt _ hw hr14) gX2_balance_X2_debt rfl (by decide +kernel) rfl ⟨Nat.le_of_ble_eq_true rfl, Nat.le_of_ble_eq_true rfl⟩ ⟨rfl, rfl⟩ ⟨Nat.le_of_ble_eq_true rfl, Nat.le_of_ble_eq_true rfl⟩ (ps_lt hw ps_q36.2.2.1) (ps_cel_11 ps_q36.1 _) rfl rfl (Nat.le_of_ble_eq_true rfl) dX2_balance_14 ?_
      refine ps_aload_n hG dX2_balance_17 rfl 0 rfl ?_
      refine ps_iload_n hG dX2_balance_18 rfl 1 rfl ?_
      refine ps_iload_n hG dX2_balance_19 rfl 3 rfl ?_
      obtain ⟨r20, hr20, h⟩ := ps_bd h
      refine ps_callVI (As := [.int p1, .int v3_4]) (rest := [.int r14, .int v2_4]) (nA := 2) hG (c_X2_debt _ hw hr20) gX2_balance_X2_debt rfl (by decide +kernel) rfl ⟨Nat.le_of_ble_eq_true rfl, Nat.le_of_ble_eq_true rfl⟩ ⟨rfl, rfl⟩ ⟨Nat.le_of_ble_eq_true rfl, Nat.le_of_ble_eq_true rfl⟩ (ps_lt hw ps_q36.2.2.1) (ps_cel_11 ps_q36.1 _) rfl rfl (Nat.le_of_ble_eq_true rfl) dX2_balance_20 ?_
      refine ps_isub hG dX2_balance_23 ?_
      refine ps_iadd hG dX2_balance_24 ?_
      refine ps_istore_n (lv' := [(2, .int (v2_4 + (r14 - r20))), (0, .ref (w.2.1 36)), (1, .int p1), (3, .int v3_4)]) hG dX2_balance_25 rfl (by decide) rfl ?_
      refine ps_iinc (lv' := [(3, .int (v3_4 + 1)), (2, .int (v2_4 + (r14 - r20))), (0, .ref (w.2.1 36)), (1, .int p1)]) hG dX2_balance_26 3 rfl (by rfl) (by decide) rfl ?_
      refine ps_goto (tgt := 4) hG dX2_balance_29 (by decide) ?_
      cases h
      exact (ps_sub [2, 3, 1, 0] rfl (kc _ rfl))
  · show ps_V G 4 0 0 w S 32 [(2, .int e2_4)] []
    refine ps_iload_n hG dX2_balance_32 rfl 0 rfl ?_
    cases h
    exact hret _ _ dX2_balance_33
def f_X2_lessenTwo (S : ps_S) (p1 : Int32) (p2 : Int32) : Option (Int32 × ps_S) :=
  ((f_X2_debt S p1 p2).bind fun r3 =>
  ((f_X2_debt S p2 p1).bind fun r9 =>
  ((f_X2_owe S p1 p2 (-(ps_min r3 r9))).bind fun S21 =>
  ((f_X2_owe S21 p2 p1 (-(ps_min r3 r9))).bind fun S29 =>
  some (2 * (ps_min r3 r9), S29)))))
theorem mX2_lessenTwo_min0 : Cond.methodLink RX2 30 Lib.Math.min.name ∈ wsX2_lessenTwo := List.mem_of_getElem? (i := 1) rfl
theorem mX2_lessenTwo_min1 : Cond.static Lib.Math.min.name ∈ wsX2_lessenTwo := List.mem_of_getElem? (i := 2) rfl
theorem mX2_lessenTwo_min2 : Cond.initialized "java/lang/Math" ∈ wsX2_lessenTwo := List.mem_of_getElem? (i := 3) rfl
theorem mX2_lessenTwo_min3 : Cond.code Lib.Math.min.name Lib.Math.min.code 2 (some .int) ∈ wsX2_lessenTwo := List.mem_of_getElem? (i := 4) rfl
set_option maxHeartbeats 4000000 in
set_option maxRecDepth 100000 in
theorem c_X2_lessenTwo (l : Launch) {w : ps_X} (hw : ps_ww w) {S S' : ps_S} {p1 p2 : Int32} {r : Int32} (h : f_X2_lessenTwo S p1 p2 = some (r, S')) : ps_MetI l yX2_lessenTwo wsX2_lessenTwo (ps_rm 2 44) w [.ref (w.2.1 36), .int p1, .int p2] S S' r := by
  refine ps_mkI (cc := cX2_lessenTwo) (maxL := 4) (own := RX2) (by decide +kernel) rfl (Or.inl rfl) rfl (Nat.le_of_ble_eq_true rfl) rfl (fun G hl hG hret => ?_)
  unfold f_X2_lessenTwo at h
  refine ps_aload_n hG dX2_lessenTwo_0 rfl 0 rfl ?_
  refine ps_iload_n hG dX2_lessenTwo_1 rfl 1 rfl ?_
  refine ps_iload_n hG dX2_lessenTwo_2 rfl 2 rfl ?_
  obtain ⟨r3, hr3, h⟩ := ps_bd h
  refine ps_callVI (As := [.int p1, .int p2]) (rest := []) (nA := 2) hG (c_X2_debt _ hw hr3) gX2_lessenTwo_X2_debt rfl (by decide +kernel) rfl ⟨Nat.le_of_ble_eq_true rfl, Nat.le_of_ble_eq_true rfl⟩ ⟨rfl, rfl⟩ ⟨Nat.le_of_ble_eq_true rfl, Nat.le_of_ble_eq_true rfl⟩ (ps_lt hw ps_q36.2.2.1) (ps_cel_11 ps_q36.1 _) rfl rfl (Nat.le_of_ble_eq_true rfl) dX2_lessenTwo_3 ?_
  refine ps_aload_n hG dX2_lessenTwo_6 rfl 0 rfl ?_
  refine ps_iload_n hG dX2_lessenTwo_7 rfl 2 rfl ?_
  refine ps_iload_n hG dX2_lessenTwo_8 rfl 1 rfl ?_
  obtain ⟨r9, hr9, h⟩ := ps_bd h
  refine ps_callVI (As := [.int p2, .int p1]) (rest := [.int r3]) (nA := 2) hG (c_X2_debt _ hw hr9) gX2_lessenTwo_X2_debt rfl (by decide +kernel) rfl ⟨Nat.le_of_ble_eq_true rfl, Nat.le_of_ble_eq_true rfl⟩ ⟨rfl, rfl⟩ ⟨Nat.le_of_ble_eq_true rfl, Nat.le_of_ble_eq_true rfl⟩ (ps_lt hw ps_q36.2.2.1) (ps_cel_11 ps_q36.1 _) rfl rfl (Nat.le_of_ble_eq_true rfl) dX2_lessenTwo_9 ?_
  refine ps_mmin hG mX2_lessenTwo_min0 mX2_lessenTwo_min1 mX2_lessenTwo_min2 mX2_lessenTwo_min3 (Nat.le_of_ble_eq_true rfl) (Nat.le_of_ble_eq_true rfl) ⟨Nat.zero_le _, Nat.zero_le _⟩ dX2_lessenTwo_12 ?_
  refine ps_istore_n (lv' := [(3, .int (ps_min r3 r9)), (0, .ref (w.2.1 36)), (1, .int p1), (2, .int p2)]) hG dX2_lessenTwo_15 rfl (by decide) rfl ?_
  refine ps_aload_n hG dX2_lessenTwo_16 rfl 1 rfl ?_
  refine ps_iload_n hG dX2_lessenTwo_17 rfl 2 rfl ?_
  refine ps_iload_n hG dX2_lessenTwo_18 rfl 3 rfl ?_
  refine ps_iload_n hG dX2_lessenTwo_19 rfl 0 rfl ?_
  refine ps_ineg hG dX2_lessenTwo_20 ?_
  obtain ⟨S21, hr21, h⟩ := ps_bd h
  refine ps_callVV (As := [.int p1, .int p2, .int (-(ps_min r3 r9))]) (rest := []) (nA := 3) hG (c_X2_owe _ hw hr21) gX2_lessenTwo_X2_owe rfl (by decide +kernel) rfl ⟨Nat.le_of_ble_eq_true rfl, Nat.le_of_ble_eq_true rfl⟩ ⟨rfl, rfl⟩ ⟨Nat.le_of_ble_eq_true rfl, Nat.le_of_ble_eq_true rfl⟩ (ps_lt hw ps_q36.2.2.1) (ps_cel_11 ps_q36.1 _) rfl rfl (Nat.le_of_ble_eq_true rfl) dX2_lessenTwo_21 ?_
  refine ps_aload_n hG dX2_lessenTwo_24 rfl 1 rfl ?_
  refine ps_iload_n hG dX2_lessenTwo_25 rfl 3 rfl ?_
  refine ps_iload_n hG dX2_lessenTwo_26 rfl 2 rfl ?_
  refine ps_iload_n hG dX2_lessenTwo_27 rfl 0 rfl ?_
  refine ps_ineg hG dX2_lessenTwo_28 ?_
  obtain ⟨S29, hr29, h⟩ := ps_bd h
  refine ps_callVV (As := [.int p2, .int p1, .int (-(ps_min r3 r9))]) (rest := []) (nA := 3) hG (c_X2_owe _ hw hr29) gX2_lessenTwo_X2_owe rfl (by decide +kernel) rfl ⟨Nat.le_of_ble_eq_true rfl, Nat.le_of_ble_eq_true rfl⟩ ⟨rfl, rfl⟩ ⟨Nat.le_of_ble_eq_true rfl, Nat.le_of_ble_eq_true rfl⟩ (ps_lt hw ps_q36.2.2.1) (ps_cel_11 ps_q36.1 _) rfl rfl (Nat.le_of_ble_eq_true rfl) dX2_lessenTwo_29 ?_
  refine ps_iconst (v := 2) hG dX2_lessenTwo_32 (by decide) ?_
  refine ps_iload_n hG dX2_lessenTwo_33 rfl 0 rfl ?_
  refine ps_imul hG dX2_lessenTwo_34 ?_
  cases h
  exact hret _ _ dX2_lessenTwo_35
def f_X2_lessenThrees_J84 (v4_7 : Int32) (T84 : ps_S) (v3_84 : Int32) : Option ((ps_S × Int32 × Int32) ⊕ (ps_S × Int32)) :=
  some (.inl (T84, v3_84, v4_7 + 1))
def f_X2_lessenThrees_L7 (p1 : Int32) (p2 : Int32) (T7 : ps_S) (v3_7 : Int32) (v4_7 : Int32) : Option ((ps_S × Int32 × Int32) ⊕ (ps_S × Int32)) :=
  (if 16 ≤ v4_7 then
        some (.inr (T7, v3_7))
      else
        (if v4_7 = p2 then
          f_X2_lessenThrees_J84 v4_7 T7 v3_7
        else
          ((f_X2_debt T7 p1 p2).bind fun r23 =>
          ((f_X2_debt T7 p2 v4_7).bind fun r30 =>
          ((f_X2_debt T7 v4_7 p1).bind fun r37 =>
          ((f_X2_owe T7 p1 p2 (-(ps_min r23 (ps_min r30 r37)))).bind fun S54 =>
          ((f_X2_owe S54 p2 v4_7 (-(ps_min r23 (ps_min r30 r37)))).bind fun S64 =>
          ((f_X2_owe S64 v4_7 p1 (-(ps_min r23 (ps_min r30 r37)))).bind fun S74 =>
          f_X2_lessenThrees_J84 v4_7 S74 (v3_7 + (3 * (ps_min r23 (ps_min r30 r37))))))))))))
def f_X2_lessenThrees (S : ps_S) (p1 : Int32) (p2 : Int32) : Option (Int32 × ps_S) :=
  (ps_b2 (ps_it (fun (a : ps_S × Int32 × Int32) => f_X2_lessenThrees_L7 p1 p2 a.1 a.2.1 a.2.2) ps_fu (S, 0, p1 + 1)) (fun S7 e3_7 => some (e3_7, S7)))
theorem mX2_lessenThrees_min0 : Cond.methodLink RX2 30 Lib.Math.min.name ∈ wsX2_lessenThrees := List.mem_of_getElem? (i := 1) rfl
theorem mX2_lessenThrees_min1 : Cond.static Lib.Math.min.name ∈ wsX2_lessenThrees := List.mem_of_getElem? (i := 2) rfl
theorem mX2_lessenThrees_min2 : Cond.initialized "java/lang/Math" ∈ wsX2_lessenThrees := List.mem_of_getElem? (i := 3) rfl
theorem mX2_lessenThrees_min3 : Cond.code Lib.Math.min.name Lib.Math.min.code 2 (some .int) ∈ wsX2_lessenThrees := List.mem_of_getElem? (i := 4) rfl
set_option maxHeartbeats 4000000 in
set_option maxRecDepth 100000 in
theorem c_X2_lessenThrees (l : Launch) {w : ps_X} (hw : ps_ww w) {S S' : ps_S} {p1 p2 : Int32} {r : Int32} (h : f_X2_lessenThrees S p1 p2 = some (r, S')) : ps_MetI l yX2_lessenThrees wsX2_lessenThrees (ps_rm 2 44) w [.ref (w.2.1 36), .int p1, .int p2] S S' r := by
  refine ps_mkI (cc := cX2_lessenThrees) (maxL := 6) (own := RX2) (by decide +kernel) rfl (Or.inl rfl) rfl (Nat.le_of_ble_eq_true rfl) rfl (fun G hl hG hret => ?_)
  unfold f_X2_lessenThrees at h
  refine ps_iconst (v := 0) hG dX2_lessenThrees_0 (by decide) ?_
  refine ps_istore_n (lv' := [(3, .int 0), (0, .ref (w.2.1 36)), (1, .int p1), (2, .int p2)]) hG dX2_lessenThrees_1 rfl (by decide) rfl ?_
  refine ps_iload_n hG dX2_lessenThrees_2 rfl 2 rfl ?_
  refine ps_iconst (v := 1) hG dX2_lessenThrees_3 (by decide) ?_
  refine ps_iadd hG dX2_lessenThrees_4 ?_
  refine ps_istore (lv' := [(4, .int (p1 + 1)), (3, .int 0), (0, .ref (w.2.1 36)), (1, .int p1), (2, .int p2)]) hG dX2_lessenThrees_5 (by decide) rfl ?_
  obtain ⟨S7, e3_7, hq7, h⟩ := ps_d2 h
  refine (ps_sub [2, 3, 4, 1, 0] rfl (ps_itV (fun (a : ps_S × Int32 × Int32) => ps_V G 6 0 0 w a.1 7 [(0, .ref (w.2.1 36)), (1, .int p1), (2, .int p2), (3, .int a.2.1), (4, .int a.2.2)] []) (fun (b : ps_S × Int32) => ps_V G 6 0 0 w b.1 90 [(3, .int b.2)] []) ?_ _ _ _ hq7 ?_))
  · intro a r9 h kc ke
    obtain ⟨T7, v3_7, v4_7⟩ := a
    replace h : f_X2_lessenThrees_L7 p1 p2 T7 v3_7 v4_7 = some r9 := h
    show ps_V G 6 0 0 w T7 7 [(0, .ref (w.2.1 36)), (1, .int p1), (2, .int p2), (3, .int v3_7), (4, .int v4_7)] []
    unfold f_X2_lessenThrees_L7 at h
    refine ps_iload hG dX2_lessenThrees_7 4 rfl ?_
    refine ps_bipush (v := 16) hG dX2_lessenThrees_9 (by decide) ?_
    refine ps_icmp_ge (tgt := 90) hG dX2_lessenThrees_11 (by decide) (fun c11 => ?_) (fun c11 => ?_)
    · replace h := ps_ip c11 h
      cases h
      exact (ps_sub [3] rfl (ke _ rfl))
    · replace h := ps_in c11 h
      refine ps_iload hG dX2_lessenThrees_14 4 rfl ?_
      refine ps_iload_n hG dX2_lessenThrees_16 rfl 2 rfl ?_
      have hJ84 : ∀ (T84 : ps_S) (v3_84 : Int32), f_X2_lessenThrees_J84 v4_7 T84 v3_84 = some r9 → ps_V G 6 0 0 w T84 84 [(0, .ref (w.2.1 36)), (1, .int p1), (2, .int p2), (3, .int v3_84), (4, .int v4_7)] [] := by
        intro T84 v3_84 h
        unfold f_X2_lessenThrees_J84 at h
        refine ps_iinc (lv' := [(4, .int (v4_7 + 1)), (0, .ref (w.2.1 36)), (1, .int p1), (2, .int p2), (3, .int v3_84)]) hG dX2_lessenThrees_84 4 rfl (by rfl) (by decide) rfl ?_
        refine ps_goto (tgt := 7) hG dX2_lessenThrees_87 (by decide) ?_
        cases h
        exact (ps_sub [1, 2, 3, 4, 0] rfl (kc _ rfl))
      refine ps_icmp_eq (tgt := 84) hG dX2_lessenThrees_17 (by decide) (fun c17 => ?_) (fun c17 => ?_)
      · replace h := ps_ip c17 h
        exact (ps_sub [0, 1, 2, 3, 4] rfl (hJ84 T7 v3_7 h))
      · replace h := ps_in c17 h
        refine ps_aload_n hG dX2_lessenThrees_20 rfl 0 rfl ?_
        refine ps_iload_n hG dX2_lessenThrees_21 rfl 1 rfl ?_
        refine ps_iload_n hG dX2_lessenThrees_22 rfl 2 rfl ?_
        obtain ⟨r23, hr23, h⟩ := ps_bd h
        refine ps_callVI (As := [.int p1, .int p2]) (rest := []) (nA := 2) hG (c_X2_debt _ hw hr23) gX2_lessenThrees_X2_debt rfl (by decide +kernel) rfl ⟨Nat.le_of_ble_eq_true rfl, Nat.le_of_ble_eq_true rfl⟩ ⟨rfl, rfl⟩ ⟨Nat.le_of_ble_eq_true rfl, Nat.le_of_ble_eq_true rfl⟩ (ps_lt hw ps_q36.2.2.1) (ps_cel_11 ps_q36.1 _) rfl rfl (Nat.le_of_ble_eq_true rfl) dX2_lessenThrees_23 ?_
        refine ps_aload_n hG dX2_lessenThrees_26 rfl 0 rfl ?_
        refine ps_iload_n hG dX2_lessenThrees_27 rfl 2 rfl ?_
        refine ps_iload hG dX2_lessenThrees_28 4 rfl ?_
        obtain ⟨r30, hr30, h⟩ := ps_bd h
        refine ps_callVI (As := [.int p2, .int v4_7]) (rest := [.int r23]) (nA := 2) hG (c_X2_debt _ hw hr30) gX2_lessenThrees_X2_debt rfl (by decide +kernel) rfl ⟨Nat.le_of_ble_eq_true rfl, Nat.le_of_ble_eq_true rfl⟩ ⟨rfl, rfl⟩ ⟨Nat.le_of_ble_eq_true rfl, Nat.le_of_ble_eq_true rfl⟩ (ps_lt hw ps_q36.2.2.1) (ps_cel_11 ps_q36.1 _) rfl rfl (Nat.le_of_ble_eq_true rfl) dX2_lessenThrees_30 ?_
        refine ps_aload_n hG dX2_lessenThrees_33 rfl 0 rfl ?_
        refine ps_iload hG dX2_lessenThrees_34 4 rfl ?_
        refine ps_iload_n hG dX2_lessenThrees_36 rfl 1 rfl ?_
        obtain ⟨r37, hr37, h⟩ := ps_bd h
        refine ps_callVI (As := [.int v4_7, .int p1]) (rest := [.int r30, .int r23]) (nA := 2) hG (c_X2_debt _ hw hr37) gX2_lessenThrees_X2_debt rfl (by decide +kernel) rfl ⟨Nat.le_of_ble_eq_true rfl, Nat.le_of_ble_eq_true rfl⟩ ⟨rfl, rfl⟩ ⟨Nat.le_of_ble_eq_true rfl, Nat.le_of_ble_eq_true rfl⟩ (ps_lt hw ps_q36.2.2.1) (ps_cel_11 ps_q36.1 _) rfl rfl (Nat.le_of_ble_eq_true rfl) dX2_lessenThrees_37 ?_
        refine ps_mmin hG mX2_lessenThrees_min0 mX2_lessenThrees_min1 mX2_lessenThrees_min2 mX2_lessenThrees_min3 (Nat.le_of_ble_eq_true rfl) (Nat.le_of_ble_eq_true rfl) ⟨Nat.zero_le _, Nat.zero_le _⟩ dX2_lessenThrees_40 ?_
        refine ps_mmin hG mX2_lessenThrees_min0 mX2_lessenThrees_min1 mX2_lessenThrees_min2 mX2_lessenThrees_min3 (Nat.le_of_ble_eq_true rfl) (Nat.le_of_ble_eq_true rfl) ⟨Nat.zero_le _, Nat.zero_le _⟩ dX2_lessenThrees_43 ?_
        refine ps_istore (lv' := [(5, .int (ps_min r23 (ps_min r30 r37))), (0, .ref (w.2.1 36)), (1, .int p1), (2, .int p2), (3, .int v3_7), (4, .int v4_7)]) hG dX2_lessenThrees_46 (by decide) rfl ?_
        refine ps_aload_n hG dX2_lessenThrees_48 rfl 1 rfl ?_
        refine ps_iload_n hG dX2_lessenThrees_49 rfl 2 rfl ?_
        refine ps_iload_n hG dX2_lessenThrees_50 rfl 3 rfl ?_
        refine ps_iload hG dX2_lessenThrees_51 0 rfl ?_
        refine ps_ineg hG dX2_lessenThrees_53 ?_
        obtain ⟨S54, hr54, h⟩ := ps_bd h
        refine ps_callVV (As := [.int p1, .int p2, .int (-(ps_min r23 (ps_min r30 r37)))]) (rest := []) (nA := 3) hG (c_X2_owe _ hw hr54) gX2_lessenThrees_X2_owe rfl (by decide +kernel) rfl ⟨Nat.le_of_ble_eq_true rfl, Nat.le_of_ble_eq_true rfl⟩ ⟨rfl, rfl⟩ ⟨Nat.le_of_ble_eq_true rfl, Nat.le_of_ble_eq_true rfl⟩ (ps_lt hw ps_q36.2.2.1) (ps_cel_11 ps_q36.1 _) rfl rfl (Nat.le_of_ble_eq_true rfl) dX2_lessenThrees_54 ?_
        refine ps_aload_n hG dX2_lessenThrees_57 rfl 1 rfl ?_
        refine ps_iload_n hG dX2_lessenThrees_58 rfl 3 rfl ?_
        refine ps_iload hG dX2_lessenThrees_59 5 rfl ?_
        refine ps_iload hG dX2_lessenThrees_61 0 rfl ?_
        refine ps_ineg hG dX2_lessenThrees_63 ?_
        obtain ⟨S64, hr64, h⟩ := ps_bd h
        refine ps_callVV (As := [.int p2, .int v4_7, .int (-(ps_min r23 (ps_min r30 r37)))]) (rest := []) (nA := 3) hG (c_X2_owe _ hw hr64) gX2_lessenThrees_X2_owe rfl (by decide +kernel) rfl ⟨Nat.le_of_ble_eq_true rfl, Nat.le_of_ble_eq_true rfl⟩ ⟨rfl, rfl⟩ ⟨Nat.le_of_ble_eq_true rfl, Nat.le_of_ble_eq_true rfl⟩ (ps_lt hw ps_q36.2.2.1) (ps_cel_11 ps_q36.1 _) rfl rfl (Nat.le_of_ble_eq_true rfl) dX2_lessenThrees_64 ?_
        refine ps_aload_n hG dX2_lessenThrees_67 rfl 1 rfl ?_
        refine ps_iload hG dX2_lessenThrees_68 5 rfl ?_
        refine ps_iload_n hG dX2_lessenThrees_70 rfl 2 rfl ?_
        refine ps_iload hG dX2_lessenThrees_71 0 rfl ?_
        refine ps_ineg hG dX2_lessenThrees_73 ?_
        obtain ⟨S74, hr74, h⟩ := ps_bd h
        refine ps_callVV (As := [.int v4_7, .int p1, .int (-(ps_min r23 (ps_min r30 r37)))]) (rest := []) (nA := 3) hG (c_X2_owe _ hw hr74) gX2_lessenThrees_X2_owe rfl (by decide +kernel) rfl ⟨Nat.le_of_ble_eq_true rfl, Nat.le_of_ble_eq_true rfl⟩ ⟨rfl, rfl⟩ ⟨Nat.le_of_ble_eq_true rfl, Nat.le_of_ble_eq_true rfl⟩ (ps_lt hw ps_q36.2.2.1) (ps_cel_11 ps_q36.1 _) rfl rfl (Nat.le_of_ble_eq_true rfl) dX2_lessenThrees_74 ?_
        refine ps_iload_n hG dX2_lessenThrees_77 rfl 4 rfl ?_
        refine ps_iconst (v := 3) hG dX2_lessenThrees_78 (by decide) ?_
        refine ps_iload hG dX2_lessenThrees_79 0 rfl ?_
        refine ps_imul hG dX2_lessenThrees_81 ?_
        refine ps_iadd hG dX2_lessenThrees_82 ?_
        refine ps_istore_n (lv' := [(3, .int (v3_7 + (3 * (ps_min r23 (ps_min r30 r37))))), (5, .int (ps_min r23 (ps_min r30 r37))), (0, .ref (w.2.1 36)), (1, .int p1), (2, .int p2), (4, .int v4_7)]) hG dX2_lessenThrees_83 rfl (by decide) rfl ?_
        exact (ps_sub [2, 3, 4, 0, 5] rfl (hJ84 S74 (v3_7 + (3 * (ps_min r23 (ps_min r30 r37)))) h))
  · show ps_V G 6 0 0 w S7 90 [(3, .int e3_7)] []
    refine ps_iload_n hG dX2_lessenThrees_90 rfl 0 rfl ?_
    cases h
    exact hret _ _ dX2_lessenThrees_91
def f_X2_lessenRings_L14 (v2_4 : Int32) (T14 : ps_S) (v1_14 : Int32) (v3_14 : Int32) : Option ((ps_S × Int32 × Int32) ⊕ (ps_S × Int32)) :=
  (if 16 ≤ v3_14 then
              some (.inr (T14, v1_14))
            else
              (ps_b2 (f_X2_lessenTwo T14 v2_4 v3_14) fun r24 S24 =>
              some (.inl (S24, v1_14 + r24, v3_14 + 1))))
def f_X2_lessenRings_L4  (T4 : ps_S) (v1_4 : Int32) (v2_4 : Int32) : Option ((ps_S × Int32 × Int32) ⊕ (ps_S × Int32)) :=
  (if 16 ≤ v2_4 then
        some (.inr (T4, v1_4))
      else
        (ps_b2 (ps_it (fun (a : ps_S × Int32 × Int32) => f_X2_lessenRings_L14 v2_4 a.1 a.2.1 a.2.2) ps_fu (T4, v1_4, v2_4 + 1)) (fun S14 e1_14 => some (.inl (S14, e1_14, v2_4 + 1)))))
def f_X2_lessenRings_L53 (v2_43 : Int32) (T53 : ps_S) (v1_53 : Int32) (v3_53 : Int32) : Option ((ps_S × Int32 × Int32) ⊕ (ps_S × Int32)) :=
  (if 16 ≤ v3_53 then
              some (.inr (T53, v1_53))
            else
              (ps_b2 (f_X2_lessenThrees T53 v2_43 v3_53) fun r63 S63 =>
              some (.inl (S63, v1_53 + r63, v3_53 + 1))))
def f_X2_lessenRings_L43  (T43 : ps_S) (v1_43 : Int32) (v2_43 : Int32) : Option ((ps_S × Int32 × Int32) ⊕ (ps_S × Int32)) :=
  (if 16 ≤ v2_43 then
        some (.inr (T43, v1_43))
      else
        (ps_b2 (ps_it (fun (a : ps_S × Int32 × Int32) => f_X2_lessenRings_L53 v2_43 a.1 a.2.1 a.2.2) ps_fu (T43, v1_43, v2_43 + 1)) (fun S53 e1_53 => some (.inl (S53, e1_53, v2_43 + 1)))))
def f_X2_lessenRings (S : ps_S) : Option (Int32 × ps_S) :=
  (ps_b2 (ps_it (fun (a : ps_S × Int32 × Int32) => f_X2_lessenRings_L4 a.1 a.2.1 a.2.2) ps_fu (S, 0, 0)) (fun S4 e1_4 => (ps_b2 (ps_it (fun (a : ps_S × Int32 × Int32) => f_X2_lessenRings_L43 a.1 a.2.1 a.2.2) ps_fu (S4, e1_4, 0)) (fun S43 e1_43 => some (e1_43, S43)))))
set_option maxHeartbeats 4000000 in
set_option maxRecDepth 100000 in
theorem c_X2_lessenRings (l : Launch) {w : ps_X} (hw : ps_ww w) {S S' : ps_S} {r : Int32} (h : f_X2_lessenRings S = some (r, S')) : ps_MetI l yX2_lessenRings wsX2_lessenRings (ps_rm 3 69) w [.ref (w.2.1 36)] S S' r := by
  refine ps_mkI (cc := cX2_lessenRings) (maxL := 4) (own := RX2) (by decide +kernel) rfl (Or.inl rfl) rfl (Nat.le_of_ble_eq_true rfl) rfl (fun G hl hG hret => ?_)
  unfold f_X2_lessenRings at h
  refine ps_iconst (v := 0) hG dX2_lessenRings_0 (by decide) ?_
  refine ps_istore_n (lv' := [(1, .int 0), (0, .ref (w.2.1 36))]) hG dX2_lessenRings_1 rfl (by decide) rfl ?_
  refine ps_iconst (v := 0) hG dX2_lessenRings_2 (by decide) ?_
  refine ps_istore_n (lv' := [(2, .int 0), (1, .int 0), (0, .ref (w.2.1 36))]) hG dX2_lessenRings_3 rfl (by decide) rfl ?_
  obtain ⟨S4, e1_4, hq4, h⟩ := ps_d2 h
  refine (ps_sub [2, 1, 0] rfl (ps_itV (fun (a : ps_S × Int32 × Int32) => ps_V G 4 0 0 w a.1 4 [(0, .ref (w.2.1 36)), (1, .int a.2.1), (2, .int a.2.2)] []) (fun (b : ps_S × Int32) => ps_V G 4 0 0 w b.1 41 [(0, .ref (w.2.1 36)), (1, .int b.2)] []) ?_ _ _ _ hq4 ?_))
  · intro a r9 h kc ke
    obtain ⟨T4, v1_4, v2_4⟩ := a
    replace h : f_X2_lessenRings_L4 T4 v1_4 v2_4 = some r9 := h
    show ps_V G 4 0 0 w T4 4 [(0, .ref (w.2.1 36)), (1, .int v1_4), (2, .int v2_4)] []
    unfold f_X2_lessenRings_L4 at h
    refine ps_iload_n hG dX2_lessenRings_4 rfl 2 rfl ?_
    refine ps_bipush (v := 16) hG dX2_lessenRings_5 (by decide) ?_
    refine ps_icmp_ge (tgt := 41) hG dX2_lessenRings_7 (by decide) (fun c7 => ?_) (fun c7 => ?_)
    · replace h := ps_ip c7 h
      cases h
      exact (ps_sub [0, 1] rfl (ke _ rfl))
    · replace h := ps_in c7 h
      refine ps_iload_n hG dX2_lessenRings_10 rfl 2 rfl ?_
      refine ps_iconst (v := 1) hG dX2_lessenRings_11 (by decide) ?_
      refine ps_iadd hG dX2_lessenRings_12 ?_
      refine ps_istore_n (lv' := [(3, .int (v2_4 + 1)), (0, .ref (w.2.1 36)), (1, .int v1_4), (2, .int v2_4)]) hG dX2_lessenRings_13 rfl (by decide) rfl ?_
      obtain ⟨S14, e1_14, hq14, h⟩ := ps_d2 h
      refine (ps_sub [1, 2, 3, 0] rfl (ps_itV (fun (a : ps_S × Int32 × Int32) => ps_V G 4 0 0 w a.1 14 [(0, .ref (w.2.1 36)), (1, .int a.2.1), (2, .int v2_4), (3, .int a.2.2)] []) (fun (b : ps_S × Int32) => ps_V G 4 0 0 w b.1 35 [(0, .ref (w.2.1 36)), (1, .int b.2), (2, .int v2_4)] []) ?_ _ _ _ hq14 ?_))
      · intro a r9 h kc ke
        obtain ⟨T14, v1_14, v3_14⟩ := a
        replace h : f_X2_lessenRings_L14 v2_4 T14 v1_14 v3_14 = some r9 := h
        show ps_V G 4 0 0 w T14 14 [(0, .ref (w.2.1 36)), (1, .int v1_14), (2, .int v2_4), (3, .int v3_14)] []
        unfold f_X2_lessenRings_L14 at h
        refine ps_iload_n hG dX2_lessenRings_14 rfl 3 rfl ?_
        refine ps_bipush (v := 16) hG dX2_lessenRings_15 (by decide) ?_
        refine ps_icmp_ge (tgt := 35) hG dX2_lessenRings_17 (by decide) (fun c17 => ?_) (fun c17 => ?_)
        · replace h := ps_ip c17 h
          cases h
          exact (ps_sub [0, 1, 2] rfl (ke _ rfl))
        · replace h := ps_in c17 h
          refine ps_iload_n hG dX2_lessenRings_20 rfl 1 rfl ?_
          refine ps_aload_n hG dX2_lessenRings_21 rfl 0 rfl ?_
          refine ps_iload_n hG dX2_lessenRings_22 rfl 2 rfl ?_
          refine ps_iload_n hG dX2_lessenRings_23 rfl 3 rfl ?_
          obtain ⟨r24, S24, hr24, h⟩ := ps_d2 h
          refine ps_callVI (As := [.int v2_4, .int v3_14]) (rest := [.int v1_14]) (nA := 2) hG (c_X2_lessenTwo _ hw hr24) gX2_lessenRings_X2_lessenTwo rfl (by decide +kernel) rfl ⟨Nat.le_of_ble_eq_true rfl, Nat.le_of_ble_eq_true rfl⟩ ⟨rfl, rfl⟩ ⟨Nat.le_of_ble_eq_true rfl, Nat.le_of_ble_eq_true rfl⟩ (ps_lt hw ps_q36.2.2.1) (ps_cel_11 ps_q36.1 _) rfl rfl (Nat.le_of_ble_eq_true rfl) dX2_lessenRings_24 ?_
          refine ps_iadd hG dX2_lessenRings_27 ?_
          refine ps_istore_n (lv' := [(1, .int (v1_14 + r24)), (0, .ref (w.2.1 36)), (2, .int v2_4), (3, .int v3_14)]) hG dX2_lessenRings_28 rfl (by decide) rfl ?_
          refine ps_iinc (lv' := [(3, .int (v3_14 + 1)), (1, .int (v1_14 + r24)), (0, .ref (w.2.1 36)), (2, .int v2_4)]) hG dX2_lessenRings_29 3 rfl (by rfl) (by decide) rfl ?_
          refine ps_goto (tgt := 14) hG dX2_lessenRings_32 (by decide) ?_
          cases h
          exact (ps_sub [2, 1, 3, 0] rfl (kc _ rfl))
      · show ps_V G 4 0 0 w S14 35 [(0, .ref (w.2.1 36)), (1, .int e1_14), (2, .int v2_4)] []
        refine ps_iinc (lv' := [(2, .int (v2_4 + 1)), (0, .ref (w.2.1 36)), (1, .int e1_14)]) hG dX2_lessenRings_35 2 rfl (by rfl) (by decide) rfl ?_
        refine ps_goto (tgt := 4) hG dX2_lessenRings_38 (by decide) ?_
        cases h
        exact (ps_sub [1, 2, 0] rfl (kc _ rfl))
  · show ps_V G 4 0 0 w S4 41 [(0, .ref (w.2.1 36)), (1, .int e1_4)] []
    refine ps_iconst (v := 0) hG dX2_lessenRings_41 (by decide) ?_
    refine ps_istore_n (lv' := [(2, .int 0), (0, .ref (w.2.1 36)), (1, .int e1_4)]) hG dX2_lessenRings_42 rfl (by decide) rfl ?_
    obtain ⟨S43, e1_43, hq43, h⟩ := ps_d2 h
    refine (ps_sub [1, 2, 0] rfl (ps_itV (fun (a : ps_S × Int32 × Int32) => ps_V G 4 0 0 w a.1 43 [(0, .ref (w.2.1 36)), (1, .int a.2.1), (2, .int a.2.2)] []) (fun (b : ps_S × Int32) => ps_V G 4 0 0 w b.1 80 [(1, .int b.2)] []) ?_ _ _ _ hq43 ?_))
    · intro a r9 h kc ke
      obtain ⟨T43, v1_43, v2_43⟩ := a
      replace h : f_X2_lessenRings_L43 T43 v1_43 v2_43 = some r9 := h
      show ps_V G 4 0 0 w T43 43 [(0, .ref (w.2.1 36)), (1, .int v1_43), (2, .int v2_43)] []
      unfold f_X2_lessenRings_L43 at h
      refine ps_iload_n hG dX2_lessenRings_43 rfl 2 rfl ?_
      refine ps_bipush (v := 16) hG dX2_lessenRings_44 (by decide) ?_
      refine ps_icmp_ge (tgt := 80) hG dX2_lessenRings_46 (by decide) (fun c46 => ?_) (fun c46 => ?_)
      · replace h := ps_ip c46 h
        cases h
        exact (ps_sub [1] rfl (ke _ rfl))
      · replace h := ps_in c46 h
        refine ps_iload_n hG dX2_lessenRings_49 rfl 2 rfl ?_
        refine ps_iconst (v := 1) hG dX2_lessenRings_50 (by decide) ?_
        refine ps_iadd hG dX2_lessenRings_51 ?_
        refine ps_istore_n (lv' := [(3, .int (v2_43 + 1)), (0, .ref (w.2.1 36)), (1, .int v1_43), (2, .int v2_43)]) hG dX2_lessenRings_52 rfl (by decide) rfl ?_
        obtain ⟨S53, e1_53, hq53, h⟩ := ps_d2 h
        refine (ps_sub [1, 2, 3, 0] rfl (ps_itV (fun (a : ps_S × Int32 × Int32) => ps_V G 4 0 0 w a.1 53 [(0, .ref (w.2.1 36)), (1, .int a.2.1), (2, .int v2_43), (3, .int a.2.2)] []) (fun (b : ps_S × Int32) => ps_V G 4 0 0 w b.1 74 [(0, .ref (w.2.1 36)), (1, .int b.2), (2, .int v2_43)] []) ?_ _ _ _ hq53 ?_))
        · intro a r9 h kc ke
          obtain ⟨T53, v1_53, v3_53⟩ := a
          replace h : f_X2_lessenRings_L53 v2_43 T53 v1_53 v3_53 = some r9 := h
          show ps_V G 4 0 0 w T53 53 [(0, .ref (w.2.1 36)), (1, .int v1_53), (2, .int v2_43), (3, .int v3_53)] []
          unfold f_X2_lessenRings_L53 at h
          refine ps_iload_n hG dX2_lessenRings_53 rfl 3 rfl ?_
          refine ps_bipush (v := 16) hG dX2_lessenRings_54 (by decide) ?_
          refine ps_icmp_ge (tgt := 74) hG dX2_lessenRings_56 (by decide) (fun c56 => ?_) (fun c56 => ?_)
          · replace h := ps_ip c56 h
            cases h
            exact (ps_sub [0, 1, 2] rfl (ke _ rfl))
          · replace h := ps_in c56 h
            refine ps_iload_n hG dX2_lessenRings_59 rfl 1 rfl ?_
            refine ps_aload_n hG dX2_lessenRings_60 rfl 0 rfl ?_
            refine ps_iload_n hG dX2_lessenRings_61 rfl 2 rfl ?_
            refine ps_iload_n hG dX2_lessenRings_62 rfl 3 rfl ?_
            obtain ⟨r63, S63, hr63, h⟩ := ps_d2 h
            refine ps_callVI (As := [.int v2_43, .int v3_53]) (rest := [.int v1_53]) (nA := 2) hG (c_X2_lessenThrees _ hw hr63) gX2_lessenRings_X2_lessenThrees rfl (by decide +kernel) rfl ⟨Nat.le_of_ble_eq_true rfl, Nat.le_of_ble_eq_true rfl⟩ ⟨rfl, rfl⟩ ⟨Nat.le_of_ble_eq_true rfl, Nat.le_of_ble_eq_true rfl⟩ (ps_lt hw ps_q36.2.2.1) (ps_cel_11 ps_q36.1 _) rfl rfl (Nat.le_of_ble_eq_true rfl) dX2_lessenRings_63 ?_
            refine ps_iadd hG dX2_lessenRings_66 ?_
            refine ps_istore_n (lv' := [(1, .int (v1_53 + r63)), (0, .ref (w.2.1 36)), (2, .int v2_43), (3, .int v3_53)]) hG dX2_lessenRings_67 rfl (by decide) rfl ?_
            refine ps_iinc (lv' := [(3, .int (v3_53 + 1)), (1, .int (v1_53 + r63)), (0, .ref (w.2.1 36)), (2, .int v2_43)]) hG dX2_lessenRings_68 3 rfl (by rfl) (by decide) rfl ?_
            refine ps_goto (tgt := 53) hG dX2_lessenRings_71 (by decide) ?_
            cases h
            exact (ps_sub [2, 1, 3, 0] rfl (kc _ rfl))
        · show ps_V G 4 0 0 w S53 74 [(0, .ref (w.2.1 36)), (1, .int e1_53), (2, .int v2_43)] []
          refine ps_iinc (lv' := [(2, .int (v2_43 + 1)), (0, .ref (w.2.1 36)), (1, .int e1_53)]) hG dX2_lessenRings_74 2 rfl (by rfl) (by decide) rfl ?_
          refine ps_goto (tgt := 43) hG dX2_lessenRings_77 (by decide) ?_
          cases h
          exact (ps_sub [1, 2, 0] rfl (kc _ rfl))
    · show ps_V G 4 0 0 w S43 80 [(1, .int e1_43)] []
      refine ps_iload_n hG dX2_lessenRings_80 rfl 0 rfl ?_
      cases h
      exact hret _ _ dX2_lessenRings_81
