def f_X4_isKey (p0 : Int32) : Option Int32 :=
  (if p0 < 0 then
    some 0
  else
    (if 256 ≤ p0 then
      some 0
    else
      some 1))
set_option maxHeartbeats 4000000 in
set_option maxRecDepth 100000 in
theorem c_X4_isKey (l : Launch) {w : ps_X} (hw : ps_ww w) {S : ps_S} {p0 : Int32} {r : Int32} (h : f_X4_isKey p0 = some r) : ps_MetI l yX4_isKey wsX4_isKey (ps_rm 0 0) w [.int p0] S S r := by
  refine ps_mkZ (cc := cX4_isKey) (maxL := 1) (own := RX4) (by decide +kernel) rfl rfl rfl (Nat.le_of_ble_eq_true rfl) rfl (fun G hl hG hret => ?_)
  unfold f_X4_isKey at h
  refine ps_iload_n hG dX4_isKey_0 rfl 0 rfl ?_
  refine ps_if_lt (tgt := 15) hG dX4_isKey_1 (by decide) (fun c1 => ?_) (fun c1 => ?_)
  · replace h := ps_ip c1 h
    refine ps_iconst (v := 0) hG dX4_isKey_15 (by decide) ?_
    cases h
    exact hret _ _ dX4_isKey_16 rfl
  · replace h := ps_in c1 h
    refine ps_iload_n hG dX4_isKey_4 rfl 0 rfl ?_
    refine ps_sipush (v := 256) hG dX4_isKey_5 (by decide) ?_
    refine ps_icmp_ge (tgt := 15) hG dX4_isKey_8 (by decide) (fun c8 => ?_) (fun c8 => ?_)
    · replace h := ps_ip c8 h
      refine ps_iconst (v := 0) hG dX4_isKey_15 (by decide) ?_
      cases h
      exact hret _ _ dX4_isKey_16 rfl
    · replace h := ps_in c8 h
      refine ps_iconst (v := 1) hG dX4_isKey_11 (by decide) ?_
      refine ps_goto (tgt := 16) hG dX4_isKey_12 (by decide) ?_
      cases h
      exact hret _ _ dX4_isKey_16 rfl
def f_X4_isPlace (p0 : Int32) (p1 : Int32) : Option Int32 :=
  (if p0 < 0 then
    some 0
  else
    (if 16 ≤ p0 then
      some 0
    else
      ((f_X4_isKey p1).bind fun r11 =>
      (if r11 = 0 then
        some 0
      else
        some 1))))
set_option maxHeartbeats 4000000 in
set_option maxRecDepth 100000 in
theorem c_X4_isPlace (l : Launch) {w : ps_X} (hw : ps_ww w) {S : ps_S} {p0 p1 : Int32} {r : Int32} (h : f_X4_isPlace p0 p1 = some r) : ps_MetI l yX4_isPlace wsX4_isPlace (ps_rm 1 20) w [.int p0, .int p1] S S r := by
  refine ps_mkZ (cc := cX4_isPlace) (maxL := 2) (own := RX4) (by decide +kernel) rfl rfl rfl (Nat.le_of_ble_eq_true rfl) rfl (fun G hl hG hret => ?_)
  unfold f_X4_isPlace at h
  refine ps_iload_n hG dX4_isPlace_0 rfl 0 rfl ?_
  refine ps_if_lt (tgt := 21) hG dX4_isPlace_1 (by decide) (fun c1 => ?_) (fun c1 => ?_)
  · replace h := ps_ip c1 h
    refine ps_iconst (v := 0) hG dX4_isPlace_21 (by decide) ?_
    cases h
    exact hret _ _ dX4_isPlace_22 rfl
  · replace h := ps_in c1 h
    refine ps_iload_n hG dX4_isPlace_4 rfl 0 rfl ?_
    refine ps_bipush (v := 16) hG dX4_isPlace_5 (by decide) ?_
    refine ps_icmp_ge (tgt := 21) hG dX4_isPlace_7 (by decide) (fun c7 => ?_) (fun c7 => ?_)
    · replace h := ps_ip c7 h
      refine ps_iconst (v := 0) hG dX4_isPlace_21 (by decide) ?_
      cases h
      exact hret _ _ dX4_isPlace_22 rfl
    · replace h := ps_in c7 h
      refine ps_iload_n hG dX4_isPlace_10 rfl 1 rfl ?_
      obtain ⟨r11, hr11, h⟩ := ps_bd h
      refine ps_callSI (As := [.int p1]) (rest := []) (nA := 1) hG (c_X4_isKey _ hw hr11) gX4_isPlace_X4_isKey rfl (by decide +kernel) rfl ⟨Nat.le_of_ble_eq_true rfl, Nat.le_of_ble_eq_true rfl⟩ ⟨rfl, rfl⟩ ⟨Nat.le_of_ble_eq_true rfl, Nat.le_of_ble_eq_true rfl⟩ rfl (Nat.le_of_ble_eq_true rfl) dX4_isPlace_11 ?_
      refine ps_if_eq (tgt := 21) hG dX4_isPlace_14 (by decide) (fun c14 => ?_) (fun c14 => ?_)
      · replace h := ps_ip c14 h
        refine ps_iconst (v := 0) hG dX4_isPlace_21 (by decide) ?_
        cases h
        exact hret _ _ dX4_isPlace_22 rfl
      · replace h := ps_in c14 h
        refine ps_iconst (v := 1) hG dX4_isPlace_17 (by decide) ?_
        refine ps_goto (tgt := 22) hG dX4_isPlace_18 (by decide) ?_
        cases h
        exact hret _ _ dX4_isPlace_22 rfl
def f_X4_mayTell (S : ps_S) (p1 : Int32) (p2 : Int32) : Option Int32 :=
  ((f_X4_isKey p2).bind fun r1 =>
  (if r1 = 0 then
    some 0
  else
    (if ps_ib p2 256 = true then
    (if (S 60 p2.toNatClampNeg) = (-1) then
      some 1
    else
      (if ps_ib p2 256 = true then
      (if (S 60 p2.toNatClampNeg) = p1 then
        some 1
      else
        some 0) else none)) else none)))
theorem inX4_mayTell_X4 : ∀ q ∈ wsX40, q ∈ wsX4_mayTell := fun _ h => List.mem_cons_of_mem _ (List.mem_append_right _ h)
theorem mX4_mayTell_9 : Cond.fieldLink RX4 9 (TX4 0).1 (TX4 0).2.1 (TX4 0).2.2.1 ∈ wsX4_mayTell := List.mem_of_getElem? (i := 1) rfl
set_option maxHeartbeats 4000000 in
set_option maxRecDepth 100000 in
theorem c_X4_mayTell (l : Launch) {w : ps_X} (hw : ps_ww w) {S : ps_S} {p1 p2 : Int32} {r : Int32} (h : f_X4_mayTell S p1 p2 = some r) : ps_MetI l yX4_mayTell wsX4_mayTell (ps_rm 1 20) w [.ref (w.2.1 59), .int p1, .int p2] S S r := by
  refine ps_mkZ (cc := cX4_mayTell) (maxL := 3) (own := RX4) (by decide +kernel) rfl rfl rfl (Nat.le_of_ble_eq_true rfl) rfl (fun G hl hG hret => ?_)
  unfold f_X4_mayTell at h
  refine ps_iload_n hG dX4_mayTell_0 rfl 2 rfl ?_
  obtain ⟨r1, hr1, h⟩ := ps_bd h
  refine ps_callSI (As := [.int p2]) (rest := []) (nA := 1) hG (c_X4_isKey _ hw hr1) gX4_mayTell_X4_isKey rfl (by decide +kernel) rfl ⟨Nat.le_of_ble_eq_true rfl, Nat.le_of_ble_eq_true rfl⟩ ⟨rfl, rfl⟩ ⟨Nat.le_of_ble_eq_true rfl, Nat.le_of_ble_eq_true rfl⟩ rfl (Nat.le_of_ble_eq_true rfl) dX4_mayTell_1 ?_
  refine ps_if_eq (tgt := 31) hG dX4_mayTell_4 (by decide) (fun c4 => ?_) (fun c4 => ?_)
  · replace h := ps_ip c4 h
    refine ps_iconst (v := 0) hG dX4_mayTell_31 (by decide) ?_
    cases h
    exact hret _ _ dX4_mayTell_32 rfl
  · replace h := ps_in c4 h
    refine ps_aload_n hG dX4_mayTell_7 rfl 0 rfl ?_
    refine ps_get13_0 hG hw inX4_mayTell_X4 ps_q59.1 (ps_lt hw ps_q59.2.2.1) mX4_mayTell_9 dX4_mayTell_8 ?_
    refine ps_iload_n hG dX4_mayTell_11 rfl 2 rfl ?_
    obtain ⟨hb12, h⟩ := ps_ig h
    refine ps_iald hG ps_q60.1 ps_q60.2.1 (ps_lt hw ps_q60.2.2.1) hb12 dX4_mayTell_12 ?_
    refine ps_iconst (v := (-1)) hG dX4_mayTell_13 (by decide) ?_
    refine ps_icmp_eq (tgt := 27) hG dX4_mayTell_14 (by decide) (fun c14 => ?_) (fun c14 => ?_)
    · replace h := ps_ip c14 h
      refine ps_iconst (v := 1) hG dX4_mayTell_27 (by decide) ?_
      refine ps_goto (tgt := 32) hG dX4_mayTell_28 (by decide) ?_
      cases h
      exact hret _ _ dX4_mayTell_32 rfl
    · replace h := ps_in c14 h
      refine ps_aload_n hG dX4_mayTell_17 rfl 0 rfl ?_
      refine ps_get13_0 hG hw inX4_mayTell_X4 ps_q59.1 (ps_lt hw ps_q59.2.2.1) mX4_mayTell_9 dX4_mayTell_18 ?_
      refine ps_iload_n hG dX4_mayTell_21 rfl 2 rfl ?_
      obtain ⟨hb22, h⟩ := ps_ig h
      refine ps_iald hG ps_q60.1 ps_q60.2.1 (ps_lt hw ps_q60.2.2.1) hb22 dX4_mayTell_22 ?_
      refine ps_iload_n hG dX4_mayTell_23 rfl 1 rfl ?_
      refine ps_icmp_ne (tgt := 31) hG dX4_mayTell_24 (by decide) (fun c24 => ?_) (fun c24 => ?_)
      · replace h := ps_in c24 h
        refine ps_iconst (v := 0) hG dX4_mayTell_31 (by decide) ?_
        cases h
        exact hret _ _ dX4_mayTell_32 rfl
      · replace h := ps_ip c24 h
        refine ps_iconst (v := 1) hG dX4_mayTell_27 (by decide) ?_
        refine ps_goto (tgt := 32) hG dX4_mayTell_28 (by decide) ?_
        cases h
        exact hret _ _ dX4_mayTell_32 rfl
def f_X4_claim (S : ps_S) (p1 : Int32) (p2 : Int32) : Option ps_S :=
  ((f_X4_mayTell S p1 p2).bind fun r3 =>
  (if r3 = 0 then
    some S
  else
    (if ps_ib p2 256 = true then
    some (ps_up S 60 p2.toNatClampNeg p1) else none)))
theorem inX4_claim_X4 : ∀ q ∈ wsX40, q ∈ wsX4_claim := fun _ h => List.mem_cons_of_mem _ (List.mem_append_right _ h)
theorem mX4_claim_9 : Cond.fieldLink RX4 9 (TX4 0).1 (TX4 0).2.1 (TX4 0).2.2.1 ∈ wsX4_claim := List.mem_of_getElem? (i := 1) rfl
set_option maxHeartbeats 4000000 in
set_option maxRecDepth 100000 in
theorem c_X4_claim (l : Launch) {w : ps_X} (hw : ps_ww w) {S S' : ps_S} {p1 p2 : Int32} (h : f_X4_claim S p1 p2 = some S') : ps_MetV l yX4_claim wsX4_claim (ps_rm 2 42) w [.ref (w.2.1 59), .int p1, .int p2] S S' := by
  refine ps_mkV (cc := cX4_claim) (maxL := 3) (own := RX4) (by decide +kernel) rfl rfl rfl (Nat.le_of_ble_eq_true rfl) rfl (fun G hl hG hret => ?_)
  unfold f_X4_claim at h
  refine ps_aload_n hG dX4_claim_0 rfl 0 rfl ?_
  refine ps_iload_n hG dX4_claim_1 rfl 1 rfl ?_
  refine ps_iload_n hG dX4_claim_2 rfl 2 rfl ?_
  obtain ⟨r3, hr3, h⟩ := ps_bd h
  refine ps_callVI (As := [.int p1, .int p2]) (rest := []) (nA := 2) hG (c_X4_mayTell _ hw hr3) gX4_claim_X4_mayTell rfl (by decide +kernel) rfl ⟨Nat.le_of_ble_eq_true rfl, Nat.le_of_ble_eq_true rfl⟩ ⟨rfl, rfl⟩ ⟨Nat.le_of_ble_eq_true rfl, Nat.le_of_ble_eq_true rfl⟩ (ps_lt hw ps_q59.2.2.1) (ps_cel_13 ps_q59.1 _) rfl rfl (Nat.le_of_ble_eq_true rfl) dX4_claim_3 ?_
  refine ps_if_eq (tgt := 16) hG dX4_claim_6 (by decide) (fun c6 => ?_) (fun c6 => ?_)
  · replace h := ps_ip c6 h
    cases h
    exact hret _ _ dX4_claim_16
  · replace h := ps_in c6 h
    refine ps_aload_n hG dX4_claim_9 rfl 0 rfl ?_
    refine ps_get13_0 hG hw inX4_claim_X4 ps_q59.1 (ps_lt hw ps_q59.2.2.1) mX4_claim_9 dX4_claim_10 ?_
    refine ps_iload_n hG dX4_claim_13 rfl 2 rfl ?_
    refine ps_iload_n hG dX4_claim_14 rfl 1 rfl ?_
    obtain ⟨hb15, h⟩ := ps_ig h
    refine ps_iast hG ps_q60.1 ps_q60.2.1 (ps_lt hw ps_q60.2.2.1) hb15 dX4_claim_15 ?_
    cases h
    exact hret _ _ dX4_claim_16
def f_X4_isNewer (p0 : Int32) (p1 : Int32) : Option Int32 :=
  (if p0 = (-1) then
    some 0
  else
    (if p1 = (-1) then
      some 1
    else
      (if (p0 / 1000) ≤ (p1 / 1000) then
        some 0
      else
        some 1)))
set_option maxHeartbeats 4000000 in
set_option maxRecDepth 100000 in
theorem c_X4_isNewer (l : Launch) {w : ps_X} (hw : ps_ww w) {S : ps_S} {p0 p1 : Int32} {r : Int32} (h : f_X4_isNewer p0 p1 = some r) : ps_MetI l yX4_isNewer wsX4_isNewer (ps_rm 0 0) w [.int p0, .int p1] S S r := by
  refine ps_mkZ (cc := cX4_isNewer) (maxL := 2) (own := RX4) (by decide +kernel) rfl rfl rfl (Nat.le_of_ble_eq_true rfl) rfl (fun G hl hG hret => ?_)
  unfold f_X4_isNewer at h
  refine ps_iload_n hG dX4_isNewer_0 rfl 0 rfl ?_
  refine ps_iconst (v := (-1)) hG dX4_isNewer_1 (by decide) ?_
  refine ps_icmp_eq (tgt := 27) hG dX4_isNewer_2 (by decide) (fun c2 => ?_) (fun c2 => ?_)
  · replace h := ps_ip c2 h
    refine ps_iconst (v := 0) hG dX4_isNewer_27 (by decide) ?_
    cases h
    exact hret _ _ dX4_isNewer_28 rfl
  · replace h := ps_in c2 h
    refine ps_iload_n hG dX4_isNewer_5 rfl 1 rfl ?_
    refine ps_iconst (v := (-1)) hG dX4_isNewer_6 (by decide) ?_
    refine ps_icmp_eq (tgt := 23) hG dX4_isNewer_7 (by decide) (fun c7 => ?_) (fun c7 => ?_)
    · replace h := ps_ip c7 h
      refine ps_iconst (v := 1) hG dX4_isNewer_23 (by decide) ?_
      refine ps_goto (tgt := 28) hG dX4_isNewer_24 (by decide) ?_
      cases h
      exact hret _ _ dX4_isNewer_28 rfl
    · replace h := ps_in c7 h
      refine ps_iload_n hG dX4_isNewer_10 rfl 0 rfl ?_
      refine ps_sipush (v := 1000) hG dX4_isNewer_11 (by decide) ?_
      refine ps_idiv hG dX4_isNewer_14 (by decide) ?_
      refine ps_iload_n hG dX4_isNewer_15 rfl 1 rfl ?_
      refine ps_sipush (v := 1000) hG dX4_isNewer_16 (by decide) ?_
      refine ps_idiv hG dX4_isNewer_19 (by decide) ?_
      refine ps_icmp_le (tgt := 27) hG dX4_isNewer_20 (by decide) (fun c20 => ?_) (fun c20 => ?_)
      · replace h := ps_ip c20 h
        refine ps_iconst (v := 0) hG dX4_isNewer_27 (by decide) ?_
        cases h
        exact hret _ _ dX4_isNewer_28 rfl
      · replace h := ps_in c20 h
        refine ps_iconst (v := 1) hG dX4_isNewer_23 (by decide) ?_
        refine ps_goto (tgt := 28) hG dX4_isNewer_24 (by decide) ?_
        cases h
        exact hret _ _ dX4_isNewer_28 rfl
def f_X4_keep (S : ps_S) (p1 : Int32) (p2 : Int32) (p3 : Int32) (p4 : Int32) : Option (Int32 × ps_S) :=
  ((f_X4_isPlace p1 p2).bind fun r12 =>
  (if r12 = 0 then
    some (0, S)
  else
    (if ps_ib p1 16 = true then
    (if ps_ib p2 256 = true then
    ((f_X4_isNewer ((1000 * p3) + p4) (S (62 + p1.toNatClampNeg) p2.toNatClampNeg)).bind fun r28 =>
    (if r28 = 0 then
      some (0, S)
    else
      (if ps_ib p1 16 = true then
      (if ps_ib p2 256 = true then
      some (1, ps_up S (62 + p1.toNatClampNeg) p2.toNatClampNeg ((1000 * p3) + p4)) else none) else none))) else none) else none)))
theorem inX4_keep_X4 : ∀ q ∈ wsX40, q ∈ wsX4_keep := fun _ h => List.mem_cons_of_mem _ (List.mem_append_right _ h)
theorem mX4_keep_17 : Cond.fieldLink RX4 17 (TX4 1).1 (TX4 1).2.1 (TX4 1).2.2.1 ∈ wsX4_keep := List.mem_of_getElem? (i := 1) rfl
set_option maxHeartbeats 4000000 in
set_option maxRecDepth 100000 in
theorem c_X4_keep (l : Launch) {w : ps_X} (hw : ps_ww w) {S S' : ps_S} {p1 p2 p3 p4 : Int32} {r : Int32} (h : f_X4_keep S p1 p2 p3 p4 = some (r, S')) : ps_MetI l yX4_keep wsX4_keep (ps_rm 2 41) w [.ref (w.2.1 59), .int p1, .int p2, .int p3, .int p4] S S' r := by
  refine ps_mkZ (cc := cX4_keep) (maxL := 6) (own := RX4) (by decide +kernel) rfl rfl rfl (Nat.le_of_ble_eq_true rfl) rfl (fun G hl hG hret => ?_)
  unfold f_X4_keep at h
  refine ps_sipush (v := 1000) hG dX4_keep_0 (by decide) ?_
  refine ps_iload_n hG dX4_keep_3 rfl 3 rfl ?_
  refine ps_imul hG dX4_keep_4 ?_
  refine ps_iload hG dX4_keep_5 4 rfl ?_
  refine ps_iadd hG dX4_keep_7 ?_
  refine ps_istore (lv' := [(5, .int ((1000 * p3) + p4)), (0, .ref (w.2.1 59)), (1, .int p1), (2, .int p2), (3, .int p3), (4, .int p4)]) hG dX4_keep_8 (by decide) rfl ?_
  refine ps_iload_n hG dX4_keep_10 rfl 2 rfl ?_
  refine ps_iload_n hG dX4_keep_11 rfl 3 rfl ?_
  obtain ⟨r12, hr12, h⟩ := ps_bd h
  refine ps_callSI (As := [.int p1, .int p2]) (rest := []) (nA := 2) hG (c_X4_isPlace _ hw hr12) gX4_keep_X4_isPlace rfl (by decide +kernel) rfl ⟨Nat.le_of_ble_eq_true rfl, Nat.le_of_ble_eq_true rfl⟩ ⟨rfl, rfl⟩ ⟨Nat.le_of_ble_eq_true rfl, Nat.le_of_ble_eq_true rfl⟩ rfl (Nat.le_of_ble_eq_true rfl) dX4_keep_12 ?_
  refine ps_if_eq (tgt := 34) hG dX4_keep_15 (by decide) (fun c15 => ?_) (fun c15 => ?_)
  · replace h := ps_ip c15 h
    refine ps_iconst (v := 0) hG dX4_keep_34 (by decide) ?_
    cases h
    exact hret _ _ dX4_keep_35 rfl
  · replace h := ps_in c15 h
    refine ps_iload hG dX4_keep_18 0 rfl ?_
    refine ps_aload_n hG dX4_keep_20 rfl 1 rfl ?_
    refine ps_get13_1 hG hw inX4_keep_X4 ps_q59.1 (ps_lt hw ps_q59.2.2.1) mX4_keep_17 dX4_keep_21 ?_
    refine ps_iload_n hG dX4_keep_24 rfl 2 rfl ?_
    obtain ⟨hb25, h⟩ := ps_ig h
    refine ps_aald (b := 62) hG ps_q61.1 ps_q61.2.1 (ps_lt hw ps_q61.2.2.1) rfl hb25 dX4_keep_25 ?_
    refine ps_iload_n hG dX4_keep_26 rfl 3 rfl ?_
    obtain ⟨hb27, h⟩ := ps_ig h
    refine ps_iald hG (ps_k62 hb25).1 (ps_k62 hb25).2.1 (ps_lt hw (ps_k62 hb25).2.2.1) hb27 dX4_keep_27 ?_
    obtain ⟨r28, hr28, h⟩ := ps_bd h
    refine ps_callSI (As := [.int ((1000 * p3) + p4), .int (S (62 + p1.toNatClampNeg) p2.toNatClampNeg)]) (rest := []) (nA := 2) hG (c_X4_isNewer _ hw hr28) gX4_keep_X4_isNewer rfl (by decide +kernel) rfl ⟨Nat.le_of_ble_eq_true rfl, Nat.le_of_ble_eq_true rfl⟩ ⟨rfl, rfl⟩ ⟨Nat.le_of_ble_eq_true rfl, Nat.le_of_ble_eq_true rfl⟩ rfl (Nat.le_of_ble_eq_true rfl) dX4_keep_28 ?_
    refine ps_if_ne (tgt := 36) hG dX4_keep_31 (by decide) (fun c31 => ?_) (fun c31 => ?_)
    · replace h := ps_in c31 h
      refine ps_aload_n hG dX4_keep_36 rfl 1 rfl ?_
      refine ps_get13_1 hG hw inX4_keep_X4 ps_q59.1 (ps_lt hw ps_q59.2.2.1) mX4_keep_17 dX4_keep_37 ?_
      refine ps_iload_n hG dX4_keep_40 rfl 2 rfl ?_
      obtain ⟨hb41, h⟩ := ps_ig h
      refine ps_aald (b := 62) hG ps_q61.1 ps_q61.2.1 (ps_lt hw ps_q61.2.2.1) rfl hb41 dX4_keep_41 ?_
      refine ps_iload_n hG dX4_keep_42 rfl 3 rfl ?_
      refine ps_iload hG dX4_keep_43 0 rfl ?_
      obtain ⟨hb45, h⟩ := ps_ig h
      refine ps_iast hG (ps_k62 hb41).1 (ps_k62 hb41).2.1 (ps_lt hw (ps_k62 hb41).2.2.1) hb45 dX4_keep_45 ?_
      refine ps_iconst (v := 1) hG dX4_keep_46 (by decide) ?_
      cases h
      exact hret _ _ dX4_keep_47 rfl
    · replace h := ps_ip c31 h
      refine ps_iconst (v := 0) hG dX4_keep_34 (by decide) ?_
      cases h
      exact hret _ _ dX4_keep_35 rfl
def f_X4_keptBy (S : ps_S) (p1 : Int32) (p2 : Int32) : Option Int32 :=
  ((f_X4_isPlace p1 p2).bind fun r2 =>
  (if r2 = 0 then
    some (-1)
  else
    (if ps_ib p1 16 = true then
    (if ps_ib p2 256 = true then
    some (S (62 + p1.toNatClampNeg) p2.toNatClampNeg) else none) else none)))
theorem inX4_keptBy_X4 : ∀ q ∈ wsX40, q ∈ wsX4_keptBy := fun _ h => List.mem_cons_of_mem _ (List.mem_append_right _ h)
theorem mX4_keptBy_17 : Cond.fieldLink RX4 17 (TX4 1).1 (TX4 1).2.1 (TX4 1).2.2.1 ∈ wsX4_keptBy := List.mem_of_getElem? (i := 1) rfl
set_option maxHeartbeats 4000000 in
set_option maxRecDepth 100000 in
theorem c_X4_keptBy (l : Launch) {w : ps_X} (hw : ps_ww w) {S : ps_S} {p1 p2 : Int32} {r : Int32} (h : f_X4_keptBy S p1 p2 = some r) : ps_MetI l yX4_keptBy wsX4_keptBy (ps_rm 2 41) w [.ref (w.2.1 59), .int p1, .int p2] S S r := by
  refine ps_mkI (cc := cX4_keptBy) (maxL := 3) (own := RX4) (by decide +kernel) rfl (Or.inl rfl) rfl (Nat.le_of_ble_eq_true rfl) rfl (fun G hl hG hret => ?_)
  unfold f_X4_keptBy at h
  refine ps_iload_n hG dX4_keptBy_0 rfl 1 rfl ?_
  refine ps_iload_n hG dX4_keptBy_1 rfl 2 rfl ?_
  obtain ⟨r2, hr2, h⟩ := ps_bd h
  refine ps_callSI (As := [.int p1, .int p2]) (rest := []) (nA := 2) hG (c_X4_isPlace _ hw hr2) gX4_keptBy_X4_isPlace rfl (by decide +kernel) rfl ⟨Nat.le_of_ble_eq_true rfl, Nat.le_of_ble_eq_true rfl⟩ ⟨rfl, rfl⟩ ⟨Nat.le_of_ble_eq_true rfl, Nat.le_of_ble_eq_true rfl⟩ rfl (Nat.le_of_ble_eq_true rfl) dX4_keptBy_2 ?_
  refine ps_if_eq (tgt := 19) hG dX4_keptBy_5 (by decide) (fun c5 => ?_) (fun c5 => ?_)
  · replace h := ps_ip c5 h
    refine ps_iconst (v := (-1)) hG dX4_keptBy_19 (by decide) ?_
    cases h
    exact hret _ _ dX4_keptBy_20
  · replace h := ps_in c5 h
    refine ps_aload_n hG dX4_keptBy_8 rfl 0 rfl ?_
    refine ps_get13_1 hG hw inX4_keptBy_X4 ps_q59.1 (ps_lt hw ps_q59.2.2.1) mX4_keptBy_17 dX4_keptBy_9 ?_
    refine ps_iload_n hG dX4_keptBy_12 rfl 1 rfl ?_
    obtain ⟨hb13, h⟩ := ps_ig h
    refine ps_aald (b := 62) hG ps_q61.1 ps_q61.2.1 (ps_lt hw ps_q61.2.2.1) rfl hb13 dX4_keptBy_13 ?_
    refine ps_iload_n hG dX4_keptBy_14 rfl 2 rfl ?_
    obtain ⟨hb15, h⟩ := ps_ig h
    refine ps_iald hG (ps_k62 hb13).1 (ps_k62 hb13).2.1 (ps_lt hw (ps_k62 hb13).2.2.1) hb15 dX4_keptBy_15 ?_
    refine ps_goto (tgt := 20) hG dX4_keptBy_16 (by decide) ?_
    cases h
    exact hret _ _ dX4_keptBy_20
