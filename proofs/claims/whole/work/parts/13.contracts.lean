def f_X1_firstFree_J42 (v2_2 : Int32)  : Option ((Int32) ⊕ ((Unit) ⊕ Int32)) :=
  some (.inl (v2_2 + 1))
def f_X1_firstFree_L2 (S : ps_S) (k1 : Nat) (v2_2 : Int32) : Option ((Int32) ⊕ ((Unit) ⊕ Int32)) :=
  (if 3 ≤ v2_2 then
        some (.inr (.inl ()))
      else
        ((f_X6_at S 29 v2_2).bind fun r15 =>
        (if r15 = (-1) then
          f_X1_firstFree_J42 v2_2
        else
          ((f_X8_owner S k1).bind fun r26 =>
          (if r15 = r26 then
            f_X1_firstFree_J42 v2_2
          else
            ((f_X8_isHeldBy S k1 r15).bind fun r34 =>
            (if r34 = 0 then
              some (.inr (.inr r15))
            else
              f_X1_firstFree_J42 v2_2)))))))
def f_X1_firstFree (S : ps_S) (k1 : Nat) : Option Int32 :=
  ps_bs (ps_it (fun (a : Int32) => f_X1_firstFree_L2 S k1 a) ps_fu 0)
  (fun q => some (-1))
  (fun q => some q)
theorem inX1_firstFree_X1 : ∀ q ∈ wsX10, q ∈ wsX1_firstFree := fun _ h => List.mem_cons_of_mem _ (List.mem_append_left _ (List.mem_append_left _ (List.mem_append_left _ (List.mem_append_right _ h))))
theorem mX1_firstFree_15 : Cond.fieldLink RX1 15 (TX1 1).1 (TX1 1).2.1 (TX1 1).2.2.1 ∈ wsX1_firstFree := List.mem_of_getElem? (i := 1) rfl
set_option maxHeartbeats 4000000 in
set_option maxRecDepth 100000 in
theorem c_X1_firstFree (l : Launch) {w : ps_X} (hw : ps_ww w) {k1 : Nat} (hk1 : ps_isF w k1) {S : ps_S} {r : Int32} (h : f_X1_firstFree S k1 = some r) : ps_MetI l yX1_firstFree wsX1_firstFree (ps_rm 1 25) w [.ref (w.2.1 58), .ref (w.2.1 k1)] S S r := by
  refine ps_mkI (cc := cX1_firstFree) (maxL := 4) (own := RX1) (by decide +kernel) rfl (Or.inl rfl) rfl (Nat.le_of_ble_eq_true rfl) rfl (fun G hl hG hret => ?_)
  unfold f_X1_firstFree at h
  refine ps_iconst (v := 0) hG dX1_firstFree_0 (by decide) ?_
  refine ps_istore_n (lv' := [(2, .int 0), (0, .ref (w.2.1 58)), (1, .ref (w.2.1 k1))]) hG dX1_firstFree_1 rfl (by decide) rfl ?_
  have h0 := ps_bd h
  obtain ⟨q2, hq2, h⟩ := h0
  refine (ps_sub [1, 2, 0] rfl (ps_itV (fun (a : Int32) => ps_V G 4 0 0 w S 2 [(0, .ref (w.2.1 58)), (1, .ref (w.2.1 k1)), (2, .int a)] []) (Sum.elim (fun (b : Unit) => ps_V G 4 0 0 w S 48 [] []) (fun (q : Int32) => ∀ pc lv, decode cX1_firstFree pc = .ok (.ireturn, 1) → ps_V G 4 0 0 w S pc lv [.int q])) ?_ _ _ _ hq2 ?_))
  · intro a r9 h kc ke
    obtain ⟨v2_2, hx9⟩ : ∃ x, x = a := ⟨_, rfl⟩
    subst hx9
    replace h : f_X1_firstFree_L2 S k1 v2_2 = some r9 := h
    show ps_V G 4 0 0 w S 2 [(0, .ref (w.2.1 58)), (1, .ref (w.2.1 k1)), (2, .int v2_2)] []
    unfold f_X1_firstFree_L2 at h
    refine ps_iload_n hG dX1_firstFree_2 rfl 2 rfl ?_
    refine ps_iconst (v := 3) hG dX1_firstFree_3 (by decide) ?_
    refine ps_icmp_ge (tgt := 48) hG dX1_firstFree_4 (by decide) (fun c4 => ?_) (fun c4 => ?_)
    · replace h := ps_ip c4 h
      cases h
      exact (ps_sub [] rfl (ke _ rfl))
    · replace h := ps_in c4 h
      refine ps_aload_n hG dX1_firstFree_7 rfl 0 rfl ?_
      refine ps_get10_1 hG hw inX1_firstFree_X1 ps_q58.1 (ps_lt hw ps_q58.2.2.1) mX1_firstFree_15 dX1_firstFree_8 ?_
      refine ps_callVR (As := []) (rest := []) (nA := 0) hG (c_X7_result _ hw) gX1_firstFree_X7_result rfl (by decide +kernel) rfl ⟨Nat.le_of_ble_eq_true rfl, Nat.le_of_ble_eq_true rfl⟩ ⟨rfl, rfl⟩ ⟨Nat.le_of_ble_eq_true rfl, Nat.le_of_ble_eq_true rfl⟩ (ps_lt hw ps_q22.2.2.1) (ps_cel_16 ps_q22.1 _) rfl rfl (Nat.le_of_ble_eq_true rfl) dX1_firstFree_11 ?_
      refine ps_iload_n hG dX1_firstFree_14 rfl 2 rfl ?_
      obtain ⟨r15, hr15, h⟩ := ps_bd h
      refine ps_callVI (As := [.int v2_2]) (rest := []) (nA := 1) hG (c_X6_at _ hw ps_isR_29 hr15) gX1_firstFree_X6_at rfl (by decide +kernel) rfl ⟨Nat.le_of_ble_eq_true rfl, Nat.le_of_ble_eq_true rfl⟩ ⟨rfl, rfl⟩ ⟨Nat.le_of_ble_eq_true rfl, Nat.le_of_ble_eq_true rfl⟩ (ps_lt hw ps_q29.2.2.1) (ps_cel_15 ps_q29.1 _) rfl rfl (Nat.le_of_ble_eq_true rfl) dX1_firstFree_15 ?_
      refine ps_istore_n (lv' := [(3, .int r15), (0, .ref (w.2.1 58)), (1, .ref (w.2.1 k1)), (2, .int v2_2)]) hG dX1_firstFree_18 rfl (by decide) rfl ?_
      refine ps_iload_n hG dX1_firstFree_19 rfl 0 rfl ?_
      refine ps_iconst (v := (-1)) hG dX1_firstFree_20 (by decide) ?_
      have hJ42 : f_X1_firstFree_J42 v2_2 = some r9 → ps_V G 4 0 0 w S 42 [(0, .ref (w.2.1 58)), (1, .ref (w.2.1 k1)), (2, .int v2_2)] [] := by
        intro h
        unfold f_X1_firstFree_J42 at h
        refine ps_iinc (lv' := [(2, .int (v2_2 + 1)), (0, .ref (w.2.1 58)), (1, .ref (w.2.1 k1))]) hG dX1_firstFree_42 2 rfl (by rfl) (by decide) rfl ?_
        refine ps_goto (tgt := 2) hG dX1_firstFree_45 (by decide) ?_
        cases h
        exact (ps_sub [1, 2, 0] rfl (kc _ rfl))
      refine ps_icmp_eq (tgt := 42) hG dX1_firstFree_21 (by decide) (fun c21 => ?_) (fun c21 => ?_)
      · replace h := ps_ip c21 h
        exact (ps_sub [1, 2, 3] rfl (hJ42  h))
      · replace h := ps_in c21 h
        refine ps_iload_n hG dX1_firstFree_24 rfl 0 rfl ?_
        refine ps_aload_n hG dX1_firstFree_25 rfl 2 rfl ?_
        obtain ⟨r26, hr26, h⟩ := ps_bd h
        refine ps_callVI (As := []) (rest := [.int r15]) (nA := 0) hG (c_X8_owner _ hw hk1 hr26) gX1_firstFree_X8_owner rfl (by decide +kernel) rfl ⟨Nat.le_of_ble_eq_true rfl, Nat.le_of_ble_eq_true rfl⟩ ⟨rfl, rfl⟩ ⟨Nat.le_of_ble_eq_true rfl, Nat.le_of_ble_eq_true rfl⟩ (ps_isF_0 hk1).2.2.1 (ps_cel_17 (ps_isF_0 hk1).1 _) rfl rfl (Nat.le_of_ble_eq_true rfl) dX1_firstFree_26 ?_
        refine ps_icmp_eq (tgt := 42) hG dX1_firstFree_29 (by decide) (fun c29 => ?_) (fun c29 => ?_)
        · replace h := ps_ip c29 h
          exact (ps_sub [1, 2, 3] rfl (hJ42  h))
        · replace h := ps_in c29 h
          refine ps_aload_n hG dX1_firstFree_32 rfl 2 rfl ?_
          refine ps_iload_n hG dX1_firstFree_33 rfl 0 rfl ?_
          obtain ⟨r34, hr34, h⟩ := ps_bd h
          refine ps_callVI (As := [.int r15]) (rest := []) (nA := 1) hG (c_X8_isHeldBy _ hw hk1 hr34) gX1_firstFree_X8_isHeldBy rfl (by decide +kernel) rfl ⟨Nat.le_of_ble_eq_true rfl, Nat.le_of_ble_eq_true rfl⟩ ⟨rfl, rfl⟩ ⟨Nat.le_of_ble_eq_true rfl, Nat.le_of_ble_eq_true rfl⟩ (ps_isF_0 hk1).2.2.1 (ps_cel_17 (ps_isF_0 hk1).1 _) rfl rfl (Nat.le_of_ble_eq_true rfl) dX1_firstFree_34 ?_
          refine ps_if_ne (tgt := 42) hG dX1_firstFree_37 (by decide) (fun c37 => ?_) (fun c37 => ?_)
          · replace h := ps_in c37 h
            exact (ps_sub [1, 2, 3] rfl (hJ42  h))
          · replace h := ps_ip c37 h
            refine ps_iload_n hG dX1_firstFree_40 rfl 0 rfl ?_
            cases h
            exact ke _ rfl _ _ dX1_firstFree_41
  · rcases q2 with q | q
    · skip
      show ps_V G 4 0 0 w S 48 [] []
      replace h : (some (-1)) = some r := h
      refine ps_iconst (v := (-1)) hG dX1_firstFree_48 (by decide) ?_
      cases h
      exact hret _ _ dX1_firstFree_49
    · cases h
      exact hret
def f_X1_storeMissing_J53 (v2_2 : Int32) (T53 : ps_S) : Option ((ps_S × Int32) ⊕ (ps_S)) :=
  some (.inl (T53, v2_2 + 1))
def f_X1_storeMissing_L2 (k1 : Nat) (T2 : ps_S) (v2_2 : Int32) : Option ((ps_S × Int32) ⊕ (ps_S)) :=
  (if 6 ≤ v2_2 then
        some (.inr T2)
      else
        ((f_X8_isHeld T2 k1 v2_2).bind fun r10 =>
        (if r10 = 0 then
          ((f_X8_owner T2 k1).bind fun r21 =>
          ((f_X8_key T2 k1 v2_2).bind fun r26 =>
          ((f_X7_run T2 r21 r26 2).bind fun S30 =>
          ((f_X1_firstFree S30 k1).bind fun r35 =>
          ((f_X5_isHonest S30 r35).bind fun r47 =>
          ((f_X8_hand S30 k1 v2_2 r35 r47).bind fun S50 =>
          f_X1_storeMissing_J53 v2_2 S50))))))
        else
          f_X1_storeMissing_J53 v2_2 T2)))
def f_X1_storeMissing (S : ps_S) (k1 : Nat) : Option ps_S :=
  ((ps_it (fun (a : ps_S × Int32) => f_X1_storeMissing_L2 k1 a.1 a.2) ps_fu (S, 0)).bind (fun S2 => some S2))
theorem inX1_storeMissing_X1 : ∀ q ∈ wsX10, q ∈ wsX1_storeMissing := fun _ h => List.mem_cons_of_mem _ (List.mem_append_left _ (List.mem_append_left _ (List.mem_append_left _ (List.mem_append_left _ (List.mem_append_left _ (List.mem_append_right _ h))))))
theorem mX1_storeMissing_15 : Cond.fieldLink RX1 15 (TX1 1).1 (TX1 1).2.1 (TX1 1).2.2.1 ∈ wsX1_storeMissing := List.mem_of_getElem? (i := 1) rfl
theorem mX1_storeMissing_9 : Cond.fieldLink RX1 9 (TX1 0).1 (TX1 0).2.1 (TX1 0).2.2.1 ∈ wsX1_storeMissing := List.mem_of_getElem? (i := 2) rfl
set_option maxHeartbeats 4000000 in
set_option maxRecDepth 100000 in
theorem c_X1_storeMissing (l : Launch) {w : ps_X} (hw : ps_ww w) {k1 : Nat} (hk1 : ps_isF w k1) {S S' : ps_S} (h : f_X1_storeMissing S k1 = some S') : ps_MetV l yX1_storeMissing wsX1_storeMissing (ps_rm 5 133) w [.ref (w.2.1 58), .ref (w.2.1 k1)] S S' := by
  refine ps_mkV (cc := cX1_storeMissing) (maxL := 4) (own := RX1) (by decide +kernel) rfl rfl rfl (Nat.le_of_ble_eq_true rfl) rfl (fun G hl hG hret => ?_)
  unfold f_X1_storeMissing at h
  refine ps_iconst (v := 0) hG dX1_storeMissing_0 (by decide) ?_
  refine ps_istore_n (lv' := [(2, .int 0), (0, .ref (w.2.1 58)), (1, .ref (w.2.1 k1))]) hG dX1_storeMissing_1 rfl (by decide) rfl ?_
  obtain ⟨S2, hq2, h⟩ := ps_bd h
  refine (ps_sub [1, 2, 0] rfl (ps_itV (fun (a : ps_S × Int32) => ps_V G 4 0 0 w a.1 2 [(0, .ref (w.2.1 58)), (1, .ref (w.2.1 k1)), (2, .int a.2)] []) (fun (b : ps_S) => ps_V G 4 0 0 w b 59 [] []) ?_ _ _ _ hq2 ?_))
  · intro a r9 h kc ke
    obtain ⟨T2, v2_2⟩ := a
    replace h : f_X1_storeMissing_L2 k1 T2 v2_2 = some r9 := h
    show ps_V G 4 0 0 w T2 2 [(0, .ref (w.2.1 58)), (1, .ref (w.2.1 k1)), (2, .int v2_2)] []
    unfold f_X1_storeMissing_L2 at h
    refine ps_iload_n hG dX1_storeMissing_2 rfl 2 rfl ?_
    refine ps_bipush (v := 6) hG dX1_storeMissing_3 (by decide) ?_
    refine ps_icmp_ge (tgt := 59) hG dX1_storeMissing_5 (by decide) (fun c5 => ?_) (fun c5 => ?_)
    · replace h := ps_ip c5 h
      cases h
      exact (ps_sub [] rfl (ke _ rfl))
    · replace h := ps_in c5 h
      refine ps_aload_n hG dX1_storeMissing_8 rfl 1 rfl ?_
      refine ps_iload_n hG dX1_storeMissing_9 rfl 2 rfl ?_
      obtain ⟨r10, hr10, h⟩ := ps_bd h
      refine ps_callVI (As := [.int v2_2]) (rest := []) (nA := 1) hG (c_X8_isHeld _ hw hk1 hr10) gX1_storeMissing_X8_isHeld rfl (by decide +kernel) rfl ⟨Nat.le_of_ble_eq_true rfl, Nat.le_of_ble_eq_true rfl⟩ ⟨rfl, rfl⟩ ⟨Nat.le_of_ble_eq_true rfl, Nat.le_of_ble_eq_true rfl⟩ (ps_isF_0 hk1).2.2.1 (ps_cel_17 (ps_isF_0 hk1).1 _) rfl rfl (Nat.le_of_ble_eq_true rfl) dX1_storeMissing_10 ?_
      have hJ53 : ∀ (T53 : ps_S), f_X1_storeMissing_J53 v2_2 T53 = some r9 → ps_V G 4 0 0 w T53 53 [(0, .ref (w.2.1 58)), (1, .ref (w.2.1 k1)), (2, .int v2_2)] [] := by
        intro T53 h
        unfold f_X1_storeMissing_J53 at h
        refine ps_iinc (lv' := [(2, .int (v2_2 + 1)), (0, .ref (w.2.1 58)), (1, .ref (w.2.1 k1))]) hG dX1_storeMissing_53 2 rfl (by rfl) (by decide) rfl ?_
        refine ps_goto (tgt := 2) hG dX1_storeMissing_56 (by decide) ?_
        cases h
        exact (ps_sub [1, 2, 0] rfl (kc _ rfl))
      refine ps_if_ne (tgt := 53) hG dX1_storeMissing_13 (by decide) (fun c13 => ?_) (fun c13 => ?_)
      · replace h := ps_in c13 h
        exact (ps_sub [0, 1, 2] rfl (hJ53 T2 h))
      · replace h := ps_ip c13 h
        refine ps_aload_n hG dX1_storeMissing_16 rfl 0 rfl ?_
        refine ps_get10_1 hG hw inX1_storeMissing_X1 ps_q58.1 (ps_lt hw ps_q58.2.2.1) mX1_storeMissing_15 dX1_storeMissing_17 ?_
        refine ps_aload_n hG dX1_storeMissing_20 rfl 1 rfl ?_
        obtain ⟨r21, hr21, h⟩ := ps_bd h
        refine ps_callVI (As := []) (rest := [.ref (w.2.1 22)]) (nA := 0) hG (c_X8_owner _ hw hk1 hr21) gX1_storeMissing_X8_owner rfl (by decide +kernel) rfl ⟨Nat.le_of_ble_eq_true rfl, Nat.le_of_ble_eq_true rfl⟩ ⟨rfl, rfl⟩ ⟨Nat.le_of_ble_eq_true rfl, Nat.le_of_ble_eq_true rfl⟩ (ps_isF_0 hk1).2.2.1 (ps_cel_17 (ps_isF_0 hk1).1 _) rfl rfl (Nat.le_of_ble_eq_true rfl) dX1_storeMissing_21 ?_
        refine ps_aload_n hG dX1_storeMissing_24 rfl 1 rfl ?_
        refine ps_iload_n hG dX1_storeMissing_25 rfl 2 rfl ?_
        obtain ⟨r26, hr26, h⟩ := ps_bd h
        refine ps_callVI (As := [.int v2_2]) (rest := [.int r21, .ref (w.2.1 22)]) (nA := 1) hG (c_X8_key _ hw hk1 hr26) gX1_storeMissing_X8_key rfl (by decide +kernel) rfl ⟨Nat.le_of_ble_eq_true rfl, Nat.le_of_ble_eq_true rfl⟩ ⟨rfl, rfl⟩ ⟨Nat.le_of_ble_eq_true rfl, Nat.le_of_ble_eq_true rfl⟩ (ps_isF_0 hk1).2.2.1 (ps_cel_17 (ps_isF_0 hk1).1 _) rfl rfl (Nat.le_of_ble_eq_true rfl) dX1_storeMissing_26 ?_
        refine ps_iconst (v := 2) hG dX1_storeMissing_29 (by decide) ?_
        obtain ⟨S30, hr30, h⟩ := ps_bd h
        refine ps_callVV (As := [.int r21, .int r26, .int 2]) (rest := []) (nA := 3) hG (c_X7_run _ hw hr30) gX1_storeMissing_X7_run rfl (by decide +kernel) rfl ⟨Nat.le_of_ble_eq_true rfl, Nat.le_of_ble_eq_true rfl⟩ ⟨rfl, rfl⟩ ⟨Nat.le_of_ble_eq_true rfl, Nat.le_of_ble_eq_true rfl⟩ (ps_lt hw ps_q22.2.2.1) (ps_cel_16 ps_q22.1 _) rfl rfl (Nat.le_of_ble_eq_true rfl) dX1_storeMissing_30 ?_
        refine ps_aload_n hG dX1_storeMissing_33 rfl 0 rfl ?_
        refine ps_aload_n hG dX1_storeMissing_34 rfl 1 rfl ?_
        obtain ⟨r35, hr35, h⟩ := ps_bd h
        refine ps_callVI (As := [.ref (w.2.1 k1)]) (rest := []) (nA := 1) hG (c_X1_firstFree _ hw hk1 hr35) gX1_storeMissing_X1_firstFree rfl (by decide +kernel) rfl ⟨Nat.le_of_ble_eq_true rfl, Nat.le_of_ble_eq_true rfl⟩ ⟨rfl, rfl⟩ ⟨Nat.le_of_ble_eq_true rfl, Nat.le_of_ble_eq_true rfl⟩ (ps_lt hw ps_q58.2.2.1) (ps_cel_10 ps_q58.1 _) rfl rfl (Nat.le_of_ble_eq_true rfl) dX1_storeMissing_35 ?_
        refine ps_istore_n (lv' := [(3, .int r35), (0, .ref (w.2.1 58)), (1, .ref (w.2.1 k1)), (2, .int v2_2)]) hG dX1_storeMissing_38 rfl (by decide) rfl ?_
        refine ps_aload_n hG dX1_storeMissing_39 rfl 2 rfl ?_
        refine ps_iload_n hG dX1_storeMissing_40 rfl 3 rfl ?_
        refine ps_iload_n hG dX1_storeMissing_41 rfl 0 rfl ?_
        refine ps_aload_n hG dX1_storeMissing_42 rfl 1 rfl ?_
        refine ps_get10_0 hG hw inX1_storeMissing_X1 ps_q58.1 (ps_lt hw ps_q58.2.2.1) mX1_storeMissing_9 dX1_storeMissing_43 ?_
        refine ps_iload_n hG dX1_storeMissing_46 rfl 0 rfl ?_
        obtain ⟨r47, hr47, h⟩ := ps_bd h
        refine ps_callVI (As := [.int r35]) (rest := [.int r35, .int v2_2, .ref (w.2.1 k1)]) (nA := 1) hG (c_X5_isHonest _ hw hr47) gX1_storeMissing_X5_isHonest rfl (by decide +kernel) rfl ⟨Nat.le_of_ble_eq_true rfl, Nat.le_of_ble_eq_true rfl⟩ ⟨rfl, rfl⟩ ⟨Nat.le_of_ble_eq_true rfl, Nat.le_of_ble_eq_true rfl⟩ (ps_lt hw ps_q1.2.2.1) (ps_cel_14 ps_q1.1 _) rfl rfl (Nat.le_of_ble_eq_true rfl) dX1_storeMissing_47 ?_
        obtain ⟨S50, hr50, h⟩ := ps_bd h
        refine ps_callVV (As := [.int v2_2, .int r35, .int r47]) (rest := []) (nA := 3) hG (c_X8_hand _ hw hk1 hr50) gX1_storeMissing_X8_hand rfl (by decide +kernel) rfl ⟨Nat.le_of_ble_eq_true rfl, Nat.le_of_ble_eq_true rfl⟩ ⟨rfl, rfl⟩ ⟨Nat.le_of_ble_eq_true rfl, Nat.le_of_ble_eq_true rfl⟩ (ps_isF_0 hk1).2.2.1 (ps_cel_17 (ps_isF_0 hk1).1 _) rfl rfl (Nat.le_of_ble_eq_true rfl) dX1_storeMissing_50 ?_
        exact (ps_sub [1, 2, 3] rfl (hJ53 S50 h))
  · show ps_V G 4 0 0 w S2 59 [] []
    cases h
    exact hret _ _ dX1_storeMissing_59
def f_X1_isAtHand (S : ps_S) (k1 : Nat) (p2 : Int32) : Option Int32 :=
  ((f_X8_isKept S k1 p2).bind fun r2 =>
  (if r2 = 0 then
    some 0
  else
    ((f_X8_holder S k1 p2).bind fun r14 =>
    ((f_X5_isOnline S r14).bind fun r17 =>
    (if r17 = 0 then
      some 0
    else
      some 1)))))
theorem inX1_isAtHand_X1 : ∀ q ∈ wsX10, q ∈ wsX1_isAtHand := fun _ h => List.mem_cons_of_mem _ (List.mem_append_left _ (List.mem_append_left _ (List.mem_append_right _ h)))
theorem mX1_isAtHand_9 : Cond.fieldLink RX1 9 (TX1 0).1 (TX1 0).2.1 (TX1 0).2.2.1 ∈ wsX1_isAtHand := List.mem_of_getElem? (i := 1) rfl
set_option maxHeartbeats 4000000 in
set_option maxRecDepth 100000 in
theorem c_X1_isAtHand (l : Launch) {w : ps_X} (hw : ps_ww w) {k1 : Nat} (hk1 : ps_isF w k1) {S : ps_S} {p2 : Int32} {r : Int32} (h : f_X1_isAtHand S k1 p2 = some r) : ps_MetI l yX1_isAtHand wsX1_isAtHand (ps_rm 2 42) w [.ref (w.2.1 58), .ref (w.2.1 k1), .int p2] S S r := by
  refine ps_mkZ (cc := cX1_isAtHand) (maxL := 3) (own := RX1) (by decide +kernel) rfl rfl rfl (Nat.le_of_ble_eq_true rfl) rfl (fun G hl hG hret => ?_)
  unfold f_X1_isAtHand at h
  refine ps_aload_n hG dX1_isAtHand_0 rfl 1 rfl ?_
  refine ps_iload_n hG dX1_isAtHand_1 rfl 2 rfl ?_
  obtain ⟨r2, hr2, h⟩ := ps_bd h
  refine ps_callVI (As := [.int p2]) (rest := []) (nA := 1) hG (c_X8_isKept _ hw hk1 hr2) gX1_isAtHand_X8_isKept rfl (by decide +kernel) rfl ⟨Nat.le_of_ble_eq_true rfl, Nat.le_of_ble_eq_true rfl⟩ ⟨rfl, rfl⟩ ⟨Nat.le_of_ble_eq_true rfl, Nat.le_of_ble_eq_true rfl⟩ (ps_isF_0 hk1).2.2.1 (ps_cel_17 (ps_isF_0 hk1).1 _) rfl rfl (Nat.le_of_ble_eq_true rfl) dX1_isAtHand_2 ?_
  refine ps_if_eq (tgt := 27) hG dX1_isAtHand_5 (by decide) (fun c5 => ?_) (fun c5 => ?_)
  · replace h := ps_ip c5 h
    refine ps_iconst (v := 0) hG dX1_isAtHand_27 (by decide) ?_
    cases h
    exact hret _ _ dX1_isAtHand_28 rfl
  · replace h := ps_in c5 h
    refine ps_aload_n hG dX1_isAtHand_8 rfl 0 rfl ?_
    refine ps_get10_0 hG hw inX1_isAtHand_X1 ps_q58.1 (ps_lt hw ps_q58.2.2.1) mX1_isAtHand_9 dX1_isAtHand_9 ?_
    refine ps_aload_n hG dX1_isAtHand_12 rfl 1 rfl ?_
    refine ps_iload_n hG dX1_isAtHand_13 rfl 2 rfl ?_
    obtain ⟨r14, hr14, h⟩ := ps_bd h
    refine ps_callVI (As := [.int p2]) (rest := [.ref (w.2.1 1)]) (nA := 1) hG (c_X8_holder _ hw hk1 hr14) gX1_isAtHand_X8_holder rfl (by decide +kernel) rfl ⟨Nat.le_of_ble_eq_true rfl, Nat.le_of_ble_eq_true rfl⟩ ⟨rfl, rfl⟩ ⟨Nat.le_of_ble_eq_true rfl, Nat.le_of_ble_eq_true rfl⟩ (ps_isF_0 hk1).2.2.1 (ps_cel_17 (ps_isF_0 hk1).1 _) rfl rfl (Nat.le_of_ble_eq_true rfl) dX1_isAtHand_14 ?_
    obtain ⟨r17, hr17, h⟩ := ps_bd h
    refine ps_callVI (As := [.int r14]) (rest := []) (nA := 1) hG (c_X5_isOnline _ hw hr17) gX1_isAtHand_X5_isOnline rfl (by decide +kernel) rfl ⟨Nat.le_of_ble_eq_true rfl, Nat.le_of_ble_eq_true rfl⟩ ⟨rfl, rfl⟩ ⟨Nat.le_of_ble_eq_true rfl, Nat.le_of_ble_eq_true rfl⟩ (ps_lt hw ps_q1.2.2.1) (ps_cel_14 ps_q1.1 _) rfl rfl (Nat.le_of_ble_eq_true rfl) dX1_isAtHand_17 ?_
    refine ps_if_eq (tgt := 27) hG dX1_isAtHand_20 (by decide) (fun c20 => ?_) (fun c20 => ?_)
    · replace h := ps_ip c20 h
      refine ps_iconst (v := 0) hG dX1_isAtHand_27 (by decide) ?_
      cases h
      exact hret _ _ dX1_isAtHand_28 rfl
    · replace h := ps_in c20 h
      refine ps_iconst (v := 1) hG dX1_isAtHand_23 (by decide) ?_
      refine ps_goto (tgt := 28) hG dX1_isAtHand_24 (by decide) ?_
      cases h
      exact hret _ _ dX1_isAtHand_28 rfl
def f_X1_challengePiece (S : ps_S) (k1 : Nat) (p2 : Int32) : Option ps_S :=
  ((f_X8_holder S k1 p2).bind fun r2 =>
  ((f_X1_isAtHand S k1 p2).bind fun r9 =>
  (if r9 = 0 then
    ((f_X8_missed S k1 p2).bind fun r39 =>
    (if 3 ≤ (r39 + 1) then
      ((f_X8_owner S k1).bind fun r69 =>
      ((f_X2_owe S r2 r69 10).bind fun S74 =>
      ((f_X8_hand S74 k1 p2 (-1) 0).bind fun S81 =>
      some S81)))
    else
      ((f_X8_missed S k1 p2).bind fun r52 =>
      ((f_X8_setMissed S k1 p2 (r52 + 1)).bind fun S57 =>
      some S57))))
  else
    ((f_X8_owner S k1).bind fun r20 =>
    ((f_X2_owe S r20 r2 3).bind fun S25 =>
    ((f_X8_setMissed S25 k1 p2 0).bind fun S31 =>
    some S31))))))
theorem inX1_challengePiece_X1 : ∀ q ∈ wsX10, q ∈ wsX1_challengePiece := fun _ h => List.mem_cons_of_mem _ (List.mem_append_left _ (List.mem_append_left _ (List.mem_append_left _ (List.mem_append_right _ h))))
theorem mX1_challengePiece_19 : Cond.fieldLink RX1 19 (TX1 2).1 (TX1 2).2.1 (TX1 2).2.2.1 ∈ wsX1_challengePiece := List.mem_of_getElem? (i := 1) rfl
set_option maxHeartbeats 4000000 in
set_option maxRecDepth 100000 in
theorem c_X1_challengePiece (l : Launch) {w : ps_X} (hw : ps_ww w) {k1 : Nat} (hk1 : ps_isF w k1) {S S' : ps_S} {p2 : Int32} (h : f_X1_challengePiece S k1 p2 = some S') : ps_MetV l yX1_challengePiece wsX1_challengePiece (ps_rm 3 64) w [.ref (w.2.1 58), .ref (w.2.1 k1), .int p2] S S' := by
  refine ps_mkV (cc := cX1_challengePiece) (maxL := 4) (own := RX1) (by decide +kernel) rfl rfl rfl (Nat.le_of_ble_eq_true rfl) rfl (fun G hl hG hret => ?_)
  unfold f_X1_challengePiece at h
  refine ps_aload_n hG dX1_challengePiece_0 rfl 1 rfl ?_
  refine ps_iload_n hG dX1_challengePiece_1 rfl 2 rfl ?_
  obtain ⟨r2, hr2, h⟩ := ps_bd h
  refine ps_callVI (As := [.int p2]) (rest := []) (nA := 1) hG (c_X8_holder _ hw hk1 hr2) gX1_challengePiece_X8_holder rfl (by decide +kernel) rfl ⟨Nat.le_of_ble_eq_true rfl, Nat.le_of_ble_eq_true rfl⟩ ⟨rfl, rfl⟩ ⟨Nat.le_of_ble_eq_true rfl, Nat.le_of_ble_eq_true rfl⟩ (ps_isF_0 hk1).2.2.1 (ps_cel_17 (ps_isF_0 hk1).1 _) rfl rfl (Nat.le_of_ble_eq_true rfl) dX1_challengePiece_2 ?_
  refine ps_istore_n (lv' := [(3, .int r2), (0, .ref (w.2.1 58)), (1, .ref (w.2.1 k1)), (2, .int p2)]) hG dX1_challengePiece_5 rfl (by decide) rfl ?_
  refine ps_aload_n hG dX1_challengePiece_6 rfl 1 rfl ?_
  refine ps_aload_n hG dX1_challengePiece_7 rfl 2 rfl ?_
  refine ps_iload_n hG dX1_challengePiece_8 rfl 3 rfl ?_
  obtain ⟨r9, hr9, h⟩ := ps_bd h
  refine ps_callVI (As := [.ref (w.2.1 k1), .int p2]) (rest := []) (nA := 2) hG (c_X1_isAtHand _ hw hk1 hr9) gX1_challengePiece_X1_isAtHand rfl (by decide +kernel) rfl ⟨Nat.le_of_ble_eq_true rfl, Nat.le_of_ble_eq_true rfl⟩ ⟨rfl, rfl⟩ ⟨Nat.le_of_ble_eq_true rfl, Nat.le_of_ble_eq_true rfl⟩ (ps_lt hw ps_q58.2.2.1) (ps_cel_10 ps_q58.1 _) rfl rfl (Nat.le_of_ble_eq_true rfl) dX1_challengePiece_9 ?_
  refine ps_if_eq (tgt := 37) hG dX1_challengePiece_12 (by decide) (fun c12 => ?_) (fun c12 => ?_)
  · replace h := ps_ip c12 h
    refine ps_aload_n hG dX1_challengePiece_37 rfl 2 rfl ?_
    refine ps_iload_n hG dX1_challengePiece_38 rfl 3 rfl ?_
    obtain ⟨r39, hr39, h⟩ := ps_bd h
    refine ps_callVI (As := [.int p2]) (rest := []) (nA := 1) hG (c_X8_missed _ hw hk1 hr39) gX1_challengePiece_X8_missed rfl (by decide +kernel) rfl ⟨Nat.le_of_ble_eq_true rfl, Nat.le_of_ble_eq_true rfl⟩ ⟨rfl, rfl⟩ ⟨Nat.le_of_ble_eq_true rfl, Nat.le_of_ble_eq_true rfl⟩ (ps_isF_0 hk1).2.2.1 (ps_cel_17 (ps_isF_0 hk1).1 _) rfl rfl (Nat.le_of_ble_eq_true rfl) dX1_challengePiece_39 ?_
    refine ps_iconst (v := 1) hG dX1_challengePiece_42 (by decide) ?_
    refine ps_iadd hG dX1_challengePiece_43 ?_
    refine ps_iconst (v := 3) hG dX1_challengePiece_44 (by decide) ?_
    refine ps_icmp_ge (tgt := 63) hG dX1_challengePiece_45 (by decide) (fun c45 => ?_) (fun c45 => ?_)
    · replace h := ps_ip c45 h
      refine ps_aload_n hG dX1_challengePiece_63 rfl 1 rfl ?_
      refine ps_get10_2 hG hw inX1_challengePiece_X1 ps_q58.1 (ps_lt hw ps_q58.2.2.1) mX1_challengePiece_19 dX1_challengePiece_64 ?_
      refine ps_iload_n hG dX1_challengePiece_67 rfl 0 rfl ?_
      refine ps_aload_n hG dX1_challengePiece_68 rfl 2 rfl ?_
      obtain ⟨r69, hr69, h⟩ := ps_bd h
      refine ps_callVI (As := []) (rest := [.int r2, .ref (w.2.1 36)]) (nA := 0) hG (c_X8_owner _ hw hk1 hr69) gX1_challengePiece_X8_owner rfl (by decide +kernel) rfl ⟨Nat.le_of_ble_eq_true rfl, Nat.le_of_ble_eq_true rfl⟩ ⟨rfl, rfl⟩ ⟨Nat.le_of_ble_eq_true rfl, Nat.le_of_ble_eq_true rfl⟩ (ps_isF_0 hk1).2.2.1 (ps_cel_17 (ps_isF_0 hk1).1 _) rfl rfl (Nat.le_of_ble_eq_true rfl) dX1_challengePiece_69 ?_
      refine ps_bipush (v := 10) hG dX1_challengePiece_72 (by decide) ?_
      obtain ⟨S74, hr74, h⟩ := ps_bd h
      refine ps_callVV (As := [.int r2, .int r69, .int 10]) (rest := []) (nA := 3) hG (c_X2_owe _ hw hr74) gX1_challengePiece_X2_owe rfl (by decide +kernel) rfl ⟨Nat.le_of_ble_eq_true rfl, Nat.le_of_ble_eq_true rfl⟩ ⟨rfl, rfl⟩ ⟨Nat.le_of_ble_eq_true rfl, Nat.le_of_ble_eq_true rfl⟩ (ps_lt hw ps_q36.2.2.1) (ps_cel_11 ps_q36.1 _) rfl rfl (Nat.le_of_ble_eq_true rfl) dX1_challengePiece_74 ?_
      refine ps_aload_n hG dX1_challengePiece_77 rfl 2 rfl ?_
      refine ps_iload_n hG dX1_challengePiece_78 rfl 3 rfl ?_
      refine ps_iconst (v := (-1)) hG dX1_challengePiece_79 (by decide) ?_
      refine ps_iconst (v := 0) hG dX1_challengePiece_80 (by decide) ?_
      obtain ⟨S81, hr81, h⟩ := ps_bd h
      refine ps_callVV (As := [.int p2, .int (-1), .int 0]) (rest := []) (nA := 3) hG (c_X8_hand _ hw hk1 hr81) gX1_challengePiece_X8_hand rfl (by decide +kernel) rfl ⟨Nat.le_of_ble_eq_true rfl, Nat.le_of_ble_eq_true rfl⟩ ⟨rfl, rfl⟩ ⟨Nat.le_of_ble_eq_true rfl, Nat.le_of_ble_eq_true rfl⟩ (ps_isF_0 hk1).2.2.1 (ps_cel_17 (ps_isF_0 hk1).1 _) rfl rfl (Nat.le_of_ble_eq_true rfl) dX1_challengePiece_81 ?_
      cases h
      exact hret _ _ dX1_challengePiece_84
    · replace h := ps_in c45 h
      refine ps_aload_n hG dX1_challengePiece_48 rfl 2 rfl ?_
      refine ps_iload_n hG dX1_challengePiece_49 rfl 3 rfl ?_
      refine ps_aload_n hG dX1_challengePiece_50 rfl 2 rfl ?_
      refine ps_iload_n hG dX1_challengePiece_51 rfl 3 rfl ?_
      obtain ⟨r52, hr52, h⟩ := ps_bd h
      refine ps_callVI (As := [.int p2]) (rest := [.int p2, .ref (w.2.1 k1)]) (nA := 1) hG (c_X8_missed _ hw hk1 hr52) gX1_challengePiece_X8_missed rfl (by decide +kernel) rfl ⟨Nat.le_of_ble_eq_true rfl, Nat.le_of_ble_eq_true rfl⟩ ⟨rfl, rfl⟩ ⟨Nat.le_of_ble_eq_true rfl, Nat.le_of_ble_eq_true rfl⟩ (ps_isF_0 hk1).2.2.1 (ps_cel_17 (ps_isF_0 hk1).1 _) rfl rfl (Nat.le_of_ble_eq_true rfl) dX1_challengePiece_52 ?_
      refine ps_iconst (v := 1) hG dX1_challengePiece_55 (by decide) ?_
      refine ps_iadd hG dX1_challengePiece_56 ?_
      obtain ⟨S57, hr57, h⟩ := ps_bd h
      refine ps_callVV (As := [.int p2, .int (r52 + 1)]) (rest := []) (nA := 2) hG (c_X8_setMissed _ hw hk1 hr57) gX1_challengePiece_X8_setMissed rfl (by decide +kernel) rfl ⟨Nat.le_of_ble_eq_true rfl, Nat.le_of_ble_eq_true rfl⟩ ⟨rfl, rfl⟩ ⟨Nat.le_of_ble_eq_true rfl, Nat.le_of_ble_eq_true rfl⟩ (ps_isF_0 hk1).2.2.1 (ps_cel_17 (ps_isF_0 hk1).1 _) rfl rfl (Nat.le_of_ble_eq_true rfl) dX1_challengePiece_57 ?_
      refine ps_goto (tgt := 84) hG dX1_challengePiece_60 (by decide) ?_
      cases h
      exact hret _ _ dX1_challengePiece_84
  · replace h := ps_in c12 h
    refine ps_aload_n hG dX1_challengePiece_15 rfl 1 rfl ?_
    refine ps_get10_2 hG hw inX1_challengePiece_X1 ps_q58.1 (ps_lt hw ps_q58.2.2.1) mX1_challengePiece_19 dX1_challengePiece_16 ?_
    refine ps_aload_n hG dX1_challengePiece_19 rfl 2 rfl ?_
    obtain ⟨r20, hr20, h⟩ := ps_bd h
    refine ps_callVI (As := []) (rest := [.ref (w.2.1 36)]) (nA := 0) hG (c_X8_owner _ hw hk1 hr20) gX1_challengePiece_X8_owner rfl (by decide +kernel) rfl ⟨Nat.le_of_ble_eq_true rfl, Nat.le_of_ble_eq_true rfl⟩ ⟨rfl, rfl⟩ ⟨Nat.le_of_ble_eq_true rfl, Nat.le_of_ble_eq_true rfl⟩ (ps_isF_0 hk1).2.2.1 (ps_cel_17 (ps_isF_0 hk1).1 _) rfl rfl (Nat.le_of_ble_eq_true rfl) dX1_challengePiece_20 ?_
    refine ps_iload_n hG dX1_challengePiece_23 rfl 0 rfl ?_
    refine ps_iconst (v := 3) hG dX1_challengePiece_24 (by decide) ?_
    obtain ⟨S25, hr25, h⟩ := ps_bd h
    refine ps_callVV (As := [.int r20, .int r2, .int 3]) (rest := []) (nA := 3) hG (c_X2_owe _ hw hr25) gX1_challengePiece_X2_owe rfl (by decide +kernel) rfl ⟨Nat.le_of_ble_eq_true rfl, Nat.le_of_ble_eq_true rfl⟩ ⟨rfl, rfl⟩ ⟨Nat.le_of_ble_eq_true rfl, Nat.le_of_ble_eq_true rfl⟩ (ps_lt hw ps_q36.2.2.1) (ps_cel_11 ps_q36.1 _) rfl rfl (Nat.le_of_ble_eq_true rfl) dX1_challengePiece_25 ?_
    refine ps_aload_n hG dX1_challengePiece_28 rfl 2 rfl ?_
    refine ps_iload_n hG dX1_challengePiece_29 rfl 3 rfl ?_
    refine ps_iconst (v := 0) hG dX1_challengePiece_30 (by decide) ?_
    obtain ⟨S31, hr31, h⟩ := ps_bd h
    refine ps_callVV (As := [.int p2, .int 0]) (rest := []) (nA := 2) hG (c_X8_setMissed _ hw hk1 hr31) gX1_challengePiece_X8_setMissed rfl (by decide +kernel) rfl ⟨Nat.le_of_ble_eq_true rfl, Nat.le_of_ble_eq_true rfl⟩ ⟨rfl, rfl⟩ ⟨Nat.le_of_ble_eq_true rfl, Nat.le_of_ble_eq_true rfl⟩ (ps_isF_0 hk1).2.2.1 (ps_cel_17 (ps_isF_0 hk1).1 _) rfl rfl (Nat.le_of_ble_eq_true rfl) dX1_challengePiece_31 ?_
    refine ps_goto (tgt := 84) hG dX1_challengePiece_34 (by decide) ?_
    cases h
    exact hret _ _ dX1_challengePiece_84
def f_X1_challenge_J37 (v2_17 : Int32) (T37 : ps_S) : Option ((ps_S × Int32) ⊕ (ps_S)) :=
  some (.inl (T37, v2_17 + 1))
def f_X1_challenge_L17 (k1 : Nat) (T17 : ps_S) (v2_17 : Int32) : Option ((ps_S × Int32) ⊕ (ps_S)) :=
  (if 6 ≤ v2_17 then
          some (.inr T17)
        else
          ((f_X8_isHeld T17 k1 v2_17).bind fun r25 =>
          (if r25 = 0 then
            f_X1_challenge_J37 v2_17 T17
          else
            ((f_X1_challengePiece T17 k1 v2_17).bind fun S34 =>
            f_X1_challenge_J37 v2_17 S34))))
def f_X1_challenge (S : ps_S) (k1 : Nat) : Option ps_S :=
  ((f_X8_owner S k1).bind fun r5 =>
  ((f_X5_isOnline S r5).bind fun r8 =>
  (if r8 = 0 then
    some S
  else
    ((ps_it (fun (a : ps_S × Int32) => f_X1_challenge_L17 k1 a.1 a.2) ps_fu (S, 0)).bind (fun S17 => some S17)))))
theorem inX1_challenge_X1 : ∀ q ∈ wsX10, q ∈ wsX1_challenge := fun _ h => List.mem_cons_of_mem _ (List.mem_append_left _ (List.mem_append_left _ (List.mem_append_left _ (List.mem_append_right _ h))))
theorem mX1_challenge_9 : Cond.fieldLink RX1 9 (TX1 0).1 (TX1 0).2.1 (TX1 0).2.2.1 ∈ wsX1_challenge := List.mem_of_getElem? (i := 1) rfl
set_option maxHeartbeats 4000000 in
set_option maxRecDepth 100000 in
theorem c_X1_challenge (l : Launch) {w : ps_X} (hw : ps_ww w) {k1 : Nat} (hk1 : ps_isF w k1) {S S' : ps_S} (h : f_X1_challenge S k1 = some S') : ps_MetV l yX1_challenge wsX1_challenge (ps_rm 4 87) w [.ref (w.2.1 58), .ref (w.2.1 k1)] S S' := by
  refine ps_mkV (cc := cX1_challenge) (maxL := 3) (own := RX1) (by decide +kernel) rfl rfl rfl (Nat.le_of_ble_eq_true rfl) rfl (fun G hl hG hret => ?_)
  unfold f_X1_challenge at h
  refine ps_aload_n hG dX1_challenge_0 rfl 0 rfl ?_
  refine ps_get10_0 hG hw inX1_challenge_X1 ps_q58.1 (ps_lt hw ps_q58.2.2.1) mX1_challenge_9 dX1_challenge_1 ?_
  refine ps_aload_n hG dX1_challenge_4 rfl 1 rfl ?_
  obtain ⟨r5, hr5, h⟩ := ps_bd h
  refine ps_callVI (As := []) (rest := [.ref (w.2.1 1)]) (nA := 0) hG (c_X8_owner _ hw hk1 hr5) gX1_challenge_X8_owner rfl (by decide +kernel) rfl ⟨Nat.le_of_ble_eq_true rfl, Nat.le_of_ble_eq_true rfl⟩ ⟨rfl, rfl⟩ ⟨Nat.le_of_ble_eq_true rfl, Nat.le_of_ble_eq_true rfl⟩ (ps_isF_0 hk1).2.2.1 (ps_cel_17 (ps_isF_0 hk1).1 _) rfl rfl (Nat.le_of_ble_eq_true rfl) dX1_challenge_5 ?_
  obtain ⟨r8, hr8, h⟩ := ps_bd h
  refine ps_callVI (As := [.int r5]) (rest := []) (nA := 1) hG (c_X5_isOnline _ hw hr8) gX1_challenge_X5_isOnline rfl (by decide +kernel) rfl ⟨Nat.le_of_ble_eq_true rfl, Nat.le_of_ble_eq_true rfl⟩ ⟨rfl, rfl⟩ ⟨Nat.le_of_ble_eq_true rfl, Nat.le_of_ble_eq_true rfl⟩ (ps_lt hw ps_q1.2.2.1) (ps_cel_14 ps_q1.1 _) rfl rfl (Nat.le_of_ble_eq_true rfl) dX1_challenge_8 ?_
  refine ps_if_ne (tgt := 15) hG dX1_challenge_11 (by decide) (fun c11 => ?_) (fun c11 => ?_)
  · replace h := ps_in c11 h
    refine ps_iconst (v := 0) hG dX1_challenge_15 (by decide) ?_
    refine ps_istore_n (lv' := [(2, .int 0), (0, .ref (w.2.1 58)), (1, .ref (w.2.1 k1))]) hG dX1_challenge_16 rfl (by decide) rfl ?_
    obtain ⟨S17, hq17, h⟩ := ps_bd h
    refine (ps_sub [1, 2, 0] rfl (ps_itV (fun (a : ps_S × Int32) => ps_V G 3 0 0 w a.1 17 [(0, .ref (w.2.1 58)), (1, .ref (w.2.1 k1)), (2, .int a.2)] []) (fun (b : ps_S) => ps_V G 3 0 0 w b 43 [] []) ?_ _ _ _ hq17 ?_))
    · intro a r9 h kc ke
      obtain ⟨T17, v2_17⟩ := a
      replace h : f_X1_challenge_L17 k1 T17 v2_17 = some r9 := h
      show ps_V G 3 0 0 w T17 17 [(0, .ref (w.2.1 58)), (1, .ref (w.2.1 k1)), (2, .int v2_17)] []
      unfold f_X1_challenge_L17 at h
      refine ps_iload_n hG dX1_challenge_17 rfl 2 rfl ?_
      refine ps_bipush (v := 6) hG dX1_challenge_18 (by decide) ?_
      refine ps_icmp_ge (tgt := 43) hG dX1_challenge_20 (by decide) (fun c20 => ?_) (fun c20 => ?_)
      · replace h := ps_ip c20 h
        cases h
        exact (ps_sub [] rfl (ke _ rfl))
      · replace h := ps_in c20 h
        refine ps_aload_n hG dX1_challenge_23 rfl 1 rfl ?_
        refine ps_iload_n hG dX1_challenge_24 rfl 2 rfl ?_
        obtain ⟨r25, hr25, h⟩ := ps_bd h
        refine ps_callVI (As := [.int v2_17]) (rest := []) (nA := 1) hG (c_X8_isHeld _ hw hk1 hr25) gX1_challenge_X8_isHeld rfl (by decide +kernel) rfl ⟨Nat.le_of_ble_eq_true rfl, Nat.le_of_ble_eq_true rfl⟩ ⟨rfl, rfl⟩ ⟨Nat.le_of_ble_eq_true rfl, Nat.le_of_ble_eq_true rfl⟩ (ps_isF_0 hk1).2.2.1 (ps_cel_17 (ps_isF_0 hk1).1 _) rfl rfl (Nat.le_of_ble_eq_true rfl) dX1_challenge_25 ?_
        have hJ37 : ∀ (T37 : ps_S), f_X1_challenge_J37 v2_17 T37 = some r9 → ps_V G 3 0 0 w T37 37 [(0, .ref (w.2.1 58)), (1, .ref (w.2.1 k1)), (2, .int v2_17)] [] := by
          intro T37 h
          unfold f_X1_challenge_J37 at h
          refine ps_iinc (lv' := [(2, .int (v2_17 + 1)), (0, .ref (w.2.1 58)), (1, .ref (w.2.1 k1))]) hG dX1_challenge_37 2 rfl (by rfl) (by decide) rfl ?_
          refine ps_goto (tgt := 17) hG dX1_challenge_40 (by decide) ?_
          cases h
          exact (ps_sub [1, 2, 0] rfl (kc _ rfl))
        refine ps_if_eq (tgt := 37) hG dX1_challenge_28 (by decide) (fun c28 => ?_) (fun c28 => ?_)
        · replace h := ps_ip c28 h
          exact (ps_sub [0, 1, 2] rfl (hJ37 T17 h))
        · replace h := ps_in c28 h
          refine ps_aload_n hG dX1_challenge_31 rfl 0 rfl ?_
          refine ps_aload_n hG dX1_challenge_32 rfl 1 rfl ?_
          refine ps_iload_n hG dX1_challenge_33 rfl 2 rfl ?_
          obtain ⟨S34, hr34, h⟩ := ps_bd h
          refine ps_callVV (As := [.ref (w.2.1 k1), .int v2_17]) (rest := []) (nA := 2) hG (c_X1_challengePiece _ hw hk1 hr34) gX1_challenge_X1_challengePiece rfl (by decide +kernel) rfl ⟨Nat.le_of_ble_eq_true rfl, Nat.le_of_ble_eq_true rfl⟩ ⟨rfl, rfl⟩ ⟨Nat.le_of_ble_eq_true rfl, Nat.le_of_ble_eq_true rfl⟩ (ps_lt hw ps_q58.2.2.1) (ps_cel_10 ps_q58.1 _) rfl rfl (Nat.le_of_ble_eq_true rfl) dX1_challenge_34 ?_
          exact (ps_sub [0, 1, 2] rfl (hJ37 S34 h))
    · show ps_V G 3 0 0 w S17 43 [] []
      cases h
      exact hret _ _ dX1_challenge_43
  · replace h := ps_ip c11 h
    cases h
    exact hret _ _ dX1_challenge_14
def f_X1_isToRepair_J47 (v2_7 : Int32) (v3_7 : Int32) (v4_7 : Int32) (s1_29 : Int32) (s1_47 : Int32) : Option ((Int32 × Int32 × Int32) ⊕ (Int32 × Int32)) :=
  some (.inl (v2_7 + s1_29, v3_7 + s1_47, v4_7 + 1))
def f_X1_isToRepair_J29 (S : ps_S) (k1 : Nat) (v2_7 : Int32) (v3_7 : Int32) (v4_7 : Int32) (s1_29 : Int32) : Option ((Int32 × Int32 × Int32) ⊕ (Int32 × Int32)) :=
  ((f_X1_isAtHand S k1 v4_7).bind fun r36 =>
          (if r36 = 0 then
            f_X1_isToRepair_J47 v2_7 v3_7 v4_7 s1_29 0
          else
            f_X1_isToRepair_J47 v2_7 v3_7 v4_7 s1_29 1))
def f_X1_isToRepair_L7 (S : ps_S) (k1 : Nat) (v2_7 : Int32) (v3_7 : Int32) (v4_7 : Int32) : Option ((Int32 × Int32 × Int32) ⊕ (Int32 × Int32)) :=
  (if 6 ≤ v4_7 then
        some (.inr (v2_7, v3_7))
      else
        ((f_X8_isHeld S k1 v4_7).bind fun r18 =>
        (if r18 = 0 then
          f_X1_isToRepair_J29 S k1 v2_7 v3_7 v4_7 0
        else
          f_X1_isToRepair_J29 S k1 v2_7 v3_7 v4_7 1)))
def f_X1_isToRepair (S : ps_S) (k1 : Nat) : Option Int32 :=
  (ps_b2 (ps_it (fun (a : Int32 × Int32 × Int32) => f_X1_isToRepair_L7 S k1 a.1 a.2.1 a.2.2) ps_fu (0, 0, 0)) (fun e2_7 e3_7 => ((f_X8_owner S k1).bind fun r60 =>
  ((f_X5_isOnline S r60).bind fun r63 =>
  (if r63 = 0 then
    some 0
  else
    (if 4 < e2_7 then
      some 0
    else
      (if e3_7 < 4 then
        some 0
      else
        some 1)))))))
theorem inX1_isToRepair_X1 : ∀ q ∈ wsX10, q ∈ wsX1_isToRepair := fun _ h => List.mem_cons_of_mem _ (List.mem_append_left _ (List.mem_append_left _ (List.mem_append_right _ h)))
theorem mX1_isToRepair_9 : Cond.fieldLink RX1 9 (TX1 0).1 (TX1 0).2.1 (TX1 0).2.2.1 ∈ wsX1_isToRepair := List.mem_of_getElem? (i := 1) rfl
set_option maxHeartbeats 4000000 in
set_option maxRecDepth 100000 in
theorem c_X1_isToRepair (l : Launch) {w : ps_X} (hw : ps_ww w) {k1 : Nat} (hk1 : ps_isF w k1) {S : ps_S} {r : Int32} (h : f_X1_isToRepair S k1 = some r) : ps_MetI l yX1_isToRepair wsX1_isToRepair (ps_rm 3 64) w [.ref (w.2.1 58), .ref (w.2.1 k1)] S S r := by
  refine ps_mkZ (cc := cX1_isToRepair) (maxL := 5) (own := RX1) (by decide +kernel) rfl rfl rfl (Nat.le_of_ble_eq_true rfl) rfl (fun G hl hG hret => ?_)
  unfold f_X1_isToRepair at h
  refine ps_iconst (v := 0) hG dX1_isToRepair_0 (by decide) ?_
  refine ps_istore_n (lv' := [(2, .int 0), (0, .ref (w.2.1 58)), (1, .ref (w.2.1 k1))]) hG dX1_isToRepair_1 rfl (by decide) rfl ?_
  refine ps_iconst (v := 0) hG dX1_isToRepair_2 (by decide) ?_
  refine ps_istore_n (lv' := [(3, .int 0), (2, .int 0), (0, .ref (w.2.1 58)), (1, .ref (w.2.1 k1))]) hG dX1_isToRepair_3 rfl (by decide) rfl ?_
  refine ps_iconst (v := 0) hG dX1_isToRepair_4 (by decide) ?_
  refine ps_istore (lv' := [(4, .int 0), (3, .int 0), (2, .int 0), (0, .ref (w.2.1 58)), (1, .ref (w.2.1 k1))]) hG dX1_isToRepair_5 (by decide) rfl ?_
  obtain ⟨e2_7, e3_7, hq7, h⟩ := ps_d2 h
  refine (ps_sub [3, 4, 2, 1, 0] rfl (ps_itV (fun (a : Int32 × Int32 × Int32) => ps_V G 5 0 0 w S 7 [(0, .ref (w.2.1 58)), (1, .ref (w.2.1 k1)), (2, .int a.1), (3, .int a.2.1), (4, .int a.2.2)] []) (fun (b : Int32 × Int32) => ps_V G 5 0 0 w S 55 [(0, .ref (w.2.1 58)), (1, .ref (w.2.1 k1)), (2, .int b.1), (3, .int b.2)] []) ?_ _ _ _ hq7 ?_))
  · intro a r9 h kc ke
    obtain ⟨v2_7, v3_7, v4_7⟩ := a
    replace h : f_X1_isToRepair_L7 S k1 v2_7 v3_7 v4_7 = some r9 := h
    show ps_V G 5 0 0 w S 7 [(0, .ref (w.2.1 58)), (1, .ref (w.2.1 k1)), (2, .int v2_7), (3, .int v3_7), (4, .int v4_7)] []
    unfold f_X1_isToRepair_L7 at h
    refine ps_iload hG dX1_isToRepair_7 4 rfl ?_
    refine ps_bipush (v := 6) hG dX1_isToRepair_9 (by decide) ?_
    refine ps_icmp_ge (tgt := 55) hG dX1_isToRepair_11 (by decide) (fun c11 => ?_) (fun c11 => ?_)
    · replace h := ps_ip c11 h
      cases h
      exact (ps_sub [0, 1, 2, 3] rfl (ke _ rfl))
    · replace h := ps_in c11 h
      refine ps_iload_n hG dX1_isToRepair_14 rfl 2 rfl ?_
      refine ps_aload_n hG dX1_isToRepair_15 rfl 1 rfl ?_
      refine ps_iload hG dX1_isToRepair_16 4 rfl ?_
      obtain ⟨r18, hr18, h⟩ := ps_bd h
      refine ps_callVI (As := [.int v4_7]) (rest := [.int v2_7]) (nA := 1) hG (c_X8_isHeld _ hw hk1 hr18) gX1_isToRepair_X8_isHeld rfl (by decide +kernel) rfl ⟨Nat.le_of_ble_eq_true rfl, Nat.le_of_ble_eq_true rfl⟩ ⟨rfl, rfl⟩ ⟨Nat.le_of_ble_eq_true rfl, Nat.le_of_ble_eq_true rfl⟩ (ps_isF_0 hk1).2.2.1 (ps_cel_17 (ps_isF_0 hk1).1 _) rfl rfl (Nat.le_of_ble_eq_true rfl) dX1_isToRepair_18 ?_
      have hJ29 : ∀ (s1_29 : Int32), f_X1_isToRepair_J29 S k1 v2_7 v3_7 v4_7 s1_29 = some r9 → ps_V G 5 0 0 w S 29 [(0, .ref (w.2.1 58)), (1, .ref (w.2.1 k1)), (3, .int v3_7), (4, .int v4_7)] [.int s1_29, .int v2_7] := by
        intro s1_29 h
        unfold f_X1_isToRepair_J29 at h
        refine ps_iadd hG dX1_isToRepair_29 ?_
        refine ps_istore_n (lv' := [(2, .int (v2_7 + s1_29)), (0, .ref (w.2.1 58)), (1, .ref (w.2.1 k1)), (3, .int v3_7), (4, .int v4_7)]) hG dX1_isToRepair_30 rfl (by decide) rfl ?_
        refine ps_iload_n hG dX1_isToRepair_31 rfl 3 rfl ?_
        refine ps_aload_n hG dX1_isToRepair_32 rfl 1 rfl ?_
        refine ps_aload_n hG dX1_isToRepair_33 rfl 2 rfl ?_
        refine ps_iload hG dX1_isToRepair_34 4 rfl ?_
        obtain ⟨r36, hr36, h⟩ := ps_bd h
        refine ps_callVI (As := [.ref (w.2.1 k1), .int v4_7]) (rest := [.int v3_7]) (nA := 2) hG (c_X1_isAtHand _ hw hk1 hr36) gX1_isToRepair_X1_isAtHand rfl (by decide +kernel) rfl ⟨Nat.le_of_ble_eq_true rfl, Nat.le_of_ble_eq_true rfl⟩ ⟨rfl, rfl⟩ ⟨Nat.le_of_ble_eq_true rfl, Nat.le_of_ble_eq_true rfl⟩ (ps_lt hw ps_q58.2.2.1) (ps_cel_10 ps_q58.1 _) rfl rfl (Nat.le_of_ble_eq_true rfl) dX1_isToRepair_36 ?_
        have hJ47 : ∀ (s1_47 : Int32), f_X1_isToRepair_J47 v2_7 v3_7 v4_7 s1_29 s1_47 = some r9 → ps_V G 5 0 0 w S 47 [(0, .ref (w.2.1 58)), (1, .ref (w.2.1 k1)), (2, .int (v2_7 + s1_29)), (4, .int v4_7)] [.int s1_47, .int v3_7] := by
          intro s1_47 h
          unfold f_X1_isToRepair_J47 at h
          refine ps_iadd hG dX1_isToRepair_47 ?_
          refine ps_istore_n (lv' := [(3, .int (v3_7 + s1_47)), (0, .ref (w.2.1 58)), (1, .ref (w.2.1 k1)), (2, .int (v2_7 + s1_29)), (4, .int v4_7)]) hG dX1_isToRepair_48 rfl (by decide) rfl ?_
          refine ps_iinc (lv' := [(4, .int (v4_7 + 1)), (3, .int (v3_7 + s1_47)), (0, .ref (w.2.1 58)), (1, .ref (w.2.1 k1)), (2, .int (v2_7 + s1_29))]) hG dX1_isToRepair_49 4 rfl (by rfl) (by decide) rfl ?_
          refine ps_goto (tgt := 7) hG dX1_isToRepair_52 (by decide) ?_
          cases h
          exact (ps_sub [2, 3, 4, 1, 0] rfl (kc _ rfl))
        refine ps_if_eq (tgt := 46) hG dX1_isToRepair_39 (by decide) (fun c39 => ?_) (fun c39 => ?_)
        · replace h := ps_ip c39 h
          refine ps_iconst (v := 0) hG dX1_isToRepair_46 (by decide) ?_
          exact (ps_sub [1, 2, 0, 4] rfl (hJ47 0 h))
        · replace h := ps_in c39 h
          refine ps_iconst (v := 1) hG dX1_isToRepair_42 (by decide) ?_
          refine ps_goto (tgt := 47) hG dX1_isToRepair_43 (by decide) ?_
          exact (ps_sub [1, 2, 0, 4] rfl (hJ47 1 h))
      refine ps_if_eq (tgt := 28) hG dX1_isToRepair_21 (by decide) (fun c21 => ?_) (fun c21 => ?_)
      · replace h := ps_ip c21 h
        refine ps_iconst (v := 0) hG dX1_isToRepair_28 (by decide) ?_
        exact (ps_sub [0, 1, 3, 4] rfl (hJ29 0 h))
      · replace h := ps_in c21 h
        refine ps_iconst (v := 1) hG dX1_isToRepair_24 (by decide) ?_
        refine ps_goto (tgt := 29) hG dX1_isToRepair_25 (by decide) ?_
        exact (ps_sub [0, 1, 3, 4] rfl (hJ29 1 h))
  · show ps_V G 5 0 0 w S 55 [(0, .ref (w.2.1 58)), (1, .ref (w.2.1 k1)), (2, .int e2_7), (3, .int e3_7)] []
    refine ps_aload_n hG dX1_isToRepair_55 rfl 0 rfl ?_
    refine ps_get10_0 hG hw inX1_isToRepair_X1 ps_q58.1 (ps_lt hw ps_q58.2.2.1) mX1_isToRepair_9 dX1_isToRepair_56 ?_
    refine ps_aload_n hG dX1_isToRepair_59 rfl 1 rfl ?_
    obtain ⟨r60, hr60, h⟩ := ps_bd h
    refine ps_callVI (As := []) (rest := [.ref (w.2.1 1)]) (nA := 0) hG (c_X8_owner _ hw hk1 hr60) gX1_isToRepair_X8_owner rfl (by decide +kernel) rfl ⟨Nat.le_of_ble_eq_true rfl, Nat.le_of_ble_eq_true rfl⟩ ⟨rfl, rfl⟩ ⟨Nat.le_of_ble_eq_true rfl, Nat.le_of_ble_eq_true rfl⟩ (ps_isF_0 hk1).2.2.1 (ps_cel_17 (ps_isF_0 hk1).1 _) rfl rfl (Nat.le_of_ble_eq_true rfl) dX1_isToRepair_60 ?_
    obtain ⟨r63, hr63, h⟩ := ps_bd h
    refine ps_callVI (As := [.int r60]) (rest := []) (nA := 1) hG (c_X5_isOnline _ hw hr63) gX1_isToRepair_X5_isOnline rfl (by decide +kernel) rfl ⟨Nat.le_of_ble_eq_true rfl, Nat.le_of_ble_eq_true rfl⟩ ⟨rfl, rfl⟩ ⟨Nat.le_of_ble_eq_true rfl, Nat.le_of_ble_eq_true rfl⟩ (ps_lt hw ps_q1.2.2.1) (ps_cel_14 ps_q1.1 _) rfl rfl (Nat.le_of_ble_eq_true rfl) dX1_isToRepair_63 ?_
    refine ps_if_eq (tgt := 83) hG dX1_isToRepair_66 (by decide) (fun c66 => ?_) (fun c66 => ?_)
    · replace h := ps_ip c66 h
      refine ps_iconst (v := 0) hG dX1_isToRepair_83 (by decide) ?_
      cases h
      exact hret _ _ dX1_isToRepair_84 rfl
    · replace h := ps_in c66 h
      refine ps_iload_n hG dX1_isToRepair_69 rfl 2 rfl ?_
      refine ps_iconst (v := 4) hG dX1_isToRepair_70 (by decide) ?_
      refine ps_icmp_gt (tgt := 83) hG dX1_isToRepair_71 (by decide) (fun c71 => ?_) (fun c71 => ?_)
      · replace h := ps_ip c71 h
        refine ps_iconst (v := 0) hG dX1_isToRepair_83 (by decide) ?_
        cases h
        exact hret _ _ dX1_isToRepair_84 rfl
      · replace h := ps_in c71 h
        refine ps_iload_n hG dX1_isToRepair_74 rfl 3 rfl ?_
        refine ps_iconst (v := 4) hG dX1_isToRepair_75 (by decide) ?_
        refine ps_icmp_lt (tgt := 83) hG dX1_isToRepair_76 (by decide) (fun c76 => ?_) (fun c76 => ?_)
        · replace h := ps_ip c76 h
          refine ps_iconst (v := 0) hG dX1_isToRepair_83 (by decide) ?_
          cases h
          exact hret _ _ dX1_isToRepair_84 rfl
        · replace h := ps_in c76 h
          refine ps_iconst (v := 1) hG dX1_isToRepair_79 (by decide) ?_
          refine ps_goto (tgt := 84) hG dX1_isToRepair_80 (by decide) ?_
          cases h
          exact hret _ _ dX1_isToRepair_84 rfl
def f_X1_give_J28 (v3_5 : Int32) (v4_5 : Int32) (s1_28 : Int32) : Option ((Int32 × Int32) ⊕ (Int32)) :=
  some (.inl (v3_5 + s1_28, v4_5 + 1))
def f_X1_give_L5 (S : ps_S) (k1 : Nat) (v3_5 : Int32) (v4_5 : Int32) : Option ((Int32 × Int32) ⊕ (Int32)) :=
  (if 6 ≤ v4_5 then
        some (.inr v3_5)
      else
        ((f_X1_isAtHand S k1 v4_5).bind fun r17 =>
        (if r17 = 0 then
          f_X1_give_J28 v3_5 v4_5 0
        else
          f_X1_give_J28 v3_5 v4_5 1)))
def f_X1_give_J98 (v5_57 : Int32) (T98 : ps_S) (v4_98 : Int32) : Option ((ps_S × Int32 × Int32) ⊕ (ps_S × Int32)) :=
  some (.inl (T98, v4_98, v5_57 + 1))
def f_X1_give_L57 (k1 : Nat) (p2 : Int32) (T57 : ps_S) (v4_57 : Int32) (v5_57 : Int32) : Option ((ps_S × Int32 × Int32) ⊕ (ps_S × Int32)) :=
  (if 6 ≤ v5_57 then
            some (.inr (T57, v4_57))
          else
            (if 4 ≤ v4_57 then
              some (.inr (T57, v4_57))
            else
              ((f_X1_isAtHand T57 k1 v5_57).bind fun r74 =>
              (if r74 = 0 then
                f_X1_give_J98 v5_57 T57 v4_57
              else
                ((f_X8_holder T57 k1 v5_57).bind fun r88 =>
                ((f_X2_owe T57 p2 r88 1).bind fun S92 =>
                f_X1_give_J98 v5_57 S92 (v4_57 + 1)))))))
def f_X1_give (S : ps_S) (k1 : Nat) (p2 : Int32) : Option (Int32 × ps_S) :=
  ((ps_it (fun (a : Int32 × Int32) => f_X1_give_L5 S k1 a.1 a.2) ps_fu (0, 0)).bind (fun e3_5 => ((f_X8_owner S k1).bind fun r38 =>
  (if p2 = r38 then
    some (0, S)
  else
    (if 4 ≤ e3_5 then
      (ps_b2 (ps_it (fun (a : ps_S × Int32 × Int32) => f_X1_give_L57 k1 p2 a.1 a.2.1 a.2.2) ps_fu (S, 0, 0)) (fun S57 e4_57 => some (e4_57, S57)))
    else
      some (0, S))))))
theorem inX1_give_X1 : ∀ q ∈ wsX10, q ∈ wsX1_give := fun _ h => List.mem_cons_of_mem _ (List.mem_append_left _ (List.mem_append_left _ (List.mem_append_left _ (List.mem_append_right _ h))))
theorem mX1_give_19 : Cond.fieldLink RX1 19 (TX1 2).1 (TX1 2).2.1 (TX1 2).2.2.1 ∈ wsX1_give := List.mem_of_getElem? (i := 1) rfl
set_option maxHeartbeats 4000000 in
set_option maxRecDepth 100000 in
theorem c_X1_give (l : Launch) {w : ps_X} (hw : ps_ww w) {k1 : Nat} (hk1 : ps_isF w k1) {S S' : ps_S} {p2 : Int32} {r : Int32} (h : f_X1_give S k1 p2 = some (r, S')) : ps_MetI l yX1_give wsX1_give (ps_rm 3 64) w [.ref (w.2.1 58), .ref (w.2.1 k1), .int p2] S S' r := by
  refine ps_mkI (cc := cX1_give) (maxL := 6) (own := RX1) (by decide +kernel) rfl (Or.inl rfl) rfl (Nat.le_of_ble_eq_true rfl) rfl (fun G hl hG hret => ?_)
  unfold f_X1_give at h
  refine ps_iconst (v := 0) hG dX1_give_0 (by decide) ?_
  refine ps_istore_n (lv' := [(3, .int 0), (0, .ref (w.2.1 58)), (1, .ref (w.2.1 k1)), (2, .int p2)]) hG dX1_give_1 rfl (by decide) rfl ?_
  refine ps_iconst (v := 0) hG dX1_give_2 (by decide) ?_
  refine ps_istore (lv' := [(4, .int 0), (3, .int 0), (0, .ref (w.2.1 58)), (1, .ref (w.2.1 k1)), (2, .int p2)]) hG dX1_give_3 (by decide) rfl ?_
  obtain ⟨e3_5, hq5, h⟩ := ps_bd h
  refine (ps_sub [2, 3, 4, 1, 0] rfl (ps_itV (fun (a : Int32 × Int32) => ps_V G 6 0 0 w S 5 [(0, .ref (w.2.1 58)), (1, .ref (w.2.1 k1)), (2, .int p2), (3, .int a.1), (4, .int a.2)] []) (fun (b : Int32) => ps_V G 6 0 0 w S 36 [(0, .ref (w.2.1 58)), (1, .ref (w.2.1 k1)), (2, .int p2), (3, .int b)] []) ?_ _ _ _ hq5 ?_))
  · intro a r9 h kc ke
    obtain ⟨v3_5, v4_5⟩ := a
    replace h : f_X1_give_L5 S k1 v3_5 v4_5 = some r9 := h
    show ps_V G 6 0 0 w S 5 [(0, .ref (w.2.1 58)), (1, .ref (w.2.1 k1)), (2, .int p2), (3, .int v3_5), (4, .int v4_5)] []
    unfold f_X1_give_L5 at h
    refine ps_iload hG dX1_give_5 4 rfl ?_
    refine ps_bipush (v := 6) hG dX1_give_7 (by decide) ?_
    refine ps_icmp_ge (tgt := 36) hG dX1_give_9 (by decide) (fun c9 => ?_) (fun c9 => ?_)
    · replace h := ps_ip c9 h
      cases h
      exact (ps_sub [0, 1, 2, 3] rfl (ke _ rfl))
    · replace h := ps_in c9 h
      refine ps_iload_n hG dX1_give_12 rfl 3 rfl ?_
      refine ps_aload_n hG dX1_give_13 rfl 0 rfl ?_
      refine ps_aload_n hG dX1_give_14 rfl 1 rfl ?_
      refine ps_iload hG dX1_give_15 4 rfl ?_
      obtain ⟨r17, hr17, h⟩ := ps_bd h
      refine ps_callVI (As := [.ref (w.2.1 k1), .int v4_5]) (rest := [.int v3_5]) (nA := 2) hG (c_X1_isAtHand _ hw hk1 hr17) gX1_give_X1_isAtHand rfl (by decide +kernel) rfl ⟨Nat.le_of_ble_eq_true rfl, Nat.le_of_ble_eq_true rfl⟩ ⟨rfl, rfl⟩ ⟨Nat.le_of_ble_eq_true rfl, Nat.le_of_ble_eq_true rfl⟩ (ps_lt hw ps_q58.2.2.1) (ps_cel_10 ps_q58.1 _) rfl rfl (Nat.le_of_ble_eq_true rfl) dX1_give_17 ?_
      have hJ28 : ∀ (s1_28 : Int32), f_X1_give_J28 v3_5 v4_5 s1_28 = some r9 → ps_V G 6 0 0 w S 28 [(0, .ref (w.2.1 58)), (1, .ref (w.2.1 k1)), (2, .int p2), (4, .int v4_5)] [.int s1_28, .int v3_5] := by
        intro s1_28 h
        unfold f_X1_give_J28 at h
        refine ps_iadd hG dX1_give_28 ?_
        refine ps_istore_n (lv' := [(3, .int (v3_5 + s1_28)), (0, .ref (w.2.1 58)), (1, .ref (w.2.1 k1)), (2, .int p2), (4, .int v4_5)]) hG dX1_give_29 rfl (by decide) rfl ?_
        refine ps_iinc (lv' := [(4, .int (v4_5 + 1)), (3, .int (v3_5 + s1_28)), (0, .ref (w.2.1 58)), (1, .ref (w.2.1 k1)), (2, .int p2)]) hG dX1_give_30 4 rfl (by rfl) (by decide) rfl ?_
        refine ps_goto (tgt := 5) hG dX1_give_33 (by decide) ?_
        cases h
        exact (ps_sub [2, 3, 4, 1, 0] rfl (kc _ rfl))
      refine ps_if_eq (tgt := 27) hG dX1_give_20 (by decide) (fun c20 => ?_) (fun c20 => ?_)
      · replace h := ps_ip c20 h
        refine ps_iconst (v := 0) hG dX1_give_27 (by decide) ?_
        exact (ps_sub [0, 1, 2, 4] rfl (hJ28 0 h))
      · replace h := ps_in c20 h
        refine ps_iconst (v := 1) hG dX1_give_23 (by decide) ?_
        refine ps_goto (tgt := 28) hG dX1_give_24 (by decide) ?_
        exact (ps_sub [0, 1, 2, 4] rfl (hJ28 1 h))
  · show ps_V G 6 0 0 w S 36 [(0, .ref (w.2.1 58)), (1, .ref (w.2.1 k1)), (2, .int p2), (3, .int e3_5)] []
    refine ps_iload_n hG dX1_give_36 rfl 2 rfl ?_
    refine ps_aload_n hG dX1_give_37 rfl 1 rfl ?_
    obtain ⟨r38, hr38, h⟩ := ps_bd h
    refine ps_callVI (As := []) (rest := [.int p2]) (nA := 0) hG (c_X8_owner _ hw hk1 hr38) gX1_give_X8_owner rfl (by decide +kernel) rfl ⟨Nat.le_of_ble_eq_true rfl, Nat.le_of_ble_eq_true rfl⟩ ⟨rfl, rfl⟩ ⟨Nat.le_of_ble_eq_true rfl, Nat.le_of_ble_eq_true rfl⟩ (ps_isF_0 hk1).2.2.1 (ps_cel_17 (ps_isF_0 hk1).1 _) rfl rfl (Nat.le_of_ble_eq_true rfl) dX1_give_38 ?_
    refine ps_icmp_eq (tgt := 49) hG dX1_give_41 (by decide) (fun c41 => ?_) (fun c41 => ?_)
    · replace h := ps_ip c41 h
      refine ps_iconst (v := 0) hG dX1_give_49 (by decide) ?_
      cases h
      exact hret _ _ dX1_give_50
    · replace h := ps_in c41 h
      refine ps_iload_n hG dX1_give_44 rfl 3 rfl ?_
      refine ps_iconst (v := 4) hG dX1_give_45 (by decide) ?_
      refine ps_icmp_ge (tgt := 51) hG dX1_give_46 (by decide) (fun c46 => ?_) (fun c46 => ?_)
      · replace h := ps_ip c46 h
        refine ps_iconst (v := 0) hG dX1_give_51 (by decide) ?_
        refine ps_istore (lv' := [(4, .int 0), (0, .ref (w.2.1 58)), (1, .ref (w.2.1 k1)), (2, .int p2), (3, .int e3_5)]) hG dX1_give_52 (by decide) rfl ?_
        refine ps_iconst (v := 0) hG dX1_give_54 (by decide) ?_
        refine ps_istore (lv' := [(5, .int 0), (4, .int 0), (0, .ref (w.2.1 58)), (1, .ref (w.2.1 k1)), (2, .int p2), (3, .int e3_5)]) hG dX1_give_55 (by decide) rfl ?_
        obtain ⟨S57, e4_57, hq57, h⟩ := ps_d2 h
        refine (ps_sub [2, 3, 4, 1, 0] rfl (ps_itV (fun (a : ps_S × Int32 × Int32) => ps_V G 6 0 0 w a.1 57 [(0, .ref (w.2.1 58)), (1, .ref (w.2.1 k1)), (2, .int p2), (4, .int a.2.1), (5, .int a.2.2)] []) (fun (b : ps_S × Int32) => ps_V G 6 0 0 w b.1 104 [(4, .int b.2)] []) ?_ _ _ _ hq57 ?_))
        · intro a r9 h kc ke
          obtain ⟨T57, v4_57, v5_57⟩ := a
          replace h : f_X1_give_L57 k1 p2 T57 v4_57 v5_57 = some r9 := h
          show ps_V G 6 0 0 w T57 57 [(0, .ref (w.2.1 58)), (1, .ref (w.2.1 k1)), (2, .int p2), (4, .int v4_57), (5, .int v5_57)] []
          unfold f_X1_give_L57 at h
          refine ps_iload hG dX1_give_57 4 rfl ?_
          refine ps_bipush (v := 6) hG dX1_give_59 (by decide) ?_
          refine ps_icmp_ge (tgt := 104) hG dX1_give_61 (by decide) (fun c61 => ?_) (fun c61 => ?_)
          · replace h := ps_ip c61 h
            cases h
            exact (ps_sub [3] rfl (ke _ rfl))
          · replace h := ps_in c61 h
            refine ps_iload hG dX1_give_64 3 rfl ?_
            refine ps_iconst (v := 4) hG dX1_give_66 (by decide) ?_
            refine ps_icmp_ge (tgt := 104) hG dX1_give_67 (by decide) (fun c67 => ?_) (fun c67 => ?_)
            · replace h := ps_ip c67 h
              cases h
              exact (ps_sub [3] rfl (ke _ rfl))
            · replace h := ps_in c67 h
              refine ps_aload_n hG dX1_give_70 rfl 0 rfl ?_
              refine ps_aload_n hG dX1_give_71 rfl 1 rfl ?_
              refine ps_iload hG dX1_give_72 4 rfl ?_
              obtain ⟨r74, hr74, h⟩ := ps_bd h
              refine ps_callVI (As := [.ref (w.2.1 k1), .int v5_57]) (rest := []) (nA := 2) hG (c_X1_isAtHand _ hw hk1 hr74) gX1_give_X1_isAtHand rfl (by decide +kernel) rfl ⟨Nat.le_of_ble_eq_true rfl, Nat.le_of_ble_eq_true rfl⟩ ⟨rfl, rfl⟩ ⟨Nat.le_of_ble_eq_true rfl, Nat.le_of_ble_eq_true rfl⟩ (ps_lt hw ps_q58.2.2.1) (ps_cel_10 ps_q58.1 _) rfl rfl (Nat.le_of_ble_eq_true rfl) dX1_give_74 ?_
              have hJ98 : ∀ (T98 : ps_S) (v4_98 : Int32), f_X1_give_J98 v5_57 T98 v4_98 = some r9 → ps_V G 6 0 0 w T98 98 [(0, .ref (w.2.1 58)), (1, .ref (w.2.1 k1)), (2, .int p2), (4, .int v4_98), (5, .int v5_57)] [] := by
                intro T98 v4_98 h
                unfold f_X1_give_J98 at h
                refine ps_iinc (lv' := [(5, .int (v5_57 + 1)), (0, .ref (w.2.1 58)), (1, .ref (w.2.1 k1)), (2, .int p2), (4, .int v4_98)]) hG dX1_give_98 4 rfl (by rfl) (by decide) rfl ?_
                refine ps_goto (tgt := 57) hG dX1_give_101 (by decide) ?_
                cases h
                exact (ps_sub [1, 2, 3, 4, 0] rfl (kc _ rfl))
              refine ps_if_eq (tgt := 98) hG dX1_give_77 (by decide) (fun c77 => ?_) (fun c77 => ?_)
              · replace h := ps_ip c77 h
                exact (ps_sub [0, 1, 2, 3, 4] rfl (hJ98 T57 v4_57 h))
              · replace h := ps_in c77 h
                refine ps_aload_n hG dX1_give_80 rfl 0 rfl ?_
                refine ps_get10_2 hG hw inX1_give_X1 ps_q58.1 (ps_lt hw ps_q58.2.2.1) mX1_give_19 dX1_give_81 ?_
                refine ps_iload_n hG dX1_give_84 rfl 2 rfl ?_
                refine ps_aload_n hG dX1_give_85 rfl 1 rfl ?_
                refine ps_iload hG dX1_give_86 4 rfl ?_
                obtain ⟨r88, hr88, h⟩ := ps_bd h
                refine ps_callVI (As := [.int v5_57]) (rest := [.int p2, .ref (w.2.1 36)]) (nA := 1) hG (c_X8_holder _ hw hk1 hr88) gX1_give_X8_holder rfl (by decide +kernel) rfl ⟨Nat.le_of_ble_eq_true rfl, Nat.le_of_ble_eq_true rfl⟩ ⟨rfl, rfl⟩ ⟨Nat.le_of_ble_eq_true rfl, Nat.le_of_ble_eq_true rfl⟩ (ps_isF_0 hk1).2.2.1 (ps_cel_17 (ps_isF_0 hk1).1 _) rfl rfl (Nat.le_of_ble_eq_true rfl) dX1_give_88 ?_
                refine ps_iconst (v := 1) hG dX1_give_91 (by decide) ?_
                obtain ⟨S92, hr92, h⟩ := ps_bd h
                refine ps_callVV (As := [.int p2, .int r88, .int 1]) (rest := []) (nA := 3) hG (c_X2_owe _ hw hr92) gX1_give_X2_owe rfl (by decide +kernel) rfl ⟨Nat.le_of_ble_eq_true rfl, Nat.le_of_ble_eq_true rfl⟩ ⟨rfl, rfl⟩ ⟨Nat.le_of_ble_eq_true rfl, Nat.le_of_ble_eq_true rfl⟩ (ps_lt hw ps_q36.2.2.1) (ps_cel_11 ps_q36.1 _) rfl rfl (Nat.le_of_ble_eq_true rfl) dX1_give_92 ?_
                refine ps_iinc (lv' := [(4, .int (v4_57 + 1)), (0, .ref (w.2.1 58)), (1, .ref (w.2.1 k1)), (2, .int p2), (5, .int v5_57)]) hG dX1_give_95 3 rfl (by rfl) (by decide) rfl ?_
                exact (ps_sub [1, 2, 3, 0, 4] rfl (hJ98 S92 (v4_57 + 1) h))
        · show ps_V G 6 0 0 w S57 104 [(4, .int e4_57)] []
          refine ps_iload hG dX1_give_104 0 rfl ?_
          cases h
          exact hret _ _ dX1_give_106
      · replace h := ps_in c46 h
        refine ps_iconst (v := 0) hG dX1_give_49 (by decide) ?_
        cases h
        exact hret _ _ dX1_give_50
