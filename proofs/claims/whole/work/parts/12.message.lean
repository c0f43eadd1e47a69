def f_X3_roundCount (S : ps_S) : Option Int32 :=
  some (S 78 2)
theorem inX3_roundCount_X3 : ∀ q ∈ wsX30, q ∈ wsX3_roundCount := fun _ h => List.mem_cons_of_mem _ (List.mem_append_right _ h)
theorem mX3_roundCount_19 : Cond.fieldLink RX3 19 (TX3 2).1 (TX3 2).2.1 (TX3 2).2.2.1 ∈ wsX3_roundCount := List.mem_of_getElem? (i := 1) rfl
set_option maxHeartbeats 4000000 in
set_option maxRecDepth 100000 in
theorem c_X3_roundCount (l : Launch) {w : ps_X} (hw : ps_ww w) {S : ps_S} {r : Int32} (h : f_X3_roundCount S = some r) : ps_MetI l yX3_roundCount wsX3_roundCount (ps_rm 0 0) w [.ref (w.2.1 78)] S S r := by
  refine ps_mkI (cc := cX3_roundCount) (maxL := 1) (own := RX3) (by decide +kernel) rfl (Or.inl rfl) rfl (Nat.le_of_ble_eq_true rfl) rfl (fun G hl hG hret => ?_)
  unfold f_X3_roundCount at h
  refine ps_aload_n hG dX3_roundCount_0 rfl 0 rfl ?_
  refine ps_get12_2 hG inX3_roundCount_X3 ps_q78.1 (ps_lt hw ps_q78.2.2.1) mX3_roundCount_19 dX3_roundCount_1 ?_
  cases h
  exact hret _ _ dX3_roundCount_4
def f_X3_tellAll_J58 (v4_5 : Int32) (T58 : ps_S) (v3_58 : Int32) : Option ((ps_S × Int32 × Int32) ⊕ (ps_S × Int32)) :=
  some (.inl (T58, v3_58, v4_5 + 1))
def f_X3_tellAll_L5 (p1 : Int32) (p2 : Int32) (T5 : ps_S) (v3_5 : Int32) (v4_5 : Int32) : Option ((ps_S × Int32 × Int32) ⊕ (ps_S × Int32)) :=
  (if 16 ≤ v4_5 then
        some (.inr (T5, v3_5))
      else
        ((f_X5_keptAt T5 p1 v4_5).bind fun r19 =>
        ((f_X5_answers T5 r19).bind fun r30 =>
        (if r30 = 0 then
          f_X3_tellAll_J58 v4_5 T5 v3_5
        else
          (if ps_ib r19 16 = true then
          (if (T5 79 r19.toNatClampNeg) = (-1) then
            (if ps_ib r19 16 = true then
            f_X3_tellAll_J58 v4_5 (ps_up T5 79 r19.toNatClampNeg p2) (v3_5 + 1) else none)
          else
            f_X3_tellAll_J58 v4_5 T5 v3_5) else none)))))
def f_X3_tellAll (S : ps_S) (p1 : Int32) (p2 : Int32) : Option (Int32 × ps_S) :=
  (ps_b2 (ps_it (fun (a : ps_S × Int32 × Int32) => f_X3_tellAll_L5 p1 p2 a.1 a.2.1 a.2.2) ps_fu (S, 0, 0)) (fun S5 e3_5 => some (e3_5, S5)))
theorem inX3_tellAll_X3 : ∀ q ∈ wsX30, q ∈ wsX3_tellAll := fun _ h => List.mem_cons_of_mem _ (List.mem_append_left _ (List.mem_append_right _ h))
theorem mX3_tellAll_15 : Cond.fieldLink RX3 15 (TX3 0).1 (TX3 0).2.1 (TX3 0).2.2.1 ∈ wsX3_tellAll := List.mem_of_getElem? (i := 1) rfl
theorem mX3_tellAll_9 : Cond.fieldLink RX3 9 (TX3 1).1 (TX3 1).2.1 (TX3 1).2.2.1 ∈ wsX3_tellAll := List.mem_of_getElem? (i := 2) rfl
set_option maxHeartbeats 4000000 in
set_option maxRecDepth 100000 in
theorem c_X3_tellAll (l : Launch) {w : ps_X} (hw : ps_ww w) {S S' : ps_S} {p1 p2 : Int32} {r : Int32} (h : f_X3_tellAll S p1 p2 = some (r, S')) : ps_MetI l yX3_tellAll wsX3_tellAll (ps_rm 2 43) w [.ref (w.2.1 78), .int p1, .int p2] S S' r := by
  refine ps_mkI (cc := cX3_tellAll) (maxL := 6) (own := RX3) (by decide +kernel) rfl (Or.inl rfl) rfl (Nat.le_of_ble_eq_true rfl) rfl (fun G hl hG hret => ?_)
  unfold f_X3_tellAll at h
  refine ps_iconst (v := 0) hG dX3_tellAll_0 (by decide) ?_
  refine ps_istore_n (lv' := [(3, .int 0), (0, .ref (w.2.1 78)), (1, .int p1), (2, .int p2)]) hG dX3_tellAll_1 rfl (by decide) rfl ?_
  refine ps_iconst (v := 0) hG dX3_tellAll_2 (by decide) ?_
  refine ps_istore (lv' := [(4, .int 0), (3, .int 0), (0, .ref (w.2.1 78)), (1, .int p1), (2, .int p2)]) hG dX3_tellAll_3 (by decide) rfl ?_
  obtain ⟨S5, e3_5, hq5, h⟩ := ps_d2 h
  refine (ps_sub [2, 3, 4, 1, 0] rfl (ps_itV (fun (a : ps_S × Int32 × Int32) => ps_V G 6 0 0 w a.1 5 [(0, .ref (w.2.1 78)), (1, .int p1), (2, .int p2), (3, .int a.2.1), (4, .int a.2.2)] []) (fun (b : ps_S × Int32) => ps_V G 6 0 0 w b.1 64 [(3, .int b.2)] []) ?_ _ _ _ hq5 ?_))
  · intro a r9 h kc ke
    obtain ⟨T5, v3_5, v4_5⟩ := a
    replace h : f_X3_tellAll_L5 p1 p2 T5 v3_5 v4_5 = some r9 := h
    show ps_V G 6 0 0 w T5 5 [(0, .ref (w.2.1 78)), (1, .int p1), (2, .int p2), (3, .int v3_5), (4, .int v4_5)] []
    unfold f_X3_tellAll_L5 at h
    refine ps_iload hG dX3_tellAll_5 4 rfl ?_
    refine ps_bipush (v := 16) hG dX3_tellAll_7 (by decide) ?_
    refine ps_icmp_ge (tgt := 64) hG dX3_tellAll_9 (by decide) (fun c9 => ?_) (fun c9 => ?_)
    · replace h := ps_ip c9 h
      cases h
      exact (ps_sub [3] rfl (ke _ rfl))
    · replace h := ps_in c9 h
      refine ps_aload_n hG dX3_tellAll_12 rfl 0 rfl ?_
      refine ps_get12_0 hG hw inX3_tellAll_X3 ps_q78.1 (ps_lt hw ps_q78.2.2.1) mX3_tellAll_15 dX3_tellAll_13 ?_
      refine ps_iload_n hG dX3_tellAll_16 rfl 1 rfl ?_
      refine ps_iload hG dX3_tellAll_17 4 rfl ?_
      obtain ⟨r19, hr19, h⟩ := ps_bd h
      refine ps_callVI (As := [.int p1, .int v4_5]) (rest := []) (nA := 2) hG (c_X5_keptAt _ hw hr19) gX3_tellAll_X5_keptAt rfl (by decide +kernel) rfl ⟨Nat.le_of_ble_eq_true rfl, Nat.le_of_ble_eq_true rfl⟩ ⟨rfl, rfl⟩ ⟨Nat.le_of_ble_eq_true rfl, Nat.le_of_ble_eq_true rfl⟩ (ps_lt hw ps_q1.2.2.1) (ps_cel_14 ps_q1.1 _) rfl rfl (Nat.le_of_ble_eq_true rfl) dX3_tellAll_19 ?_
      refine ps_istore (lv' := [(5, .int r19), (0, .ref (w.2.1 78)), (1, .int p1), (2, .int p2), (3, .int v3_5), (4, .int v4_5)]) hG dX3_tellAll_22 (by decide) rfl ?_
      refine ps_aload_n hG dX3_tellAll_24 rfl 1 rfl ?_
      refine ps_get12_0 hG hw inX3_tellAll_X3 ps_q78.1 (ps_lt hw ps_q78.2.2.1) mX3_tellAll_15 dX3_tellAll_25 ?_
      refine ps_iload hG dX3_tellAll_28 0 rfl ?_
      obtain ⟨r30, hr30, h⟩ := ps_bd h
      refine ps_callVI (As := [.int r19]) (rest := []) (nA := 1) hG (c_X5_answers _ hw hr30) gX3_tellAll_X5_answers rfl (by decide +kernel) rfl ⟨Nat.le_of_ble_eq_true rfl, Nat.le_of_ble_eq_true rfl⟩ ⟨rfl, rfl⟩ ⟨Nat.le_of_ble_eq_true rfl, Nat.le_of_ble_eq_true rfl⟩ (ps_lt hw ps_q1.2.2.1) (ps_cel_14 ps_q1.1 _) rfl rfl (Nat.le_of_ble_eq_true rfl) dX3_tellAll_30 ?_
      have hJ58 : ∀ (T58 : ps_S) (v3_58 : Int32), f_X3_tellAll_J58 v4_5 T58 v3_58 = some r9 → ps_V G 6 0 0 w T58 58 [(0, .ref (w.2.1 78)), (1, .int p1), (2, .int p2), (3, .int v3_58), (4, .int v4_5)] [] := by
        intro T58 v3_58 h
        unfold f_X3_tellAll_J58 at h
        refine ps_iinc (lv' := [(4, .int (v4_5 + 1)), (0, .ref (w.2.1 78)), (1, .int p1), (2, .int p2), (3, .int v3_58)]) hG dX3_tellAll_58 4 rfl (by rfl) (by decide) rfl ?_
        refine ps_goto (tgt := 5) hG dX3_tellAll_61 (by decide) ?_
        cases h
        exact (ps_sub [1, 2, 3, 4, 0] rfl (kc _ rfl))
      refine ps_if_eq (tgt := 58) hG dX3_tellAll_33 (by decide) (fun c33 => ?_) (fun c33 => ?_)
      · replace h := ps_ip c33 h
        exact (ps_sub [1, 2, 3, 4, 5] rfl (hJ58 T5 v3_5 h))
      · replace h := ps_in c33 h
        refine ps_aload_n hG dX3_tellAll_36 rfl 1 rfl ?_
        refine ps_get12_1 hG hw inX3_tellAll_X3 ps_q78.1 (ps_lt hw ps_q78.2.2.1) mX3_tellAll_9 dX3_tellAll_37 ?_
        refine ps_iload hG dX3_tellAll_40 0 rfl ?_
        obtain ⟨hb42, h⟩ := ps_ig h
        refine ps_iald hG ps_q79.1 ps_q79.2.1 (ps_lt hw ps_q79.2.2.1) hb42 dX3_tellAll_42 ?_
        refine ps_iconst (v := (-1)) hG dX3_tellAll_43 (by decide) ?_
        refine ps_icmp_ne (tgt := 58) hG dX3_tellAll_44 (by decide) (fun c44 => ?_) (fun c44 => ?_)
        · replace h := ps_in c44 h
          exact (ps_sub [1, 2, 3, 4, 5] rfl (hJ58 T5 v3_5 h))
        · replace h := ps_ip c44 h
          refine ps_aload_n hG dX3_tellAll_47 rfl 1 rfl ?_
          refine ps_get12_1 hG hw inX3_tellAll_X3 ps_q78.1 (ps_lt hw ps_q78.2.2.1) mX3_tellAll_9 dX3_tellAll_48 ?_
          refine ps_iload hG dX3_tellAll_51 0 rfl ?_
          refine ps_iload_n hG dX3_tellAll_53 rfl 3 rfl ?_
          obtain ⟨hb54, h⟩ := ps_ig h
          refine ps_iast hG ps_q79.1 ps_q79.2.1 (ps_lt hw ps_q79.2.2.1) hb54 dX3_tellAll_54 ?_
          refine ps_iinc (lv' := [(3, .int (v3_5 + 1)), (5, .int r19), (0, .ref (w.2.1 78)), (1, .int p1), (2, .int p2), (4, .int v4_5)]) hG dX3_tellAll_55 4 rfl (by rfl) (by decide) rfl ?_
          exact (ps_sub [2, 3, 4, 0, 5] rfl (hJ58 (ps_up T5 79 r19.toNatClampNeg p2) (v3_5 + 1) h))
  · show ps_V G 6 0 0 w S5 64 [(3, .int e3_5)] []
    refine ps_iload_n hG dX3_tellAll_64 rfl 0 rfl ?_
    cases h
    exact hret _ _ dX3_tellAll_65
def f_X3_tellInRound_J59 (v3_4 : Int32) (T59 : ps_S) (v2_59 : Int32) : Option ((ps_S × Int32 × Int32) ⊕ (ps_S × Int32)) :=
  some (.inl (T59, v2_59, v3_4 + 1))
def f_X3_tellInRound_J31 (p1 : Int32) (T4 : ps_S) (v2_4 : Int32) (v3_4 : Int32) (s0_31 : Int32) : Option ((ps_S × Int32 × Int32) ⊕ (ps_S × Int32)) :=
  (if s0_31 = 0 then
            f_X3_tellInRound_J59 v3_4 T4 v2_4
          else
            (if ps_ib v3_4 16 = true then
            (if (T4 79 v3_4.toNatClampNeg) = (p1 - 1) then
              (ps_b2 (f_X3_tellAll T4 v3_4 p1) fun r54 S54 =>
              f_X3_tellInRound_J59 v3_4 S54 (v2_4 + r54))
            else
              f_X3_tellInRound_J59 v3_4 T4 v2_4) else none))
def f_X3_tellInRound_L4 (p1 : Int32) (T4 : ps_S) (v2_4 : Int32) (v3_4 : Int32) : Option ((ps_S × Int32 × Int32) ⊕ (ps_S × Int32)) :=
  (if 16 ≤ v3_4 then
        some (.inr (T4, v2_4))
      else
        (if p1 = 1 then
          f_X3_tellInRound_J31 p1 T4 v2_4 v3_4 1
        else
          ((f_X5_isHonest T4 v3_4).bind fun r20 =>
          (if r20 = 0 then
            f_X3_tellInRound_J31 p1 T4 v2_4 v3_4 0
          else
            f_X3_tellInRound_J31 p1 T4 v2_4 v3_4 1))))
def f_X3_tellInRound (S : ps_S) (p1 : Int32) : Option (Int32 × ps_S) :=
  (ps_b2 (ps_it (fun (a : ps_S × Int32 × Int32) => f_X3_tellInRound_L4 p1 a.1 a.2.1 a.2.2) ps_fu (S, 0, 0)) (fun S4 e2_4 => some (e2_4, S4)))
theorem inX3_tellInRound_X3 : ∀ q ∈ wsX30, q ∈ wsX3_tellInRound := fun _ h => List.mem_cons_of_mem _ (List.mem_append_left _ (List.mem_append_right _ h))
theorem mX3_tellInRound_15 : Cond.fieldLink RX3 15 (TX3 0).1 (TX3 0).2.1 (TX3 0).2.2.1 ∈ wsX3_tellInRound := List.mem_of_getElem? (i := 1) rfl
theorem mX3_tellInRound_9 : Cond.fieldLink RX3 9 (TX3 1).1 (TX3 1).2.1 (TX3 1).2.2.1 ∈ wsX3_tellInRound := List.mem_of_getElem? (i := 2) rfl
set_option maxHeartbeats 4000000 in
set_option maxRecDepth 100000 in
theorem c_X3_tellInRound (l : Launch) {w : ps_X} (hw : ps_ww w) {S S' : ps_S} {p1 : Int32} {r : Int32} (h : f_X3_tellInRound S p1 = some (r, S')) : ps_MetI l yX3_tellInRound wsX3_tellInRound (ps_rm 3 68) w [.ref (w.2.1 78), .int p1] S S' r := by
  refine ps_mkI (cc := cX3_tellInRound) (maxL := 5) (own := RX3) (by decide +kernel) rfl (Or.inl rfl) rfl (Nat.le_of_ble_eq_true rfl) rfl (fun G hl hG hret => ?_)
  unfold f_X3_tellInRound at h
  refine ps_iconst (v := 0) hG dX3_tellInRound_0 (by decide) ?_
  refine ps_istore_n (lv' := [(2, .int 0), (0, .ref (w.2.1 78)), (1, .int p1)]) hG dX3_tellInRound_1 rfl (by decide) rfl ?_
  refine ps_iconst (v := 0) hG dX3_tellInRound_2 (by decide) ?_
  refine ps_istore_n (lv' := [(3, .int 0), (2, .int 0), (0, .ref (w.2.1 78)), (1, .int p1)]) hG dX3_tellInRound_3 rfl (by decide) rfl ?_
  obtain ⟨S4, e2_4, hq4, h⟩ := ps_d2 h
  refine (ps_sub [2, 3, 1, 0] rfl (ps_itV (fun (a : ps_S × Int32 × Int32) => ps_V G 5 0 0 w a.1 4 [(0, .ref (w.2.1 78)), (1, .int p1), (2, .int a.2.1), (3, .int a.2.2)] []) (fun (b : ps_S × Int32) => ps_V G 5 0 0 w b.1 65 [(2, .int b.2)] []) ?_ _ _ _ hq4 ?_))
  · intro a r9 h kc ke
    obtain ⟨T4, v2_4, v3_4⟩ := a
    replace h : f_X3_tellInRound_L4 p1 T4 v2_4 v3_4 = some r9 := h
    show ps_V G 5 0 0 w T4 4 [(0, .ref (w.2.1 78)), (1, .int p1), (2, .int v2_4), (3, .int v3_4)] []
    unfold f_X3_tellInRound_L4 at h
    refine ps_iload_n hG dX3_tellInRound_4 rfl 3 rfl ?_
    refine ps_bipush (v := 16) hG dX3_tellInRound_5 (by decide) ?_
    refine ps_icmp_ge (tgt := 65) hG dX3_tellInRound_7 (by decide) (fun c7 => ?_) (fun c7 => ?_)
    · replace h := ps_ip c7 h
      cases h
      exact (ps_sub [2] rfl (ke _ rfl))
    · replace h := ps_in c7 h
      refine ps_iload_n hG dX3_tellInRound_10 rfl 1 rfl ?_
      refine ps_iconst (v := 1) hG dX3_tellInRound_11 (by decide) ?_
      have hJ31 : ∀ (s0_31 : Int32), f_X3_tellInRound_J31 p1 T4 v2_4 v3_4 s0_31 = some r9 → ps_V G 5 0 0 w T4 31 [(0, .ref (w.2.1 78)), (1, .int p1), (2, .int v2_4), (3, .int v3_4)] [.int s0_31] := by
        intro s0_31 h
        unfold f_X3_tellInRound_J31 at h
        refine ps_istore (lv' := [(4, .int s0_31), (0, .ref (w.2.1 78)), (1, .int p1), (2, .int v2_4), (3, .int v3_4)]) hG dX3_tellInRound_31 (by decide) rfl ?_
        refine ps_iload hG dX3_tellInRound_33 0 rfl ?_
        have hJ59 : ∀ (T59 : ps_S) (v2_59 : Int32), f_X3_tellInRound_J59 v3_4 T59 v2_59 = some r9 → ps_V G 5 0 0 w T59 59 [(0, .ref (w.2.1 78)), (1, .int p1), (2, .int v2_59), (3, .int v3_4)] [] := by
          intro T59 v2_59 h
          unfold f_X3_tellInRound_J59 at h
          refine ps_iinc (lv' := [(3, .int (v3_4 + 1)), (0, .ref (w.2.1 78)), (1, .int p1), (2, .int v2_59)]) hG dX3_tellInRound_59 3 rfl (by rfl) (by decide) rfl ?_
          refine ps_goto (tgt := 4) hG dX3_tellInRound_62 (by decide) ?_
          cases h
          exact (ps_sub [1, 2, 3, 0] rfl (kc _ rfl))
        refine ps_if_eq (tgt := 59) hG dX3_tellInRound_35 (by decide) (fun c35 => ?_) (fun c35 => ?_)
        · replace h := ps_ip c35 h
          exact (ps_sub [1, 2, 3, 4] rfl (hJ59 T4 v2_4 h))
        · replace h := ps_in c35 h
          refine ps_aload_n hG dX3_tellInRound_38 rfl 1 rfl ?_
          refine ps_get12_1 hG hw inX3_tellInRound_X3 ps_q78.1 (ps_lt hw ps_q78.2.2.1) mX3_tellInRound_9 dX3_tellInRound_39 ?_
          refine ps_iload_n hG dX3_tellInRound_42 rfl 4 rfl ?_
          obtain ⟨hb43, h⟩ := ps_ig h
          refine ps_iald hG ps_q79.1 ps_q79.2.1 (ps_lt hw ps_q79.2.2.1) hb43 dX3_tellInRound_43 ?_
          refine ps_iload_n hG dX3_tellInRound_44 rfl 2 rfl ?_
          refine ps_iconst (v := 1) hG dX3_tellInRound_45 (by decide) ?_
          refine ps_isub hG dX3_tellInRound_46 ?_
          refine ps_icmp_ne (tgt := 59) hG dX3_tellInRound_47 (by decide) (fun c47 => ?_) (fun c47 => ?_)
          · replace h := ps_in c47 h
            exact (ps_sub [1, 2, 3, 4] rfl (hJ59 T4 v2_4 h))
          · replace h := ps_ip c47 h
            refine ps_iload_n hG dX3_tellInRound_50 rfl 3 rfl ?_
            refine ps_aload_n hG dX3_tellInRound_51 rfl 1 rfl ?_
            refine ps_iload_n hG dX3_tellInRound_52 rfl 4 rfl ?_
            refine ps_iload_n hG dX3_tellInRound_53 rfl 2 rfl ?_
            obtain ⟨r54, S54, hr54, h⟩ := ps_d2 h
            refine ps_callVI (As := [.int v3_4, .int p1]) (rest := [.int v2_4]) (nA := 2) hG (c_X3_tellAll _ hw hr54) gX3_tellInRound_X3_tellAll rfl (by decide +kernel) rfl ⟨Nat.le_of_ble_eq_true rfl, Nat.le_of_ble_eq_true rfl⟩ ⟨rfl, rfl⟩ ⟨Nat.le_of_ble_eq_true rfl, Nat.le_of_ble_eq_true rfl⟩ (ps_lt hw ps_q78.2.2.1) (ps_cel_12 ps_q78.1 _) rfl rfl (Nat.le_of_ble_eq_true rfl) dX3_tellInRound_54 ?_
            refine ps_iadd hG dX3_tellInRound_57 ?_
            refine ps_istore_n (lv' := [(2, .int (v2_4 + r54)), (4, .int s0_31), (0, .ref (w.2.1 78)), (1, .int p1), (3, .int v3_4)]) hG dX3_tellInRound_58 rfl (by decide) rfl ?_
            exact (ps_sub [2, 3, 0, 4] rfl (hJ59 S54 (v2_4 + r54) h))
      refine ps_icmp_eq (tgt := 26) hG dX3_tellInRound_12 (by decide) (fun c12 => ?_) (fun c12 => ?_)
      · replace h := ps_ip c12 h
        refine ps_iconst (v := 1) hG dX3_tellInRound_26 (by decide) ?_
        refine ps_goto (tgt := 31) hG dX3_tellInRound_27 (by decide) ?_
        exact (ps_sub [0, 1, 2, 3] rfl (hJ31 1 h))
      · replace h := ps_in c12 h
        refine ps_aload_n hG dX3_tellInRound_15 rfl 0 rfl ?_
        refine ps_get12_0 hG hw inX3_tellInRound_X3 ps_q78.1 (ps_lt hw ps_q78.2.2.1) mX3_tellInRound_15 dX3_tellInRound_16 ?_
        refine ps_iload_n hG dX3_tellInRound_19 rfl 3 rfl ?_
        obtain ⟨r20, hr20, h⟩ := ps_bd h
        refine ps_callVI (As := [.int v3_4]) (rest := []) (nA := 1) hG (c_X5_isHonest _ hw hr20) gX3_tellInRound_X5_isHonest rfl (by decide +kernel) rfl ⟨Nat.le_of_ble_eq_true rfl, Nat.le_of_ble_eq_true rfl⟩ ⟨rfl, rfl⟩ ⟨Nat.le_of_ble_eq_true rfl, Nat.le_of_ble_eq_true rfl⟩ (ps_lt hw ps_q1.2.2.1) (ps_cel_14 ps_q1.1 _) rfl rfl (Nat.le_of_ble_eq_true rfl) dX3_tellInRound_20 ?_
        refine ps_if_eq (tgt := 30) hG dX3_tellInRound_23 (by decide) (fun c23 => ?_) (fun c23 => ?_)
        · replace h := ps_ip c23 h
          refine ps_iconst (v := 0) hG dX3_tellInRound_30 (by decide) ?_
          exact (ps_sub [0, 1, 2, 3] rfl (hJ31 0 h))
        · replace h := ps_in c23 h
          refine ps_iconst (v := 1) hG dX3_tellInRound_26 (by decide) ?_
          refine ps_goto (tgt := 31) hG dX3_tellInRound_27 (by decide) ?_
          exact (ps_sub [0, 1, 2, 3] rfl (hJ31 1 h))
  · show ps_V G 5 0 0 w S4 65 [(2, .int e2_4)] []
    refine ps_iload_n hG dX3_tellInRound_65 rfl 0 rfl ?_
    cases h
    exact hret _ _ dX3_tellInRound_66
def f_X3_run_J23 (T2 : ps_S) (v2_2 : Int32) (s2_23 : Int32) : Option ((ps_S × Int32) ⊕ (ps_S)) :=
  (if ps_ib v2_2 16 = true then
          some (.inl (ps_up T2 79 v2_2.toNatClampNeg s2_23, v2_2 + 1)) else none)
def f_X3_run_L2 (p1 : Int32) (T2 : ps_S) (v2_2 : Int32) : Option ((ps_S × Int32) ⊕ (ps_S)) :=
  (if 16 ≤ v2_2 then
        some (.inr T2)
      else
        (if v2_2 = p1 then
          f_X3_run_J23 T2 v2_2 0
        else
          f_X3_run_J23 T2 v2_2 (-1)))
def f_X3_run_J91 (v2_42 : Int32) (v4_42 : Int32) (r56 : Int32) (S56 : ps_S) (s0_76 : Int32) (s2_91 : Int32) : Option ((ps_S × Int32 × Int32 × Int32) ⊕ (ps_S × Int32)) :=
  some (.inl (ps_up S56 78 2 ((S56 78 2) + s2_91), v2_42 + r56, s0_76, v4_42 + 1))
def f_X3_run_J76 (v2_42 : Int32) (v4_42 : Int32) (r56 : Int32) (S56 : ps_S) (s0_76 : Int32) : Option ((ps_S × Int32 × Int32 × Int32) ⊕ (ps_S × Int32)) :=
  (if s0_76 = 0 then
              f_X3_run_J91 v2_42 v4_42 r56 S56 s0_76 1
            else
              f_X3_run_J91 v2_42 v4_42 r56 S56 s0_76 0)
def f_X3_run_L42  (T42 : ps_S) (v2_42 : Int32) (v3_42 : Int32) (v4_42 : Int32) : Option ((ps_S × Int32 × Int32 × Int32) ⊕ (ps_S × Int32)) :=
  (if 16 < v4_42 then
        some (.inr (T42, v2_42))
      else
        (if v3_42 = 0 then
          (ps_b2 (f_X3_tellInRound T42 v4_42) fun r56 S56 =>
          (if r56 = 0 then
            f_X3_run_J76 v2_42 v4_42 r56 S56 1
          else
            f_X3_run_J76 v2_42 v4_42 r56 S56 0))
        else
          some (.inr (T42, v2_42))))
def f_X3_run (S : ps_S) (p1 : Int32) : Option (Int32 × ps_S) :=
  ((ps_it (fun (a : ps_S × Int32) => f_X3_run_L2 p1 a.1 a.2) ps_fu (S, 0)).bind (fun S2 => (ps_b2 (ps_it (fun (a : ps_S × Int32 × Int32 × Int32) => f_X3_run_L42 a.1 a.2.1 a.2.2.1 a.2.2.2) ps_fu (ps_up S2 78 2 0, 0, 0, 1)) (fun S42 e2_42 => some (e2_42, S42)))))
theorem inX3_run_X3 : ∀ q ∈ wsX30, q ∈ wsX3_run := fun _ h => List.mem_cons_of_mem _ (List.mem_append_left _ (List.mem_append_right _ h))
theorem mX3_run_19 : Cond.fieldLink RX3 19 (TX3 2).1 (TX3 2).2.1 (TX3 2).2.2.1 ∈ wsX3_run := List.mem_of_getElem? (i := 2) rfl
theorem mX3_run_9 : Cond.fieldLink RX3 9 (TX3 1).1 (TX3 1).2.1 (TX3 1).2.2.1 ∈ wsX3_run := List.mem_of_getElem? (i := 1) rfl
set_option maxHeartbeats 4000000 in
set_option maxRecDepth 100000 in
theorem c_X3_run (l : Launch) {w : ps_X} (hw : ps_ww w) {S S' : ps_S} {p1 : Int32} {r : Int32} (h : f_X3_run S p1 = some (r, S')) : ps_MetI l yX3_run wsX3_run (ps_rm 4 92) w [.ref (w.2.1 78), .int p1] S S' r := by
  refine ps_mkI (cc := cX3_run) (maxL := 6) (own := RX3) (by decide +kernel) rfl (Or.inl rfl) rfl (Nat.le_of_ble_eq_true rfl) rfl (fun G hl hG hret => ?_)
  unfold f_X3_run at h
  refine ps_iconst (v := 0) hG dX3_run_0 (by decide) ?_
  refine ps_istore_n (lv' := [(2, .int 0), (0, .ref (w.2.1 78)), (1, .int p1)]) hG dX3_run_1 rfl (by decide) rfl ?_
  obtain ⟨S2, hq2, h⟩ := ps_bd h
  refine (ps_sub [1, 2, 0] rfl (ps_itV (fun (a : ps_S × Int32) => ps_V G 6 0 0 w a.1 2 [(0, .ref (w.2.1 78)), (1, .int p1), (2, .int a.2)] []) (fun (b : ps_S) => ps_V G 6 0 0 w b 30 [(0, .ref (w.2.1 78))] []) ?_ _ _ _ hq2 ?_))
  · intro a r9 h kc ke
    obtain ⟨T2, v2_2⟩ := a
    replace h : f_X3_run_L2 p1 T2 v2_2 = some r9 := h
    show ps_V G 6 0 0 w T2 2 [(0, .ref (w.2.1 78)), (1, .int p1), (2, .int v2_2)] []
    unfold f_X3_run_L2 at h
    refine ps_iload_n hG dX3_run_2 rfl 2 rfl ?_
    refine ps_bipush (v := 16) hG dX3_run_3 (by decide) ?_
    refine ps_icmp_ge (tgt := 30) hG dX3_run_5 (by decide) (fun c5 => ?_) (fun c5 => ?_)
    · replace h := ps_ip c5 h
      cases h
      exact (ps_sub [0] rfl (ke _ rfl))
    · replace h := ps_in c5 h
      refine ps_aload_n hG dX3_run_8 rfl 0 rfl ?_
      refine ps_get12_1 hG hw inX3_run_X3 ps_q78.1 (ps_lt hw ps_q78.2.2.1) mX3_run_9 dX3_run_9 ?_
      refine ps_iload_n hG dX3_run_12 rfl 2 rfl ?_
      refine ps_iload_n hG dX3_run_13 rfl 2 rfl ?_
      refine ps_iload_n hG dX3_run_14 rfl 1 rfl ?_
      have hJ23 : ∀ (s2_23 : Int32), f_X3_run_J23 T2 v2_2 s2_23 = some r9 → ps_V G 6 0 0 w T2 23 [(0, .ref (w.2.1 78)), (1, .int p1), (2, .int v2_2)] [.int s2_23, .int v2_2, .ref (w.2.1 79)] := by
        intro s2_23 h
        unfold f_X3_run_J23 at h
        obtain ⟨hb23, h⟩ := ps_ig h
        refine ps_iast hG ps_q79.1 ps_q79.2.1 (ps_lt hw ps_q79.2.2.1) hb23 dX3_run_23 ?_
        refine ps_iinc (lv' := [(2, .int (v2_2 + 1)), (0, .ref (w.2.1 78)), (1, .int p1)]) hG dX3_run_24 2 rfl (by rfl) (by decide) rfl ?_
        refine ps_goto (tgt := 2) hG dX3_run_27 (by decide) ?_
        cases h
        exact (ps_sub [1, 2, 0] rfl (kc _ rfl))
      refine ps_icmp_ne (tgt := 22) hG dX3_run_15 (by decide) (fun c15 => ?_) (fun c15 => ?_)
      · replace h := ps_in c15 h
        refine ps_iconst (v := (-1)) hG dX3_run_22 (by decide) ?_
        exact (ps_sub [0, 1, 2] rfl (hJ23 (-1) h))
      · replace h := ps_ip c15 h
        refine ps_iconst (v := 0) hG dX3_run_18 (by decide) ?_
        refine ps_goto (tgt := 23) hG dX3_run_19 (by decide) ?_
        exact (ps_sub [0, 1, 2] rfl (hJ23 0 h))
  · show ps_V G 6 0 0 w S2 30 [(0, .ref (w.2.1 78))] []
    refine ps_aload_n hG dX3_run_30 rfl 0 rfl ?_
    refine ps_iconst (v := 0) hG dX3_run_31 (by decide) ?_
    refine ps_put12_2 hG inX3_run_X3 ps_q78.1 (ps_lt hw ps_q78.2.2.1) ps_q78.2.2.2 mX3_run_19 dX3_run_32 ?_
    refine ps_iconst (v := 0) hG dX3_run_35 (by decide) ?_
    refine ps_istore_n (lv' := [(2, .int 0), (0, .ref (w.2.1 78))]) hG dX3_run_36 rfl (by decide) rfl ?_
    refine ps_iconst (v := 0) hG dX3_run_37 (by decide) ?_
    refine ps_istore_n (lv' := [(3, .int 0), (2, .int 0), (0, .ref (w.2.1 78))]) hG dX3_run_38 rfl (by decide) rfl ?_
    refine ps_iconst (v := 1) hG dX3_run_39 (by decide) ?_
    refine ps_istore (lv' := [(4, .int 1), (3, .int 0), (2, .int 0), (0, .ref (w.2.1 78))]) hG dX3_run_40 (by decide) rfl ?_
    obtain ⟨S42, e2_42, hq42, h⟩ := ps_d2 h
    refine (ps_sub [3, 2, 1, 0] rfl (ps_itV (fun (a : ps_S × Int32 × Int32 × Int32) => ps_V G 6 0 0 w a.1 42 [(0, .ref (w.2.1 78)), (2, .int a.2.1), (3, .int a.2.2.1), (4, .int a.2.2.2)] []) (fun (b : ps_S × Int32) => ps_V G 6 0 0 w b.1 101 [(2, .int b.2)] []) ?_ _ _ _ hq42 ?_))
    · intro a r9 h kc ke
      obtain ⟨T42, v2_42, v3_42, v4_42⟩ := a
      replace h : f_X3_run_L42 T42 v2_42 v3_42 v4_42 = some r9 := h
      show ps_V G 6 0 0 w T42 42 [(0, .ref (w.2.1 78)), (2, .int v2_42), (3, .int v3_42), (4, .int v4_42)] []
      unfold f_X3_run_L42 at h
      refine ps_iload hG dX3_run_42 3 rfl ?_
      refine ps_bipush (v := 16) hG dX3_run_44 (by decide) ?_
      refine ps_icmp_gt (tgt := 101) hG dX3_run_46 (by decide) (fun c46 => ?_) (fun c46 => ?_)
      · replace h := ps_ip c46 h
        cases h
        exact (ps_sub [1] rfl (ke _ rfl))
      · replace h := ps_in c46 h
        refine ps_iload_n hG dX3_run_49 rfl 2 rfl ?_
        refine ps_if_ne (tgt := 101) hG dX3_run_50 (by decide) (fun c50 => ?_) (fun c50 => ?_)
        · replace h := ps_in c50 h
          cases h
          exact (ps_sub [1] rfl (ke _ rfl))
        · replace h := ps_ip c50 h
          refine ps_aload_n hG dX3_run_53 rfl 0 rfl ?_
          refine ps_iload hG dX3_run_54 3 rfl ?_
          obtain ⟨r56, S56, hr56, h⟩ := ps_d2 h
          refine ps_callVI (As := [.int v4_42]) (rest := []) (nA := 1) hG (c_X3_tellInRound _ hw hr56) gX3_run_X3_tellInRound rfl (by decide +kernel) rfl ⟨Nat.le_of_ble_eq_true rfl, Nat.le_of_ble_eq_true rfl⟩ ⟨rfl, rfl⟩ ⟨Nat.le_of_ble_eq_true rfl, Nat.le_of_ble_eq_true rfl⟩ (ps_lt hw ps_q78.2.2.1) (ps_cel_12 ps_q78.1 _) rfl rfl (Nat.le_of_ble_eq_true rfl) dX3_run_56 ?_
          refine ps_istore (lv' := [(5, .int r56), (0, .ref (w.2.1 78)), (2, .int v2_42), (3, .int v3_42), (4, .int v4_42)]) hG dX3_run_59 (by decide) rfl ?_
          refine ps_iload_n hG dX3_run_61 rfl 2 rfl ?_
          refine ps_iload hG dX3_run_62 0 rfl ?_
          refine ps_iadd hG dX3_run_64 ?_
          refine ps_istore_n (lv' := [(2, .int (v2_42 + r56)), (5, .int r56), (0, .ref (w.2.1 78)), (3, .int v3_42), (4, .int v4_42)]) hG dX3_run_65 rfl (by decide) rfl ?_
          refine ps_iload hG dX3_run_66 1 rfl ?_
          have hJ76 : ∀ (s0_76 : Int32), f_X3_run_J76 v2_42 v4_42 r56 S56 s0_76 = some r9 → ps_V G 6 0 0 w S56 76 [(0, .ref (w.2.1 78)), (2, .int (v2_42 + r56)), (4, .int v4_42)] [.int s0_76] := by
            intro s0_76 h
            unfold f_X3_run_J76 at h
            refine ps_istore_n (lv' := [(3, .int s0_76), (0, .ref (w.2.1 78)), (2, .int (v2_42 + r56)), (4, .int v4_42)]) hG dX3_run_76 rfl (by decide) rfl ?_
            refine ps_aload_n hG dX3_run_77 rfl 1 rfl ?_
            refine ps_dup hG dX3_run_78 rfl ?_
            refine ps_get12_2 hG inX3_run_X3 ps_q78.1 (ps_lt hw ps_q78.2.2.1) mX3_run_19 dX3_run_79 ?_
            refine ps_iload_n hG dX3_run_82 rfl 0 rfl ?_
            have hJ91 : ∀ (s2_91 : Int32), f_X3_run_J91 v2_42 v4_42 r56 S56 s0_76 s2_91 = some r9 → ps_V G 6 0 0 w S56 91 [(0, .ref (w.2.1 78)), (2, .int (v2_42 + r56)), (3, .int s0_76), (4, .int v4_42)] [.int s2_91, .int (S56 78 2), .ref (w.2.1 78)] := by
              intro s2_91 h
              unfold f_X3_run_J91 at h
              refine ps_iadd hG dX3_run_91 ?_
              refine ps_put12_2 hG inX3_run_X3 ps_q78.1 (ps_lt hw ps_q78.2.2.1) ps_q78.2.2.2 mX3_run_19 dX3_run_92 ?_
              refine ps_iinc (lv' := [(4, .int (v4_42 + 1)), (0, .ref (w.2.1 78)), (2, .int (v2_42 + r56)), (3, .int s0_76)]) hG dX3_run_95 3 rfl (by rfl) (by decide) rfl ?_
              refine ps_goto (tgt := 42) hG dX3_run_98 (by decide) ?_
              cases h
              exact (ps_sub [1, 2, 3, 0] rfl (kc _ rfl))
            refine ps_if_eq (tgt := 90) hG dX3_run_83 (by decide) (fun c83 => ?_) (fun c83 => ?_)
            · replace h := ps_ip c83 h
              refine ps_iconst (v := 1) hG dX3_run_90 (by decide) ?_
              exact (ps_sub [1, 2, 0, 3] rfl (hJ91 1 h))
            · replace h := ps_in c83 h
              refine ps_iconst (v := 0) hG dX3_run_86 (by decide) ?_
              refine ps_goto (tgt := 91) hG dX3_run_87 (by decide) ?_
              exact (ps_sub [1, 2, 0, 3] rfl (hJ91 0 h))
          refine ps_if_ne (tgt := 75) hG dX3_run_68 (by decide) (fun c68 => ?_) (fun c68 => ?_)
          · replace h := ps_in c68 h
            refine ps_iconst (v := 0) hG dX3_run_75 (by decide) ?_
            exact (ps_sub [2, 0, 4] rfl (hJ76 0 h))
          · replace h := ps_ip c68 h
            refine ps_iconst (v := 1) hG dX3_run_71 (by decide) ?_
            refine ps_goto (tgt := 76) hG dX3_run_72 (by decide) ?_
            exact (ps_sub [2, 0, 4] rfl (hJ76 1 h))
    · show ps_V G 6 0 0 w S42 101 [(2, .int e2_42)] []
      refine ps_iload_n hG dX3_run_101 rfl 0 rfl ?_
      cases h
      exact hret _ _ dX3_run_102
