def f_X7_askedCount (S : ps_S) : Option Int32 :=
  some (S 22 6)
theorem inX7_askedCount_X7 : ∀ q ∈ wsX70, q ∈ wsX7_askedCount := fun _ h => List.mem_cons_of_mem _ (List.mem_append_right _ h)
theorem mX7_askedCount_35 : Cond.fieldLink RX7 35 (TX7 6).1 (TX7 6).2.1 (TX7 6).2.2.1 ∈ wsX7_askedCount := List.mem_of_getElem? (i := 1) rfl
set_option maxHeartbeats 4000000 in
set_option maxRecDepth 100000 in
theorem c_X7_askedCount (l : Launch) {w : ps_X} (hw : ps_ww w) {S : ps_S} {r : Int32} (h : f_X7_askedCount S = some r) : ps_MetI l yX7_askedCount wsX7_askedCount (ps_rm 0 0) w [.ref (w.2.1 22)] S S r := by
  refine ps_mkI (cc := cX7_askedCount) (maxL := 1) (own := RX7) (by decide +kernel) rfl (Or.inl rfl) rfl (Nat.le_of_ble_eq_true rfl) rfl (fun G hl hG hret => ?_)
  unfold f_X7_askedCount at h
  refine ps_aload_n hG dX7_askedCount_0 rfl 0 rfl ?_
  refine ps_get16_6 hG inX7_askedCount_X7 ps_q22.1 (ps_lt hw ps_q22.2.2.1) mX7_askedCount_35 dX7_askedCount_1 ?_
  cases h
  exact hret _ _ dX7_askedCount_4
theorem inX7_result_X7 : ∀ q ∈ wsX70, q ∈ wsX7_result := fun _ h => List.mem_cons_of_mem _ (List.mem_append_right _ h)
theorem mX7_result_21 : Cond.fieldLink RX7 21 (TX7 3).1 (TX7 3).2.1 (TX7 3).2.2.1 ∈ wsX7_result := List.mem_of_getElem? (i := 1) rfl
set_option maxHeartbeats 4000000 in
set_option maxRecDepth 100000 in
theorem c_X7_result (l : Launch) {w : ps_X} (hw : ps_ww w) {S : ps_S} : ps_MetR l yX7_result wsX7_result (ps_rm 0 0) w [.ref (w.2.1 22)] S S 29 := by
  refine ps_mkR (cc := cX7_result) (maxL := 1) (own := RX7) (by decide +kernel) rfl (Or.inl ⟨_, rfl⟩) rfl (Nat.le_of_ble_eq_true rfl) rfl (fun G hl hG hret => ?_)
  refine ps_aload_n hG dX7_result_0 rfl 0 rfl ?_
  refine ps_get16_3 hG hw inX7_result_X7 ps_q22.1 (ps_lt hw ps_q22.2.2.1) mX7_result_21 dX7_result_1 ?_
  exact hret _ _ dX7_result_4
def f_X7_include (S : ps_S) (k1 : Nat) (p2 : Int32) (p3 : Int32) : Option ps_S :=
  (if p2 = (-1) then
    some S
  else
    ((f_X5_distance S p2 p3).bind fun r13 =>
    ((f_X6_add S k1 p2 r13).bind fun S16 =>
    some S16)))
theorem inX7_include_X7 : ∀ q ∈ wsX70, q ∈ wsX7_include := fun _ h => List.mem_cons_of_mem _ (List.mem_append_left _ (List.mem_append_left _ (List.mem_append_right _ h)))
theorem mX7_include_31 : Cond.fieldLink RX7 31 (TX7 0).1 (TX7 0).2.1 (TX7 0).2.2.1 ∈ wsX7_include := List.mem_of_getElem? (i := 1) rfl
set_option maxHeartbeats 4000000 in
set_option maxRecDepth 100000 in
theorem c_X7_include (l : Launch) {w : ps_X} (hw : ps_ww w) {k1 : Nat} (hk1 : ps_isR k1) {S S' : ps_S} {p2 p3 : Int32} (h : f_X7_include S k1 p2 p3 = some S') : ps_MetV l yX7_include wsX7_include (ps_rm 1 25) w [.ref (w.2.1 22), .ref (w.2.1 k1), .int p2, .int p3] S S' := by
  refine ps_mkV (cc := cX7_include) (maxL := 4) (own := RX7) (by decide +kernel) rfl rfl rfl (Nat.le_of_ble_eq_true rfl) rfl (fun G hl hG hret => ?_)
  unfold f_X7_include at h
  refine ps_iload_n hG dX7_include_0 rfl 2 rfl ?_
  refine ps_iconst (v := (-1)) hG dX7_include_1 (by decide) ?_
  refine ps_icmp_eq (tgt := 19) hG dX7_include_2 (by decide) (fun c2 => ?_) (fun c2 => ?_)
  · replace h := ps_ip c2 h
    cases h
    exact hret _ _ dX7_include_19
  · replace h := ps_in c2 h
    refine ps_aload_n hG dX7_include_5 rfl 1 rfl ?_
    refine ps_iload_n hG dX7_include_6 rfl 2 rfl ?_
    refine ps_aload_n hG dX7_include_7 rfl 0 rfl ?_
    refine ps_get16_0 hG hw inX7_include_X7 ps_q22.1 (ps_lt hw ps_q22.2.2.1) mX7_include_31 dX7_include_8 ?_
    refine ps_iload_n hG dX7_include_11 rfl 2 rfl ?_
    refine ps_iload_n hG dX7_include_12 rfl 3 rfl ?_
    obtain ⟨r13, hr13, h⟩ := ps_bd h
    refine ps_callVI (As := [.int p2, .int p3]) (rest := [.int p2, .ref (w.2.1 k1)]) (nA := 2) hG (c_X5_distance _ hw hr13) gX7_include_X5_distance rfl (by decide +kernel) rfl ⟨Nat.le_of_ble_eq_true rfl, Nat.le_of_ble_eq_true rfl⟩ ⟨rfl, rfl⟩ ⟨Nat.le_of_ble_eq_true rfl, Nat.le_of_ble_eq_true rfl⟩ (ps_lt hw ps_q1.2.2.1) (ps_cel_14 ps_q1.1 _) rfl rfl (Nat.le_of_ble_eq_true rfl) dX7_include_13 ?_
    obtain ⟨S16, hr16, h⟩ := ps_bd h
    refine ps_callVV (As := [.int p2, .int r13]) (rest := []) (nA := 2) hG (c_X6_add _ hw hk1 hr16) gX7_include_X6_add rfl (by decide +kernel) rfl ⟨Nat.le_of_ble_eq_true rfl, Nat.le_of_ble_eq_true rfl⟩ ⟨rfl, rfl⟩ ⟨Nat.le_of_ble_eq_true rfl, Nat.le_of_ble_eq_true rfl⟩ (ps_lt hw (ps_isR_0 hk1).2.2.1) (ps_cel_15 (ps_isR_0 hk1).1 _) rfl rfl (Nat.le_of_ble_eq_true rfl) dX7_include_16 ?_
    cases h
    exact hret _ _ dX7_include_19
def f_X7_begin_L29  (T29 : ps_S) (v4_29 : Int32) : Option ((ps_S × Int32) ⊕ (ps_S)) :=
  (if 16 ≤ v4_29 then
        some (.inr T29)
      else
        (if ps_ib v4_29 16 = true then
        some (.inl (ps_up T29 35 v4_29.toNatClampNeg (vp_nar .boolean 0), v4_29 + 1)) else none))
def f_X7_begin_J103 (p2 : Int32) (T67 : ps_S) (v4_67 : Int32) (r80 : Int32) (s0_103 : Int32) : Option ((ps_S × Int32) ⊕ (ps_S)) :=
  (if s0_103 = 0 then
            ((f_X7_include T67 23 r80 p2).bind fun S125 =>
            some (.inl (S125, v4_67 + 1)))
          else
            ((f_X7_include T67 26 r80 p2).bind fun S125 =>
            some (.inl (S125, v4_67 + 1))))
def f_X7_begin_L67 (p2 : Int32) (p3 : Int32) (T67 : ps_S) (v4_67 : Int32) : Option ((ps_S × Int32) ⊕ (ps_S)) :=
  (if 16 ≤ v4_67 then
        some (.inr T67)
      else
        ((f_X6_at T67 32 v4_67).bind fun r80 =>
        (if p3 = 2 then
          (if (v4_67 - v4_67 / 2 * 2) = 1 then
            f_X7_begin_J103 p2 T67 v4_67 r80 1
          else
            f_X7_begin_J103 p2 T67 v4_67 r80 0)
        else
          f_X7_begin_J103 p2 T67 v4_67 r80 0)))
def f_X7_begin (S : ps_S) (p1 : Int32) (p2 : Int32) (p3 : Int32) : Option ps_S :=
  ((f_X6_clear S 23).bind fun S4 =>
  ((f_X6_clear S4 26).bind fun S11 =>
  ((f_X6_clear S11 29).bind fun S18 =>
  ((ps_it (fun (a : ps_S × Int32) => f_X7_begin_L29 a.1 a.2) ps_fu (ps_up S18 22 6 0, 0)).bind (fun S29 => ((f_X5_gather S29 p1 p2 0 32).bind fun S61 =>
  ((ps_it (fun (a : ps_S × Int32) => f_X7_begin_L67 p2 p3 a.1 a.2) ps_fu (S61, 0)).bind (fun S67 => some S67))))))))
theorem inX7_begin_X7 : ∀ q ∈ wsX70, q ∈ wsX7_begin := fun _ h => List.mem_cons_of_mem _ (List.mem_append_left _ (List.mem_append_left _ (List.mem_append_right _ h)))
theorem mX7_begin_12 : Cond.fieldLink RX7 12 (TX7 1).1 (TX7 1).2.1 (TX7 1).2.2.1 ∈ wsX7_begin := List.mem_of_getElem? (i := 1) rfl
theorem mX7_begin_18 : Cond.fieldLink RX7 18 (TX7 2).1 (TX7 2).2.1 (TX7 2).2.2.1 ∈ wsX7_begin := List.mem_of_getElem? (i := 2) rfl
theorem mX7_begin_21 : Cond.fieldLink RX7 21 (TX7 3).1 (TX7 3).2.1 (TX7 3).2.2.1 ∈ wsX7_begin := List.mem_of_getElem? (i := 3) rfl
theorem mX7_begin_24 : Cond.fieldLink RX7 24 (TX7 4).1 (TX7 4).2.1 (TX7 4).2.2.1 ∈ wsX7_begin := List.mem_of_getElem? (i := 7) rfl
theorem mX7_begin_27 : Cond.fieldLink RX7 27 (TX7 5).1 (TX7 5).2.1 (TX7 5).2.2.1 ∈ wsX7_begin := List.mem_of_getElem? (i := 5) rfl
theorem mX7_begin_31 : Cond.fieldLink RX7 31 (TX7 0).1 (TX7 0).2.1 (TX7 0).2.2.1 ∈ wsX7_begin := List.mem_of_getElem? (i := 6) rfl
theorem mX7_begin_35 : Cond.fieldLink RX7 35 (TX7 6).1 (TX7 6).2.1 (TX7 6).2.2.1 ∈ wsX7_begin := List.mem_of_getElem? (i := 4) rfl
set_option maxHeartbeats 4000000 in
set_option maxRecDepth 100000 in
theorem c_X7_begin (l : Launch) {w : ps_X} (hw : ps_ww w) {S S' : ps_S} {p1 p2 p3 : Int32} (h : f_X7_begin S p1 p2 p3 = some S') : ps_MetV l yX7_begin wsX7_begin (ps_rm 2 53) w [.ref (w.2.1 22), .int p1, .int p2, .int p3] S S' := by
  refine ps_mkV (cc := cX7_begin) (maxL := 7) (own := RX7) (by decide +kernel) rfl rfl rfl (Nat.le_of_ble_eq_true rfl) rfl (fun G hl hG hret => ?_)
  unfold f_X7_begin at h
  refine ps_aload_n hG dX7_begin_0 rfl 0 rfl ?_
  refine ps_get16_1 hG hw inX7_begin_X7 ps_q22.1 (ps_lt hw ps_q22.2.2.1) mX7_begin_12 dX7_begin_1 ?_
  obtain ⟨S4, hr4, h⟩ := ps_bd h
  refine ps_callVV (As := []) (rest := []) (nA := 0) hG (c_X6_clear _ hw ps_isR_23 hr4) gX7_begin_X6_clear rfl (by decide +kernel) rfl ⟨Nat.le_of_ble_eq_true rfl, Nat.le_of_ble_eq_true rfl⟩ ⟨rfl, rfl⟩ ⟨Nat.le_of_ble_eq_true rfl, Nat.le_of_ble_eq_true rfl⟩ (ps_lt hw ps_q23.2.2.1) (ps_cel_15 ps_q23.1 _) rfl rfl (Nat.le_of_ble_eq_true rfl) dX7_begin_4 ?_
  refine ps_aload_n hG dX7_begin_7 rfl 0 rfl ?_
  refine ps_get16_2 hG hw inX7_begin_X7 ps_q22.1 (ps_lt hw ps_q22.2.2.1) mX7_begin_18 dX7_begin_8 ?_
  obtain ⟨S11, hr11, h⟩ := ps_bd h
  refine ps_callVV (As := []) (rest := []) (nA := 0) hG (c_X6_clear _ hw ps_isR_26 hr11) gX7_begin_X6_clear rfl (by decide +kernel) rfl ⟨Nat.le_of_ble_eq_true rfl, Nat.le_of_ble_eq_true rfl⟩ ⟨rfl, rfl⟩ ⟨Nat.le_of_ble_eq_true rfl, Nat.le_of_ble_eq_true rfl⟩ (ps_lt hw ps_q26.2.2.1) (ps_cel_15 ps_q26.1 _) rfl rfl (Nat.le_of_ble_eq_true rfl) dX7_begin_11 ?_
  refine ps_aload_n hG dX7_begin_14 rfl 0 rfl ?_
  refine ps_get16_3 hG hw inX7_begin_X7 ps_q22.1 (ps_lt hw ps_q22.2.2.1) mX7_begin_21 dX7_begin_15 ?_
  obtain ⟨S18, hr18, h⟩ := ps_bd h
  refine ps_callVV (As := []) (rest := []) (nA := 0) hG (c_X6_clear _ hw ps_isR_29 hr18) gX7_begin_X6_clear rfl (by decide +kernel) rfl ⟨Nat.le_of_ble_eq_true rfl, Nat.le_of_ble_eq_true rfl⟩ ⟨rfl, rfl⟩ ⟨Nat.le_of_ble_eq_true rfl, Nat.le_of_ble_eq_true rfl⟩ (ps_lt hw ps_q29.2.2.1) (ps_cel_15 ps_q29.1 _) rfl rfl (Nat.le_of_ble_eq_true rfl) dX7_begin_18 ?_
  refine ps_aload_n hG dX7_begin_21 rfl 0 rfl ?_
  refine ps_iconst (v := 0) hG dX7_begin_22 (by decide) ?_
  refine ps_put16_6 hG inX7_begin_X7 ps_q22.1 (ps_lt hw ps_q22.2.2.1) ps_q22.2.2.2 mX7_begin_35 dX7_begin_23 ?_
  refine ps_iconst (v := 0) hG dX7_begin_26 (by decide) ?_
  refine ps_istore (lv' := [(4, .int 0), (0, .ref (w.2.1 22)), (1, .int p1), (2, .int p2), (3, .int p3)]) hG dX7_begin_27 (by decide) rfl ?_
  obtain ⟨S29, hq29, h⟩ := ps_bd h
  refine (ps_sub [1, 2, 3, 4, 0] rfl (ps_itV (fun (a : ps_S × Int32) => ps_V G 7 0 0 w a.1 29 [(0, .ref (w.2.1 22)), (1, .int p1), (2, .int p2), (3, .int p3), (4, .int a.2)] []) (fun (b : ps_S) => ps_V G 7 0 0 w b 50 [(0, .ref (w.2.1 22)), (1, .int p1), (2, .int p2), (3, .int p3)] []) ?_ _ _ _ hq29 ?_))
  · intro a r9 h kc ke
    obtain ⟨T29, v4_29⟩ := a
    replace h : f_X7_begin_L29 T29 v4_29 = some r9 := h
    show ps_V G 7 0 0 w T29 29 [(0, .ref (w.2.1 22)), (1, .int p1), (2, .int p2), (3, .int p3), (4, .int v4_29)] []
    unfold f_X7_begin_L29 at h
    refine ps_iload hG dX7_begin_29 4 rfl ?_
    refine ps_bipush (v := 16) hG dX7_begin_31 (by decide) ?_
    refine ps_icmp_ge (tgt := 50) hG dX7_begin_33 (by decide) (fun c33 => ?_) (fun c33 => ?_)
    · replace h := ps_ip c33 h
      cases h
      exact (ps_sub [0, 1, 2, 3] rfl (ke _ rfl))
    · replace h := ps_in c33 h
      refine ps_aload_n hG dX7_begin_36 rfl 0 rfl ?_
      refine ps_get16_5 hG hw inX7_begin_X7 ps_q22.1 (ps_lt hw ps_q22.2.2.1) mX7_begin_27 dX7_begin_37 ?_
      refine ps_iload hG dX7_begin_40 4 rfl ?_
      refine ps_iconst (v := 0) hG dX7_begin_42 (by decide) ?_
      obtain ⟨hb43, h⟩ := ps_ig h
      refine ps_zast hG ps_q35.1 ps_q35.2.1 (ps_lt hw ps_q35.2.2.1) hb43 dX7_begin_43 ?_
      refine ps_iinc (lv' := [(4, .int (v4_29 + 1)), (0, .ref (w.2.1 22)), (1, .int p1), (2, .int p2), (3, .int p3)]) hG dX7_begin_44 4 rfl (by rfl) (by decide) rfl ?_
      refine ps_goto (tgt := 29) hG dX7_begin_47 (by decide) ?_
      cases h
      exact (ps_sub [1, 2, 3, 4, 0] rfl (kc _ rfl))
  · show ps_V G 7 0 0 w S29 50 [(0, .ref (w.2.1 22)), (1, .int p1), (2, .int p2), (3, .int p3)] []
    refine ps_aload_n hG dX7_begin_50 rfl 0 rfl ?_
    refine ps_get16_0 hG hw inX7_begin_X7 ps_q22.1 (ps_lt hw ps_q22.2.2.1) mX7_begin_31 dX7_begin_51 ?_
    refine ps_iload_n hG dX7_begin_54 rfl 1 rfl ?_
    refine ps_iload_n hG dX7_begin_55 rfl 2 rfl ?_
    refine ps_iconst (v := 0) hG dX7_begin_56 (by decide) ?_
    refine ps_aload_n hG dX7_begin_57 rfl 0 rfl ?_
    refine ps_get16_4 hG hw inX7_begin_X7 ps_q22.1 (ps_lt hw ps_q22.2.2.1) mX7_begin_24 dX7_begin_58 ?_
    obtain ⟨S61, hr61, h⟩ := ps_bd h
    refine ps_callVV (As := [.int p1, .int p2, .int 0, .ref (w.2.1 32)]) (rest := []) (nA := 4) hG (c_X5_gather _ hw ps_isR_32 hr61) gX7_begin_X5_gather rfl (by decide +kernel) rfl ⟨Nat.le_of_ble_eq_true rfl, Nat.le_of_ble_eq_true rfl⟩ ⟨rfl, rfl⟩ ⟨Nat.le_of_ble_eq_true rfl, Nat.le_of_ble_eq_true rfl⟩ (ps_lt hw ps_q1.2.2.1) (ps_cel_14 ps_q1.1 _) rfl rfl (Nat.le_of_ble_eq_true rfl) dX7_begin_61 ?_
    refine ps_iconst (v := 0) hG dX7_begin_64 (by decide) ?_
    refine ps_istore (lv' := [(4, .int 0), (0, .ref (w.2.1 22)), (1, .int p1), (2, .int p2), (3, .int p3)]) hG dX7_begin_65 (by decide) rfl ?_
    obtain ⟨S67, hq67, h⟩ := ps_bd h
    refine (ps_sub [1, 3, 4, 0] rfl (ps_itV (fun (a : ps_S × Int32) => ps_V G 7 0 0 w a.1 67 [(0, .ref (w.2.1 22)), (2, .int p2), (3, .int p3), (4, .int a.2)] []) (fun (b : ps_S) => ps_V G 7 0 0 w b 134 [] []) ?_ _ _ _ hq67 ?_))
    · intro a r9 h kc ke
      obtain ⟨T67, v4_67⟩ := a
      replace h : f_X7_begin_L67 p2 p3 T67 v4_67 = some r9 := h
      show ps_V G 7 0 0 w T67 67 [(0, .ref (w.2.1 22)), (2, .int p2), (3, .int p3), (4, .int v4_67)] []
      unfold f_X7_begin_L67 at h
      refine ps_iload hG dX7_begin_67 3 rfl ?_
      refine ps_bipush (v := 16) hG dX7_begin_69 (by decide) ?_
      refine ps_icmp_ge (tgt := 134) hG dX7_begin_71 (by decide) (fun c71 => ?_) (fun c71 => ?_)
      · replace h := ps_ip c71 h
        cases h
        exact (ps_sub [] rfl (ke _ rfl))
      · replace h := ps_in c71 h
        refine ps_aload_n hG dX7_begin_74 rfl 0 rfl ?_
        refine ps_get16_4 hG hw inX7_begin_X7 ps_q22.1 (ps_lt hw ps_q22.2.2.1) mX7_begin_24 dX7_begin_75 ?_
        refine ps_iload hG dX7_begin_78 3 rfl ?_
        obtain ⟨r80, hr80, h⟩ := ps_bd h
        refine ps_callVI (As := [.int v4_67]) (rest := []) (nA := 1) hG (c_X6_at _ hw ps_isR_32 hr80) gX7_begin_X6_at rfl (by decide +kernel) rfl ⟨Nat.le_of_ble_eq_true rfl, Nat.le_of_ble_eq_true rfl⟩ ⟨rfl, rfl⟩ ⟨Nat.le_of_ble_eq_true rfl, Nat.le_of_ble_eq_true rfl⟩ (ps_lt hw ps_q32.2.2.1) (ps_cel_15 ps_q32.1 _) rfl rfl (Nat.le_of_ble_eq_true rfl) dX7_begin_80 ?_
        refine ps_istore (lv' := [(5, .int r80), (0, .ref (w.2.1 22)), (2, .int p2), (3, .int p3), (4, .int v4_67)]) hG dX7_begin_83 (by decide) rfl ?_
        refine ps_iload_n hG dX7_begin_85 rfl 3 rfl ?_
        refine ps_iconst (v := 2) hG dX7_begin_86 (by decide) ?_
        have hJ103 : ∀ (s0_103 : Int32), f_X7_begin_J103 p2 T67 v4_67 r80 s0_103 = some r9 → ps_V G 7 0 0 w T67 103 [(0, .ref (w.2.1 22)), (2, .int p2), (3, .int p3), (4, .int v4_67), (5, .int r80)] [.int s0_103] := by
          intro s0_103 h
          unfold f_X7_begin_J103 at h
          refine ps_istore (lv' := [(6, .int s0_103), (0, .ref (w.2.1 22)), (2, .int p2), (3, .int p3), (4, .int v4_67), (5, .int r80)]) hG dX7_begin_103 (by decide) rfl ?_
          refine ps_aload_n hG dX7_begin_105 rfl 1 rfl ?_
          refine ps_iload hG dX7_begin_106 0 rfl ?_
          refine ps_if_eq (tgt := 118) hG dX7_begin_108 (by decide) (fun c108 => ?_) (fun c108 => ?_)
          · replace h := ps_ip c108 h
            refine ps_aload_n hG dX7_begin_118 rfl 1 rfl ?_
            refine ps_get16_1 hG hw inX7_begin_X7 ps_q22.1 (ps_lt hw ps_q22.2.2.1) mX7_begin_12 dX7_begin_119 ?_
            refine ps_iload hG dX7_begin_122 5 rfl ?_
            refine ps_iload_n hG dX7_begin_124 rfl 2 rfl ?_
            obtain ⟨S125, hr125, h⟩ := ps_bd h
            refine ps_callVV (As := [.ref (w.2.1 23), .int r80, .int p2]) (rest := []) (nA := 3) hG (c_X7_include _ hw ps_isR_23 hr125) gX7_begin_X7_include rfl (by decide +kernel) rfl ⟨Nat.le_of_ble_eq_true rfl, Nat.le_of_ble_eq_true rfl⟩ ⟨rfl, rfl⟩ ⟨Nat.le_of_ble_eq_true rfl, Nat.le_of_ble_eq_true rfl⟩ (ps_lt hw ps_q22.2.2.1) (ps_cel_16 ps_q22.1 _) rfl rfl (Nat.le_of_ble_eq_true rfl) dX7_begin_125 ?_
            refine ps_iinc (lv' := [(4, .int (v4_67 + 1)), (6, .int s0_103), (0, .ref (w.2.1 22)), (2, .int p2), (3, .int p3), (5, .int r80)]) hG dX7_begin_128 4 rfl (by rfl) (by decide) rfl ?_
            refine ps_goto (tgt := 67) hG dX7_begin_131 (by decide) ?_
            cases h
            exact (ps_sub [2, 3, 4, 0] rfl (kc _ rfl))
          · replace h := ps_in c108 h
            refine ps_aload_n hG dX7_begin_111 rfl 1 rfl ?_
            refine ps_get16_2 hG hw inX7_begin_X7 ps_q22.1 (ps_lt hw ps_q22.2.2.1) mX7_begin_18 dX7_begin_112 ?_
            refine ps_goto (tgt := 122) hG dX7_begin_115 (by decide) ?_
            refine ps_iload hG dX7_begin_122 5 rfl ?_
            refine ps_iload_n hG dX7_begin_124 rfl 2 rfl ?_
            obtain ⟨S125, hr125, h⟩ := ps_bd h
            refine ps_callVV (As := [.ref (w.2.1 26), .int r80, .int p2]) (rest := []) (nA := 3) hG (c_X7_include _ hw ps_isR_26 hr125) gX7_begin_X7_include rfl (by decide +kernel) rfl ⟨Nat.le_of_ble_eq_true rfl, Nat.le_of_ble_eq_true rfl⟩ ⟨rfl, rfl⟩ ⟨Nat.le_of_ble_eq_true rfl, Nat.le_of_ble_eq_true rfl⟩ (ps_lt hw ps_q22.2.2.1) (ps_cel_16 ps_q22.1 _) rfl rfl (Nat.le_of_ble_eq_true rfl) dX7_begin_125 ?_
            refine ps_iinc (lv' := [(4, .int (v4_67 + 1)), (6, .int s0_103), (0, .ref (w.2.1 22)), (2, .int p2), (3, .int p3), (5, .int r80)]) hG dX7_begin_128 4 rfl (by rfl) (by decide) rfl ?_
            refine ps_goto (tgt := 67) hG dX7_begin_131 (by decide) ?_
            cases h
            exact (ps_sub [2, 3, 4, 0] rfl (kc _ rfl))
        refine ps_icmp_ne (tgt := 102) hG dX7_begin_87 (by decide) (fun c87 => ?_) (fun c87 => ?_)
        · replace h := ps_in c87 h
          refine ps_iconst (v := 0) hG dX7_begin_102 (by decide) ?_
          exact (ps_sub [1, 2, 3, 4, 0] rfl (hJ103 0 h))
        · replace h := ps_ip c87 h
          refine ps_iload hG dX7_begin_90 4 rfl ?_
          refine ps_iconst (v := 2) hG dX7_begin_92 (by decide) ?_
          refine ps_irem hG dX7_begin_93 (by decide) ?_
          refine ps_iconst (v := 1) hG dX7_begin_94 (by decide) ?_
          refine ps_icmp_ne (tgt := 102) hG dX7_begin_95 (by decide) (fun c95 => ?_) (fun c95 => ?_)
          · replace h := ps_in c95 h
            refine ps_iconst (v := 0) hG dX7_begin_102 (by decide) ?_
            exact (ps_sub [1, 2, 3, 4, 0] rfl (hJ103 0 h))
          · replace h := ps_ip c95 h
            refine ps_iconst (v := 1) hG dX7_begin_98 (by decide) ?_
            refine ps_goto (tgt := 103) hG dX7_begin_99 (by decide) ?_
            exact (ps_sub [1, 2, 3, 4, 0] rfl (hJ103 1 h))
    · show ps_V G 7 0 0 w S67 134 [] []
      cases h
      exact hret _ _ dX7_begin_134
def f_X7_ask_J127 (v5_95 : Int32) (T127 : ps_S) : Option ((ps_S × Int32) ⊕ (ps_S)) :=
  some (.inl (T127, v5_95 + 1))
def f_X7_ask_L95 (k2 : Nat) (p3 : Int32) (p4 : Int32) (T95 : ps_S) (v5_95 : Int32) : Option ((ps_S × Int32) ⊕ (ps_S)) :=
  (if 3 ≤ v5_95 then
            some (.inr T95)
          else
            ((f_X6_at T95 32 v5_95).bind fun r107 =>
            (if r107 = p3 then
              f_X7_ask_J127 v5_95 T95
            else
              ((f_X7_include T95 k2 r107 p4).bind fun S124 =>
              f_X7_ask_J127 v5_95 S124))))
def f_X7_ask (S : ps_S) (p1 : Int32) (k2 : Nat) (p3 : Int32) (p4 : Int32) : Option ps_S :=
  ((f_X5_has S p1).bind fun r5 =>
  (if r5 = 0 then
    some S
  else
    (if ps_ib p1 16 = true then
    ((f_X5_answers (ps_up (ps_up S 35 p1.toNatClampNeg (vp_nar .boolean 1)) 22 6 (((ps_up S 35 p1.toNatClampNeg (vp_nar .boolean 1)) 22 6) + 1)) p1).bind fun r34 =>
    (if r34 = 0 then
      some (ps_up (ps_up S 35 p1.toNatClampNeg (vp_nar .boolean 1)) 22 6 (((ps_up S 35 p1.toNatClampNeg (vp_nar .boolean 1)) 22 6) + 1))
    else
      ((f_X5_hear (ps_up (ps_up S 35 p1.toNatClampNeg (vp_nar .boolean 1)) 22 6 (((ps_up S 35 p1.toNatClampNeg (vp_nar .boolean 1)) 22 6) + 1)) p1 p3).bind fun S47 =>
      ((f_X5_hear S47 p3 p1).bind fun S56 =>
      ((f_X7_include S56 29 p1 p4).bind fun S67 =>
      ((f_X5_isOfBand S67 p1).bind fun r82 =>
      ((f_X5_gather S67 p1 p4 r82 32).bind fun S89 =>
      ((ps_it (fun (a : ps_S × Int32) => f_X7_ask_L95 k2 p3 p4 a.1 a.2) ps_fu (S89, 0)).bind (fun S95 => some S95))))))))) else none)))
theorem inX7_ask_X7 : ∀ q ∈ wsX70, q ∈ wsX7_ask := fun _ h => List.mem_cons_of_mem _ (List.mem_append_left _ (List.mem_append_left _ (List.mem_append_right _ h)))
theorem mX7_ask_21 : Cond.fieldLink RX7 21 (TX7 3).1 (TX7 3).2.1 (TX7 3).2.2.1 ∈ wsX7_ask := List.mem_of_getElem? (i := 4) rfl
theorem mX7_ask_24 : Cond.fieldLink RX7 24 (TX7 4).1 (TX7 4).2.1 (TX7 4).2.2.1 ∈ wsX7_ask := List.mem_of_getElem? (i := 5) rfl
theorem mX7_ask_27 : Cond.fieldLink RX7 27 (TX7 5).1 (TX7 5).2.1 (TX7 5).2.2.1 ∈ wsX7_ask := List.mem_of_getElem? (i := 2) rfl
theorem mX7_ask_31 : Cond.fieldLink RX7 31 (TX7 0).1 (TX7 0).2.1 (TX7 0).2.2.1 ∈ wsX7_ask := List.mem_of_getElem? (i := 1) rfl
theorem mX7_ask_35 : Cond.fieldLink RX7 35 (TX7 6).1 (TX7 6).2.1 (TX7 6).2.2.1 ∈ wsX7_ask := List.mem_of_getElem? (i := 3) rfl
set_option maxHeartbeats 4000000 in
set_option maxRecDepth 100000 in
theorem c_X7_ask (l : Launch) {w : ps_X} (hw : ps_ww w) {k2 : Nat} (hk2 : ps_isR k2) {S S' : ps_S} {p1 p3 p4 : Int32} (h : f_X7_ask S p1 k2 p3 p4 = some S') : ps_MetV l yX7_ask wsX7_ask (ps_rm 2 53) w [.ref (w.2.1 22), .int p1, .ref (w.2.1 k2), .int p3, .int p4] S S' := by
  refine ps_mkV (cc := cX7_ask) (maxL := 7) (own := RX7) (by decide +kernel) rfl rfl rfl (Nat.le_of_ble_eq_true rfl) rfl (fun G hl hG hret => ?_)
  unfold f_X7_ask at h
  refine ps_aload_n hG dX7_ask_0 rfl 0 rfl ?_
  refine ps_get16_0 hG hw inX7_ask_X7 ps_q22.1 (ps_lt hw ps_q22.2.2.1) mX7_ask_31 dX7_ask_1 ?_
  refine ps_iload_n hG dX7_ask_4 rfl 1 rfl ?_
  obtain ⟨r5, hr5, h⟩ := ps_bd h
  refine ps_callVI (As := [.int p1]) (rest := []) (nA := 1) hG (c_X5_has _ hw hr5) gX7_ask_X5_has rfl (by decide +kernel) rfl ⟨Nat.le_of_ble_eq_true rfl, Nat.le_of_ble_eq_true rfl⟩ ⟨rfl, rfl⟩ ⟨Nat.le_of_ble_eq_true rfl, Nat.le_of_ble_eq_true rfl⟩ (ps_lt hw ps_q1.2.2.1) (ps_cel_14 ps_q1.1 _) rfl rfl (Nat.le_of_ble_eq_true rfl) dX7_ask_5 ?_
  refine ps_if_ne (tgt := 12) hG dX7_ask_8 (by decide) (fun c8 => ?_) (fun c8 => ?_)
  · replace h := ps_in c8 h
    refine ps_aload_n hG dX7_ask_12 rfl 0 rfl ?_
    refine ps_get16_5 hG hw inX7_ask_X7 ps_q22.1 (ps_lt hw ps_q22.2.2.1) mX7_ask_27 dX7_ask_13 ?_
    refine ps_iload_n hG dX7_ask_16 rfl 1 rfl ?_
    refine ps_iconst (v := 1) hG dX7_ask_17 (by decide) ?_
    obtain ⟨hb18, h⟩ := ps_ig h
    refine ps_zast hG ps_q35.1 ps_q35.2.1 (ps_lt hw ps_q35.2.2.1) hb18 dX7_ask_18 ?_
    refine ps_aload_n hG dX7_ask_19 rfl 0 rfl ?_
    refine ps_dup hG dX7_ask_20 rfl ?_
    refine ps_get16_6 hG inX7_ask_X7 ps_q22.1 (ps_lt hw ps_q22.2.2.1) mX7_ask_35 dX7_ask_21 ?_
    refine ps_iconst (v := 1) hG dX7_ask_24 (by decide) ?_
    refine ps_iadd hG dX7_ask_25 ?_
    refine ps_put16_6 hG inX7_ask_X7 ps_q22.1 (ps_lt hw ps_q22.2.2.1) ps_q22.2.2.2 mX7_ask_35 dX7_ask_26 ?_
    refine ps_aload_n hG dX7_ask_29 rfl 0 rfl ?_
    refine ps_get16_0 hG hw inX7_ask_X7 ps_q22.1 (ps_lt hw ps_q22.2.2.1) mX7_ask_31 dX7_ask_30 ?_
    refine ps_iload_n hG dX7_ask_33 rfl 1 rfl ?_
    obtain ⟨r34, hr34, h⟩ := ps_bd h
    refine ps_callVI (As := [.int p1]) (rest := []) (nA := 1) hG (c_X5_answers _ hw hr34) gX7_ask_X5_answers rfl (by decide +kernel) rfl ⟨Nat.le_of_ble_eq_true rfl, Nat.le_of_ble_eq_true rfl⟩ ⟨rfl, rfl⟩ ⟨Nat.le_of_ble_eq_true rfl, Nat.le_of_ble_eq_true rfl⟩ (ps_lt hw ps_q1.2.2.1) (ps_cel_14 ps_q1.1 _) rfl rfl (Nat.le_of_ble_eq_true rfl) dX7_ask_34 ?_
    refine ps_if_ne (tgt := 41) hG dX7_ask_37 (by decide) (fun c37 => ?_) (fun c37 => ?_)
    · replace h := ps_in c37 h
      refine ps_aload_n hG dX7_ask_41 rfl 0 rfl ?_
      refine ps_get16_0 hG hw inX7_ask_X7 ps_q22.1 (ps_lt hw ps_q22.2.2.1) mX7_ask_31 dX7_ask_42 ?_
      refine ps_iload_n hG dX7_ask_45 rfl 1 rfl ?_
      refine ps_iload_n hG dX7_ask_46 rfl 3 rfl ?_
      obtain ⟨S47, hr47, h⟩ := ps_bd h
      refine ps_callVV (As := [.int p1, .int p3]) (rest := []) (nA := 2) hG (c_X5_hear _ hw hr47) gX7_ask_X5_hear rfl (by decide +kernel) rfl ⟨Nat.le_of_ble_eq_true rfl, Nat.le_of_ble_eq_true rfl⟩ ⟨rfl, rfl⟩ ⟨Nat.le_of_ble_eq_true rfl, Nat.le_of_ble_eq_true rfl⟩ (ps_lt hw ps_q1.2.2.1) (ps_cel_14 ps_q1.1 _) rfl rfl (Nat.le_of_ble_eq_true rfl) dX7_ask_47 ?_
      refine ps_aload_n hG dX7_ask_50 rfl 0 rfl ?_
      refine ps_get16_0 hG hw inX7_ask_X7 ps_q22.1 (ps_lt hw ps_q22.2.2.1) mX7_ask_31 dX7_ask_51 ?_
      refine ps_iload_n hG dX7_ask_54 rfl 3 rfl ?_
      refine ps_iload_n hG dX7_ask_55 rfl 1 rfl ?_
      obtain ⟨S56, hr56, h⟩ := ps_bd h
      refine ps_callVV (As := [.int p3, .int p1]) (rest := []) (nA := 2) hG (c_X5_hear _ hw hr56) gX7_ask_X5_hear rfl (by decide +kernel) rfl ⟨Nat.le_of_ble_eq_true rfl, Nat.le_of_ble_eq_true rfl⟩ ⟨rfl, rfl⟩ ⟨Nat.le_of_ble_eq_true rfl, Nat.le_of_ble_eq_true rfl⟩ (ps_lt hw ps_q1.2.2.1) (ps_cel_14 ps_q1.1 _) rfl rfl (Nat.le_of_ble_eq_true rfl) dX7_ask_56 ?_
      refine ps_aload_n hG dX7_ask_59 rfl 0 rfl ?_
      refine ps_aload_n hG dX7_ask_60 rfl 0 rfl ?_
      refine ps_get16_3 hG hw inX7_ask_X7 ps_q22.1 (ps_lt hw ps_q22.2.2.1) mX7_ask_21 dX7_ask_61 ?_
      refine ps_iload_n hG dX7_ask_64 rfl 1 rfl ?_
      refine ps_iload hG dX7_ask_65 4 rfl ?_
      obtain ⟨S67, hr67, h⟩ := ps_bd h
      refine ps_callVV (As := [.ref (w.2.1 29), .int p1, .int p4]) (rest := []) (nA := 3) hG (c_X7_include _ hw ps_isR_29 hr67) gX7_ask_X7_include rfl (by decide +kernel) rfl ⟨Nat.le_of_ble_eq_true rfl, Nat.le_of_ble_eq_true rfl⟩ ⟨rfl, rfl⟩ ⟨Nat.le_of_ble_eq_true rfl, Nat.le_of_ble_eq_true rfl⟩ (ps_lt hw ps_q22.2.2.1) (ps_cel_16 ps_q22.1 _) rfl rfl (Nat.le_of_ble_eq_true rfl) dX7_ask_67 ?_
      refine ps_aload_n hG dX7_ask_70 rfl 0 rfl ?_
      refine ps_get16_0 hG hw inX7_ask_X7 ps_q22.1 (ps_lt hw ps_q22.2.2.1) mX7_ask_31 dX7_ask_71 ?_
      refine ps_iload_n hG dX7_ask_74 rfl 1 rfl ?_
      refine ps_iload hG dX7_ask_75 4 rfl ?_
      refine ps_aload_n hG dX7_ask_77 rfl 0 rfl ?_
      refine ps_get16_0 hG hw inX7_ask_X7 ps_q22.1 (ps_lt hw ps_q22.2.2.1) mX7_ask_31 dX7_ask_78 ?_
      refine ps_iload_n hG dX7_ask_81 rfl 1 rfl ?_
      obtain ⟨r82, hr82, h⟩ := ps_bd h
      refine ps_callVI (As := [.int p1]) (rest := [.int p4, .int p1, .ref (w.2.1 1)]) (nA := 1) hG (c_X5_isOfBand _ hw hr82) gX7_ask_X5_isOfBand rfl (by decide +kernel) rfl ⟨Nat.le_of_ble_eq_true rfl, Nat.le_of_ble_eq_true rfl⟩ ⟨rfl, rfl⟩ ⟨Nat.le_of_ble_eq_true rfl, Nat.le_of_ble_eq_true rfl⟩ (ps_lt hw ps_q1.2.2.1) (ps_cel_14 ps_q1.1 _) rfl rfl (Nat.le_of_ble_eq_true rfl) dX7_ask_82 ?_
      refine ps_aload_n hG dX7_ask_85 rfl 0 rfl ?_
      refine ps_get16_4 hG hw inX7_ask_X7 ps_q22.1 (ps_lt hw ps_q22.2.2.1) mX7_ask_24 dX7_ask_86 ?_
      obtain ⟨S89, hr89, h⟩ := ps_bd h
      refine ps_callVV (As := [.int p1, .int p4, .int r82, .ref (w.2.1 32)]) (rest := []) (nA := 4) hG (c_X5_gather _ hw ps_isR_32 hr89) gX7_ask_X5_gather rfl (by decide +kernel) rfl ⟨Nat.le_of_ble_eq_true rfl, Nat.le_of_ble_eq_true rfl⟩ ⟨rfl, rfl⟩ ⟨Nat.le_of_ble_eq_true rfl, Nat.le_of_ble_eq_true rfl⟩ (ps_lt hw ps_q1.2.2.1) (ps_cel_14 ps_q1.1 _) rfl rfl (Nat.le_of_ble_eq_true rfl) dX7_ask_89 ?_
      refine ps_iconst (v := 0) hG dX7_ask_92 (by decide) ?_
      refine ps_istore (lv' := [(5, .int 0), (0, .ref (w.2.1 22)), (1, .int p1), (2, .ref (w.2.1 k2)), (3, .int p3), (4, .int p4)]) hG dX7_ask_93 (by decide) rfl ?_
      obtain ⟨S95, hq95, h⟩ := ps_bd h
      refine (ps_sub [1, 3, 4, 5, 0] rfl (ps_itV (fun (a : ps_S × Int32) => ps_V G 7 0 0 w a.1 95 [(0, .ref (w.2.1 22)), (2, .ref (w.2.1 k2)), (3, .int p3), (4, .int p4), (5, .int a.2)] []) (fun (b : ps_S) => ps_V G 7 0 0 w b 133 [] []) ?_ _ _ _ hq95 ?_))
      · intro a r9 h kc ke
        obtain ⟨T95, v5_95⟩ := a
        replace h : f_X7_ask_L95 k2 p3 p4 T95 v5_95 = some r9 := h
        show ps_V G 7 0 0 w T95 95 [(0, .ref (w.2.1 22)), (2, .ref (w.2.1 k2)), (3, .int p3), (4, .int p4), (5, .int v5_95)] []
        unfold f_X7_ask_L95 at h
        refine ps_iload hG dX7_ask_95 4 rfl ?_
        refine ps_iconst (v := 3) hG dX7_ask_97 (by decide) ?_
        refine ps_icmp_ge (tgt := 133) hG dX7_ask_98 (by decide) (fun c98 => ?_) (fun c98 => ?_)
        · replace h := ps_ip c98 h
          cases h
          exact (ps_sub [] rfl (ke _ rfl))
        · replace h := ps_in c98 h
          refine ps_aload_n hG dX7_ask_101 rfl 0 rfl ?_
          refine ps_get16_4 hG hw inX7_ask_X7 ps_q22.1 (ps_lt hw ps_q22.2.2.1) mX7_ask_24 dX7_ask_102 ?_
          refine ps_iload hG dX7_ask_105 4 rfl ?_
          obtain ⟨r107, hr107, h⟩ := ps_bd h
          refine ps_callVI (As := [.int v5_95]) (rest := []) (nA := 1) hG (c_X6_at _ hw ps_isR_32 hr107) gX7_ask_X6_at rfl (by decide +kernel) rfl ⟨Nat.le_of_ble_eq_true rfl, Nat.le_of_ble_eq_true rfl⟩ ⟨rfl, rfl⟩ ⟨Nat.le_of_ble_eq_true rfl, Nat.le_of_ble_eq_true rfl⟩ (ps_lt hw ps_q32.2.2.1) (ps_cel_15 ps_q32.1 _) rfl rfl (Nat.le_of_ble_eq_true rfl) dX7_ask_107 ?_
          refine ps_istore (lv' := [(6, .int r107), (0, .ref (w.2.1 22)), (2, .ref (w.2.1 k2)), (3, .int p3), (4, .int p4), (5, .int v5_95)]) hG dX7_ask_110 (by decide) rfl ?_
          refine ps_iload hG dX7_ask_112 0 rfl ?_
          refine ps_iload_n hG dX7_ask_114 rfl 3 rfl ?_
          have hJ127 : ∀ (T127 : ps_S), f_X7_ask_J127 v5_95 T127 = some r9 → ps_V G 7 0 0 w T127 127 [(0, .ref (w.2.1 22)), (2, .ref (w.2.1 k2)), (3, .int p3), (4, .int p4), (5, .int v5_95)] [] := by
            intro T127 h
            unfold f_X7_ask_J127 at h
            refine ps_iinc (lv' := [(5, .int (v5_95 + 1)), (0, .ref (w.2.1 22)), (2, .ref (w.2.1 k2)), (3, .int p3), (4, .int p4)]) hG dX7_ask_127 4 rfl (by rfl) (by decide) rfl ?_
            refine ps_goto (tgt := 95) hG dX7_ask_130 (by decide) ?_
            cases h
            exact (ps_sub [1, 2, 3, 4, 0] rfl (kc _ rfl))
          refine ps_icmp_eq (tgt := 127) hG dX7_ask_115 (by decide) (fun c115 => ?_) (fun c115 => ?_)
          · replace h := ps_ip c115 h
            exact (ps_sub [1, 2, 3, 4, 5] rfl (hJ127 T95 h))
          · replace h := ps_in c115 h
            refine ps_aload_n hG dX7_ask_118 rfl 1 rfl ?_
            refine ps_aload_n hG dX7_ask_119 rfl 2 rfl ?_
            refine ps_iload hG dX7_ask_120 0 rfl ?_
            refine ps_iload hG dX7_ask_122 4 rfl ?_
            obtain ⟨S124, hr124, h⟩ := ps_bd h
            refine ps_callVV (As := [.ref (w.2.1 k2), .int r107, .int p4]) (rest := []) (nA := 3) hG (c_X7_include _ hw hk2 hr124) gX7_ask_X7_include rfl (by decide +kernel) rfl ⟨Nat.le_of_ble_eq_true rfl, Nat.le_of_ble_eq_true rfl⟩ ⟨rfl, rfl⟩ ⟨Nat.le_of_ble_eq_true rfl, Nat.le_of_ble_eq_true rfl⟩ (ps_lt hw ps_q22.2.2.1) (ps_cel_16 ps_q22.1 _) rfl rfl (Nat.le_of_ble_eq_true rfl) dX7_ask_124 ?_
            exact (ps_sub [1, 2, 3, 4, 5] rfl (hJ127 S124 h))
      · show ps_V G 7 0 0 w S95 133 [] []
        cases h
        exact hret _ _ dX7_ask_133
    · replace h := ps_ip c37 h
      cases h
      exact hret _ _ dX7_ask_40
  · replace h := ps_ip c8 h
    cases h
    exact hret _ _ dX7_ask_11
def f_X7_askAlong_J85 (v6_9 : Int32) (v4_85 : Int32) (v5_85 : Int32) : Option ((Int32 × Int32 × Int32) ⊕ (Int32 × Int32)) :=
  some (.inl (v4_85, v5_85, v6_9 + 1))
def f_X7_askAlong_J70 (v4_9 : Int32) (v5_9 : Int32) (v6_9 : Int32) (r18 : Int32) (s0_50 : Int32)  : Option ((Int32 × Int32 × Int32) ⊕ (Int32 × Int32)) :=
  (if s0_50 = 0 then
              f_X7_askAlong_J85 v6_9 v4_9 v5_9
            else
              (if v5_9 = (-1) then
                f_X7_askAlong_J85 v6_9 v4_9 r18
              else
                f_X7_askAlong_J85 v6_9 v4_9 v5_9))
def f_X7_askAlong_J50 (v4_9 : Int32) (v5_9 : Int32) (v6_9 : Int32) (r18 : Int32) (s0_50 : Int32) : Option ((Int32 × Int32 × Int32) ⊕ (Int32 × Int32)) :=
  (if s0_50 = 0 then
            f_X7_askAlong_J70 v4_9 v5_9 v6_9 r18 s0_50
          else
            (if v4_9 = (-1) then
              f_X7_askAlong_J85 v6_9 r18 v5_9
            else
              f_X7_askAlong_J70 v4_9 v5_9 v6_9 r18 s0_50))
def f_X7_askAlong_L9 (S : ps_S) (k1 : Nat) (v4_9 : Int32) (v5_9 : Int32) (v6_9 : Int32) : Option ((Int32 × Int32 × Int32) ⊕ (Int32 × Int32)) :=
  (if 3 ≤ v6_9 then
        some (.inr (v4_9, v5_9))
      else
        ((f_X6_at S k1 v6_9).bind fun r18 =>
        ((f_X5_has S r18).bind fun r29 =>
        (if r29 = 0 then
          f_X7_askAlong_J50 v4_9 v5_9 v6_9 r18 0
        else
          (if ps_ib r18 16 = true then
          (if (S 35 r18.toNatClampNeg) = 0 then
            f_X7_askAlong_J50 v4_9 v5_9 v6_9 r18 1
          else
            f_X7_askAlong_J50 v4_9 v5_9 v6_9 r18 0) else none)))))
def f_X7_askAlong (S : ps_S) (k1 : Nat) (p2 : Int32) (p3 : Int32) : Option ps_S :=
  (ps_b2 (ps_it (fun (a : Int32 × Int32 × Int32) => f_X7_askAlong_L9 S k1 a.1 a.2.1 a.2.2) ps_fu ((-1), (-1), 0)) (fun e4_9 e5_9 => ((f_X7_ask S e4_9 k1 p2 p3).bind fun S97 =>
  ((f_X7_ask S97 e5_9 k1 p2 p3).bind fun S106 =>
  some S106))))
theorem inX7_askAlong_X7 : ∀ q ∈ wsX70, q ∈ wsX7_askAlong := fun _ h => List.mem_cons_of_mem _ (List.mem_append_left _ (List.mem_append_left _ (List.mem_append_right _ h)))
theorem mX7_askAlong_27 : Cond.fieldLink RX7 27 (TX7 5).1 (TX7 5).2.1 (TX7 5).2.2.1 ∈ wsX7_askAlong := List.mem_of_getElem? (i := 2) rfl
theorem mX7_askAlong_31 : Cond.fieldLink RX7 31 (TX7 0).1 (TX7 0).2.1 (TX7 0).2.2.1 ∈ wsX7_askAlong := List.mem_of_getElem? (i := 1) rfl
set_option maxHeartbeats 4000000 in
set_option maxRecDepth 100000 in
theorem c_X7_askAlong (l : Launch) {w : ps_X} (hw : ps_ww w) {k1 : Nat} (hk1 : ps_isR k1) {S S' : ps_S} {p2 p3 : Int32} (h : f_X7_askAlong S k1 p2 p3 = some S') : ps_MetV l yX7_askAlong wsX7_askAlong (ps_rm 3 79) w [.ref (w.2.1 22), .ref (w.2.1 k1), .int p2, .int p3] S S' := by
  refine ps_mkV (cc := cX7_askAlong) (maxL := 9) (own := RX7) (by decide +kernel) rfl rfl rfl (Nat.le_of_ble_eq_true rfl) rfl (fun G hl hG hret => ?_)
  unfold f_X7_askAlong at h
  refine ps_iconst (v := (-1)) hG dX7_askAlong_0 (by decide) ?_
  refine ps_istore (lv' := [(4, .int (-1)), (0, .ref (w.2.1 22)), (1, .ref (w.2.1 k1)), (2, .int p2), (3, .int p3)]) hG dX7_askAlong_1 (by decide) rfl ?_
  refine ps_iconst (v := (-1)) hG dX7_askAlong_3 (by decide) ?_
  refine ps_istore (lv' := [(5, .int (-1)), (4, .int (-1)), (0, .ref (w.2.1 22)), (1, .ref (w.2.1 k1)), (2, .int p2), (3, .int p3)]) hG dX7_askAlong_4 (by decide) rfl ?_
  refine ps_iconst (v := 0) hG dX7_askAlong_6 (by decide) ?_
  refine ps_istore (lv' := [(6, .int 0), (5, .int (-1)), (4, .int (-1)), (0, .ref (w.2.1 22)), (1, .ref (w.2.1 k1)), (2, .int p2), (3, .int p3)]) hG dX7_askAlong_7 (by decide) rfl ?_
  obtain ⟨e4_9, e5_9, hq9, h⟩ := ps_d2 h
  refine (ps_sub [3, 4, 5, 6, 2, 1, 0] rfl (ps_itV (fun (a : Int32 × Int32 × Int32) => ps_V G 9 0 0 w S 9 [(0, .ref (w.2.1 22)), (1, .ref (w.2.1 k1)), (2, .int p2), (3, .int p3), (4, .int a.1), (5, .int a.2.1), (6, .int a.2.2)] []) (fun (b : Int32 × Int32) => ps_V G 9 0 0 w S 91 [(0, .ref (w.2.1 22)), (1, .ref (w.2.1 k1)), (2, .int p2), (3, .int p3), (4, .int b.1), (5, .int b.2)] []) ?_ _ _ _ hq9 ?_))
  · intro a r9 h kc ke
    obtain ⟨v4_9, v5_9, v6_9⟩ := a
    replace h : f_X7_askAlong_L9 S k1 v4_9 v5_9 v6_9 = some r9 := h
    show ps_V G 9 0 0 w S 9 [(0, .ref (w.2.1 22)), (1, .ref (w.2.1 k1)), (2, .int p2), (3, .int p3), (4, .int v4_9), (5, .int v5_9), (6, .int v6_9)] []
    unfold f_X7_askAlong_L9 at h
    refine ps_iload hG dX7_askAlong_9 6 rfl ?_
    refine ps_iconst (v := 3) hG dX7_askAlong_11 (by decide) ?_
    refine ps_icmp_ge (tgt := 91) hG dX7_askAlong_12 (by decide) (fun c12 => ?_) (fun c12 => ?_)
    · replace h := ps_ip c12 h
      cases h
      exact (ps_sub [0, 1, 2, 3, 4, 5] rfl (ke _ rfl))
    · replace h := ps_in c12 h
      refine ps_aload_n hG dX7_askAlong_15 rfl 1 rfl ?_
      refine ps_iload hG dX7_askAlong_16 6 rfl ?_
      obtain ⟨r18, hr18, h⟩ := ps_bd h
      refine ps_callVI (As := [.int v6_9]) (rest := []) (nA := 1) hG (c_X6_at _ hw hk1 hr18) gX7_askAlong_X6_at rfl (by decide +kernel) rfl ⟨Nat.le_of_ble_eq_true rfl, Nat.le_of_ble_eq_true rfl⟩ ⟨rfl, rfl⟩ ⟨Nat.le_of_ble_eq_true rfl, Nat.le_of_ble_eq_true rfl⟩ (ps_lt hw (ps_isR_0 hk1).2.2.1) (ps_cel_15 (ps_isR_0 hk1).1 _) rfl rfl (Nat.le_of_ble_eq_true rfl) dX7_askAlong_18 ?_
      refine ps_istore (lv' := [(7, .int r18), (0, .ref (w.2.1 22)), (1, .ref (w.2.1 k1)), (2, .int p2), (3, .int p3), (4, .int v4_9), (5, .int v5_9), (6, .int v6_9)]) hG dX7_askAlong_21 (by decide) rfl ?_
      refine ps_aload_n hG dX7_askAlong_23 rfl 1 rfl ?_
      refine ps_get16_0 hG hw inX7_askAlong_X7 ps_q22.1 (ps_lt hw ps_q22.2.2.1) mX7_askAlong_31 dX7_askAlong_24 ?_
      refine ps_iload hG dX7_askAlong_27 0 rfl ?_
      obtain ⟨r29, hr29, h⟩ := ps_bd h
      refine ps_callVI (As := [.int r18]) (rest := []) (nA := 1) hG (c_X5_has _ hw hr29) gX7_askAlong_X5_has rfl (by decide +kernel) rfl ⟨Nat.le_of_ble_eq_true rfl, Nat.le_of_ble_eq_true rfl⟩ ⟨rfl, rfl⟩ ⟨Nat.le_of_ble_eq_true rfl, Nat.le_of_ble_eq_true rfl⟩ (ps_lt hw ps_q1.2.2.1) (ps_cel_14 ps_q1.1 _) rfl rfl (Nat.le_of_ble_eq_true rfl) dX7_askAlong_29 ?_
      have hJ50 : ∀ (s0_50 : Int32), f_X7_askAlong_J50 v4_9 v5_9 v6_9 r18 s0_50 = some r9 → ps_V G 9 0 0 w S 50 [(0, .ref (w.2.1 22)), (1, .ref (w.2.1 k1)), (2, .int p2), (3, .int p3), (4, .int v4_9), (5, .int v5_9), (6, .int v6_9), (7, .int r18)] [.int s0_50] := by
        intro s0_50 h
        unfold f_X7_askAlong_J50 at h
        refine ps_istore (lv' := [(8, .int s0_50), (0, .ref (w.2.1 22)), (1, .ref (w.2.1 k1)), (2, .int p2), (3, .int p3), (4, .int v4_9), (5, .int v5_9), (6, .int v6_9), (7, .int r18)]) hG dX7_askAlong_50 (by decide) rfl ?_
        refine ps_iload hG dX7_askAlong_52 0 rfl ?_
        have hJ85 : ∀ (v4_85 : Int32) (v5_85 : Int32), f_X7_askAlong_J85 v6_9 v4_85 v5_85 = some r9 → ps_V G 9 0 0 w S 85 [(0, .ref (w.2.1 22)), (1, .ref (w.2.1 k1)), (2, .int p2), (3, .int p3), (4, .int v4_85), (5, .int v5_85), (6, .int v6_9)] [] := by
          intro v4_85 v5_85 h
          unfold f_X7_askAlong_J85 at h
          refine ps_iinc (lv' := [(6, .int (v6_9 + 1)), (0, .ref (w.2.1 22)), (1, .ref (w.2.1 k1)), (2, .int p2), (3, .int p3), (4, .int v4_85), (5, .int v5_85)]) hG dX7_askAlong_85 6 rfl (by rfl) (by decide) rfl ?_
          refine ps_goto (tgt := 9) hG dX7_askAlong_88 (by decide) ?_
          cases h
          exact (ps_sub [1, 2, 3, 4, 5, 6, 0] rfl (kc _ rfl))
        have hJ70 : f_X7_askAlong_J70 v4_9 v5_9 v6_9 r18 s0_50 = some r9 → ps_V G 9 0 0 w S 70 [(0, .ref (w.2.1 22)), (1, .ref (w.2.1 k1)), (2, .int p2), (3, .int p3), (4, .int v4_9), (5, .int v5_9), (6, .int v6_9), (7, .int r18), (8, .int s0_50)] [] := by
          intro h
          unfold f_X7_askAlong_J70 at h
          refine ps_iload hG dX7_askAlong_70 8 rfl ?_
          refine ps_if_eq (tgt := 85) hG dX7_askAlong_72 (by decide) (fun c72 => ?_) (fun c72 => ?_)
          · replace h := ps_ip c72 h
            exact (ps_sub [0, 1, 2, 3, 4, 5, 6] rfl (hJ85 v4_9 v5_9 h))
          · replace h := ps_in c72 h
            refine ps_iload hG dX7_askAlong_75 5 rfl ?_
            refine ps_iconst (v := (-1)) hG dX7_askAlong_77 (by decide) ?_
            refine ps_icmp_ne (tgt := 85) hG dX7_askAlong_78 (by decide) (fun c78 => ?_) (fun c78 => ?_)
            · replace h := ps_in c78 h
              exact (ps_sub [0, 1, 2, 3, 4, 5, 6] rfl (hJ85 v4_9 v5_9 h))
            · replace h := ps_ip c78 h
              refine ps_iload hG dX7_askAlong_81 7 rfl ?_
              refine ps_istore (lv' := [(5, .int r18), (0, .ref (w.2.1 22)), (1, .ref (w.2.1 k1)), (2, .int p2), (3, .int p3), (4, .int v4_9), (6, .int v6_9), (7, .int r18), (8, .int s0_50)]) hG dX7_askAlong_83 (by decide) rfl ?_
              exact (ps_sub [1, 2, 3, 4, 5, 0, 6] rfl (hJ85 v4_9 r18 h))
        refine ps_if_eq (tgt := 70) hG dX7_askAlong_54 (by decide) (fun c54 => ?_) (fun c54 => ?_)
        · replace h := ps_ip c54 h
          exact (ps_sub [1, 2, 3, 4, 5, 6, 7, 8, 0] rfl (hJ70  h))
        · replace h := ps_in c54 h
          refine ps_iload hG dX7_askAlong_57 5 rfl ?_
          refine ps_iconst (v := (-1)) hG dX7_askAlong_59 (by decide) ?_
          refine ps_icmp_ne (tgt := 70) hG dX7_askAlong_60 (by decide) (fun c60 => ?_) (fun c60 => ?_)
          · replace h := ps_in c60 h
            exact (ps_sub [1, 2, 3, 4, 5, 6, 7, 8, 0] rfl (hJ70  h))
          · replace h := ps_ip c60 h
            refine ps_iload hG dX7_askAlong_63 8 rfl ?_
            refine ps_istore (lv' := [(4, .int r18), (8, .int s0_50), (0, .ref (w.2.1 22)), (1, .ref (w.2.1 k1)), (2, .int p2), (3, .int p3), (5, .int v5_9), (6, .int v6_9), (7, .int r18)]) hG dX7_askAlong_65 (by decide) rfl ?_
            refine ps_goto (tgt := 85) hG dX7_askAlong_67 (by decide) ?_
            exact (ps_sub [2, 3, 4, 5, 0, 6, 7] rfl (hJ85 r18 v5_9 h))
      refine ps_if_eq (tgt := 49) hG dX7_askAlong_32 (by decide) (fun c32 => ?_) (fun c32 => ?_)
      · replace h := ps_ip c32 h
        refine ps_iconst (v := 0) hG dX7_askAlong_49 (by decide) ?_
        exact (ps_sub [1, 2, 3, 4, 5, 6, 7, 0] rfl (hJ50 0 h))
      · replace h := ps_in c32 h
        refine ps_aload_n hG dX7_askAlong_35 rfl 1 rfl ?_
        refine ps_get16_5 hG hw inX7_askAlong_X7 ps_q22.1 (ps_lt hw ps_q22.2.2.1) mX7_askAlong_27 dX7_askAlong_36 ?_
        refine ps_iload hG dX7_askAlong_39 0 rfl ?_
        obtain ⟨hb41, h⟩ := ps_ig h
        refine ps_zald hG ps_q35.1 ps_q35.2.1 (ps_lt hw ps_q35.2.2.1) hb41 dX7_askAlong_41 ?_
        refine ps_if_ne (tgt := 49) hG dX7_askAlong_42 (by decide) (fun c42 => ?_) (fun c42 => ?_)
        · replace h := ps_in c42 h
          refine ps_iconst (v := 0) hG dX7_askAlong_49 (by decide) ?_
          exact (ps_sub [1, 2, 3, 4, 5, 6, 7, 0] rfl (hJ50 0 h))
        · replace h := ps_ip c42 h
          refine ps_iconst (v := 1) hG dX7_askAlong_45 (by decide) ?_
          refine ps_goto (tgt := 50) hG dX7_askAlong_46 (by decide) ?_
          exact (ps_sub [1, 2, 3, 4, 5, 6, 7, 0] rfl (hJ50 1 h))
  · show ps_V G 9 0 0 w S 91 [(0, .ref (w.2.1 22)), (1, .ref (w.2.1 k1)), (2, .int p2), (3, .int p3), (4, .int e4_9), (5, .int e5_9)] []
    refine ps_aload_n hG dX7_askAlong_91 rfl 0 rfl ?_
    refine ps_iload hG dX7_askAlong_92 4 rfl ?_
    refine ps_aload_n hG dX7_askAlong_94 rfl 1 rfl ?_
    refine ps_iload_n hG dX7_askAlong_95 rfl 2 rfl ?_
    refine ps_iload_n hG dX7_askAlong_96 rfl 3 rfl ?_
    obtain ⟨S97, hr97, h⟩ := ps_bd h
    refine ps_callVV (As := [.int e4_9, .ref (w.2.1 k1), .int p2, .int p3]) (rest := []) (nA := 4) hG (c_X7_ask _ hw hk1 hr97) gX7_askAlong_X7_ask rfl (by decide +kernel) rfl ⟨Nat.le_of_ble_eq_true rfl, Nat.le_of_ble_eq_true rfl⟩ ⟨rfl, rfl⟩ ⟨Nat.le_of_ble_eq_true rfl, Nat.le_of_ble_eq_true rfl⟩ (ps_lt hw ps_q22.2.2.1) (ps_cel_16 ps_q22.1 _) rfl rfl (Nat.le_of_ble_eq_true rfl) dX7_askAlong_97 ?_
    refine ps_aload_n hG dX7_askAlong_100 rfl 0 rfl ?_
    refine ps_iload hG dX7_askAlong_101 5 rfl ?_
    refine ps_aload_n hG dX7_askAlong_103 rfl 1 rfl ?_
    refine ps_iload_n hG dX7_askAlong_104 rfl 2 rfl ?_
    refine ps_iload_n hG dX7_askAlong_105 rfl 3 rfl ?_
    obtain ⟨S106, hr106, h⟩ := ps_bd h
    refine ps_callVV (As := [.int e5_9, .ref (w.2.1 k1), .int p2, .int p3]) (rest := []) (nA := 4) hG (c_X7_ask _ hw hk1 hr106) gX7_askAlong_X7_ask rfl (by decide +kernel) rfl ⟨Nat.le_of_ble_eq_true rfl, Nat.le_of_ble_eq_true rfl⟩ ⟨rfl, rfl⟩ ⟨Nat.le_of_ble_eq_true rfl, Nat.le_of_ble_eq_true rfl⟩ (ps_lt hw ps_q22.2.2.1) (ps_cel_16 ps_q22.1 _) rfl rfl (Nat.le_of_ble_eq_true rfl) dX7_askAlong_106 ?_
    cases h
    exact hret _ _ dX7_askAlong_109
def f_X7_run_J65 (v5_13 : Int32) (S48 : ps_S) (s0_65 : Int32) : Option ((ps_S × Int32 × Int32) ⊕ (ps_S)) :=
  some (.inl (S48, s0_65, v5_13 + 1))
def f_X7_run_L13 (p1 : Int32) (p2 : Int32) (T13 : ps_S) (v4_13 : Int32) (v5_13 : Int32) : Option ((ps_S × Int32 × Int32) ⊕ (ps_S)) :=
  (if 16 < v5_13 then
        some (.inr T13)
      else
        (if v4_13 = 0 then
          ((f_X7_askAlong T13 23 p1 p2).bind fun S38 =>
          ((f_X7_askAlong S38 26 p1 p2).bind fun S48 =>
          (if (S48 22 6) = (T13 22 6) then
            f_X7_run_J65 v5_13 S48 1
          else
            f_X7_run_J65 v5_13 S48 0)))
        else
          some (.inr T13)))
def f_X7_run (S : ps_S) (p1 : Int32) (p2 : Int32) (p3 : Int32) : Option ps_S :=
  ((f_X7_begin S p1 p2 p3).bind fun S4 =>
  ((ps_it (fun (a : ps_S × Int32 × Int32) => f_X7_run_L13 p1 p2 a.1 a.2.1 a.2.2) ps_fu (S4, 0, 0)).bind (fun S13 => some S13)))
theorem inX7_run_X7 : ∀ q ∈ wsX70, q ∈ wsX7_run := fun _ h => List.mem_cons_of_mem _ (List.mem_append_left _ (List.mem_append_left _ (List.mem_append_right _ h)))
theorem mX7_run_12 : Cond.fieldLink RX7 12 (TX7 1).1 (TX7 1).2.1 (TX7 1).2.2.1 ∈ wsX7_run := List.mem_of_getElem? (i := 2) rfl
theorem mX7_run_18 : Cond.fieldLink RX7 18 (TX7 2).1 (TX7 2).2.1 (TX7 2).2.2.1 ∈ wsX7_run := List.mem_of_getElem? (i := 3) rfl
theorem mX7_run_35 : Cond.fieldLink RX7 35 (TX7 6).1 (TX7 6).2.1 (TX7 6).2.2.1 ∈ wsX7_run := List.mem_of_getElem? (i := 1) rfl
set_option maxHeartbeats 4000000 in
set_option maxRecDepth 100000 in
theorem c_X7_run (l : Launch) {w : ps_X} (hw : ps_ww w) {S S' : ps_S} {p1 p2 p3 : Int32} (h : f_X7_run S p1 p2 p3 = some S') : ps_MetV l yX7_run wsX7_run (ps_rm 4 107) w [.ref (w.2.1 22), .int p1, .int p2, .int p3] S S' := by
  refine ps_mkV (cc := cX7_run) (maxL := 7) (own := RX7) (by decide +kernel) rfl rfl rfl (Nat.le_of_ble_eq_true rfl) rfl (fun G hl hG hret => ?_)
  unfold f_X7_run at h
  refine ps_aload_n hG dX7_run_0 rfl 0 rfl ?_
  refine ps_iload_n hG dX7_run_1 rfl 1 rfl ?_
  refine ps_iload_n hG dX7_run_2 rfl 2 rfl ?_
  refine ps_iload_n hG dX7_run_3 rfl 3 rfl ?_
  obtain ⟨S4, hr4, h⟩ := ps_bd h
  refine ps_callVV (As := [.int p1, .int p2, .int p3]) (rest := []) (nA := 3) hG (c_X7_begin _ hw hr4) gX7_run_X7_begin rfl (by decide +kernel) rfl ⟨Nat.le_of_ble_eq_true rfl, Nat.le_of_ble_eq_true rfl⟩ ⟨rfl, rfl⟩ ⟨Nat.le_of_ble_eq_true rfl, Nat.le_of_ble_eq_true rfl⟩ (ps_lt hw ps_q22.2.2.1) (ps_cel_16 ps_q22.1 _) rfl rfl (Nat.le_of_ble_eq_true rfl) dX7_run_4 ?_
  refine ps_iconst (v := 0) hG dX7_run_7 (by decide) ?_
  refine ps_istore (lv' := [(4, .int 0), (0, .ref (w.2.1 22)), (1, .int p1), (2, .int p2), (3, .int p3)]) hG dX7_run_8 (by decide) rfl ?_
  refine ps_iconst (v := 0) hG dX7_run_10 (by decide) ?_
  refine ps_istore (lv' := [(5, .int 0), (4, .int 0), (0, .ref (w.2.1 22)), (1, .int p1), (2, .int p2), (3, .int p3)]) hG dX7_run_11 (by decide) rfl ?_
  obtain ⟨S13, hq13, h⟩ := ps_bd h
  refine (ps_sub [2, 3, 4, 1, 0] rfl (ps_itV (fun (a : ps_S × Int32 × Int32) => ps_V G 7 0 0 w a.1 13 [(0, .ref (w.2.1 22)), (1, .int p1), (2, .int p2), (4, .int a.2.1), (5, .int a.2.2)] []) (fun (b : ps_S) => ps_V G 7 0 0 w b 73 [] []) ?_ _ _ _ hq13 ?_))
  · intro a r9 h kc ke
    obtain ⟨T13, v4_13, v5_13⟩ := a
    replace h : f_X7_run_L13 p1 p2 T13 v4_13 v5_13 = some r9 := h
    show ps_V G 7 0 0 w T13 13 [(0, .ref (w.2.1 22)), (1, .int p1), (2, .int p2), (4, .int v4_13), (5, .int v5_13)] []
    unfold f_X7_run_L13 at h
    refine ps_iload hG dX7_run_13 4 rfl ?_
    refine ps_bipush (v := 16) hG dX7_run_15 (by decide) ?_
    refine ps_icmp_gt (tgt := 73) hG dX7_run_17 (by decide) (fun c17 => ?_) (fun c17 => ?_)
    · replace h := ps_ip c17 h
      cases h
      exact (ps_sub [] rfl (ke _ rfl))
    · replace h := ps_in c17 h
      refine ps_iload hG dX7_run_20 3 rfl ?_
      refine ps_if_ne (tgt := 73) hG dX7_run_22 (by decide) (fun c22 => ?_) (fun c22 => ?_)
      · replace h := ps_in c22 h
        cases h
        exact (ps_sub [] rfl (ke _ rfl))
      · replace h := ps_ip c22 h
        refine ps_aload_n hG dX7_run_25 rfl 0 rfl ?_
        refine ps_get16_6 hG inX7_run_X7 ps_q22.1 (ps_lt hw ps_q22.2.2.1) mX7_run_35 dX7_run_26 ?_
        refine ps_istore (lv' := [(6, .int (T13 22 6)), (0, .ref (w.2.1 22)), (1, .int p1), (2, .int p2), (4, .int v4_13), (5, .int v5_13)]) hG dX7_run_29 (by decide) rfl ?_
        refine ps_aload_n hG dX7_run_31 rfl 1 rfl ?_
        refine ps_aload_n hG dX7_run_32 rfl 1 rfl ?_
        refine ps_get16_1 hG hw inX7_run_X7 ps_q22.1 (ps_lt hw ps_q22.2.2.1) mX7_run_12 dX7_run_33 ?_
        refine ps_iload_n hG dX7_run_36 rfl 2 rfl ?_
        refine ps_iload_n hG dX7_run_37 rfl 3 rfl ?_
        obtain ⟨S38, hr38, h⟩ := ps_bd h
        refine ps_callVV (As := [.ref (w.2.1 23), .int p1, .int p2]) (rest := []) (nA := 3) hG (c_X7_askAlong _ hw ps_isR_23 hr38) gX7_run_X7_askAlong rfl (by decide +kernel) rfl ⟨Nat.le_of_ble_eq_true rfl, Nat.le_of_ble_eq_true rfl⟩ ⟨rfl, rfl⟩ ⟨Nat.le_of_ble_eq_true rfl, Nat.le_of_ble_eq_true rfl⟩ (ps_lt hw ps_q22.2.2.1) (ps_cel_16 ps_q22.1 _) rfl rfl (Nat.le_of_ble_eq_true rfl) dX7_run_38 ?_
        refine ps_aload_n hG dX7_run_41 rfl 1 rfl ?_
        refine ps_aload_n hG dX7_run_42 rfl 1 rfl ?_
        refine ps_get16_2 hG hw inX7_run_X7 ps_q22.1 (ps_lt hw ps_q22.2.2.1) mX7_run_18 dX7_run_43 ?_
        refine ps_iload_n hG dX7_run_46 rfl 2 rfl ?_
        refine ps_iload_n hG dX7_run_47 rfl 3 rfl ?_
        obtain ⟨S48, hr48, h⟩ := ps_bd h
        refine ps_callVV (As := [.ref (w.2.1 26), .int p1, .int p2]) (rest := []) (nA := 3) hG (c_X7_askAlong _ hw ps_isR_26 hr48) gX7_run_X7_askAlong rfl (by decide +kernel) rfl ⟨Nat.le_of_ble_eq_true rfl, Nat.le_of_ble_eq_true rfl⟩ ⟨rfl, rfl⟩ ⟨Nat.le_of_ble_eq_true rfl, Nat.le_of_ble_eq_true rfl⟩ (ps_lt hw ps_q22.2.2.1) (ps_cel_16 ps_q22.1 _) rfl rfl (Nat.le_of_ble_eq_true rfl) dX7_run_48 ?_
        refine ps_aload_n hG dX7_run_51 rfl 1 rfl ?_
        refine ps_get16_6 hG inX7_run_X7 ps_q22.1 (ps_lt hw ps_q22.2.2.1) mX7_run_35 dX7_run_52 ?_
        refine ps_iload hG dX7_run_55 0 rfl ?_
        have hJ65 : ∀ (s0_65 : Int32), f_X7_run_J65 v5_13 S48 s0_65 = some r9 → ps_V G 7 0 0 w S48 65 [(0, .ref (w.2.1 22)), (1, .int p1), (2, .int p2), (5, .int v5_13)] [.int s0_65] := by
          intro s0_65 h
          unfold f_X7_run_J65 at h
          refine ps_istore (lv' := [(4, .int s0_65), (0, .ref (w.2.1 22)), (1, .int p1), (2, .int p2), (5, .int v5_13)]) hG dX7_run_65 (by decide) rfl ?_
          refine ps_iinc (lv' := [(5, .int (v5_13 + 1)), (4, .int s0_65), (0, .ref (w.2.1 22)), (1, .int p1), (2, .int p2)]) hG dX7_run_67 4 rfl (by rfl) (by decide) rfl ?_
          refine ps_goto (tgt := 13) hG dX7_run_70 (by decide) ?_
          cases h
          exact (ps_sub [2, 3, 4, 1, 0] rfl (kc _ rfl))
        refine ps_icmp_ne (tgt := 64) hG dX7_run_57 (by decide) (fun c57 => ?_) (fun c57 => ?_)
        · replace h := ps_in c57 h
          refine ps_iconst (v := 0) hG dX7_run_64 (by decide) ?_
          exact (ps_sub [1, 2, 3, 5] rfl (hJ65 0 h))
        · replace h := ps_ip c57 h
          refine ps_iconst (v := 1) hG dX7_run_60 (by decide) ?_
          refine ps_goto (tgt := 65) hG dX7_run_61 (by decide) ?_
          exact (ps_sub [1, 2, 3, 5] rfl (hJ65 1 h))
  · show ps_V G 7 0 0 w S13 73 [] []
    cases h
    exact hret _ _ dX7_run_73
