def f_X11_isAsked (S : ps_S) (p1 : Int32) (p2 : Int32) : Option Int32 :=
  ((f_X11_isFile S p1).bind fun r2 =>
  (if r2 = 0 then
    some 0
  else
    ((f_X11_isIn p2 0 5).bind fun r11 =>
    (if r11 = 0 then
      some 0
    else
      some 1))))
set_option maxHeartbeats 4000000 in
set_option maxRecDepth 100000 in
theorem c_X11_isAsked (l : Launch) {w : ps_X} (hw : ps_ww w) {S : ps_S} {p1 p2 : Int32} {r : Int32} (h : f_X11_isAsked S p1 p2 = some r) : ps_MetI l yX11_isAsked wsX11_isAsked (ps_rm 2 43) w [.ref (w.2.1 80), .int p1, .int p2] S S r := by
  refine ps_mkZ (cc := cX11_isAsked) (maxL := 3) (own := RX11) (by decide +kernel) rfl rfl rfl (Nat.le_of_ble_eq_true rfl) rfl (fun G hl hG hret => ?_)
  unfold f_X11_isAsked at h
  refine ps_aload_n hG dX11_isAsked_0 rfl 0 rfl ?_
  refine ps_iload_n hG dX11_isAsked_1 rfl 1 rfl ?_
  obtain ⟨r2, hr2, h⟩ := ps_bd h
  refine ps_callVI (As := [.int p1]) (rest := []) (nA := 1) hG (c_X11_isFile _ hw hr2) gX11_isAsked_X11_isFile rfl (by decide +kernel) rfl ⟨Nat.le_of_ble_eq_true rfl, Nat.le_of_ble_eq_true rfl⟩ ⟨rfl, rfl⟩ ⟨Nat.le_of_ble_eq_true rfl, Nat.le_of_ble_eq_true rfl⟩ (ps_lt hw ps_q80.2.2.1) (ps_cel_20 ps_q80.1 _) rfl rfl (Nat.le_of_ble_eq_true rfl) dX11_isAsked_2 ?_
  refine ps_if_eq (tgt := 21) hG dX11_isAsked_5 (by decide) (fun c5 => ?_) (fun c5 => ?_)
  · replace h := ps_ip c5 h
    refine ps_iconst (v := 0) hG dX11_isAsked_21 (by decide) ?_
    cases h
    exact hret _ _ dX11_isAsked_22 rfl
  · replace h := ps_in c5 h
    refine ps_iload_n hG dX11_isAsked_8 rfl 2 rfl ?_
    refine ps_iconst (v := 0) hG dX11_isAsked_9 (by decide) ?_
    refine ps_iconst (v := 5) hG dX11_isAsked_10 (by decide) ?_
    obtain ⟨r11, hr11, h⟩ := ps_bd h
    refine ps_callSI (As := [.int p2, .int 0, .int 5]) (rest := []) (nA := 3) hG (c_X11_isIn _ hw hr11) gX11_isAsked_X11_isIn rfl (by decide +kernel) rfl ⟨Nat.le_of_ble_eq_true rfl, Nat.le_of_ble_eq_true rfl⟩ ⟨rfl, rfl⟩ ⟨Nat.le_of_ble_eq_true rfl, Nat.le_of_ble_eq_true rfl⟩ rfl (Nat.le_of_ble_eq_true rfl) dX11_isAsked_11 ?_
    refine ps_if_eq (tgt := 21) hG dX11_isAsked_14 (by decide) (fun c14 => ?_) (fun c14 => ?_)
    · replace h := ps_ip c14 h
      refine ps_iconst (v := 0) hG dX11_isAsked_21 (by decide) ?_
      cases h
      exact hret _ _ dX11_isAsked_22 rfl
    · replace h := ps_in c14 h
      refine ps_iconst (v := 1) hG dX11_isAsked_17 (by decide) ?_
      refine ps_goto (tgt := 22) hG dX11_isAsked_18 (by decide) ?_
      cases h
      exact hret _ _ dX11_isAsked_22 rfl
def f_X11_piece_J28 (S : ps_S) (p1 : Int32) (p2 : Int32) (p3 : Int32) (s1_28 : Int32) : Option (Int32 × ps_S) :=
  (ps_b2 (f_X11_holds S s1_28) fun r28 S28 =>
    (if r28 = 0 then
      some (0, S28)
    else
      (if p3 = 0 then
        (if ps_ib ((6 * p1) + p2) 72 = true then
        some (S28 92 ((6 * p1) + p2).toNatClampNeg, S28) else none)
      else
        (if p3 = 1 then
          (if ps_ib ((6 * p1) + p2) 72 = true then
          some (S28 93 ((6 * p1) + p2).toNatClampNeg, S28) else none)
        else
          (if p3 = 2 then
            (if ps_ib ((6 * p1) + p2) 72 = true then
            (if (S28 94 ((6 * p1) + p2).toNatClampNeg) = 0 then
              some (0, S28)
            else
              some (1, S28)) else none)
          else
            (if ps_ib ((6 * p1) + p2) 72 = true then
            some (S28 95 ((6 * p1) + p2).toNatClampNeg, S28) else none))))))
def f_X11_piece (S : ps_S) (p1 : Int32) (p2 : Int32) (p3 : Int32) : Option (Int32 × ps_S) :=
  ((f_X11_isAsked S p1 p2).bind fun r4 =>
  (if r4 = 0 then
    f_X11_piece_J28 S p1 p2 p3 1
  else
    ((f_X11_isIn p3 0 3).bind fun r17 =>
    (if r17 = 0 then
      f_X11_piece_J28 S p1 p2 p3 2
    else
      f_X11_piece_J28 S p1 p2 p3 0))))
theorem inX11_piece_X11 : ∀ q ∈ wsX110, q ∈ wsX11_piece := fun _ h => List.mem_cons_of_mem _ (List.mem_append_right _ h)
theorem mX11_piece_44 : Cond.fieldLink RX11 44 (TX11 17).1 (TX11 17).2.1 (TX11 17).2.2.1 ∈ wsX11_piece := List.mem_of_getElem? (i := 1) rfl
theorem mX11_piece_47 : Cond.fieldLink RX11 47 (TX11 18).1 (TX11 18).2.1 (TX11 18).2.2.1 ∈ wsX11_piece := List.mem_of_getElem? (i := 2) rfl
theorem mX11_piece_50 : Cond.fieldLink RX11 50 (TX11 19).1 (TX11 19).2.1 (TX11 19).2.2.1 ∈ wsX11_piece := List.mem_of_getElem? (i := 3) rfl
theorem mX11_piece_53 : Cond.fieldLink RX11 53 (TX11 20).1 (TX11 20).2.1 (TX11 20).2.2.1 ∈ wsX11_piece := List.mem_of_getElem? (i := 4) rfl
set_option maxHeartbeats 4000000 in
set_option maxRecDepth 100000 in
theorem c_X11_piece (l : Launch) {w : ps_X} (hw : ps_ww w) {S S' : ps_S} {p1 p2 p3 : Int32} {r : Int32} (h : f_X11_piece S p1 p2 p3 = some (r, S')) : ps_MetI l yX11_piece wsX11_piece (ps_rm 3 65) w [.ref (w.2.1 80), .int p1, .int p2, .int p3] S S' r := by
  refine ps_mkI (cc := cX11_piece) (maxL := 5) (own := RX11) (by decide +kernel) rfl (Or.inl rfl) rfl (Nat.le_of_ble_eq_true rfl) rfl (fun G hl hG hret => ?_)
  unfold f_X11_piece at h
  refine ps_aload_n hG dX11_piece_0 rfl 0 rfl ?_
  refine ps_aload_n hG dX11_piece_1 rfl 0 rfl ?_
  refine ps_iload_n hG dX11_piece_2 rfl 1 rfl ?_
  refine ps_iload_n hG dX11_piece_3 rfl 2 rfl ?_
  obtain ⟨r4, hr4, h⟩ := ps_bd h
  refine ps_callVI (As := [.int p1, .int p2]) (rest := [.ref (w.2.1 80)]) (nA := 2) hG (c_X11_isAsked _ hw hr4) gX11_piece_X11_isAsked rfl (by decide +kernel) rfl ⟨Nat.le_of_ble_eq_true rfl, Nat.le_of_ble_eq_true rfl⟩ ⟨rfl, rfl⟩ ⟨Nat.le_of_ble_eq_true rfl, Nat.le_of_ble_eq_true rfl⟩ (ps_lt hw ps_q80.2.2.1) (ps_cel_20 ps_q80.1 _) rfl rfl (Nat.le_of_ble_eq_true rfl) dX11_piece_4 ?_
  have hJ28 : ∀ (s1_28 : Int32), f_X11_piece_J28 S p1 p2 p3 s1_28 = some (r, S') → ps_V G 5 0 0 w S 28 [(0, .ref (w.2.1 80)), (1, .int p1), (2, .int p2), (3, .int p3)] [.int s1_28, .ref (w.2.1 80)] := by
    intro s1_28 h
    unfold f_X11_piece_J28 at h
    obtain ⟨r28, S28, hr28, h⟩ := ps_d2 h
    refine ps_callVI (As := [.int s1_28]) (rest := []) (nA := 1) hG (c_X11_holds _ hw hr28) gX11_piece_X11_holds rfl (by decide +kernel) rfl ⟨Nat.le_of_ble_eq_true rfl, Nat.le_of_ble_eq_true rfl⟩ ⟨rfl, rfl⟩ ⟨Nat.le_of_ble_eq_true rfl, Nat.le_of_ble_eq_true rfl⟩ (ps_lt hw ps_q80.2.2.1) (ps_cel_20 ps_q80.1 _) rfl rfl (Nat.le_of_ble_eq_true rfl) dX11_piece_28 ?_
    refine ps_if_ne (tgt := 36) hG dX11_piece_31 (by decide) (fun c31 => ?_) (fun c31 => ?_)
    · replace h := ps_in c31 h
      refine ps_bipush (v := 6) hG dX11_piece_36 (by decide) ?_
      refine ps_iload_n hG dX11_piece_38 rfl 1 rfl ?_
      refine ps_imul hG dX11_piece_39 ?_
      refine ps_iload_n hG dX11_piece_40 rfl 2 rfl ?_
      refine ps_iadd hG dX11_piece_41 ?_
      refine ps_istore (lv' := [(4, .int ((6 * p1) + p2)), (0, .ref (w.2.1 80)), (1, .int p1), (2, .int p2), (3, .int p3)]) hG dX11_piece_42 (by decide) rfl ?_
      refine ps_iload_n hG dX11_piece_44 rfl 4 rfl ?_
      refine ps_if_ne (tgt := 58) hG dX11_piece_45 (by decide) (fun c45 => ?_) (fun c45 => ?_)
      · replace h := ps_in c45 h
        refine ps_iload_n hG dX11_piece_58 rfl 4 rfl ?_
        refine ps_iconst (v := 1) hG dX11_piece_59 (by decide) ?_
        refine ps_icmp_ne (tgt := 73) hG dX11_piece_60 (by decide) (fun c60 => ?_) (fun c60 => ?_)
        · replace h := ps_in c60 h
          refine ps_iload_n hG dX11_piece_73 rfl 4 rfl ?_
          refine ps_iconst (v := 2) hG dX11_piece_74 (by decide) ?_
          refine ps_icmp_ne (tgt := 96) hG dX11_piece_75 (by decide) (fun c75 => ?_) (fun c75 => ?_)
          · replace h := ps_in c75 h
            refine ps_aload_n hG dX11_piece_96 rfl 1 rfl ?_
            refine ps_get20_20 hG hw inX11_piece_X11 ps_q80.1 (ps_lt hw ps_q80.2.2.1) mX11_piece_53 dX11_piece_97 ?_
            refine ps_iload hG dX11_piece_100 0 rfl ?_
            obtain ⟨hb102, h⟩ := ps_ig h
            refine ps_iald hG ps_q95.1 ps_q95.2.1 (ps_lt hw ps_q95.2.2.1) hb102 dX11_piece_102 ?_
            cases h
            exact hret _ _ dX11_piece_103
          · replace h := ps_ip c75 h
            refine ps_aload_n hG dX11_piece_78 rfl 1 rfl ?_
            refine ps_get20_19 hG hw inX11_piece_X11 ps_q80.1 (ps_lt hw ps_q80.2.2.1) mX11_piece_50 dX11_piece_79 ?_
            refine ps_iload hG dX11_piece_82 0 rfl ?_
            obtain ⟨hb84, h⟩ := ps_ig h
            refine ps_zald hG ps_q94.1 ps_q94.2.1 (ps_lt hw ps_q94.2.2.1) hb84 dX11_piece_84 ?_
            refine ps_if_eq (tgt := 92) hG dX11_piece_85 (by decide) (fun c85 => ?_) (fun c85 => ?_)
            · replace h := ps_ip c85 h
              refine ps_iconst (v := 0) hG dX11_piece_92 (by decide) ?_
              refine ps_goto (tgt := 103) hG dX11_piece_93 (by decide) ?_
              cases h
              exact hret _ _ dX11_piece_103
            · replace h := ps_in c85 h
              refine ps_iconst (v := 1) hG dX11_piece_88 (by decide) ?_
              refine ps_goto (tgt := 103) hG dX11_piece_89 (by decide) ?_
              cases h
              exact hret _ _ dX11_piece_103
        · replace h := ps_ip c60 h
          refine ps_aload_n hG dX11_piece_63 rfl 1 rfl ?_
          refine ps_get20_18 hG hw inX11_piece_X11 ps_q80.1 (ps_lt hw ps_q80.2.2.1) mX11_piece_47 dX11_piece_64 ?_
          refine ps_iload hG dX11_piece_67 0 rfl ?_
          obtain ⟨hb69, h⟩ := ps_ig h
          refine ps_iald hG ps_q93.1 ps_q93.2.1 (ps_lt hw ps_q93.2.2.1) hb69 dX11_piece_69 ?_
          refine ps_goto (tgt := 103) hG dX11_piece_70 (by decide) ?_
          cases h
          exact hret _ _ dX11_piece_103
      · replace h := ps_ip c45 h
        refine ps_aload_n hG dX11_piece_48 rfl 1 rfl ?_
        refine ps_get20_17 hG hw inX11_piece_X11 ps_q80.1 (ps_lt hw ps_q80.2.2.1) mX11_piece_44 dX11_piece_49 ?_
        refine ps_iload hG dX11_piece_52 0 rfl ?_
        obtain ⟨hb54, h⟩ := ps_ig h
        refine ps_iald hG ps_q92.1 ps_q92.2.1 (ps_lt hw ps_q92.2.2.1) hb54 dX11_piece_54 ?_
        refine ps_goto (tgt := 103) hG dX11_piece_55 (by decide) ?_
        cases h
        exact hret _ _ dX11_piece_103
    · replace h := ps_ip c31 h
      refine ps_iconst (v := 0) hG dX11_piece_34 (by decide) ?_
      cases h
      exact hret _ _ dX11_piece_35
  refine ps_if_ne (tgt := 14) hG dX11_piece_7 (by decide) (fun c7 => ?_) (fun c7 => ?_)
  · replace h := ps_in c7 h
    refine ps_iload_n hG dX11_piece_14 rfl 3 rfl ?_
    refine ps_iconst (v := 0) hG dX11_piece_15 (by decide) ?_
    refine ps_iconst (v := 3) hG dX11_piece_16 (by decide) ?_
    obtain ⟨r17, hr17, h⟩ := ps_bd h
    refine ps_callSI (As := [.int p3, .int 0, .int 3]) (rest := [.ref (w.2.1 80)]) (nA := 3) hG (c_X11_isIn _ hw hr17) gX11_piece_X11_isIn rfl (by decide +kernel) rfl ⟨Nat.le_of_ble_eq_true rfl, Nat.le_of_ble_eq_true rfl⟩ ⟨rfl, rfl⟩ ⟨Nat.le_of_ble_eq_true rfl, Nat.le_of_ble_eq_true rfl⟩ rfl (Nat.le_of_ble_eq_true rfl) dX11_piece_17 ?_
    refine ps_if_eq (tgt := 27) hG dX11_piece_20 (by decide) (fun c20 => ?_) (fun c20 => ?_)
    · replace h := ps_ip c20 h
      refine ps_iconst (v := 2) hG dX11_piece_27 (by decide) ?_
      exact (ps_sub [0, 1, 2, 3] rfl (hJ28 2 h))
    · replace h := ps_in c20 h
      refine ps_iconst (v := 0) hG dX11_piece_23 (by decide) ?_
      refine ps_goto (tgt := 28) hG dX11_piece_24 (by decide) ?_
      exact (ps_sub [0, 1, 2, 3] rfl (hJ28 0 h))
  · replace h := ps_ip c7 h
    refine ps_iconst (v := 1) hG dX11_piece_10 (by decide) ?_
    refine ps_goto (tgt := 28) hG dX11_piece_11 (by decide) ?_
    exact (ps_sub [0, 1, 2, 3] rfl (hJ28 1 h))
def f_X11_spoil_J36 (S : ps_S) (p1 : Int32) (p2 : Int32) (s1_36 : Int32) : Option (Int32 × ps_S) :=
  (ps_b2 (f_X11_holds S s1_36) fun r36 S36 =>
    (if r36 = 0 then
      some (0, S36)
    else
      (if ps_ib ((6 * p1) + p2) 72 = true then
      (if ps_ib ((6 * p1) + p2) 72 = true then
      (if (S36 94 ((6 * p1) + p2).toNatClampNeg) = 0 ∨ (S36 94 ((6 * p1) + p2).toNatClampNeg) = 1 then some (S36 94 ((6 * p1) + p2).toNatClampNeg, ps_up S36 94 ((6 * p1) + p2).toNatClampNeg (vp_nar .boolean 0)) else none) else none) else none)))
def f_X11_spoil (S : ps_S) (p1 : Int32) (p2 : Int32) : Option (Int32 × ps_S) :=
  ((f_X11_isAsked S p1 p2).bind fun r3 =>
  (if r3 = 0 then
    f_X11_spoil_J36 S p1 p2 1
  else
    (if ps_ib ((6 * p1) + p2) 72 = true then
    (if (S 93 ((6 * p1) + p2).toNatClampNeg) = (-1) then
      f_X11_spoil_J36 S p1 p2 2
    else
      f_X11_spoil_J36 S p1 p2 0) else none)))
theorem inX11_spoil_X11 : ∀ q ∈ wsX110, q ∈ wsX11_spoil := fun _ h => List.mem_cons_of_mem _ (List.mem_append_right _ h)
theorem mX11_spoil_47 : Cond.fieldLink RX11 47 (TX11 18).1 (TX11 18).2.1 (TX11 18).2.2.1 ∈ wsX11_spoil := List.mem_of_getElem? (i := 1) rfl
theorem mX11_spoil_50 : Cond.fieldLink RX11 50 (TX11 19).1 (TX11 19).2.1 (TX11 19).2.2.1 ∈ wsX11_spoil := List.mem_of_getElem? (i := 2) rfl
set_option maxHeartbeats 4000000 in
set_option maxRecDepth 100000 in
theorem c_X11_spoil (l : Launch) {w : ps_X} (hw : ps_ww w) {S S' : ps_S} {p1 p2 : Int32} {r : Int32} (h : f_X11_spoil S p1 p2 = some (r, S')) : ps_MetI l yX11_spoil wsX11_spoil (ps_rm 3 65) w [.ref (w.2.1 80), .int p1, .int p2] S S' r := by
  refine ps_mkZ (cc := cX11_spoil) (maxL := 5) (own := RX11) (by decide +kernel) rfl rfl rfl (Nat.le_of_ble_eq_true rfl) rfl (fun G hl hG hret => ?_)
  unfold f_X11_spoil at h
  refine ps_aload_n hG dX11_spoil_0 rfl 0 rfl ?_
  refine ps_iload_n hG dX11_spoil_1 rfl 1 rfl ?_
  refine ps_iload_n hG dX11_spoil_2 rfl 2 rfl ?_
  obtain ⟨r3, hr3, h⟩ := ps_bd h
  refine ps_callVI (As := [.int p1, .int p2]) (rest := []) (nA := 2) hG (c_X11_isAsked _ hw hr3) gX11_spoil_X11_isAsked rfl (by decide +kernel) rfl ⟨Nat.le_of_ble_eq_true rfl, Nat.le_of_ble_eq_true rfl⟩ ⟨rfl, rfl⟩ ⟨Nat.le_of_ble_eq_true rfl, Nat.le_of_ble_eq_true rfl⟩ (ps_lt hw ps_q80.2.2.1) (ps_cel_20 ps_q80.1 _) rfl rfl (Nat.le_of_ble_eq_true rfl) dX11_spoil_3 ?_
  refine ps_istore_n (lv' := [(3, .int r3), (0, .ref (w.2.1 80)), (1, .int p1), (2, .int p2)]) hG dX11_spoil_6 rfl (by decide) rfl ?_
  refine ps_aload_n hG dX11_spoil_7 rfl 1 rfl ?_
  refine ps_iload_n hG dX11_spoil_8 rfl 0 rfl ?_
  have hJ36 : ∀ (s1_36 : Int32), f_X11_spoil_J36 S p1 p2 s1_36 = some (r, S') → ps_V G 5 0 0 w S 36 [(0, .ref (w.2.1 80)), (1, .int p1), (2, .int p2)] [.int s1_36, .ref (w.2.1 80)] := by
    intro s1_36 h
    unfold f_X11_spoil_J36 at h
    obtain ⟨r36, S36, hr36, h⟩ := ps_d2 h
    refine ps_callVI (As := [.int s1_36]) (rest := []) (nA := 1) hG (c_X11_holds _ hw hr36) gX11_spoil_X11_holds rfl (by decide +kernel) rfl ⟨Nat.le_of_ble_eq_true rfl, Nat.le_of_ble_eq_true rfl⟩ ⟨rfl, rfl⟩ ⟨Nat.le_of_ble_eq_true rfl, Nat.le_of_ble_eq_true rfl⟩ (ps_lt hw ps_q80.2.2.1) (ps_cel_20 ps_q80.1 _) rfl rfl (Nat.le_of_ble_eq_true rfl) dX11_spoil_36 ?_
    refine ps_if_ne (tgt := 44) hG dX11_spoil_39 (by decide) (fun c39 => ?_) (fun c39 => ?_)
    · replace h := ps_in c39 h
      refine ps_aload_n hG dX11_spoil_44 rfl 0 rfl ?_
      refine ps_get20_19 hG hw inX11_spoil_X11 ps_q80.1 (ps_lt hw ps_q80.2.2.1) mX11_spoil_50 dX11_spoil_45 ?_
      refine ps_bipush (v := 6) hG dX11_spoil_48 (by decide) ?_
      refine ps_iload_n hG dX11_spoil_50 rfl 1 rfl ?_
      refine ps_imul hG dX11_spoil_51 ?_
      refine ps_iload_n hG dX11_spoil_52 rfl 2 rfl ?_
      refine ps_iadd hG dX11_spoil_53 ?_
      obtain ⟨hb54, h⟩ := ps_ig h
      refine ps_zald hG ps_q94.1 ps_q94.2.1 (ps_lt hw ps_q94.2.2.1) hb54 dX11_spoil_54 ?_
      refine ps_istore (lv' := [(4, .int (S36 94 ((6 * p1) + p2).toNatClampNeg)), (0, .ref (w.2.1 80)), (1, .int p1), (2, .int p2)]) hG dX11_spoil_55 (by decide) rfl ?_
      refine ps_aload_n hG dX11_spoil_57 rfl 1 rfl ?_
      refine ps_get20_19 hG hw inX11_spoil_X11 ps_q80.1 (ps_lt hw ps_q80.2.2.1) mX11_spoil_50 dX11_spoil_58 ?_
      refine ps_bipush (v := 6) hG dX11_spoil_61 (by decide) ?_
      refine ps_iload_n hG dX11_spoil_63 rfl 2 rfl ?_
      refine ps_imul hG dX11_spoil_64 ?_
      refine ps_iload_n hG dX11_spoil_65 rfl 3 rfl ?_
      refine ps_iadd hG dX11_spoil_66 ?_
      refine ps_iconst (v := 0) hG dX11_spoil_67 (by decide) ?_
      obtain ⟨hb68, h⟩ := ps_ig h
      refine ps_zast hG ps_q94.1 ps_q94.2.1 (ps_lt hw ps_q94.2.2.1) hb68 dX11_spoil_68 ?_
      refine ps_iload hG dX11_spoil_69 0 rfl ?_
      obtain ⟨hz71, h⟩ := ps_ig h
      cases h
      exact hret _ _ dX11_spoil_71 (ps_z01 hz71)
    · replace h := ps_ip c39 h
      refine ps_iconst (v := 0) hG dX11_spoil_42 (by decide) ?_
      cases h
      exact hret _ _ dX11_spoil_43 rfl
  refine ps_if_ne (tgt := 16) hG dX11_spoil_9 (by decide) (fun c9 => ?_) (fun c9 => ?_)
  · replace h := ps_in c9 h
    refine ps_aload_n hG dX11_spoil_16 rfl 1 rfl ?_
    refine ps_get20_18 hG hw inX11_spoil_X11 ps_q80.1 (ps_lt hw ps_q80.2.2.1) mX11_spoil_47 dX11_spoil_17 ?_
    refine ps_bipush (v := 6) hG dX11_spoil_20 (by decide) ?_
    refine ps_iload_n hG dX11_spoil_22 rfl 2 rfl ?_
    refine ps_imul hG dX11_spoil_23 ?_
    refine ps_iload_n hG dX11_spoil_24 rfl 3 rfl ?_
    refine ps_iadd hG dX11_spoil_25 ?_
    obtain ⟨hb26, h⟩ := ps_ig h
    refine ps_iald hG ps_q93.1 ps_q93.2.1 (ps_lt hw ps_q93.2.2.1) hb26 dX11_spoil_26 ?_
    refine ps_iconst (v := (-1)) hG dX11_spoil_27 (by decide) ?_
    refine ps_icmp_ne (tgt := 35) hG dX11_spoil_28 (by decide) (fun c28 => ?_) (fun c28 => ?_)
    · replace h := ps_in c28 h
      refine ps_iconst (v := 0) hG dX11_spoil_35 (by decide) ?_
      exact (ps_sub [1, 2, 3] rfl (hJ36 0 h))
    · replace h := ps_ip c28 h
      refine ps_iconst (v := 2) hG dX11_spoil_31 (by decide) ?_
      refine ps_goto (tgt := 36) hG dX11_spoil_32 (by decide) ?_
      exact (ps_sub [1, 2, 3] rfl (hJ36 2 h))
  · replace h := ps_ip c9 h
    refine ps_iconst (v := 1) hG dX11_spoil_12 (by decide) ?_
    refine ps_goto (tgt := 36) hG dX11_spoil_13 (by decide) ?_
    exact (ps_sub [1, 2, 3] rfl (hJ36 1 h))
def f_X11_root_J14 (S : ps_S) (p1 : Int32) (s1_14 : Int32) : Option (Int32 × ps_S) :=
  (ps_b2 (f_X11_holds S s1_14) fun r14 S14 =>
    (if r14 = 0 then
      some (0, S14)
    else
      ((f_X11_laysTree S14 p1).bind fun S24 =>
      some (S24 96 (1 : Int32).toNatClampNeg, S24))))
def f_X11_root (S : ps_S) (p1 : Int32) : Option (Int32 × ps_S) :=
  ((f_X11_isFile S p1).bind fun r3 =>
  (if r3 = 0 then
    f_X11_root_J14 S p1 1
  else
    f_X11_root_J14 S p1 0))
theorem inX11_root_X11 : ∀ q ∈ wsX110, q ∈ wsX11_root := fun _ h => List.mem_cons_of_mem _ (List.mem_append_right _ h)
theorem mX11_root_56 : Cond.fieldLink RX11 56 (TX11 21).1 (TX11 21).2.1 (TX11 21).2.2.1 ∈ wsX11_root := List.mem_of_getElem? (i := 1) rfl
set_option maxHeartbeats 4000000 in
set_option maxRecDepth 100000 in
theorem c_X11_root (l : Launch) {w : ps_X} (hw : ps_ww w) {S S' : ps_S} {p1 : Int32} {r : Int32} (h : f_X11_root S p1 = some (r, S')) : ps_MetI l yX11_root wsX11_root (ps_rm 2 44) w [.ref (w.2.1 80), .int p1] S S' r := by
  refine ps_mkI (cc := cX11_root) (maxL := 2) (own := RX11) (by decide +kernel) rfl (Or.inl rfl) rfl (Nat.le_of_ble_eq_true rfl) rfl (fun G hl hG hret => ?_)
  unfold f_X11_root at h
  refine ps_aload_n hG dX11_root_0 rfl 0 rfl ?_
  refine ps_aload_n hG dX11_root_1 rfl 0 rfl ?_
  refine ps_iload_n hG dX11_root_2 rfl 1 rfl ?_
  obtain ⟨r3, hr3, h⟩ := ps_bd h
  refine ps_callVI (As := [.int p1]) (rest := [.ref (w.2.1 80)]) (nA := 1) hG (c_X11_isFile _ hw hr3) gX11_root_X11_isFile rfl (by decide +kernel) rfl ⟨Nat.le_of_ble_eq_true rfl, Nat.le_of_ble_eq_true rfl⟩ ⟨rfl, rfl⟩ ⟨Nat.le_of_ble_eq_true rfl, Nat.le_of_ble_eq_true rfl⟩ (ps_lt hw ps_q80.2.2.1) (ps_cel_20 ps_q80.1 _) rfl rfl (Nat.le_of_ble_eq_true rfl) dX11_root_3 ?_
  have hJ14 : ∀ (s1_14 : Int32), f_X11_root_J14 S p1 s1_14 = some (r, S') → ps_V G 2 0 0 w S 14 [(0, .ref (w.2.1 80)), (1, .int p1)] [.int s1_14, .ref (w.2.1 80)] := by
    intro s1_14 h
    unfold f_X11_root_J14 at h
    obtain ⟨r14, S14, hr14, h⟩ := ps_d2 h
    refine ps_callVI (As := [.int s1_14]) (rest := []) (nA := 1) hG (c_X11_holds _ hw hr14) gX11_root_X11_holds rfl (by decide +kernel) rfl ⟨Nat.le_of_ble_eq_true rfl, Nat.le_of_ble_eq_true rfl⟩ ⟨rfl, rfl⟩ ⟨Nat.le_of_ble_eq_true rfl, Nat.le_of_ble_eq_true rfl⟩ (ps_lt hw ps_q80.2.2.1) (ps_cel_20 ps_q80.1 _) rfl rfl (Nat.le_of_ble_eq_true rfl) dX11_root_14 ?_
    refine ps_if_ne (tgt := 22) hG dX11_root_17 (by decide) (fun c17 => ?_) (fun c17 => ?_)
    · replace h := ps_in c17 h
      refine ps_aload_n hG dX11_root_22 rfl 0 rfl ?_
      refine ps_iload_n hG dX11_root_23 rfl 1 rfl ?_
      obtain ⟨S24, hr24, h⟩ := ps_bd h
      refine ps_callVV (As := [.int p1]) (rest := []) (nA := 1) hG (c_X11_laysTree _ hw hr24) gX11_root_X11_laysTree rfl (by decide +kernel) rfl ⟨Nat.le_of_ble_eq_true rfl, Nat.le_of_ble_eq_true rfl⟩ ⟨rfl, rfl⟩ ⟨Nat.le_of_ble_eq_true rfl, Nat.le_of_ble_eq_true rfl⟩ (ps_lt hw ps_q80.2.2.1) (ps_cel_20 ps_q80.1 _) rfl rfl (Nat.le_of_ble_eq_true rfl) dX11_root_24 ?_
      refine ps_aload_n hG dX11_root_27 rfl 0 rfl ?_
      refine ps_get20_21 hG hw inX11_root_X11 ps_q80.1 (ps_lt hw ps_q80.2.2.1) mX11_root_56 dX11_root_28 ?_
      refine ps_iconst (v := 1) hG dX11_root_31 (by decide) ?_
      refine ps_iald hG ps_q96.1 ps_q96.2.1 (ps_lt hw ps_q96.2.2.1) (by decide) dX11_root_32 ?_
      cases h
      exact hret _ _ dX11_root_33
    · replace h := ps_ip c17 h
      refine ps_iconst (v := 0) hG dX11_root_20 (by decide) ?_
      cases h
      exact hret _ _ dX11_root_21
  refine ps_if_eq (tgt := 13) hG dX11_root_6 (by decide) (fun c6 => ?_) (fun c6 => ?_)
  · replace h := ps_ip c6 h
    refine ps_iconst (v := 1) hG dX11_root_13 (by decide) ?_
    exact (ps_sub [0, 1] rfl (hJ14 1 h))
  · replace h := ps_in c6 h
    refine ps_iconst (v := 0) hG dX11_root_9 (by decide) ?_
    refine ps_goto (tgt := 14) hG dX11_root_10 (by decide) ?_
    exact (ps_sub [0, 1] rfl (hJ14 0 h))
def f_X11_proof_J28 (S : ps_S) (p1 : Int32) (p2 : Int32) (p3 : Int32) (s1_28 : Int32) : Option (Int32 × ps_S) :=
  (ps_b2 (f_X11_holds S s1_28) fun r28 S28 =>
    (if r28 = 0 then
      some (0, S28)
    else
      ((f_X11_laysTree S28 p1).bind fun S38 =>
      (if ps_ib (((8 + p2) >>> (p3 &&& 31)) ^^^ 1) 16 = true then
      some (S38 96 (((8 + p2) >>> (p3 &&& 31)) ^^^ 1).toNatClampNeg, S38) else none))))
def f_X11_proof (S : ps_S) (p1 : Int32) (p2 : Int32) (p3 : Int32) : Option (Int32 × ps_S) :=
  ((f_X11_isAsked S p1 p2).bind fun r4 =>
  (if r4 = 0 then
    f_X11_proof_J28 S p1 p2 p3 1
  else
    ((f_X11_isIn p3 0 2).bind fun r17 =>
    (if r17 = 0 then
      f_X11_proof_J28 S p1 p2 p3 2
    else
      f_X11_proof_J28 S p1 p2 p3 0))))
theorem inX11_proof_X11 : ∀ q ∈ wsX110, q ∈ wsX11_proof := fun _ h => List.mem_cons_of_mem _ (List.mem_append_right _ h)
theorem mX11_proof_56 : Cond.fieldLink RX11 56 (TX11 21).1 (TX11 21).2.1 (TX11 21).2.2.1 ∈ wsX11_proof := List.mem_of_getElem? (i := 1) rfl
set_option maxHeartbeats 4000000 in
set_option maxRecDepth 100000 in
theorem c_X11_proof (l : Launch) {w : ps_X} (hw : ps_ww w) {S S' : ps_S} {p1 p2 p3 : Int32} {r : Int32} (h : f_X11_proof S p1 p2 p3 = some (r, S')) : ps_MetI l yX11_proof wsX11_proof (ps_rm 3 65) w [.ref (w.2.1 80), .int p1, .int p2, .int p3] S S' r := by
  refine ps_mkI (cc := cX11_proof) (maxL := 4) (own := RX11) (by decide +kernel) rfl (Or.inl rfl) rfl (Nat.le_of_ble_eq_true rfl) rfl (fun G hl hG hret => ?_)
  unfold f_X11_proof at h
  refine ps_aload_n hG dX11_proof_0 rfl 0 rfl ?_
  refine ps_aload_n hG dX11_proof_1 rfl 0 rfl ?_
  refine ps_iload_n hG dX11_proof_2 rfl 1 rfl ?_
  refine ps_iload_n hG dX11_proof_3 rfl 2 rfl ?_
  obtain ⟨r4, hr4, h⟩ := ps_bd h
  refine ps_callVI (As := [.int p1, .int p2]) (rest := [.ref (w.2.1 80)]) (nA := 2) hG (c_X11_isAsked _ hw hr4) gX11_proof_X11_isAsked rfl (by decide +kernel) rfl ⟨Nat.le_of_ble_eq_true rfl, Nat.le_of_ble_eq_true rfl⟩ ⟨rfl, rfl⟩ ⟨Nat.le_of_ble_eq_true rfl, Nat.le_of_ble_eq_true rfl⟩ (ps_lt hw ps_q80.2.2.1) (ps_cel_20 ps_q80.1 _) rfl rfl (Nat.le_of_ble_eq_true rfl) dX11_proof_4 ?_
  have hJ28 : ∀ (s1_28 : Int32), f_X11_proof_J28 S p1 p2 p3 s1_28 = some (r, S') → ps_V G 4 0 0 w S 28 [(0, .ref (w.2.1 80)), (1, .int p1), (2, .int p2), (3, .int p3)] [.int s1_28, .ref (w.2.1 80)] := by
    intro s1_28 h
    unfold f_X11_proof_J28 at h
    obtain ⟨r28, S28, hr28, h⟩ := ps_d2 h
    refine ps_callVI (As := [.int s1_28]) (rest := []) (nA := 1) hG (c_X11_holds _ hw hr28) gX11_proof_X11_holds rfl (by decide +kernel) rfl ⟨Nat.le_of_ble_eq_true rfl, Nat.le_of_ble_eq_true rfl⟩ ⟨rfl, rfl⟩ ⟨Nat.le_of_ble_eq_true rfl, Nat.le_of_ble_eq_true rfl⟩ (ps_lt hw ps_q80.2.2.1) (ps_cel_20 ps_q80.1 _) rfl rfl (Nat.le_of_ble_eq_true rfl) dX11_proof_28 ?_
    refine ps_if_ne (tgt := 36) hG dX11_proof_31 (by decide) (fun c31 => ?_) (fun c31 => ?_)
    · replace h := ps_in c31 h
      refine ps_aload_n hG dX11_proof_36 rfl 0 rfl ?_
      refine ps_iload_n hG dX11_proof_37 rfl 1 rfl ?_
      obtain ⟨S38, hr38, h⟩ := ps_bd h
      refine ps_callVV (As := [.int p1]) (rest := []) (nA := 1) hG (c_X11_laysTree _ hw hr38) gX11_proof_X11_laysTree rfl (by decide +kernel) rfl ⟨Nat.le_of_ble_eq_true rfl, Nat.le_of_ble_eq_true rfl⟩ ⟨rfl, rfl⟩ ⟨Nat.le_of_ble_eq_true rfl, Nat.le_of_ble_eq_true rfl⟩ (ps_lt hw ps_q80.2.2.1) (ps_cel_20 ps_q80.1 _) rfl rfl (Nat.le_of_ble_eq_true rfl) dX11_proof_38 ?_
      refine ps_aload_n hG dX11_proof_41 rfl 0 rfl ?_
      refine ps_get20_21 hG hw inX11_proof_X11 ps_q80.1 (ps_lt hw ps_q80.2.2.1) mX11_proof_56 dX11_proof_42 ?_
      refine ps_bipush (v := 8) hG dX11_proof_45 (by decide) ?_
      refine ps_iload_n hG dX11_proof_47 rfl 2 rfl ?_
      refine ps_iadd hG dX11_proof_48 ?_
      refine ps_iload_n hG dX11_proof_49 rfl 3 rfl ?_
      refine ps_ishr hG dX11_proof_50 ?_
      refine ps_iconst (v := 1) hG dX11_proof_51 (by decide) ?_
      refine ps_ixor hG dX11_proof_52 ?_
      obtain ⟨hb53, h⟩ := ps_ig h
      refine ps_iald hG ps_q96.1 ps_q96.2.1 (ps_lt hw ps_q96.2.2.1) hb53 dX11_proof_53 ?_
      cases h
      exact hret _ _ dX11_proof_54
    · replace h := ps_ip c31 h
      refine ps_iconst (v := 0) hG dX11_proof_34 (by decide) ?_
      cases h
      exact hret _ _ dX11_proof_35
  refine ps_if_ne (tgt := 14) hG dX11_proof_7 (by decide) (fun c7 => ?_) (fun c7 => ?_)
  · replace h := ps_in c7 h
    refine ps_iload_n hG dX11_proof_14 rfl 3 rfl ?_
    refine ps_iconst (v := 0) hG dX11_proof_15 (by decide) ?_
    refine ps_iconst (v := 2) hG dX11_proof_16 (by decide) ?_
    obtain ⟨r17, hr17, h⟩ := ps_bd h
    refine ps_callSI (As := [.int p3, .int 0, .int 2]) (rest := [.ref (w.2.1 80)]) (nA := 3) hG (c_X11_isIn _ hw hr17) gX11_proof_X11_isIn rfl (by decide +kernel) rfl ⟨Nat.le_of_ble_eq_true rfl, Nat.le_of_ble_eq_true rfl⟩ ⟨rfl, rfl⟩ ⟨Nat.le_of_ble_eq_true rfl, Nat.le_of_ble_eq_true rfl⟩ rfl (Nat.le_of_ble_eq_true rfl) dX11_proof_17 ?_
    refine ps_if_eq (tgt := 27) hG dX11_proof_20 (by decide) (fun c20 => ?_) (fun c20 => ?_)
    · replace h := ps_ip c20 h
      refine ps_iconst (v := 2) hG dX11_proof_27 (by decide) ?_
      exact (ps_sub [0, 1, 2, 3] rfl (hJ28 2 h))
    · replace h := ps_in c20 h
      refine ps_iconst (v := 0) hG dX11_proof_23 (by decide) ?_
      refine ps_goto (tgt := 28) hG dX11_proof_24 (by decide) ?_
      exact (ps_sub [0, 1, 2, 3] rfl (hJ28 0 h))
  · replace h := ps_ip c7 h
    refine ps_iconst (v := 1) hG dX11_proof_10 (by decide) ?_
    refine ps_goto (tgt := 28) hG dX11_proof_11 (by decide) ?_
    exact (ps_sub [0, 1, 2, 3] rfl (hJ28 1 h))
def f_X11_isProved_J110 (v8_53 : Int32) (s0_110 : Int32) : Option ((Int32 × Int32) ⊕ (Int32)) :=
  some (.inl (s0_110, v8_53 + 1))
def f_X11_isProved_J82 (p2 : Int32) (v7_53 : Int32) (v8_53 : Int32) (s0_82 : Int32) : Option ((Int32 × Int32) ⊕ (Int32)) :=
  (if ((p2 >>> (v8_53 &&& 31)) &&& 1) = 0 then
                ((f_X11_hash v7_53 s0_82).bind fun r97 =>
                f_X11_isProved_J110 v8_53 r97)
              else
                ((f_X11_hash s0_82 v7_53).bind fun r107 =>
                f_X11_isProved_J110 v8_53 r107))
def f_X11_isProved_L53 (p2 : Int32) (p4 : Int32) (p5 : Int32) (p6 : Int32) (v7_53 : Int32) (v8_53 : Int32) : Option ((Int32 × Int32) ⊕ (Int32)) :=
  (if 3 ≤ v8_53 then
            some (.inr v7_53)
          else
            (if v8_53 = 0 then
              f_X11_isProved_J82 p2 v7_53 v8_53 p4
            else
              (if v8_53 = 1 then
                f_X11_isProved_J82 p2 v7_53 v8_53 p5
              else
                f_X11_isProved_J82 p2 v7_53 v8_53 p6)))
def f_X11_isProved_J30 (S : ps_S) (p1 : Int32) (p2 : Int32) (p3 : Int32) (p4 : Int32) (p5 : Int32) (p6 : Int32) (s1_30 : Int32) : Option (Int32 × ps_S) :=
  (ps_b2 (f_X11_holds S s1_30) fun r30 S30 =>
    (if r30 = 0 then
      some (0, S30)
    else
      ((f_X11_laysTree S30 p1).bind fun S40 =>
      ((f_X11_hash p3 p2).bind fun r45 =>
      ((ps_it (fun (a : Int32 × Int32) => f_X11_isProved_L53 p2 p4 p5 p6 a.1 a.2) ps_fu (r45, 0)).bind (fun e7_53 => (if e7_53 = (S40 96 (1 : Int32).toNatClampNeg) then
        some (1, S40)
      else
        some (0, S40))))))))
def f_X11_isProved (S : ps_S) (p1 : Int32) (p2 : Int32) (p3 : Int32) (p4 : Int32) (p5 : Int32) (p6 : Int32) : Option (Int32 × ps_S) :=
  ((f_X11_isAsked S p1 p2).bind fun r4 =>
  (if r4 = 0 then
    f_X11_isProved_J30 S p1 p2 p3 p4 p5 p6 1
  else
    ((f_X11_isIn p3 0 255).bind fun r19 =>
    (if r19 = 0 then
      f_X11_isProved_J30 S p1 p2 p3 p4 p5 p6 2
    else
      f_X11_isProved_J30 S p1 p2 p3 p4 p5 p6 0))))
theorem inX11_isProved_X11 : ∀ q ∈ wsX110, q ∈ wsX11_isProved := fun _ h => List.mem_cons_of_mem _ (List.mem_append_right _ h)
theorem mX11_isProved_56 : Cond.fieldLink RX11 56 (TX11 21).1 (TX11 21).2.1 (TX11 21).2.2.1 ∈ wsX11_isProved := List.mem_of_getElem? (i := 1) rfl
set_option maxHeartbeats 4000000 in
set_option maxRecDepth 100000 in
theorem c_X11_isProved (l : Launch) {w : ps_X} (hw : ps_ww w) {S S' : ps_S} {p1 p2 p3 p4 p5 p6 : Int32} {r : Int32} (h : f_X11_isProved S p1 p2 p3 p4 p5 p6 = some (r, S')) : ps_MetI l yX11_isProved wsX11_isProved (ps_rm 3 65) w [.ref (w.2.1 80), .int p1, .int p2, .int p3, .int p4, .int p5, .int p6] S S' r := by
  refine ps_mkZ (cc := cX11_isProved) (maxL := 10) (own := RX11) (by decide +kernel) rfl rfl rfl (Nat.le_of_ble_eq_true rfl) rfl (fun G hl hG hret => ?_)
  unfold f_X11_isProved at h
  refine ps_aload_n hG dX11_isProved_0 rfl 0 rfl ?_
  refine ps_aload_n hG dX11_isProved_1 rfl 0 rfl ?_
  refine ps_iload_n hG dX11_isProved_2 rfl 1 rfl ?_
  refine ps_iload_n hG dX11_isProved_3 rfl 2 rfl ?_
  obtain ⟨r4, hr4, h⟩ := ps_bd h
  refine ps_callVI (As := [.int p1, .int p2]) (rest := [.ref (w.2.1 80)]) (nA := 2) hG (c_X11_isAsked _ hw hr4) gX11_isProved_X11_isAsked rfl (by decide +kernel) rfl ⟨Nat.le_of_ble_eq_true rfl, Nat.le_of_ble_eq_true rfl⟩ ⟨rfl, rfl⟩ ⟨Nat.le_of_ble_eq_true rfl, Nat.le_of_ble_eq_true rfl⟩ (ps_lt hw ps_q80.2.2.1) (ps_cel_20 ps_q80.1 _) rfl rfl (Nat.le_of_ble_eq_true rfl) dX11_isProved_4 ?_
  have hJ30 : ∀ (s1_30 : Int32), f_X11_isProved_J30 S p1 p2 p3 p4 p5 p6 s1_30 = some (r, S') → ps_V G 10 0 0 w S 30 [(0, .ref (w.2.1 80)), (1, .int p1), (2, .int p2), (3, .int p3), (4, .int p4), (5, .int p5), (6, .int p6)] [.int s1_30, .ref (w.2.1 80)] := by
    intro s1_30 h
    unfold f_X11_isProved_J30 at h
    obtain ⟨r30, S30, hr30, h⟩ := ps_d2 h
    refine ps_callVI (As := [.int s1_30]) (rest := []) (nA := 1) hG (c_X11_holds _ hw hr30) gX11_isProved_X11_holds rfl (by decide +kernel) rfl ⟨Nat.le_of_ble_eq_true rfl, Nat.le_of_ble_eq_true rfl⟩ ⟨rfl, rfl⟩ ⟨Nat.le_of_ble_eq_true rfl, Nat.le_of_ble_eq_true rfl⟩ (ps_lt hw ps_q80.2.2.1) (ps_cel_20 ps_q80.1 _) rfl rfl (Nat.le_of_ble_eq_true rfl) dX11_isProved_30 ?_
    refine ps_if_ne (tgt := 38) hG dX11_isProved_33 (by decide) (fun c33 => ?_) (fun c33 => ?_)
    · replace h := ps_in c33 h
      refine ps_aload_n hG dX11_isProved_38 rfl 0 rfl ?_
      refine ps_iload_n hG dX11_isProved_39 rfl 1 rfl ?_
      obtain ⟨S40, hr40, h⟩ := ps_bd h
      refine ps_callVV (As := [.int p1]) (rest := []) (nA := 1) hG (c_X11_laysTree _ hw hr40) gX11_isProved_X11_laysTree rfl (by decide +kernel) rfl ⟨Nat.le_of_ble_eq_true rfl, Nat.le_of_ble_eq_true rfl⟩ ⟨rfl, rfl⟩ ⟨Nat.le_of_ble_eq_true rfl, Nat.le_of_ble_eq_true rfl⟩ (ps_lt hw ps_q80.2.2.1) (ps_cel_20 ps_q80.1 _) rfl rfl (Nat.le_of_ble_eq_true rfl) dX11_isProved_40 ?_
      refine ps_iload_n hG dX11_isProved_43 rfl 3 rfl ?_
      refine ps_iload_n hG dX11_isProved_44 rfl 2 rfl ?_
      obtain ⟨r45, hr45, h⟩ := ps_bd h
      refine ps_callSI (As := [.int p3, .int p2]) (rest := []) (nA := 2) hG (c_X11_hash _ hw hr45) gX11_isProved_X11_hash rfl (by decide +kernel) rfl ⟨Nat.le_of_ble_eq_true rfl, Nat.le_of_ble_eq_true rfl⟩ ⟨rfl, rfl⟩ ⟨Nat.le_of_ble_eq_true rfl, Nat.le_of_ble_eq_true rfl⟩ rfl (Nat.le_of_ble_eq_true rfl) dX11_isProved_45 ?_
      refine ps_istore (lv' := [(7, .int r45), (0, .ref (w.2.1 80)), (1, .int p1), (2, .int p2), (3, .int p3), (4, .int p4), (5, .int p5), (6, .int p6)]) hG dX11_isProved_48 (by decide) rfl ?_
      refine ps_iconst (v := 0) hG dX11_isProved_50 (by decide) ?_
      refine ps_istore (lv' := [(8, .int 0), (7, .int r45), (0, .ref (w.2.1 80)), (1, .int p1), (2, .int p2), (3, .int p3), (4, .int p4), (5, .int p5), (6, .int p6)]) hG dX11_isProved_51 (by decide) rfl ?_
      obtain ⟨e7_53, hq53, h⟩ := ps_bd h
      refine (ps_sub [2, 4, 6, 7, 8, 1, 0] rfl (ps_itV (fun (a : Int32 × Int32) => ps_V G 10 0 0 w S40 53 [(0, .ref (w.2.1 80)), (2, .int p2), (4, .int p4), (5, .int p5), (6, .int p6), (7, .int a.1), (8, .int a.2)] []) (fun (b : Int32) => ps_V G 10 0 0 w S40 118 [(0, .ref (w.2.1 80)), (7, .int b)] []) ?_ _ _ _ hq53 ?_))
      · intro a r9 h kc ke
        obtain ⟨v7_53, v8_53⟩ := a
        replace h : f_X11_isProved_L53 p2 p4 p5 p6 v7_53 v8_53 = some r9 := h
        show ps_V G 10 0 0 w S40 53 [(0, .ref (w.2.1 80)), (2, .int p2), (4, .int p4), (5, .int p5), (6, .int p6), (7, .int v7_53), (8, .int v8_53)] []
        unfold f_X11_isProved_L53 at h
        refine ps_iload hG dX11_isProved_53 6 rfl ?_
        refine ps_iconst (v := 3) hG dX11_isProved_55 (by decide) ?_
        refine ps_icmp_ge (tgt := 118) hG dX11_isProved_56 (by decide) (fun c56 => ?_) (fun c56 => ?_)
        · replace h := ps_ip c56 h
          cases h
          exact (ps_sub [0, 5] rfl (ke _ rfl))
        · replace h := ps_in c56 h
          refine ps_iload hG dX11_isProved_59 6 rfl ?_
          have hJ82 : ∀ (s0_82 : Int32), f_X11_isProved_J82 p2 v7_53 v8_53 s0_82 = some r9 → ps_V G 10 0 0 w S40 82 [(0, .ref (w.2.1 80)), (2, .int p2), (4, .int p4), (5, .int p5), (6, .int p6), (7, .int v7_53), (8, .int v8_53)] [.int s0_82] := by
            intro s0_82 h
            unfold f_X11_isProved_J82 at h
            refine ps_istore (lv' := [(9, .int s0_82), (0, .ref (w.2.1 80)), (2, .int p2), (4, .int p4), (5, .int p5), (6, .int p6), (7, .int v7_53), (8, .int v8_53)]) hG dX11_isProved_82 (by decide) rfl ?_
            refine ps_iload_n hG dX11_isProved_84 rfl 2 rfl ?_
            refine ps_iload hG dX11_isProved_85 7 rfl ?_
            refine ps_ishr hG dX11_isProved_87 ?_
            refine ps_iconst (v := 1) hG dX11_isProved_88 (by decide) ?_
            refine ps_iand hG dX11_isProved_89 ?_
            have hJ110 : ∀ (s0_110 : Int32), f_X11_isProved_J110 v8_53 s0_110 = some r9 → ps_V G 10 0 0 w S40 110 [(0, .ref (w.2.1 80)), (2, .int p2), (4, .int p4), (5, .int p5), (6, .int p6), (8, .int v8_53)] [.int s0_110] := by
              intro s0_110 h
              unfold f_X11_isProved_J110 at h
              refine ps_istore (lv' := [(7, .int s0_110), (0, .ref (w.2.1 80)), (2, .int p2), (4, .int p4), (5, .int p5), (6, .int p6), (8, .int v8_53)]) hG dX11_isProved_110 (by decide) rfl ?_
              refine ps_iinc (lv' := [(8, .int (v8_53 + 1)), (7, .int s0_110), (0, .ref (w.2.1 80)), (2, .int p2), (4, .int p4), (5, .int p5), (6, .int p6)]) hG dX11_isProved_112 6 rfl (by rfl) (by decide) rfl ?_
              refine ps_goto (tgt := 53) hG dX11_isProved_115 (by decide) ?_
              cases h
              exact (ps_sub [2, 3, 4, 5, 6, 1, 0] rfl (kc _ rfl))
            refine ps_if_ne (tgt := 103) hG dX11_isProved_90 (by decide) (fun c90 => ?_) (fun c90 => ?_)
            · replace h := ps_in c90 h
              refine ps_iload hG dX11_isProved_103 0 rfl ?_
              refine ps_iload hG dX11_isProved_105 6 rfl ?_
              obtain ⟨r107, hr107, h⟩ := ps_bd h
              refine ps_callSI (As := [.int s0_82, .int v7_53]) (rest := []) (nA := 2) hG (c_X11_hash _ hw hr107) gX11_isProved_X11_hash rfl (by decide +kernel) rfl ⟨Nat.le_of_ble_eq_true rfl, Nat.le_of_ble_eq_true rfl⟩ ⟨rfl, rfl⟩ ⟨Nat.le_of_ble_eq_true rfl, Nat.le_of_ble_eq_true rfl⟩ rfl (Nat.le_of_ble_eq_true rfl) dX11_isProved_107 ?_
              exact (ps_sub [1, 2, 3, 4, 5, 7] rfl (hJ110 r107 h))
            · replace h := ps_ip c90 h
              refine ps_iload hG dX11_isProved_93 6 rfl ?_
              refine ps_iload hG dX11_isProved_95 0 rfl ?_
              obtain ⟨r97, hr97, h⟩ := ps_bd h
              refine ps_callSI (As := [.int v7_53, .int s0_82]) (rest := []) (nA := 2) hG (c_X11_hash _ hw hr97) gX11_isProved_X11_hash rfl (by decide +kernel) rfl ⟨Nat.le_of_ble_eq_true rfl, Nat.le_of_ble_eq_true rfl⟩ ⟨rfl, rfl⟩ ⟨Nat.le_of_ble_eq_true rfl, Nat.le_of_ble_eq_true rfl⟩ rfl (Nat.le_of_ble_eq_true rfl) dX11_isProved_97 ?_
              refine ps_goto (tgt := 110) hG dX11_isProved_100 (by decide) ?_
              exact (ps_sub [1, 2, 3, 4, 5, 7] rfl (hJ110 r97 h))
          refine ps_if_ne (tgt := 69) hG dX11_isProved_61 (by decide) (fun c61 => ?_) (fun c61 => ?_)
          · replace h := ps_in c61 h
            refine ps_iload hG dX11_isProved_69 6 rfl ?_
            refine ps_iconst (v := 1) hG dX11_isProved_71 (by decide) ?_
            refine ps_icmp_ne (tgt := 80) hG dX11_isProved_72 (by decide) (fun c72 => ?_) (fun c72 => ?_)
            · replace h := ps_in c72 h
              refine ps_iload hG dX11_isProved_80 4 rfl ?_
              exact (ps_sub [0, 1, 2, 3, 4, 5, 6] rfl (hJ82 p6 h))
            · replace h := ps_ip c72 h
              refine ps_iload hG dX11_isProved_75 3 rfl ?_
              refine ps_goto (tgt := 82) hG dX11_isProved_77 (by decide) ?_
              exact (ps_sub [0, 1, 2, 3, 4, 5, 6] rfl (hJ82 p5 h))
          · replace h := ps_ip c61 h
            refine ps_iload hG dX11_isProved_64 2 rfl ?_
            refine ps_goto (tgt := 82) hG dX11_isProved_66 (by decide) ?_
            exact (ps_sub [0, 1, 2, 3, 4, 5, 6] rfl (hJ82 p4 h))
      · show ps_V G 10 0 0 w S40 118 [(0, .ref (w.2.1 80)), (7, .int e7_53)] []
        refine ps_iload hG dX11_isProved_118 1 rfl ?_
        refine ps_aload_n hG dX11_isProved_120 rfl 0 rfl ?_
        refine ps_get20_21 hG hw inX11_isProved_X11 ps_q80.1 (ps_lt hw ps_q80.2.2.1) mX11_isProved_56 dX11_isProved_121 ?_
        refine ps_iconst (v := 1) hG dX11_isProved_124 (by decide) ?_
        refine ps_iald hG ps_q96.1 ps_q96.2.1 (ps_lt hw ps_q96.2.2.1) (by decide) dX11_isProved_125 ?_
        refine ps_icmp_ne (tgt := 133) hG dX11_isProved_126 (by decide) (fun c126 => ?_) (fun c126 => ?_)
        · replace h := ps_in c126 h
          refine ps_iconst (v := 0) hG dX11_isProved_133 (by decide) ?_
          cases h
          exact hret _ _ dX11_isProved_134 rfl
        · replace h := ps_ip c126 h
          refine ps_iconst (v := 1) hG dX11_isProved_129 (by decide) ?_
          refine ps_goto (tgt := 134) hG dX11_isProved_130 (by decide) ?_
          cases h
          exact hret _ _ dX11_isProved_134 rfl
    · replace h := ps_ip c33 h
      refine ps_iconst (v := 0) hG dX11_isProved_36 (by decide) ?_
      cases h
      exact hret _ _ dX11_isProved_37 rfl
  refine ps_if_ne (tgt := 14) hG dX11_isProved_7 (by decide) (fun c7 => ?_) (fun c7 => ?_)
  · replace h := ps_in c7 h
    refine ps_iload_n hG dX11_isProved_14 rfl 3 rfl ?_
    refine ps_iconst (v := 0) hG dX11_isProved_15 (by decide) ?_
    refine ps_sipush (v := 255) hG dX11_isProved_16 (by decide) ?_
    obtain ⟨r19, hr19, h⟩ := ps_bd h
    refine ps_callSI (As := [.int p3, .int 0, .int 255]) (rest := [.ref (w.2.1 80)]) (nA := 3) hG (c_X11_isIn _ hw hr19) gX11_isProved_X11_isIn rfl (by decide +kernel) rfl ⟨Nat.le_of_ble_eq_true rfl, Nat.le_of_ble_eq_true rfl⟩ ⟨rfl, rfl⟩ ⟨Nat.le_of_ble_eq_true rfl, Nat.le_of_ble_eq_true rfl⟩ rfl (Nat.le_of_ble_eq_true rfl) dX11_isProved_19 ?_
    refine ps_if_eq (tgt := 29) hG dX11_isProved_22 (by decide) (fun c22 => ?_) (fun c22 => ?_)
    · replace h := ps_ip c22 h
      refine ps_iconst (v := 2) hG dX11_isProved_29 (by decide) ?_
      exact (ps_sub [0, 1, 2, 3, 4, 5, 6] rfl (hJ30 2 h))
    · replace h := ps_in c22 h
      refine ps_iconst (v := 0) hG dX11_isProved_25 (by decide) ?_
      refine ps_goto (tgt := 30) hG dX11_isProved_26 (by decide) ?_
      exact (ps_sub [0, 1, 2, 3, 4, 5, 6] rfl (hJ30 0 h))
  · replace h := ps_ip c7 h
    refine ps_iconst (v := 1) hG dX11_isProved_10 (by decide) ?_
    refine ps_goto (tgt := 30) hG dX11_isProved_11 (by decide) ?_
    exact (ps_sub [0, 1, 2, 3, 4, 5, 6] rfl (hJ30 1 h))
def f_X11_count_L4 (p0 : Int32) (v1_4 : Int32) (v2_4 : Int32) : Option ((Int32 × Int32) ⊕ (Int32)) :=
  (if 6 ≤ v2_4 then
        some (.inr v1_4)
      else
        some (.inl (v1_4 + ((p0 >>> (v2_4 &&& 31)) &&& 1), v2_4 + 1)))
def f_X11_count (p0 : Int32) : Option Int32 :=
  ((ps_it (fun (a : Int32 × Int32) => f_X11_count_L4 p0 a.1 a.2) ps_fu (0, 0)).bind (fun e1_4 => some e1_4))
set_option maxHeartbeats 4000000 in
set_option maxRecDepth 100000 in
theorem c_X11_count (l : Launch) {w : ps_X} (hw : ps_ww w) {S : ps_S} {p0 : Int32} {r : Int32} (h : f_X11_count p0 = some r) : ps_MetI l yX11_count wsX11_count (ps_rm 0 0) w [.int p0] S S r := by
  refine ps_mkI (cc := cX11_count) (maxL := 3) (own := RX11) (by decide +kernel) rfl (Or.inl rfl) rfl (Nat.le_of_ble_eq_true rfl) rfl (fun G hl hG hret => ?_)
  unfold f_X11_count at h
  refine ps_iconst (v := 0) hG dX11_count_0 (by decide) ?_
  refine ps_istore_n (lv' := [(1, .int 0), (0, .int p0)]) hG dX11_count_1 rfl (by decide) rfl ?_
  refine ps_iconst (v := 0) hG dX11_count_2 (by decide) ?_
  refine ps_istore_n (lv' := [(2, .int 0), (1, .int 0), (0, .int p0)]) hG dX11_count_3 rfl (by decide) rfl ?_
  obtain ⟨e1_4, hq4, h⟩ := ps_bd h
  refine (ps_sub [2, 1, 0] rfl (ps_itV (fun (a : Int32 × Int32) => ps_V G 3 0 0 w S 4 [(0, .int p0), (1, .int a.1), (2, .int a.2)] []) (fun (b : Int32) => ps_V G 3 0 0 w S 24 [(1, .int b)] []) ?_ _ _ _ hq4 ?_))
  · intro a r9 h kc ke
    obtain ⟨v1_4, v2_4⟩ := a
    replace h : f_X11_count_L4 p0 v1_4 v2_4 = some r9 := h
    show ps_V G 3 0 0 w S 4 [(0, .int p0), (1, .int v1_4), (2, .int v2_4)] []
    unfold f_X11_count_L4 at h
    refine ps_iload_n hG dX11_count_4 rfl 2 rfl ?_
    refine ps_bipush (v := 6) hG dX11_count_5 (by decide) ?_
    refine ps_icmp_ge (tgt := 24) hG dX11_count_7 (by decide) (fun c7 => ?_) (fun c7 => ?_)
    · replace h := ps_ip c7 h
      cases h
      exact (ps_sub [1] rfl (ke _ rfl))
    · replace h := ps_in c7 h
      refine ps_iload_n hG dX11_count_10 rfl 1 rfl ?_
      refine ps_iload_n hG dX11_count_11 rfl 0 rfl ?_
      refine ps_iload_n hG dX11_count_12 rfl 2 rfl ?_
      refine ps_ishr hG dX11_count_13 ?_
      refine ps_iconst (v := 1) hG dX11_count_14 (by decide) ?_
      refine ps_iand hG dX11_count_15 ?_
      refine ps_iadd hG dX11_count_16 ?_
      refine ps_istore_n (lv' := [(1, .int (v1_4 + ((p0 >>> (v2_4 &&& 31)) &&& 1))), (0, .int p0), (2, .int v2_4)]) hG dX11_count_17 rfl (by decide) rfl ?_
      refine ps_iinc (lv' := [(2, .int (v2_4 + 1)), (1, .int (v1_4 + ((p0 >>> (v2_4 &&& 31)) &&& 1))), (0, .int p0)]) hG dX11_count_18 2 rfl (by rfl) (by decide) rfl ?_
      refine ps_goto (tgt := 4) hG dX11_count_21 (by decide) ?_
      cases h
      exact (ps_sub [2, 1, 0] rfl (kc _ rfl))
  · show ps_V G 3 0 0 w S 24 [(1, .int e1_4)] []
    refine ps_iload_n hG dX11_count_24 rfl 0 rfl ?_
    cases h
    exact hret _ _ dX11_count_25
def f_X11_mend_J36 (S : ps_S) (p1 : Int32) (s1_36 : Int32) : Option (Int32 × ps_S) :=
  (ps_b2 (f_X11_holds S s1_36) fun r36 S36 =>
    (if r36 = 0 then
      some (0, S36)
    else
      (if ps_ib (6 * p1) 72 = true then
      (if ps_ib ((6 * p1) + 1) 72 = true then
      (if ps_ib ((6 * p1) + 2) 72 = true then
      (if ps_ib ((6 * p1) + 3) 72 = true then
      some ((((S36 92 (6 * p1).toNatClampNeg) ||| ((S36 92 ((6 * p1) + 1).toNatClampNeg) <<< (8 &&& 31))) ||| ((S36 92 ((6 * p1) + 2).toNatClampNeg) <<< (16 &&& 31))) ||| ((S36 92 ((6 * p1) + 3).toNatClampNeg) <<< (24 &&& 31)), S36) else none) else none) else none) else none)))
def f_X11_mend (S : ps_S) (p1 : Int32) (p2 : Int32) : Option (Int32 × ps_S) :=
  ((f_X11_isFile S p1).bind fun r3 =>
  (if r3 = 0 then
    f_X11_mend_J36 S p1 1
  else
    ((f_X11_isIn p2 0 63).bind fun r17 =>
    (if r17 = 0 then
      f_X11_mend_J36 S p1 2
    else
      ((f_X11_count p2).bind fun r24 =>
      (if r24 ≤ 3 then
        f_X11_mend_J36 S p1 2
      else
        f_X11_mend_J36 S p1 0))))))
theorem inX11_mend_X11 : ∀ q ∈ wsX110, q ∈ wsX11_mend := fun _ h => List.mem_cons_of_mem _ (List.mem_append_right _ h)
theorem mX11_mend_44 : Cond.fieldLink RX11 44 (TX11 17).1 (TX11 17).2.1 (TX11 17).2.2.1 ∈ wsX11_mend := List.mem_of_getElem? (i := 1) rfl
set_option maxHeartbeats 4000000 in
set_option maxRecDepth 100000 in
theorem c_X11_mend (l : Launch) {w : ps_X} (hw : ps_ww w) {S S' : ps_S} {p1 p2 : Int32} {r : Int32} (h : f_X11_mend S p1 p2 = some (r, S')) : ps_MetI l yX11_mend wsX11_mend (ps_rm 2 43) w [.ref (w.2.1 80), .int p1, .int p2] S S' r := by
  refine ps_mkI (cc := cX11_mend) (maxL := 4) (own := RX11) (by decide +kernel) rfl (Or.inl rfl) rfl (Nat.le_of_ble_eq_true rfl) rfl (fun G hl hG hret => ?_)
  unfold f_X11_mend at h
  refine ps_aload_n hG dX11_mend_0 rfl 0 rfl ?_
  refine ps_aload_n hG dX11_mend_1 rfl 0 rfl ?_
  refine ps_iload_n hG dX11_mend_2 rfl 1 rfl ?_
  obtain ⟨r3, hr3, h⟩ := ps_bd h
  refine ps_callVI (As := [.int p1]) (rest := [.ref (w.2.1 80)]) (nA := 1) hG (c_X11_isFile _ hw hr3) gX11_mend_X11_isFile rfl (by decide +kernel) rfl ⟨Nat.le_of_ble_eq_true rfl, Nat.le_of_ble_eq_true rfl⟩ ⟨rfl, rfl⟩ ⟨Nat.le_of_ble_eq_true rfl, Nat.le_of_ble_eq_true rfl⟩ (ps_lt hw ps_q80.2.2.1) (ps_cel_20 ps_q80.1 _) rfl rfl (Nat.le_of_ble_eq_true rfl) dX11_mend_3 ?_
  have hJ36 : ∀ (s1_36 : Int32), f_X11_mend_J36 S p1 s1_36 = some (r, S') → ps_V G 4 0 0 w S 36 [(0, .ref (w.2.1 80)), (1, .int p1)] [.int s1_36, .ref (w.2.1 80)] := by
    intro s1_36 h
    unfold f_X11_mend_J36 at h
    obtain ⟨r36, S36, hr36, h⟩ := ps_d2 h
    refine ps_callVI (As := [.int s1_36]) (rest := []) (nA := 1) hG (c_X11_holds _ hw hr36) gX11_mend_X11_holds rfl (by decide +kernel) rfl ⟨Nat.le_of_ble_eq_true rfl, Nat.le_of_ble_eq_true rfl⟩ ⟨rfl, rfl⟩ ⟨Nat.le_of_ble_eq_true rfl, Nat.le_of_ble_eq_true rfl⟩ (ps_lt hw ps_q80.2.2.1) (ps_cel_20 ps_q80.1 _) rfl rfl (Nat.le_of_ble_eq_true rfl) dX11_mend_36 ?_
    refine ps_if_ne (tgt := 44) hG dX11_mend_39 (by decide) (fun c39 => ?_) (fun c39 => ?_)
    · replace h := ps_in c39 h
      refine ps_bipush (v := 6) hG dX11_mend_44 (by decide) ?_
      refine ps_iload_n hG dX11_mend_46 rfl 1 rfl ?_
      refine ps_imul hG dX11_mend_47 ?_
      refine ps_istore_n (lv' := [(3, .int (6 * p1)), (0, .ref (w.2.1 80)), (1, .int p1)]) hG dX11_mend_48 rfl (by decide) rfl ?_
      refine ps_aload_n hG dX11_mend_49 rfl 1 rfl ?_
      refine ps_get20_17 hG hw inX11_mend_X11 ps_q80.1 (ps_lt hw ps_q80.2.2.1) mX11_mend_44 dX11_mend_50 ?_
      refine ps_iload_n hG dX11_mend_53 rfl 0 rfl ?_
      obtain ⟨hb54, h⟩ := ps_ig h
      refine ps_iald hG ps_q92.1 ps_q92.2.1 (ps_lt hw ps_q92.2.2.1) hb54 dX11_mend_54 ?_
      refine ps_aload_n hG dX11_mend_55 rfl 1 rfl ?_
      refine ps_get20_17 hG hw inX11_mend_X11 ps_q80.1 (ps_lt hw ps_q80.2.2.1) mX11_mend_44 dX11_mend_56 ?_
      refine ps_iload_n hG dX11_mend_59 rfl 0 rfl ?_
      refine ps_iconst (v := 1) hG dX11_mend_60 (by decide) ?_
      refine ps_iadd hG dX11_mend_61 ?_
      obtain ⟨hb62, h⟩ := ps_ig h
      refine ps_iald hG ps_q92.1 ps_q92.2.1 (ps_lt hw ps_q92.2.2.1) hb62 dX11_mend_62 ?_
      refine ps_bipush (v := 8) hG dX11_mend_63 (by decide) ?_
      refine ps_ishl hG dX11_mend_65 ?_
      refine ps_ior hG dX11_mend_66 ?_
      refine ps_aload_n hG dX11_mend_67 rfl 1 rfl ?_
      refine ps_get20_17 hG hw inX11_mend_X11 ps_q80.1 (ps_lt hw ps_q80.2.2.1) mX11_mend_44 dX11_mend_68 ?_
      refine ps_iload_n hG dX11_mend_71 rfl 0 rfl ?_
      refine ps_iconst (v := 2) hG dX11_mend_72 (by decide) ?_
      refine ps_iadd hG dX11_mend_73 ?_
      obtain ⟨hb74, h⟩ := ps_ig h
      refine ps_iald hG ps_q92.1 ps_q92.2.1 (ps_lt hw ps_q92.2.2.1) hb74 dX11_mend_74 ?_
      refine ps_bipush (v := 16) hG dX11_mend_75 (by decide) ?_
      refine ps_ishl hG dX11_mend_77 ?_
      refine ps_ior hG dX11_mend_78 ?_
      refine ps_aload_n hG dX11_mend_79 rfl 1 rfl ?_
      refine ps_get20_17 hG hw inX11_mend_X11 ps_q80.1 (ps_lt hw ps_q80.2.2.1) mX11_mend_44 dX11_mend_80 ?_
      refine ps_iload_n hG dX11_mend_83 rfl 0 rfl ?_
      refine ps_iconst (v := 3) hG dX11_mend_84 (by decide) ?_
      refine ps_iadd hG dX11_mend_85 ?_
      obtain ⟨hb86, h⟩ := ps_ig h
      refine ps_iald hG ps_q92.1 ps_q92.2.1 (ps_lt hw ps_q92.2.2.1) hb86 dX11_mend_86 ?_
      refine ps_bipush (v := 24) hG dX11_mend_87 (by decide) ?_
      refine ps_ishl hG dX11_mend_89 ?_
      refine ps_ior hG dX11_mend_90 ?_
      cases h
      exact hret _ _ dX11_mend_91
    · replace h := ps_ip c39 h
      refine ps_iconst (v := 0) hG dX11_mend_42 (by decide) ?_
      cases h
      exact hret _ _ dX11_mend_43
  refine ps_if_ne (tgt := 13) hG dX11_mend_6 (by decide) (fun c6 => ?_) (fun c6 => ?_)
  · replace h := ps_in c6 h
    refine ps_iload_n hG dX11_mend_13 rfl 2 rfl ?_
    refine ps_iconst (v := 0) hG dX11_mend_14 (by decide) ?_
    refine ps_bipush (v := 63) hG dX11_mend_15 (by decide) ?_
    obtain ⟨r17, hr17, h⟩ := ps_bd h
    refine ps_callSI (As := [.int p2, .int 0, .int 63]) (rest := [.ref (w.2.1 80)]) (nA := 3) hG (c_X11_isIn _ hw hr17) gX11_mend_X11_isIn rfl (by decide +kernel) rfl ⟨Nat.le_of_ble_eq_true rfl, Nat.le_of_ble_eq_true rfl⟩ ⟨rfl, rfl⟩ ⟨Nat.le_of_ble_eq_true rfl, Nat.le_of_ble_eq_true rfl⟩ rfl (Nat.le_of_ble_eq_true rfl) dX11_mend_17 ?_
    refine ps_if_eq (tgt := 35) hG dX11_mend_20 (by decide) (fun c20 => ?_) (fun c20 => ?_)
    · replace h := ps_ip c20 h
      refine ps_iconst (v := 2) hG dX11_mend_35 (by decide) ?_
      exact (ps_sub [0, 1] rfl (hJ36 2 h))
    · replace h := ps_in c20 h
      refine ps_iload_n hG dX11_mend_23 rfl 2 rfl ?_
      obtain ⟨r24, hr24, h⟩ := ps_bd h
      refine ps_callSI (As := [.int p2]) (rest := [.ref (w.2.1 80)]) (nA := 1) hG (c_X11_count _ hw hr24) gX11_mend_X11_count rfl (by decide +kernel) rfl ⟨Nat.le_of_ble_eq_true rfl, Nat.le_of_ble_eq_true rfl⟩ ⟨rfl, rfl⟩ ⟨Nat.le_of_ble_eq_true rfl, Nat.le_of_ble_eq_true rfl⟩ rfl (Nat.le_of_ble_eq_true rfl) dX11_mend_24 ?_
      refine ps_iconst (v := 3) hG dX11_mend_27 (by decide) ?_
      refine ps_icmp_le (tgt := 35) hG dX11_mend_28 (by decide) (fun c28 => ?_) (fun c28 => ?_)
      · replace h := ps_ip c28 h
        refine ps_iconst (v := 2) hG dX11_mend_35 (by decide) ?_
        exact (ps_sub [0, 1] rfl (hJ36 2 h))
      · replace h := ps_in c28 h
        refine ps_iconst (v := 0) hG dX11_mend_31 (by decide) ?_
        refine ps_goto (tgt := 36) hG dX11_mend_32 (by decide) ?_
        exact (ps_sub [0, 1] rfl (hJ36 0 h))
  · replace h := ps_ip c6 h
    refine ps_iconst (v := 1) hG dX11_mend_9 (by decide) ?_
    refine ps_goto (tgt := 36) hG dX11_mend_10 (by decide) ?_
    exact (ps_sub [0, 1] rfl (hJ36 1 h))
def f_X11_isThere (S : ps_S) (p1 : Int32) : Option Int32 :=
  (if ps_ib p1 72 = true then
  (if (S 93 p1.toNatClampNeg) = (-1) then
    some 0
  else
    (if ps_ib p1 72 = true then
    (if (S 94 p1.toNatClampNeg) = 0 then
      some 0
    else
      (if ps_ib p1 72 = true then
      (if ps_ib (S 93 p1.toNatClampNeg) 16 = true then
      (if (S 83 (S 93 p1.toNatClampNeg).toNatClampNeg) = 0 then
        some 0
      else
        some 1) else none) else none)) else none)) else none)
theorem inX11_isThere_X11 : ∀ q ∈ wsX110, q ∈ wsX11_isThere := fun _ h => List.mem_cons_of_mem _ (List.mem_append_right _ h)
theorem mX11_isThere_16 : Cond.fieldLink RX11 16 (TX11 5).1 (TX11 5).2.1 (TX11 5).2.2.1 ∈ wsX11_isThere := List.mem_of_getElem? (i := 3) rfl
theorem mX11_isThere_47 : Cond.fieldLink RX11 47 (TX11 18).1 (TX11 18).2.1 (TX11 18).2.2.1 ∈ wsX11_isThere := List.mem_of_getElem? (i := 1) rfl
theorem mX11_isThere_50 : Cond.fieldLink RX11 50 (TX11 19).1 (TX11 19).2.1 (TX11 19).2.2.1 ∈ wsX11_isThere := List.mem_of_getElem? (i := 2) rfl
set_option maxHeartbeats 4000000 in
set_option maxRecDepth 100000 in
theorem c_X11_isThere (l : Launch) {w : ps_X} (hw : ps_ww w) {S : ps_S} {p1 : Int32} {r : Int32} (h : f_X11_isThere S p1 = some r) : ps_MetI l yX11_isThere wsX11_isThere (ps_rm 0 0) w [.ref (w.2.1 80), .int p1] S S r := by
  refine ps_mkZ (cc := cX11_isThere) (maxL := 2) (own := RX11) (by decide +kernel) rfl rfl rfl (Nat.le_of_ble_eq_true rfl) rfl (fun G hl hG hret => ?_)
  unfold f_X11_isThere at h
  refine ps_aload_n hG dX11_isThere_0 rfl 0 rfl ?_
  refine ps_get20_18 hG hw inX11_isThere_X11 ps_q80.1 (ps_lt hw ps_q80.2.2.1) mX11_isThere_47 dX11_isThere_1 ?_
  refine ps_iload_n hG dX11_isThere_4 rfl 1 rfl ?_
  obtain ⟨hb5, h⟩ := ps_ig h
  refine ps_iald hG ps_q93.1 ps_q93.2.1 (ps_lt hw ps_q93.2.2.1) hb5 dX11_isThere_5 ?_
  refine ps_iconst (v := (-1)) hG dX11_isThere_6 (by decide) ?_
  refine ps_icmp_eq (tgt := 37) hG dX11_isThere_7 (by decide) (fun c7 => ?_) (fun c7 => ?_)
  · replace h := ps_ip c7 h
    refine ps_iconst (v := 0) hG dX11_isThere_37 (by decide) ?_
    cases h
    exact hret _ _ dX11_isThere_38 rfl
  · replace h := ps_in c7 h
    refine ps_aload_n hG dX11_isThere_10 rfl 0 rfl ?_
    refine ps_get20_19 hG hw inX11_isThere_X11 ps_q80.1 (ps_lt hw ps_q80.2.2.1) mX11_isThere_50 dX11_isThere_11 ?_
    refine ps_iload_n hG dX11_isThere_14 rfl 1 rfl ?_
    obtain ⟨hb15, h⟩ := ps_ig h
    refine ps_zald hG ps_q94.1 ps_q94.2.1 (ps_lt hw ps_q94.2.2.1) hb15 dX11_isThere_15 ?_
    refine ps_if_eq (tgt := 37) hG dX11_isThere_16 (by decide) (fun c16 => ?_) (fun c16 => ?_)
    · replace h := ps_ip c16 h
      refine ps_iconst (v := 0) hG dX11_isThere_37 (by decide) ?_
      cases h
      exact hret _ _ dX11_isThere_38 rfl
    · replace h := ps_in c16 h
      refine ps_aload_n hG dX11_isThere_19 rfl 0 rfl ?_
      refine ps_get20_5 hG hw inX11_isThere_X11 ps_q80.1 (ps_lt hw ps_q80.2.2.1) mX11_isThere_16 dX11_isThere_20 ?_
      refine ps_aload_n hG dX11_isThere_23 rfl 0 rfl ?_
      refine ps_get20_18 hG hw inX11_isThere_X11 ps_q80.1 (ps_lt hw ps_q80.2.2.1) mX11_isThere_47 dX11_isThere_24 ?_
      refine ps_iload_n hG dX11_isThere_27 rfl 1 rfl ?_
      obtain ⟨hb28, h⟩ := ps_ig h
      refine ps_iald hG ps_q93.1 ps_q93.2.1 (ps_lt hw ps_q93.2.2.1) hb28 dX11_isThere_28 ?_
      obtain ⟨hb29, h⟩ := ps_ig h
      refine ps_zald hG ps_q83.1 ps_q83.2.1 (ps_lt hw ps_q83.2.2.1) hb29 dX11_isThere_29 ?_
      refine ps_if_eq (tgt := 37) hG dX11_isThere_30 (by decide) (fun c30 => ?_) (fun c30 => ?_)
      · replace h := ps_ip c30 h
        refine ps_iconst (v := 0) hG dX11_isThere_37 (by decide) ?_
        cases h
        exact hret _ _ dX11_isThere_38 rfl
      · replace h := ps_in c30 h
        refine ps_iconst (v := 1) hG dX11_isThere_33 (by decide) ?_
        refine ps_goto (tgt := 38) hG dX11_isThere_34 (by decide) ?_
        cases h
        exact hret _ _ dX11_isThere_38 rfl
def f_X11_fetch_J90 (v4_62 : Int32) (v5_62 : Int32) (s1_90 : Int32) : Option ((Int32 × Int32) ⊕ (Int32)) :=
  some (.inl (v4_62 + s1_90, v5_62 + 1))
def f_X11_fetch_L62 (p2 : Int32) (S45 : ps_S) (v4_62 : Int32) (v5_62 : Int32) : Option ((Int32 × Int32) ⊕ (Int32)) :=
  (if ((6 * p2) + 6) ≤ v5_62 then
              some (.inr v4_62)
            else
              ((f_X11_isThere S45 v5_62).bind fun r79 =>
              (if r79 = 0 then
                f_X11_fetch_J90 v4_62 v5_62 0
              else
                f_X11_fetch_J90 v4_62 v5_62 1)))
def f_X11_fetch_J192 (v5_126 : Int32) (T192 : ps_S) (v4_192 : Int32) : Option ((ps_S × Int32 × Int32) ⊕ (ps_S × Int32)) :=
  some (.inl (T192, v4_192, v5_126 + 1))
def f_X11_fetch_J187 (p1 : Int32) (T126 : ps_S) (v4_126 : Int32) (v5_126 : Int32) (s3_187 : Int32) : Option ((ps_S × Int32 × Int32) ⊕ (ps_S × Int32)) :=
  (if ps_ib ((16 * p1) + (T126 93 v5_126.toNatClampNeg)) 256 = true then
                        f_X11_fetch_J192 v5_126 (ps_up T126 101 ((16 * p1) + (T126 93 v5_126.toNatClampNeg)).toNatClampNeg ((T126 101 ((16 * p1) + (T126 93 v5_126.toNatClampNeg)).toNatClampNeg) + s3_187)) (v4_126 + 1) else none)
def f_X11_fetch_L126 (p1 : Int32) (p2 : Int32) (T126 : ps_S) (v4_126 : Int32) (v5_126 : Int32) : Option ((ps_S × Int32 × Int32) ⊕ (ps_S × Int32)) :=
  (if ((6 * p2) + 6) ≤ v5_126 then
                  some (.inr (T126, v4_126))
                else
                  (if 4 ≤ v4_126 then
                    some (.inr (T126, v4_126))
                  else
                    ((f_X11_isThere T126 v5_126).bind fun r147 =>
                    (if r147 = 0 then
                      f_X11_fetch_J192 v5_126 T126 v4_126
                    else
                      (if ps_ib v5_126 72 = true then
                      (if ps_ib ((16 * p1) + (T126 93 v5_126.toNatClampNeg)) 256 = true then
                      (if ps_ib v5_126 72 = true then
                      (if (T126 93 v5_126.toNatClampNeg) = p1 then
                        f_X11_fetch_J187 p1 T126 v4_126 v5_126 0
                      else
                        f_X11_fetch_J187 p1 T126 v4_126 v5_126 1) else none) else none) else none)))))
def f_X11_fetch_J45 (S : ps_S) (p1 : Int32) (p2 : Int32) (s1_45 : Int32) : Option (Int32 × ps_S) :=
  (ps_b2 (f_X11_holds S s1_45) fun r45 S45 =>
      (if r45 = 0 then
        some (0, S45)
      else
        ((ps_it (fun (a : Int32 × Int32) => f_X11_fetch_L62 p2 S45 a.1 a.2) ps_fu (0, 6 * p2)).bind (fun e4_62 => (if ps_ib p2 12 = true then
        (if (S45 91 p2.toNatClampNeg) = p1 then
          some (0, S45)
        else
          (if 4 ≤ e4_62 then
            (ps_b2 (ps_it (fun (a : ps_S × Int32 × Int32) => f_X11_fetch_L126 p1 p2 a.1 a.2.1 a.2.2) ps_fu (S45, 0, 6 * p2)) (fun S126 e4_126 => some (e4_126, S126)))
          else
            some (0, S45))) else none)))))
def f_X11_fetch_J21 (S : ps_S) (p1 : Int32) (p2 : Int32) (s0_21 : Int32) : Option (Int32 × ps_S) :=
  (if s0_21 = 0 then
      f_X11_fetch_J45 S p1 p2 1
    else
      (if ps_ib p1 16 = true then
      (if (S 83 p1.toNatClampNeg) = 0 then
        f_X11_fetch_J45 S p1 p2 2
      else
        f_X11_fetch_J45 S p1 p2 0) else none))
def f_X11_fetch (S : ps_S) (p1 : Int32) (p2 : Int32) : Option (Int32 × ps_S) :=
  ((f_X11_isPeer S p1).bind fun r2 =>
  (if r2 = 0 then
    f_X11_fetch_J21 S p1 p2 0
  else
    ((f_X11_isFile S p2).bind fun r10 =>
    (if r10 = 0 then
      f_X11_fetch_J21 S p1 p2 0
    else
      f_X11_fetch_J21 S p1 p2 1))))
theorem inX11_fetch_X11 : ∀ q ∈ wsX110, q ∈ wsX11_fetch := fun _ h => List.mem_cons_of_mem _ (List.mem_append_right _ h)
theorem mX11_fetch_16 : Cond.fieldLink RX11 16 (TX11 5).1 (TX11 5).2.1 (TX11 5).2.2.1 ∈ wsX11_fetch := List.mem_of_getElem? (i := 1) rfl
theorem mX11_fetch_41 : Cond.fieldLink RX11 41 (TX11 16).1 (TX11 16).2.1 (TX11 16).2.2.1 ∈ wsX11_fetch := List.mem_of_getElem? (i := 2) rfl
theorem mX11_fetch_47 : Cond.fieldLink RX11 47 (TX11 18).1 (TX11 18).2.1 (TX11 18).2.2.1 ∈ wsX11_fetch := List.mem_of_getElem? (i := 4) rfl
theorem mX11_fetch_71 : Cond.fieldLink RX11 71 (TX11 27).1 (TX11 27).2.1 (TX11 27).2.2.1 ∈ wsX11_fetch := List.mem_of_getElem? (i := 3) rfl
set_option maxHeartbeats 4000000 in
set_option maxRecDepth 100000 in
theorem c_X11_fetch (l : Launch) {w : ps_X} (hw : ps_ww w) {S S' : ps_S} {p1 p2 : Int32} {r : Int32} (h : f_X11_fetch S p1 p2 = some (r, S')) : ps_MetI l yX11_fetch wsX11_fetch (ps_rm 2 43) w [.ref (w.2.1 80), .int p1, .int p2] S S' r := by
  refine ps_mkI (cc := cX11_fetch) (maxL := 6) (own := RX11) (by decide +kernel) rfl (Or.inl rfl) rfl (Nat.le_of_ble_eq_true rfl) rfl (fun G hl hG hret => ?_)
  unfold f_X11_fetch at h
  refine ps_aload_n hG dX11_fetch_0 rfl 0 rfl ?_
  refine ps_iload_n hG dX11_fetch_1 rfl 1 rfl ?_
  obtain ⟨r2, hr2, h⟩ := ps_bd h
  refine ps_callVI (As := [.int p1]) (rest := []) (nA := 1) hG (c_X11_isPeer _ hw hr2) gX11_fetch_X11_isPeer rfl (by decide +kernel) rfl ⟨Nat.le_of_ble_eq_true rfl, Nat.le_of_ble_eq_true rfl⟩ ⟨rfl, rfl⟩ ⟨Nat.le_of_ble_eq_true rfl, Nat.le_of_ble_eq_true rfl⟩ (ps_lt hw ps_q80.2.2.1) (ps_cel_20 ps_q80.1 _) rfl rfl (Nat.le_of_ble_eq_true rfl) dX11_fetch_2 ?_
  have hJ21 : ∀ (s0_21 : Int32), f_X11_fetch_J21 S p1 p2 s0_21 = some (r, S') → ps_V G 6 0 0 w S 21 [(0, .ref (w.2.1 80)), (1, .int p1), (2, .int p2)] [.int s0_21] := by
    intro s0_21 h
    unfold f_X11_fetch_J21 at h
    refine ps_istore_n (lv' := [(3, .int s0_21), (0, .ref (w.2.1 80)), (1, .int p1), (2, .int p2)]) hG dX11_fetch_21 rfl (by decide) rfl ?_
    refine ps_aload_n hG dX11_fetch_22 rfl 1 rfl ?_
    refine ps_iload_n hG dX11_fetch_23 rfl 0 rfl ?_
    have hJ45 : ∀ (s1_45 : Int32), f_X11_fetch_J45 S p1 p2 s1_45 = some (r, S') → ps_V G 6 0 0 w S 45 [(0, .ref (w.2.1 80)), (1, .int p1), (2, .int p2)] [.int s1_45, .ref (w.2.1 80)] := by
      intro s1_45 h
      unfold f_X11_fetch_J45 at h
      obtain ⟨r45, S45, hr45, h⟩ := ps_d2 h
      refine ps_callVI (As := [.int s1_45]) (rest := []) (nA := 1) hG (c_X11_holds _ hw hr45) gX11_fetch_X11_holds rfl (by decide +kernel) rfl ⟨Nat.le_of_ble_eq_true rfl, Nat.le_of_ble_eq_true rfl⟩ ⟨rfl, rfl⟩ ⟨Nat.le_of_ble_eq_true rfl, Nat.le_of_ble_eq_true rfl⟩ (ps_lt hw ps_q80.2.2.1) (ps_cel_20 ps_q80.1 _) rfl rfl (Nat.le_of_ble_eq_true rfl) dX11_fetch_45 ?_
      refine ps_if_ne (tgt := 53) hG dX11_fetch_48 (by decide) (fun c48 => ?_) (fun c48 => ?_)
      · replace h := ps_in c48 h
        refine ps_iconst (v := 0) hG dX11_fetch_53 (by decide) ?_
        refine ps_istore (lv' := [(4, .int 0), (0, .ref (w.2.1 80)), (1, .int p1), (2, .int p2)]) hG dX11_fetch_54 (by decide) rfl ?_
        refine ps_bipush (v := 6) hG dX11_fetch_56 (by decide) ?_
        refine ps_iload_n hG dX11_fetch_58 rfl 3 rfl ?_
        refine ps_imul hG dX11_fetch_59 ?_
        refine ps_istore (lv' := [(5, .int (6 * p2)), (4, .int 0), (0, .ref (w.2.1 80)), (1, .int p1), (2, .int p2)]) hG dX11_fetch_60 (by decide) rfl ?_
        obtain ⟨e4_62, hq62, h⟩ := ps_bd h
        refine (ps_sub [2, 3, 4, 1, 0] rfl (ps_itV (fun (a : Int32 × Int32) => ps_V G 6 0 0 w S45 62 [(0, .ref (w.2.1 80)), (1, .int p1), (2, .int p2), (4, .int a.1), (5, .int a.2)] []) (fun (b : Int32) => ps_V G 6 0 0 w S45 99 [(0, .ref (w.2.1 80)), (1, .int p1), (2, .int p2), (4, .int b)] []) ?_ _ _ _ hq62 ?_))
        · intro a r9 h kc ke
          obtain ⟨v4_62, v5_62⟩ := a
          replace h : f_X11_fetch_L62 p2 S45 v4_62 v5_62 = some r9 := h
          show ps_V G 6 0 0 w S45 62 [(0, .ref (w.2.1 80)), (1, .int p1), (2, .int p2), (4, .int v4_62), (5, .int v5_62)] []
          unfold f_X11_fetch_L62 at h
          refine ps_iload hG dX11_fetch_62 4 rfl ?_
          refine ps_bipush (v := 6) hG dX11_fetch_64 (by decide) ?_
          refine ps_iload_n hG dX11_fetch_66 rfl 2 rfl ?_
          refine ps_imul hG dX11_fetch_67 ?_
          refine ps_bipush (v := 6) hG dX11_fetch_68 (by decide) ?_
          refine ps_iadd hG dX11_fetch_70 ?_
          refine ps_icmp_ge (tgt := 99) hG dX11_fetch_71 (by decide) (fun c71 => ?_) (fun c71 => ?_)
          · replace h := ps_ip c71 h
            cases h
            exact (ps_sub [0, 1, 2, 3] rfl (ke _ rfl))
          · replace h := ps_in c71 h
            refine ps_iload hG dX11_fetch_74 3 rfl ?_
            refine ps_aload_n hG dX11_fetch_76 rfl 0 rfl ?_
            refine ps_iload hG dX11_fetch_77 4 rfl ?_
            obtain ⟨r79, hr79, h⟩ := ps_bd h
            refine ps_callVI (As := [.int v5_62]) (rest := [.int v4_62]) (nA := 1) hG (c_X11_isThere _ hw hr79) gX11_fetch_X11_isThere rfl (by decide +kernel) rfl ⟨Nat.le_of_ble_eq_true rfl, Nat.le_of_ble_eq_true rfl⟩ ⟨rfl, rfl⟩ ⟨Nat.le_of_ble_eq_true rfl, Nat.le_of_ble_eq_true rfl⟩ (ps_lt hw ps_q80.2.2.1) (ps_cel_20 ps_q80.1 _) rfl rfl (Nat.le_of_ble_eq_true rfl) dX11_fetch_79 ?_
            have hJ90 : ∀ (s1_90 : Int32), f_X11_fetch_J90 v4_62 v5_62 s1_90 = some r9 → ps_V G 6 0 0 w S45 90 [(0, .ref (w.2.1 80)), (1, .int p1), (2, .int p2), (5, .int v5_62)] [.int s1_90, .int v4_62] := by
              intro s1_90 h
              unfold f_X11_fetch_J90 at h
              refine ps_iadd hG dX11_fetch_90 ?_
              refine ps_istore (lv' := [(4, .int (v4_62 + s1_90)), (0, .ref (w.2.1 80)), (1, .int p1), (2, .int p2), (5, .int v5_62)]) hG dX11_fetch_91 (by decide) rfl ?_
              refine ps_iinc (lv' := [(5, .int (v5_62 + 1)), (4, .int (v4_62 + s1_90)), (0, .ref (w.2.1 80)), (1, .int p1), (2, .int p2)]) hG dX11_fetch_93 4 rfl (by rfl) (by decide) rfl ?_
              refine ps_goto (tgt := 62) hG dX11_fetch_96 (by decide) ?_
              cases h
              exact (ps_sub [2, 3, 4, 1, 0] rfl (kc _ rfl))
            refine ps_if_eq (tgt := 89) hG dX11_fetch_82 (by decide) (fun c82 => ?_) (fun c82 => ?_)
            · replace h := ps_ip c82 h
              refine ps_iconst (v := 0) hG dX11_fetch_89 (by decide) ?_
              exact (ps_sub [0, 1, 2, 4] rfl (hJ90 0 h))
            · replace h := ps_in c82 h
              refine ps_iconst (v := 1) hG dX11_fetch_85 (by decide) ?_
              refine ps_goto (tgt := 90) hG dX11_fetch_86 (by decide) ?_
              exact (ps_sub [0, 1, 2, 4] rfl (hJ90 1 h))
        · show ps_V G 6 0 0 w S45 99 [(0, .ref (w.2.1 80)), (1, .int p1), (2, .int p2), (4, .int e4_62)] []
          refine ps_aload_n hG dX11_fetch_99 rfl 0 rfl ?_
          refine ps_get20_16 hG hw inX11_fetch_X11 ps_q80.1 (ps_lt hw ps_q80.2.2.1) mX11_fetch_41 dX11_fetch_100 ?_
          refine ps_iload_n hG dX11_fetch_103 rfl 2 rfl ?_
          obtain ⟨hb104, h⟩ := ps_ig h
          refine ps_iald hG ps_q91.1 ps_q91.2.1 (ps_lt hw ps_q91.2.2.1) hb104 dX11_fetch_104 ?_
          refine ps_iload_n hG dX11_fetch_105 rfl 1 rfl ?_
          refine ps_icmp_eq (tgt := 115) hG dX11_fetch_106 (by decide) (fun c106 => ?_) (fun c106 => ?_)
          · replace h := ps_ip c106 h
            refine ps_iconst (v := 0) hG dX11_fetch_115 (by decide) ?_
            cases h
            exact hret _ _ dX11_fetch_116
          · replace h := ps_in c106 h
            refine ps_iload hG dX11_fetch_109 3 rfl ?_
            refine ps_iconst (v := 4) hG dX11_fetch_111 (by decide) ?_
            refine ps_icmp_ge (tgt := 117) hG dX11_fetch_112 (by decide) (fun c112 => ?_) (fun c112 => ?_)
            · replace h := ps_ip c112 h
              refine ps_iconst (v := 0) hG dX11_fetch_117 (by decide) ?_
              refine ps_istore (lv' := [(4, .int 0), (0, .ref (w.2.1 80)), (1, .int p1), (2, .int p2)]) hG dX11_fetch_118 (by decide) rfl ?_
              refine ps_bipush (v := 6) hG dX11_fetch_120 (by decide) ?_
              refine ps_iload_n hG dX11_fetch_122 rfl 3 rfl ?_
              refine ps_imul hG dX11_fetch_123 ?_
              refine ps_istore (lv' := [(5, .int (6 * p2)), (4, .int 0), (0, .ref (w.2.1 80)), (1, .int p1), (2, .int p2)]) hG dX11_fetch_124 (by decide) rfl ?_
              obtain ⟨S126, e4_126, hq126, h⟩ := ps_d2 h
              refine (ps_sub [2, 3, 4, 1, 0] rfl (ps_itV (fun (a : ps_S × Int32 × Int32) => ps_V G 6 0 0 w a.1 126 [(0, .ref (w.2.1 80)), (1, .int p1), (2, .int p2), (4, .int a.2.1), (5, .int a.2.2)] []) (fun (b : ps_S × Int32) => ps_V G 6 0 0 w b.1 198 [(4, .int b.2)] []) ?_ _ _ _ hq126 ?_))
              · intro a r9 h kc ke
                obtain ⟨T126, v4_126, v5_126⟩ := a
                replace h : f_X11_fetch_L126 p1 p2 T126 v4_126 v5_126 = some r9 := h
                show ps_V G 6 0 0 w T126 126 [(0, .ref (w.2.1 80)), (1, .int p1), (2, .int p2), (4, .int v4_126), (5, .int v5_126)] []
                unfold f_X11_fetch_L126 at h
                refine ps_iload hG dX11_fetch_126 4 rfl ?_
                refine ps_bipush (v := 6) hG dX11_fetch_128 (by decide) ?_
                refine ps_iload_n hG dX11_fetch_130 rfl 2 rfl ?_
                refine ps_imul hG dX11_fetch_131 ?_
                refine ps_bipush (v := 6) hG dX11_fetch_132 (by decide) ?_
                refine ps_iadd hG dX11_fetch_134 ?_
                refine ps_icmp_ge (tgt := 198) hG dX11_fetch_135 (by decide) (fun c135 => ?_) (fun c135 => ?_)
                · replace h := ps_ip c135 h
                  cases h
                  exact (ps_sub [3] rfl (ke _ rfl))
                · replace h := ps_in c135 h
                  refine ps_iload hG dX11_fetch_138 3 rfl ?_
                  refine ps_iconst (v := 4) hG dX11_fetch_140 (by decide) ?_
                  refine ps_icmp_ge (tgt := 198) hG dX11_fetch_141 (by decide) (fun c141 => ?_) (fun c141 => ?_)
                  · replace h := ps_ip c141 h
                    cases h
                    exact (ps_sub [3] rfl (ke _ rfl))
                  · replace h := ps_in c141 h
                    refine ps_aload_n hG dX11_fetch_144 rfl 0 rfl ?_
                    refine ps_iload hG dX11_fetch_145 4 rfl ?_
                    obtain ⟨r147, hr147, h⟩ := ps_bd h
                    refine ps_callVI (As := [.int v5_126]) (rest := []) (nA := 1) hG (c_X11_isThere _ hw hr147) gX11_fetch_X11_isThere rfl (by decide +kernel) rfl ⟨Nat.le_of_ble_eq_true rfl, Nat.le_of_ble_eq_true rfl⟩ ⟨rfl, rfl⟩ ⟨Nat.le_of_ble_eq_true rfl, Nat.le_of_ble_eq_true rfl⟩ (ps_lt hw ps_q80.2.2.1) (ps_cel_20 ps_q80.1 _) rfl rfl (Nat.le_of_ble_eq_true rfl) dX11_fetch_147 ?_
                    have hJ192 : ∀ (T192 : ps_S) (v4_192 : Int32), f_X11_fetch_J192 v5_126 T192 v4_192 = some r9 → ps_V G 6 0 0 w T192 192 [(0, .ref (w.2.1 80)), (1, .int p1), (2, .int p2), (4, .int v4_192), (5, .int v5_126)] [] := by
                      intro T192 v4_192 h
                      unfold f_X11_fetch_J192 at h
                      refine ps_iinc (lv' := [(5, .int (v5_126 + 1)), (0, .ref (w.2.1 80)), (1, .int p1), (2, .int p2), (4, .int v4_192)]) hG dX11_fetch_192 4 rfl (by rfl) (by decide) rfl ?_
                      refine ps_goto (tgt := 126) hG dX11_fetch_195 (by decide) ?_
                      cases h
                      exact (ps_sub [1, 2, 3, 4, 0] rfl (kc _ rfl))
                    refine ps_if_eq (tgt := 192) hG dX11_fetch_150 (by decide) (fun c150 => ?_) (fun c150 => ?_)
                    · replace h := ps_ip c150 h
                      exact (ps_sub [0, 1, 2, 3, 4] rfl (hJ192 T126 v4_126 h))
                    · replace h := ps_in c150 h
                      refine ps_aload_n hG dX11_fetch_153 rfl 0 rfl ?_
                      refine ps_get20_27 hG hw inX11_fetch_X11 ps_q80.1 (ps_lt hw ps_q80.2.2.1) mX11_fetch_71 dX11_fetch_154 ?_
                      refine ps_bipush (v := 16) hG dX11_fetch_157 (by decide) ?_
                      refine ps_iload_n hG dX11_fetch_159 rfl 1 rfl ?_
                      refine ps_imul hG dX11_fetch_160 ?_
                      refine ps_aload_n hG dX11_fetch_161 rfl 0 rfl ?_
                      refine ps_get20_18 hG hw inX11_fetch_X11 ps_q80.1 (ps_lt hw ps_q80.2.2.1) mX11_fetch_47 dX11_fetch_162 ?_
                      refine ps_iload hG dX11_fetch_165 4 rfl ?_
                      obtain ⟨hb167, h⟩ := ps_ig h
                      refine ps_iald hG ps_q93.1 ps_q93.2.1 (ps_lt hw ps_q93.2.2.1) hb167 dX11_fetch_167 ?_
                      refine ps_iadd hG dX11_fetch_168 ?_
                      refine ps_dup2 hG dX11_fetch_169 rfl rfl ?_
                      obtain ⟨hb170, h⟩ := ps_ig h
                      refine ps_iald hG ps_q101.1 ps_q101.2.1 (ps_lt hw ps_q101.2.2.1) hb170 dX11_fetch_170 ?_
                      refine ps_aload_n hG dX11_fetch_171 rfl 0 rfl ?_
                      refine ps_get20_18 hG hw inX11_fetch_X11 ps_q80.1 (ps_lt hw ps_q80.2.2.1) mX11_fetch_47 dX11_fetch_172 ?_
                      refine ps_iload hG dX11_fetch_175 4 rfl ?_
                      obtain ⟨hb177, h⟩ := ps_ig h
                      refine ps_iald hG ps_q93.1 ps_q93.2.1 (ps_lt hw ps_q93.2.2.1) hb177 dX11_fetch_177 ?_
                      refine ps_iload_n hG dX11_fetch_178 rfl 1 rfl ?_
                      have hJ187 : ∀ (s3_187 : Int32), f_X11_fetch_J187 p1 T126 v4_126 v5_126 s3_187 = some r9 → ps_V G 6 0 0 w T126 187 [(0, .ref (w.2.1 80)), (1, .int p1), (2, .int p2), (4, .int v4_126), (5, .int v5_126)] [.int s3_187, .int (T126 101 ((16 * p1) + (T126 93 v5_126.toNatClampNeg)).toNatClampNeg), .int ((16 * p1) + (T126 93 v5_126.toNatClampNeg)), .ref (w.2.1 101)] := by
                        intro s3_187 h
                        unfold f_X11_fetch_J187 at h
                        refine ps_iadd hG dX11_fetch_187 ?_
                        obtain ⟨hb188, h⟩ := ps_ig h
                        refine ps_iast hG ps_q101.1 ps_q101.2.1 (ps_lt hw ps_q101.2.2.1) hb188 dX11_fetch_188 ?_
                        refine ps_iinc (lv' := [(4, .int (v4_126 + 1)), (0, .ref (w.2.1 80)), (1, .int p1), (2, .int p2), (5, .int v5_126)]) hG dX11_fetch_189 3 rfl (by rfl) (by decide) rfl ?_
                        exact (ps_sub [1, 2, 3, 0, 4] rfl (hJ192 (ps_up T126 101 ((16 * p1) + (T126 93 v5_126.toNatClampNeg)).toNatClampNeg ((T126 101 ((16 * p1) + (T126 93 v5_126.toNatClampNeg)).toNatClampNeg) + s3_187)) (v4_126 + 1) h))
                      refine ps_icmp_ne (tgt := 186) hG dX11_fetch_179 (by decide) (fun c179 => ?_) (fun c179 => ?_)
                      · replace h := ps_in c179 h
                        refine ps_iconst (v := 1) hG dX11_fetch_186 (by decide) ?_
                        exact (ps_sub [0, 1, 2, 3, 4] rfl (hJ187 1 h))
                      · replace h := ps_ip c179 h
                        refine ps_iconst (v := 0) hG dX11_fetch_182 (by decide) ?_
                        refine ps_goto (tgt := 187) hG dX11_fetch_183 (by decide) ?_
                        exact (ps_sub [0, 1, 2, 3, 4] rfl (hJ187 0 h))
              · show ps_V G 6 0 0 w S126 198 [(4, .int e4_126)] []
                refine ps_iload hG dX11_fetch_198 0 rfl ?_
                cases h
                exact hret _ _ dX11_fetch_200
            · replace h := ps_in c112 h
              refine ps_iconst (v := 0) hG dX11_fetch_115 (by decide) ?_
              cases h
              exact hret _ _ dX11_fetch_116
      · replace h := ps_ip c48 h
        refine ps_iconst (v := 0) hG dX11_fetch_51 (by decide) ?_
        cases h
        exact hret _ _ dX11_fetch_52
    refine ps_if_ne (tgt := 31) hG dX11_fetch_24 (by decide) (fun c24 => ?_) (fun c24 => ?_)
    · replace h := ps_in c24 h
      refine ps_aload_n hG dX11_fetch_31 rfl 1 rfl ?_
      refine ps_get20_5 hG hw inX11_fetch_X11 ps_q80.1 (ps_lt hw ps_q80.2.2.1) mX11_fetch_16 dX11_fetch_32 ?_
      refine ps_iload_n hG dX11_fetch_35 rfl 2 rfl ?_
      obtain ⟨hb36, h⟩ := ps_ig h
      refine ps_zald hG ps_q83.1 ps_q83.2.1 (ps_lt hw ps_q83.2.2.1) hb36 dX11_fetch_36 ?_
      refine ps_if_eq (tgt := 44) hG dX11_fetch_37 (by decide) (fun c37 => ?_) (fun c37 => ?_)
      · replace h := ps_ip c37 h
        refine ps_iconst (v := 2) hG dX11_fetch_44 (by decide) ?_
        exact (ps_sub [1, 2, 3] rfl (hJ45 2 h))
      · replace h := ps_in c37 h
        refine ps_iconst (v := 0) hG dX11_fetch_40 (by decide) ?_
        refine ps_goto (tgt := 45) hG dX11_fetch_41 (by decide) ?_
        exact (ps_sub [1, 2, 3] rfl (hJ45 0 h))
    · replace h := ps_ip c24 h
      refine ps_iconst (v := 1) hG dX11_fetch_27 (by decide) ?_
      refine ps_goto (tgt := 45) hG dX11_fetch_28 (by decide) ?_
      exact (ps_sub [1, 2, 3] rfl (hJ45 1 h))
  refine ps_if_eq (tgt := 20) hG dX11_fetch_5 (by decide) (fun c5 => ?_) (fun c5 => ?_)
  · replace h := ps_ip c5 h
    refine ps_iconst (v := 0) hG dX11_fetch_20 (by decide) ?_
    exact (ps_sub [0, 1, 2] rfl (hJ21 0 h))
  · replace h := ps_in c5 h
    refine ps_aload_n hG dX11_fetch_8 rfl 0 rfl ?_
    refine ps_iload_n hG dX11_fetch_9 rfl 2 rfl ?_
    obtain ⟨r10, hr10, h⟩ := ps_bd h
    refine ps_callVI (As := [.int p2]) (rest := []) (nA := 1) hG (c_X11_isFile _ hw hr10) gX11_fetch_X11_isFile rfl (by decide +kernel) rfl ⟨Nat.le_of_ble_eq_true rfl, Nat.le_of_ble_eq_true rfl⟩ ⟨rfl, rfl⟩ ⟨Nat.le_of_ble_eq_true rfl, Nat.le_of_ble_eq_true rfl⟩ (ps_lt hw ps_q80.2.2.1) (ps_cel_20 ps_q80.1 _) rfl rfl (Nat.le_of_ble_eq_true rfl) dX11_fetch_10 ?_
    refine ps_if_eq (tgt := 20) hG dX11_fetch_13 (by decide) (fun c13 => ?_) (fun c13 => ?_)
    · replace h := ps_ip c13 h
      refine ps_iconst (v := 0) hG dX11_fetch_20 (by decide) ?_
      exact (ps_sub [0, 1, 2] rfl (hJ21 0 h))
    · replace h := ps_in c13 h
      refine ps_iconst (v := 1) hG dX11_fetch_16 (by decide) ?_
      refine ps_goto (tgt := 21) hG dX11_fetch_17 (by decide) ?_
      exact (ps_sub [0, 1, 2] rfl (hJ21 1 h))
def f_X11_challenges (S : ps_S) (p1 : Int32) : Option ps_S :=
  (if ps_ib (p1 / 6) 12 = true then
  (if ps_ib p1 72 = true then
  (if (S 93 p1.toNatClampNeg) = (-1) then
    some S
  else
    (if ps_ib (S 91 (p1 / 6).toNatClampNeg) 16 = true then
    (if (S 83 (S 91 (p1 / 6).toNatClampNeg).toNatClampNeg) = 0 then
      some S
    else
      ((f_X11_isThere S p1).bind fun r32 =>
      (if r32 = 0 then
        (if ps_ib p1 72 = true then
        (if ps_ib p1 72 = true then
        (if ps_ib p1 72 = true then
        (if ((ps_up S 95 p1.toNatClampNeg ((S 95 p1.toNatClampNeg) + 1)) 95 p1.toNatClampNeg) = 3 then
          (if ps_ib p1 72 = true then
          (if ps_ib ((16 * ((ps_up S 95 p1.toNatClampNeg ((S 95 p1.toNatClampNeg) + 1)) 93 p1.toNatClampNeg)) + (S 91 (p1 / 6).toNatClampNeg)) 256 = true then
          (if ps_ib ((16 * ((ps_up S 95 p1.toNatClampNeg ((S 95 p1.toNatClampNeg) + 1)) 93 p1.toNatClampNeg)) + (S 91 (p1 / 6).toNatClampNeg)) 256 = true then
          (if ps_ib p1 72 = true then
          (if ps_ib p1 72 = true then
          (if ps_ib p1 72 = true then
          some (ps_up (ps_up (ps_up (ps_up (ps_up S 95 p1.toNatClampNeg ((S 95 p1.toNatClampNeg) + 1)) 101 ((16 * ((ps_up S 95 p1.toNatClampNeg ((S 95 p1.toNatClampNeg) + 1)) 93 p1.toNatClampNeg)) + (S 91 (p1 / 6).toNatClampNeg)).toNatClampNeg (((ps_up S 95 p1.toNatClampNeg ((S 95 p1.toNatClampNeg) + 1)) 101 ((16 * ((ps_up S 95 p1.toNatClampNeg ((S 95 p1.toNatClampNeg) + 1)) 93 p1.toNatClampNeg)) + (S 91 (p1 / 6).toNatClampNeg)).toNatClampNeg) + 10)) 93 p1.toNatClampNeg (-1)) 94 p1.toNatClampNeg (vp_nar .boolean 0)) 95 p1.toNatClampNeg 0) else none) else none) else none) else none) else none) else none)
        else
          some (ps_up S 95 p1.toNatClampNeg ((S 95 p1.toNatClampNeg) + 1))) else none) else none) else none)
      else
        (if ps_ib p1 72 = true then
        (if ps_ib ((16 * (S 91 (p1 / 6).toNatClampNeg)) + (S 93 p1.toNatClampNeg)) 256 = true then
        (if ps_ib ((16 * (S 91 (p1 / 6).toNatClampNeg)) + (S 93 p1.toNatClampNeg)) 256 = true then
        (if ps_ib p1 72 = true then
        some (ps_up (ps_up S 101 ((16 * (S 91 (p1 / 6).toNatClampNeg)) + (S 93 p1.toNatClampNeg)).toNatClampNeg ((S 101 ((16 * (S 91 (p1 / 6).toNatClampNeg)) + (S 93 p1.toNatClampNeg)).toNatClampNeg) + 3)) 95 p1.toNatClampNeg 0) else none) else none) else none) else none)))) else none)) else none) else none)
theorem inX11_challenges_X11 : ∀ q ∈ wsX110, q ∈ wsX11_challenges := fun _ h => List.mem_cons_of_mem _ (List.mem_append_right _ h)
theorem mX11_challenges_16 : Cond.fieldLink RX11 16 (TX11 5).1 (TX11 5).2.1 (TX11 5).2.2.1 ∈ wsX11_challenges := List.mem_of_getElem? (i := 3) rfl
theorem mX11_challenges_41 : Cond.fieldLink RX11 41 (TX11 16).1 (TX11 16).2.1 (TX11 16).2.2.1 ∈ wsX11_challenges := List.mem_of_getElem? (i := 1) rfl
theorem mX11_challenges_47 : Cond.fieldLink RX11 47 (TX11 18).1 (TX11 18).2.1 (TX11 18).2.2.1 ∈ wsX11_challenges := List.mem_of_getElem? (i := 2) rfl
theorem mX11_challenges_50 : Cond.fieldLink RX11 50 (TX11 19).1 (TX11 19).2.1 (TX11 19).2.2.1 ∈ wsX11_challenges := List.mem_of_getElem? (i := 6) rfl
theorem mX11_challenges_53 : Cond.fieldLink RX11 53 (TX11 20).1 (TX11 20).2.1 (TX11 20).2.2.1 ∈ wsX11_challenges := List.mem_of_getElem? (i := 5) rfl
theorem mX11_challenges_71 : Cond.fieldLink RX11 71 (TX11 27).1 (TX11 27).2.1 (TX11 27).2.2.1 ∈ wsX11_challenges := List.mem_of_getElem? (i := 4) rfl
set_option maxHeartbeats 4000000 in
set_option maxRecDepth 100000 in
theorem c_X11_challenges (l : Launch) {w : ps_X} (hw : ps_ww w) {S S' : ps_S} {p1 : Int32} (h : f_X11_challenges S p1 = some S') : ps_MetV l yX11_challenges wsX11_challenges (ps_rm 1 21) w [.ref (w.2.1 80), .int p1] S S' := by
  refine ps_mkV (cc := cX11_challenges) (maxL := 3) (own := RX11) (by decide +kernel) rfl rfl rfl (Nat.le_of_ble_eq_true rfl) rfl (fun G hl hG hret => ?_)
  unfold f_X11_challenges at h
  refine ps_aload_n hG dX11_challenges_0 rfl 0 rfl ?_
  refine ps_get20_16 hG hw inX11_challenges_X11 ps_q80.1 (ps_lt hw ps_q80.2.2.1) mX11_challenges_41 dX11_challenges_1 ?_
  refine ps_iload_n hG dX11_challenges_4 rfl 1 rfl ?_
  refine ps_bipush (v := 6) hG dX11_challenges_5 (by decide) ?_
  refine ps_idiv hG dX11_challenges_7 (by decide) ?_
  obtain ⟨hb8, h⟩ := ps_ig h
  refine ps_iald hG ps_q91.1 ps_q91.2.1 (ps_lt hw ps_q91.2.2.1) hb8 dX11_challenges_8 ?_
  refine ps_istore_n (lv' := [(2, .int (S 91 (p1 / 6).toNatClampNeg)), (0, .ref (w.2.1 80)), (1, .int p1)]) hG dX11_challenges_9 rfl (by decide) rfl ?_
  refine ps_aload_n hG dX11_challenges_10 rfl 1 rfl ?_
  refine ps_get20_18 hG hw inX11_challenges_X11 ps_q80.1 (ps_lt hw ps_q80.2.2.1) mX11_challenges_47 dX11_challenges_11 ?_
  refine ps_iload_n hG dX11_challenges_14 rfl 2 rfl ?_
  obtain ⟨hb15, h⟩ := ps_ig h
  refine ps_iald hG ps_q93.1 ps_q93.2.1 (ps_lt hw ps_q93.2.2.1) hb15 dX11_challenges_15 ?_
  refine ps_iconst (v := (-1)) hG dX11_challenges_16 (by decide) ?_
  refine ps_icmp_eq (tgt := 29) hG dX11_challenges_17 (by decide) (fun c17 => ?_) (fun c17 => ?_)
  · replace h := ps_ip c17 h
    cases h
    exact hret _ _ dX11_challenges_29
  · replace h := ps_in c17 h
    refine ps_aload_n hG dX11_challenges_20 rfl 1 rfl ?_
    refine ps_get20_5 hG hw inX11_challenges_X11 ps_q80.1 (ps_lt hw ps_q80.2.2.1) mX11_challenges_16 dX11_challenges_21 ?_
    refine ps_iload_n hG dX11_challenges_24 rfl 0 rfl ?_
    obtain ⟨hb25, h⟩ := ps_ig h
    refine ps_zald hG ps_q83.1 ps_q83.2.1 (ps_lt hw ps_q83.2.2.1) hb25 dX11_challenges_25 ?_
    refine ps_if_ne (tgt := 30) hG dX11_challenges_26 (by decide) (fun c26 => ?_) (fun c26 => ?_)
    · replace h := ps_in c26 h
      refine ps_aload_n hG dX11_challenges_30 rfl 1 rfl ?_
      refine ps_iload_n hG dX11_challenges_31 rfl 2 rfl ?_
      obtain ⟨r32, hr32, h⟩ := ps_bd h
      refine ps_callVI (As := [.int p1]) (rest := []) (nA := 1) hG (c_X11_isThere _ hw hr32) gX11_challenges_X11_isThere rfl (by decide +kernel) rfl ⟨Nat.le_of_ble_eq_true rfl, Nat.le_of_ble_eq_true rfl⟩ ⟨rfl, rfl⟩ ⟨Nat.le_of_ble_eq_true rfl, Nat.le_of_ble_eq_true rfl⟩ (ps_lt hw ps_q80.2.2.1) (ps_cel_20 ps_q80.1 _) rfl rfl (Nat.le_of_ble_eq_true rfl) dX11_challenges_32 ?_
      refine ps_if_eq (tgt := 66) hG dX11_challenges_35 (by decide) (fun c35 => ?_) (fun c35 => ?_)
      · replace h := ps_ip c35 h
        refine ps_aload_n hG dX11_challenges_66 rfl 1 rfl ?_
        refine ps_get20_20 hG hw inX11_challenges_X11 ps_q80.1 (ps_lt hw ps_q80.2.2.1) mX11_challenges_53 dX11_challenges_67 ?_
        refine ps_iload_n hG dX11_challenges_70 rfl 2 rfl ?_
        refine ps_dup2 hG dX11_challenges_71 rfl rfl ?_
        obtain ⟨hb72, h⟩ := ps_ig h
        refine ps_iald hG ps_q95.1 ps_q95.2.1 (ps_lt hw ps_q95.2.2.1) hb72 dX11_challenges_72 ?_
        refine ps_iconst (v := 1) hG dX11_challenges_73 (by decide) ?_
        refine ps_iadd hG dX11_challenges_74 ?_
        obtain ⟨hb75, h⟩ := ps_ig h
        refine ps_iast hG ps_q95.1 ps_q95.2.1 (ps_lt hw ps_q95.2.2.1) hb75 dX11_challenges_75 ?_
        refine ps_aload_n hG dX11_challenges_76 rfl 1 rfl ?_
        refine ps_get20_20 hG hw inX11_challenges_X11 ps_q80.1 (ps_lt hw ps_q80.2.2.1) mX11_challenges_53 dX11_challenges_77 ?_
        refine ps_iload_n hG dX11_challenges_80 rfl 2 rfl ?_
        obtain ⟨hb81, h⟩ := ps_ig h
        refine ps_iald hG ps_q95.1 ps_q95.2.1 (ps_lt hw ps_q95.2.2.1) hb81 dX11_challenges_81 ?_
        refine ps_iconst (v := 3) hG dX11_challenges_82 (by decide) ?_
        refine ps_icmp_ne (tgt := 128) hG dX11_challenges_83 (by decide) (fun c83 => ?_) (fun c83 => ?_)
        · replace h := ps_in c83 h
          cases h
          exact hret _ _ dX11_challenges_128
        · replace h := ps_ip c83 h
          refine ps_aload_n hG dX11_challenges_86 rfl 1 rfl ?_
          refine ps_get20_27 hG hw inX11_challenges_X11 ps_q80.1 (ps_lt hw ps_q80.2.2.1) mX11_challenges_71 dX11_challenges_87 ?_
          refine ps_bipush (v := 16) hG dX11_challenges_90 (by decide) ?_
          refine ps_aload_n hG dX11_challenges_92 rfl 1 rfl ?_
          refine ps_get20_18 hG hw inX11_challenges_X11 ps_q80.1 (ps_lt hw ps_q80.2.2.1) mX11_challenges_47 dX11_challenges_93 ?_
          refine ps_iload_n hG dX11_challenges_96 rfl 2 rfl ?_
          obtain ⟨hb97, h⟩ := ps_ig h
          refine ps_iald hG ps_q93.1 ps_q93.2.1 (ps_lt hw ps_q93.2.2.1) hb97 dX11_challenges_97 ?_
          refine ps_imul hG dX11_challenges_98 ?_
          refine ps_iload_n hG dX11_challenges_99 rfl 0 rfl ?_
          refine ps_iadd hG dX11_challenges_100 ?_
          refine ps_dup2 hG dX11_challenges_101 rfl rfl ?_
          obtain ⟨hb102, h⟩ := ps_ig h
          refine ps_iald hG ps_q101.1 ps_q101.2.1 (ps_lt hw ps_q101.2.2.1) hb102 dX11_challenges_102 ?_
          refine ps_bipush (v := 10) hG dX11_challenges_103 (by decide) ?_
          refine ps_iadd hG dX11_challenges_105 ?_
          obtain ⟨hb106, h⟩ := ps_ig h
          refine ps_iast hG ps_q101.1 ps_q101.2.1 (ps_lt hw ps_q101.2.2.1) hb106 dX11_challenges_106 ?_
          refine ps_aload_n hG dX11_challenges_107 rfl 1 rfl ?_
          refine ps_get20_18 hG hw inX11_challenges_X11 ps_q80.1 (ps_lt hw ps_q80.2.2.1) mX11_challenges_47 dX11_challenges_108 ?_
          refine ps_iload_n hG dX11_challenges_111 rfl 2 rfl ?_
          refine ps_iconst (v := (-1)) hG dX11_challenges_112 (by decide) ?_
          obtain ⟨hb113, h⟩ := ps_ig h
          refine ps_iast hG ps_q93.1 ps_q93.2.1 (ps_lt hw ps_q93.2.2.1) hb113 dX11_challenges_113 ?_
          refine ps_aload_n hG dX11_challenges_114 rfl 1 rfl ?_
          refine ps_get20_19 hG hw inX11_challenges_X11 ps_q80.1 (ps_lt hw ps_q80.2.2.1) mX11_challenges_50 dX11_challenges_115 ?_
          refine ps_iload_n hG dX11_challenges_118 rfl 2 rfl ?_
          refine ps_iconst (v := 0) hG dX11_challenges_119 (by decide) ?_
          obtain ⟨hb120, h⟩ := ps_ig h
          refine ps_zast hG ps_q94.1 ps_q94.2.1 (ps_lt hw ps_q94.2.2.1) hb120 dX11_challenges_120 ?_
          refine ps_aload_n hG dX11_challenges_121 rfl 1 rfl ?_
          refine ps_get20_20 hG hw inX11_challenges_X11 ps_q80.1 (ps_lt hw ps_q80.2.2.1) mX11_challenges_53 dX11_challenges_122 ?_
          refine ps_iload_n hG dX11_challenges_125 rfl 2 rfl ?_
          refine ps_iconst (v := 0) hG dX11_challenges_126 (by decide) ?_
          obtain ⟨hb127, h⟩ := ps_ig h
          refine ps_iast hG ps_q95.1 ps_q95.2.1 (ps_lt hw ps_q95.2.2.1) hb127 dX11_challenges_127 ?_
          cases h
          exact hret _ _ dX11_challenges_128
      · replace h := ps_in c35 h
        refine ps_aload_n hG dX11_challenges_38 rfl 1 rfl ?_
        refine ps_get20_27 hG hw inX11_challenges_X11 ps_q80.1 (ps_lt hw ps_q80.2.2.1) mX11_challenges_71 dX11_challenges_39 ?_
        refine ps_bipush (v := 16) hG dX11_challenges_42 (by decide) ?_
        refine ps_iload_n hG dX11_challenges_44 rfl 0 rfl ?_
        refine ps_imul hG dX11_challenges_45 ?_
        refine ps_aload_n hG dX11_challenges_46 rfl 1 rfl ?_
        refine ps_get20_18 hG hw inX11_challenges_X11 ps_q80.1 (ps_lt hw ps_q80.2.2.1) mX11_challenges_47 dX11_challenges_47 ?_
        refine ps_iload_n hG dX11_challenges_50 rfl 2 rfl ?_
        obtain ⟨hb51, h⟩ := ps_ig h
        refine ps_iald hG ps_q93.1 ps_q93.2.1 (ps_lt hw ps_q93.2.2.1) hb51 dX11_challenges_51 ?_
        refine ps_iadd hG dX11_challenges_52 ?_
        refine ps_dup2 hG dX11_challenges_53 rfl rfl ?_
        obtain ⟨hb54, h⟩ := ps_ig h
        refine ps_iald hG ps_q101.1 ps_q101.2.1 (ps_lt hw ps_q101.2.2.1) hb54 dX11_challenges_54 ?_
        refine ps_iconst (v := 3) hG dX11_challenges_55 (by decide) ?_
        refine ps_iadd hG dX11_challenges_56 ?_
        obtain ⟨hb57, h⟩ := ps_ig h
        refine ps_iast hG ps_q101.1 ps_q101.2.1 (ps_lt hw ps_q101.2.2.1) hb57 dX11_challenges_57 ?_
        refine ps_aload_n hG dX11_challenges_58 rfl 1 rfl ?_
        refine ps_get20_20 hG hw inX11_challenges_X11 ps_q80.1 (ps_lt hw ps_q80.2.2.1) mX11_challenges_53 dX11_challenges_59 ?_
        refine ps_iload_n hG dX11_challenges_62 rfl 2 rfl ?_
        refine ps_iconst (v := 0) hG dX11_challenges_63 (by decide) ?_
        obtain ⟨hb64, h⟩ := ps_ig h
        refine ps_iast hG ps_q95.1 ps_q95.2.1 (ps_lt hw ps_q95.2.2.1) hb64 dX11_challenges_64 ?_
        cases h
        exact hret _ _ dX11_challenges_65
    · replace h := ps_ip c26 h
      cases h
      exact hret _ _ dX11_challenges_29
def f_X11_repairs_J56 (v3_10 : Int32) (v4_10 : Int32) (x2_40 : Int32) (s1_56 : Int32) : Option ((Int32 × Int32 × Int32) ⊕ (Int32 × Int32)) :=
  ps_lts (v3_10 + s1_56) (fun x3_57 => some (.inl (x2_40, x3_57, v4_10 + 1)))
def f_X11_repairs_J39 (S : ps_S) (v2_10 : Int32) (v3_10 : Int32) (v4_10 : Int32) (s1_39 : Int32) : Option ((Int32 × Int32 × Int32) ⊕ (Int32 × Int32)) :=
  ps_lts (v2_10 + s1_39) (fun x2_40 => ((f_X11_isThere S v4_10).bind fun r45 =>
          (if r45 = 0 then
            f_X11_repairs_J56 v3_10 v4_10 x2_40 0
          else
            f_X11_repairs_J56 v3_10 v4_10 x2_40 1)))
def f_X11_repairs_L10 (S : ps_S) (p1 : Int32) (v2_10 : Int32) (v3_10 : Int32) (v4_10 : Int32) : Option ((Int32 × Int32 × Int32) ⊕ (Int32 × Int32)) :=
  (if ((6 * p1) + 6) ≤ v4_10 then
        some (.inr (v2_10, v3_10))
      else
        (if ps_ib v4_10 72 = true then
        (if (S 93 v4_10.toNatClampNeg) = (-1) then
          f_X11_repairs_J39 S v2_10 v3_10 v4_10 0
        else
          f_X11_repairs_J39 S v2_10 v3_10 v4_10 1) else none))
def f_X11_repairs_J121 (v4_67 : Int32) (T121 : ps_S) : Option ((ps_S × Int32) ⊕ (ps_S)) :=
  some (.inl (T121, v4_67 + 1))
def f_X11_repairs_L67 (p1 : Int32) (e2_10 : Int32) (e3_10 : Int32) (T67 : ps_S) (v4_67 : Int32) : Option ((ps_S × Int32) ⊕ (ps_S)) :=
  (if 6 ≤ v4_67 then
        some (.inr T67)
      else
        (if ps_ib p1 12 = true then
        (if ps_ib (T67 91 p1.toNatClampNeg) 16 = true then
        (if (T67 83 (T67 91 p1.toNatClampNeg).toNatClampNeg) = 0 then
          some (.inr T67)
        else
          (if 4 < e2_10 then
            some (.inr T67)
          else
            (if e3_10 < 4 then
              some (.inr T67)
            else
              (if ps_ib ((6 * p1) + v4_67) 72 = true then
              (if (T67 93 ((6 * p1) + v4_67).toNatClampNeg) = (-1) then
                ((f_X11_stores T67 p1 v4_67).bind fun S118 =>
                f_X11_repairs_J121 v4_67 S118)
              else
                f_X11_repairs_J121 v4_67 T67) else none)))) else none) else none))
def f_X11_repairs (S : ps_S) (p1 : Int32) : Option ps_S :=
  (ps_b2 (ps_it (fun (a : Int32 × Int32 × Int32) => f_X11_repairs_L10 S p1 a.1 a.2.1 a.2.2) ps_fu (0, 0, 6 * p1)) (fun e2_10 e3_10 => ((ps_it (fun (a : ps_S × Int32) => f_X11_repairs_L67 p1 e2_10 e3_10 a.1 a.2) ps_fu (S, 0)).bind (fun S67 => some S67))))
theorem inX11_repairs_X11 : ∀ q ∈ wsX110, q ∈ wsX11_repairs := fun _ h => List.mem_cons_of_mem _ (List.mem_append_right _ h)
theorem mX11_repairs_16 : Cond.fieldLink RX11 16 (TX11 5).1 (TX11 5).2.1 (TX11 5).2.2.1 ∈ wsX11_repairs := List.mem_of_getElem? (i := 2) rfl
theorem mX11_repairs_41 : Cond.fieldLink RX11 41 (TX11 16).1 (TX11 16).2.1 (TX11 16).2.2.1 ∈ wsX11_repairs := List.mem_of_getElem? (i := 3) rfl
theorem mX11_repairs_47 : Cond.fieldLink RX11 47 (TX11 18).1 (TX11 18).2.1 (TX11 18).2.2.1 ∈ wsX11_repairs := List.mem_of_getElem? (i := 1) rfl
set_option maxHeartbeats 4000000 in
set_option maxRecDepth 100000 in
theorem c_X11_repairs (l : Launch) {w : ps_X} (hw : ps_ww w) {S S' : ps_S} {p1 : Int32} (h : f_X11_repairs S p1 = some S') : ps_MetV l yX11_repairs wsX11_repairs (ps_rm 5 136) w [.ref (w.2.1 80), .int p1] S S' := by
  refine ps_mkV (cc := cX11_repairs) (maxL := 5) (own := RX11) (by decide +kernel) rfl rfl rfl (Nat.le_of_ble_eq_true rfl) rfl (fun G hl hG hret => ?_)
  unfold f_X11_repairs at h
  refine ps_iconst (v := 0) hG dX11_repairs_0 (by decide) ?_
  refine ps_istore_n (lv' := [(2, .int 0), (0, .ref (w.2.1 80)), (1, .int p1)]) hG dX11_repairs_1 rfl (by decide) rfl ?_
  refine ps_iconst (v := 0) hG dX11_repairs_2 (by decide) ?_
  refine ps_istore_n (lv' := [(3, .int 0), (2, .int 0), (0, .ref (w.2.1 80)), (1, .int p1)]) hG dX11_repairs_3 rfl (by decide) rfl ?_
  refine ps_bipush (v := 6) hG dX11_repairs_4 (by decide) ?_
  refine ps_iload_n hG dX11_repairs_6 rfl 3 rfl ?_
  refine ps_imul hG dX11_repairs_7 ?_
  refine ps_istore (lv' := [(4, .int (6 * p1)), (3, .int 0), (2, .int 0), (0, .ref (w.2.1 80)), (1, .int p1)]) hG dX11_repairs_8 (by decide) rfl ?_
  obtain ⟨e2_10, e3_10, hq10, h⟩ := ps_d2 h
  refine (ps_sub [3, 4, 2, 1, 0] rfl (ps_itV (fun (a : Int32 × Int32 × Int32) => ps_V G 5 0 0 w S 10 [(0, .ref (w.2.1 80)), (1, .int p1), (2, .int a.1), (3, .int a.2.1), (4, .int a.2.2)] []) (fun (b : Int32 × Int32) => ps_V G 5 0 0 w S 64 [(0, .ref (w.2.1 80)), (1, .int p1), (2, .int b.1), (3, .int b.2)] []) ?_ _ _ _ hq10 ?_))
  · intro a r9 h kc ke
    obtain ⟨v2_10, v3_10, v4_10⟩ := a
    replace h : f_X11_repairs_L10 S p1 v2_10 v3_10 v4_10 = some r9 := h
    show ps_V G 5 0 0 w S 10 [(0, .ref (w.2.1 80)), (1, .int p1), (2, .int v2_10), (3, .int v3_10), (4, .int v4_10)] []
    unfold f_X11_repairs_L10 at h
    refine ps_iload hG dX11_repairs_10 4 rfl ?_
    refine ps_bipush (v := 6) hG dX11_repairs_12 (by decide) ?_
    refine ps_iload_n hG dX11_repairs_14 rfl 1 rfl ?_
    refine ps_imul hG dX11_repairs_15 ?_
    refine ps_bipush (v := 6) hG dX11_repairs_16 (by decide) ?_
    refine ps_iadd hG dX11_repairs_18 ?_
    refine ps_icmp_ge (tgt := 64) hG dX11_repairs_19 (by decide) (fun c19 => ?_) (fun c19 => ?_)
    · replace h := ps_ip c19 h
      cases h
      exact (ps_sub [0, 1, 2, 3] rfl (ke _ rfl))
    · replace h := ps_in c19 h
      refine ps_iload_n hG dX11_repairs_22 rfl 2 rfl ?_
      refine ps_aload_n hG dX11_repairs_23 rfl 0 rfl ?_
      refine ps_get20_18 hG hw inX11_repairs_X11 ps_q80.1 (ps_lt hw ps_q80.2.2.1) mX11_repairs_47 dX11_repairs_24 ?_
      refine ps_iload hG dX11_repairs_27 4 rfl ?_
      obtain ⟨hb29, h⟩ := ps_ig h
      refine ps_iald hG ps_q93.1 ps_q93.2.1 (ps_lt hw ps_q93.2.2.1) hb29 dX11_repairs_29 ?_
      refine ps_iconst (v := (-1)) hG dX11_repairs_30 (by decide) ?_
      have hJ39 : ∀ (s1_39 : Int32), f_X11_repairs_J39 S v2_10 v3_10 v4_10 s1_39 = some r9 → ps_V G 5 0 0 w S 39 [(0, .ref (w.2.1 80)), (1, .int p1), (3, .int v3_10), (4, .int v4_10)] [.int s1_39, .int v2_10] := by
        intro s1_39 h
        unfold f_X11_repairs_J39 at h
        refine ps_iadd hG dX11_repairs_39 ?_
        refine ps_let h (fun x2_40 h => ?_)
        refine ps_istore_n (lv' := [(2, .int x2_40), (0, .ref (w.2.1 80)), (1, .int p1), (3, .int v3_10), (4, .int v4_10)]) hG dX11_repairs_40 rfl (by decide) rfl ?_
        refine ps_iload_n hG dX11_repairs_41 rfl 3 rfl ?_
        refine ps_aload_n hG dX11_repairs_42 rfl 1 rfl ?_
        refine ps_iload hG dX11_repairs_43 4 rfl ?_
        obtain ⟨r45, hr45, h⟩ := ps_bd h
        refine ps_callVI (As := [.int v4_10]) (rest := [.int v3_10]) (nA := 1) hG (c_X11_isThere _ hw hr45) gX11_repairs_X11_isThere rfl (by decide +kernel) rfl ⟨Nat.le_of_ble_eq_true rfl, Nat.le_of_ble_eq_true rfl⟩ ⟨rfl, rfl⟩ ⟨Nat.le_of_ble_eq_true rfl, Nat.le_of_ble_eq_true rfl⟩ (ps_lt hw ps_q80.2.2.1) (ps_cel_20 ps_q80.1 _) rfl rfl (Nat.le_of_ble_eq_true rfl) dX11_repairs_45 ?_
        have hJ56 : ∀ (s1_56 : Int32), f_X11_repairs_J56 v3_10 v4_10 x2_40 s1_56 = some r9 → ps_V G 5 0 0 w S 56 [(0, .ref (w.2.1 80)), (1, .int p1), (2, .int x2_40), (4, .int v4_10)] [.int s1_56, .int v3_10] := by
          intro s1_56 h
          unfold f_X11_repairs_J56 at h
          refine ps_iadd hG dX11_repairs_56 ?_
          refine ps_let h (fun x3_57 h => ?_)
          refine ps_istore_n (lv' := [(3, .int x3_57), (0, .ref (w.2.1 80)), (1, .int p1), (2, .int x2_40), (4, .int v4_10)]) hG dX11_repairs_57 rfl (by decide) rfl ?_
          refine ps_iinc (lv' := [(4, .int (v4_10 + 1)), (3, .int x3_57), (0, .ref (w.2.1 80)), (1, .int p1), (2, .int x2_40)]) hG dX11_repairs_58 4 rfl (by rfl) (by decide) rfl ?_
          refine ps_goto (tgt := 10) hG dX11_repairs_61 (by decide) ?_
          cases h
          exact (ps_sub [2, 3, 4, 1, 0] rfl (kc _ rfl))
        refine ps_if_eq (tgt := 55) hG dX11_repairs_48 (by decide) (fun c48 => ?_) (fun c48 => ?_)
        · replace h := ps_ip c48 h
          refine ps_iconst (v := 0) hG dX11_repairs_55 (by decide) ?_
          exact (ps_sub [1, 2, 0, 4] rfl (hJ56 0 h))
        · replace h := ps_in c48 h
          refine ps_iconst (v := 1) hG dX11_repairs_51 (by decide) ?_
          refine ps_goto (tgt := 56) hG dX11_repairs_52 (by decide) ?_
          exact (ps_sub [1, 2, 0, 4] rfl (hJ56 1 h))
      refine ps_icmp_ne (tgt := 38) hG dX11_repairs_31 (by decide) (fun c31 => ?_) (fun c31 => ?_)
      · replace h := ps_in c31 h
        refine ps_iconst (v := 1) hG dX11_repairs_38 (by decide) ?_
        exact (ps_sub [0, 1, 3, 4] rfl (hJ39 1 h))
      · replace h := ps_ip c31 h
        refine ps_iconst (v := 0) hG dX11_repairs_34 (by decide) ?_
        refine ps_goto (tgt := 39) hG dX11_repairs_35 (by decide) ?_
        exact (ps_sub [0, 1, 3, 4] rfl (hJ39 0 h))
  · show ps_V G 5 0 0 w S 64 [(0, .ref (w.2.1 80)), (1, .int p1), (2, .int e2_10), (3, .int e3_10)] []
    refine ps_iconst (v := 0) hG dX11_repairs_64 (by decide) ?_
    refine ps_istore (lv' := [(4, .int 0), (0, .ref (w.2.1 80)), (1, .int p1), (2, .int e2_10), (3, .int e3_10)]) hG dX11_repairs_65 (by decide) rfl ?_
    obtain ⟨S67, hq67, h⟩ := ps_bd h
    refine (ps_sub [1, 2, 3, 4, 0] rfl (ps_itV (fun (a : ps_S × Int32) => ps_V G 5 0 0 w a.1 67 [(0, .ref (w.2.1 80)), (1, .int p1), (2, .int e2_10), (3, .int e3_10), (4, .int a.2)] []) (fun (b : ps_S) => ps_V G 5 0 0 w b 127 [] []) ?_ _ _ _ hq67 ?_))
    · intro a r9 h kc ke
      obtain ⟨T67, v4_67⟩ := a
      replace h : f_X11_repairs_L67 p1 e2_10 e3_10 T67 v4_67 = some r9 := h
      show ps_V G 5 0 0 w T67 67 [(0, .ref (w.2.1 80)), (1, .int p1), (2, .int e2_10), (3, .int e3_10), (4, .int v4_67)] []
      unfold f_X11_repairs_L67 at h
      refine ps_iload hG dX11_repairs_67 4 rfl ?_
      refine ps_bipush (v := 6) hG dX11_repairs_69 (by decide) ?_
      refine ps_icmp_ge (tgt := 127) hG dX11_repairs_71 (by decide) (fun c71 => ?_) (fun c71 => ?_)
      · replace h := ps_ip c71 h
        cases h
        exact (ps_sub [] rfl (ke _ rfl))
      · replace h := ps_in c71 h
        refine ps_aload_n hG dX11_repairs_74 rfl 0 rfl ?_
        refine ps_get20_5 hG hw inX11_repairs_X11 ps_q80.1 (ps_lt hw ps_q80.2.2.1) mX11_repairs_16 dX11_repairs_75 ?_
        refine ps_aload_n hG dX11_repairs_78 rfl 0 rfl ?_
        refine ps_get20_16 hG hw inX11_repairs_X11 ps_q80.1 (ps_lt hw ps_q80.2.2.1) mX11_repairs_41 dX11_repairs_79 ?_
        refine ps_iload_n hG dX11_repairs_82 rfl 1 rfl ?_
        obtain ⟨hb83, h⟩ := ps_ig h
        refine ps_iald hG ps_q91.1 ps_q91.2.1 (ps_lt hw ps_q91.2.2.1) hb83 dX11_repairs_83 ?_
        obtain ⟨hb84, h⟩ := ps_ig h
        refine ps_zald hG ps_q83.1 ps_q83.2.1 (ps_lt hw ps_q83.2.2.1) hb84 dX11_repairs_84 ?_
        refine ps_if_eq (tgt := 127) hG dX11_repairs_85 (by decide) (fun c85 => ?_) (fun c85 => ?_)
        · replace h := ps_ip c85 h
          cases h
          exact (ps_sub [] rfl (ke _ rfl))
        · replace h := ps_in c85 h
          refine ps_iload_n hG dX11_repairs_88 rfl 2 rfl ?_
          refine ps_iconst (v := 4) hG dX11_repairs_89 (by decide) ?_
          refine ps_icmp_gt (tgt := 127) hG dX11_repairs_90 (by decide) (fun c90 => ?_) (fun c90 => ?_)
          · replace h := ps_ip c90 h
            cases h
            exact (ps_sub [] rfl (ke _ rfl))
          · replace h := ps_in c90 h
            refine ps_iload_n hG dX11_repairs_93 rfl 3 rfl ?_
            refine ps_iconst (v := 4) hG dX11_repairs_94 (by decide) ?_
            refine ps_icmp_lt (tgt := 127) hG dX11_repairs_95 (by decide) (fun c95 => ?_) (fun c95 => ?_)
            · replace h := ps_ip c95 h
              cases h
              exact (ps_sub [] rfl (ke _ rfl))
            · replace h := ps_in c95 h
              refine ps_aload_n hG dX11_repairs_98 rfl 0 rfl ?_
              refine ps_get20_18 hG hw inX11_repairs_X11 ps_q80.1 (ps_lt hw ps_q80.2.2.1) mX11_repairs_47 dX11_repairs_99 ?_
              refine ps_bipush (v := 6) hG dX11_repairs_102 (by decide) ?_
              refine ps_iload_n hG dX11_repairs_104 rfl 1 rfl ?_
              refine ps_imul hG dX11_repairs_105 ?_
              refine ps_iload hG dX11_repairs_106 4 rfl ?_
              refine ps_iadd hG dX11_repairs_108 ?_
              obtain ⟨hb109, h⟩ := ps_ig h
              refine ps_iald hG ps_q93.1 ps_q93.2.1 (ps_lt hw ps_q93.2.2.1) hb109 dX11_repairs_109 ?_
              refine ps_iconst (v := (-1)) hG dX11_repairs_110 (by decide) ?_
              have hJ121 : ∀ (T121 : ps_S), f_X11_repairs_J121 v4_67 T121 = some r9 → ps_V G 5 0 0 w T121 121 [(0, .ref (w.2.1 80)), (1, .int p1), (2, .int e2_10), (3, .int e3_10), (4, .int v4_67)] [] := by
                intro T121 h
                unfold f_X11_repairs_J121 at h
                refine ps_iinc (lv' := [(4, .int (v4_67 + 1)), (0, .ref (w.2.1 80)), (1, .int p1), (2, .int e2_10), (3, .int e3_10)]) hG dX11_repairs_121 4 rfl (by rfl) (by decide) rfl ?_
                refine ps_goto (tgt := 67) hG dX11_repairs_124 (by decide) ?_
                cases h
                exact (ps_sub [1, 2, 3, 4, 0] rfl (kc _ rfl))
              refine ps_icmp_ne (tgt := 121) hG dX11_repairs_111 (by decide) (fun c111 => ?_) (fun c111 => ?_)
              · replace h := ps_in c111 h
                exact (ps_sub [0, 1, 2, 3, 4] rfl (hJ121 T67 h))
              · replace h := ps_ip c111 h
                refine ps_aload_n hG dX11_repairs_114 rfl 0 rfl ?_
                refine ps_iload_n hG dX11_repairs_115 rfl 1 rfl ?_
                refine ps_iload hG dX11_repairs_116 4 rfl ?_
                obtain ⟨S118, hr118, h⟩ := ps_bd h
                refine ps_callVV (As := [.int p1, .int v4_67]) (rest := []) (nA := 2) hG (c_X11_stores _ hw hr118) gX11_repairs_X11_stores rfl (by decide +kernel) rfl ⟨Nat.le_of_ble_eq_true rfl, Nat.le_of_ble_eq_true rfl⟩ ⟨rfl, rfl⟩ ⟨Nat.le_of_ble_eq_true rfl, Nat.le_of_ble_eq_true rfl⟩ (ps_lt hw ps_q80.2.2.1) (ps_cel_20 ps_q80.1 _) rfl rfl (Nat.le_of_ble_eq_true rfl) dX11_repairs_118 ?_
                exact (ps_sub [0, 1, 2, 3, 4] rfl (hJ121 S118 h))
    · show ps_V G 5 0 0 w S67 127 [] []
      cases h
      exact hret _ _ dX11_repairs_127
def f_X11_pass_L26  (T26 : ps_S) (v1_26 : Int32) : Option ((ps_S × Int32) ⊕ (ps_S)) :=
  (if (6 * (T26 80 15)) ≤ v1_26 then
            some (.inr T26)
          else
            ((f_X11_challenges T26 v1_26).bind fun S39 =>
            some (.inl (S39, v1_26 + 1))))
def f_X11_pass_L50  (T50 : ps_S) (v1_50 : Int32) : Option ((ps_S × Int32) ⊕ (ps_S)) :=
  (if (T50 80 15) ≤ v1_50 then
            some (.inr T50)
          else
            ((f_X11_repairs T50 v1_50).bind fun S60 =>
            some (.inl (S60, v1_50 + 1))))
def f_X11_pass_J16 (S : ps_S) (s1_16 : Int32) : Option (Int32 × ps_S) :=
  (ps_b2 (f_X11_holds S s1_16) fun r16 S16 =>
    (if r16 = 0 then
      some (0, S16)
    else
      ((ps_it (fun (a : ps_S × Int32) => f_X11_pass_L26 a.1 a.2) ps_fu (S16, 0)).bind (fun S26 => ((ps_it (fun (a : ps_S × Int32) => f_X11_pass_L50 a.1 a.2) ps_fu (S26, 0)).bind (fun S50 => some ((ps_up S50 80 1 ((S50 80 1) + 1)) 80 1, ps_up S50 80 1 ((S50 80 1) + 1))))))))
def f_X11_pass (S : ps_S) : Option (Int32 × ps_S) :=
  (if (S 80 1) = 500 then
    f_X11_pass_J16 S 1
  else
    f_X11_pass_J16 S 0)
theorem inX11_pass_X11 : ∀ q ∈ wsX110, q ∈ wsX11_pass := fun _ h => List.mem_cons_of_mem _ (List.mem_append_right _ h)
theorem mX11_pass_164 : Cond.fieldLink RX11 164 (TX11 1).1 (TX11 1).2.1 (TX11 1).2.2.1 ∈ wsX11_pass := List.mem_of_getElem? (i := 1) rfl
theorem mX11_pass_85 : Cond.fieldLink RX11 85 (TX11 15).1 (TX11 15).2.1 (TX11 15).2.2.1 ∈ wsX11_pass := List.mem_of_getElem? (i := 2) rfl
set_option maxHeartbeats 4000000 in
set_option maxRecDepth 100000 in
theorem c_X11_pass (l : Launch) {w : ps_X} (hw : ps_ww w) {S S' : ps_S} {r : Int32} (h : f_X11_pass S = some (r, S')) : ps_MetI l yX11_pass wsX11_pass (ps_rm 6 160) w [.ref (w.2.1 80)] S S' r := by
  refine ps_mkI (cc := cX11_pass) (maxL := 2) (own := RX11) (by decide +kernel) rfl (Or.inl rfl) rfl (Nat.le_of_ble_eq_true rfl) rfl (fun G hl hG hret => ?_)
  unfold f_X11_pass at h
  refine ps_aload_n hG dX11_pass_0 rfl 0 rfl ?_
  refine ps_aload_n hG dX11_pass_1 rfl 0 rfl ?_
  refine ps_get20_1 hG inX11_pass_X11 ps_q80.1 (ps_lt hw ps_q80.2.2.1) mX11_pass_164 dX11_pass_2 ?_
  refine ps_sipush (v := 500) hG dX11_pass_5 (by decide) ?_
  have hJ16 : ∀ (s1_16 : Int32), f_X11_pass_J16 S s1_16 = some (r, S') → ps_V G 2 0 0 w S 16 [(0, .ref (w.2.1 80))] [.int s1_16, .ref (w.2.1 80)] := by
    intro s1_16 h
    unfold f_X11_pass_J16 at h
    obtain ⟨r16, S16, hr16, h⟩ := ps_d2 h
    refine ps_callVI (As := [.int s1_16]) (rest := []) (nA := 1) hG (c_X11_holds _ hw hr16) gX11_pass_X11_holds rfl (by decide +kernel) rfl ⟨Nat.le_of_ble_eq_true rfl, Nat.le_of_ble_eq_true rfl⟩ ⟨rfl, rfl⟩ ⟨Nat.le_of_ble_eq_true rfl, Nat.le_of_ble_eq_true rfl⟩ (ps_lt hw ps_q80.2.2.1) (ps_cel_20 ps_q80.1 _) rfl rfl (Nat.le_of_ble_eq_true rfl) dX11_pass_16 ?_
    refine ps_if_ne (tgt := 24) hG dX11_pass_19 (by decide) (fun c19 => ?_) (fun c19 => ?_)
    · replace h := ps_in c19 h
      refine ps_iconst (v := 0) hG dX11_pass_24 (by decide) ?_
      refine ps_istore_n (lv' := [(1, .int 0), (0, .ref (w.2.1 80))]) hG dX11_pass_25 rfl (by decide) rfl ?_
      obtain ⟨S26, hq26, h⟩ := ps_bd h
      refine (ps_sub [1, 0] rfl (ps_itV (fun (a : ps_S × Int32) => ps_V G 2 0 0 w a.1 26 [(0, .ref (w.2.1 80)), (1, .int a.2)] []) (fun (b : ps_S) => ps_V G 2 0 0 w b 48 [(0, .ref (w.2.1 80))] []) ?_ _ _ _ hq26 ?_))
      · intro a r9 h kc ke
        obtain ⟨T26, v1_26⟩ := a
        replace h : f_X11_pass_L26 T26 v1_26 = some r9 := h
        show ps_V G 2 0 0 w T26 26 [(0, .ref (w.2.1 80)), (1, .int v1_26)] []
        unfold f_X11_pass_L26 at h
        refine ps_iload_n hG dX11_pass_26 rfl 1 rfl ?_
        refine ps_bipush (v := 6) hG dX11_pass_27 (by decide) ?_
        refine ps_aload_n hG dX11_pass_29 rfl 0 rfl ?_
        refine ps_get20_15 hG inX11_pass_X11 ps_q80.1 (ps_lt hw ps_q80.2.2.1) mX11_pass_85 dX11_pass_30 ?_
        refine ps_imul hG dX11_pass_33 ?_
        refine ps_icmp_ge (tgt := 48) hG dX11_pass_34 (by decide) (fun c34 => ?_) (fun c34 => ?_)
        · replace h := ps_ip c34 h
          cases h
          exact (ps_sub [0] rfl (ke _ rfl))
        · replace h := ps_in c34 h
          refine ps_aload_n hG dX11_pass_37 rfl 0 rfl ?_
          refine ps_iload_n hG dX11_pass_38 rfl 1 rfl ?_
          obtain ⟨S39, hr39, h⟩ := ps_bd h
          refine ps_callVV (As := [.int v1_26]) (rest := []) (nA := 1) hG (c_X11_challenges _ hw hr39) gX11_pass_X11_challenges rfl (by decide +kernel) rfl ⟨Nat.le_of_ble_eq_true rfl, Nat.le_of_ble_eq_true rfl⟩ ⟨rfl, rfl⟩ ⟨Nat.le_of_ble_eq_true rfl, Nat.le_of_ble_eq_true rfl⟩ (ps_lt hw ps_q80.2.2.1) (ps_cel_20 ps_q80.1 _) rfl rfl (Nat.le_of_ble_eq_true rfl) dX11_pass_39 ?_
          refine ps_iinc (lv' := [(1, .int (v1_26 + 1)), (0, .ref (w.2.1 80))]) hG dX11_pass_42 1 rfl (by rfl) (by decide) rfl ?_
          refine ps_goto (tgt := 26) hG dX11_pass_45 (by decide) ?_
          cases h
          exact (ps_sub [1, 0] rfl (kc _ rfl))
      · show ps_V G 2 0 0 w S26 48 [(0, .ref (w.2.1 80))] []
        refine ps_iconst (v := 0) hG dX11_pass_48 (by decide) ?_
        refine ps_istore_n (lv' := [(1, .int 0), (0, .ref (w.2.1 80))]) hG dX11_pass_49 rfl (by decide) rfl ?_
        obtain ⟨S50, hq50, h⟩ := ps_bd h
        refine (ps_sub [1, 0] rfl (ps_itV (fun (a : ps_S × Int32) => ps_V G 2 0 0 w a.1 50 [(0, .ref (w.2.1 80)), (1, .int a.2)] []) (fun (b : ps_S) => ps_V G 2 0 0 w b 69 [(0, .ref (w.2.1 80))] []) ?_ _ _ _ hq50 ?_))
        · intro a r9 h kc ke
          obtain ⟨T50, v1_50⟩ := a
          replace h : f_X11_pass_L50 T50 v1_50 = some r9 := h
          show ps_V G 2 0 0 w T50 50 [(0, .ref (w.2.1 80)), (1, .int v1_50)] []
          unfold f_X11_pass_L50 at h
          refine ps_iload_n hG dX11_pass_50 rfl 1 rfl ?_
          refine ps_aload_n hG dX11_pass_51 rfl 0 rfl ?_
          refine ps_get20_15 hG inX11_pass_X11 ps_q80.1 (ps_lt hw ps_q80.2.2.1) mX11_pass_85 dX11_pass_52 ?_
          refine ps_icmp_ge (tgt := 69) hG dX11_pass_55 (by decide) (fun c55 => ?_) (fun c55 => ?_)
          · replace h := ps_ip c55 h
            cases h
            exact (ps_sub [0] rfl (ke _ rfl))
          · replace h := ps_in c55 h
            refine ps_aload_n hG dX11_pass_58 rfl 0 rfl ?_
            refine ps_iload_n hG dX11_pass_59 rfl 1 rfl ?_
            obtain ⟨S60, hr60, h⟩ := ps_bd h
            refine ps_callVV (As := [.int v1_50]) (rest := []) (nA := 1) hG (c_X11_repairs _ hw hr60) gX11_pass_X11_repairs rfl (by decide +kernel) rfl ⟨Nat.le_of_ble_eq_true rfl, Nat.le_of_ble_eq_true rfl⟩ ⟨rfl, rfl⟩ ⟨Nat.le_of_ble_eq_true rfl, Nat.le_of_ble_eq_true rfl⟩ (ps_lt hw ps_q80.2.2.1) (ps_cel_20 ps_q80.1 _) rfl rfl (Nat.le_of_ble_eq_true rfl) dX11_pass_60 ?_
            refine ps_iinc (lv' := [(1, .int (v1_50 + 1)), (0, .ref (w.2.1 80))]) hG dX11_pass_63 1 rfl (by rfl) (by decide) rfl ?_
            refine ps_goto (tgt := 50) hG dX11_pass_66 (by decide) ?_
            cases h
            exact (ps_sub [1, 0] rfl (kc _ rfl))
        · show ps_V G 2 0 0 w S50 69 [(0, .ref (w.2.1 80))] []
          refine ps_aload_n hG dX11_pass_69 rfl 0 rfl ?_
          refine ps_dup hG dX11_pass_70 rfl ?_
          refine ps_get20_1 hG inX11_pass_X11 ps_q80.1 (ps_lt hw ps_q80.2.2.1) mX11_pass_164 dX11_pass_71 ?_
          refine ps_iconst (v := 1) hG dX11_pass_74 (by decide) ?_
          refine ps_iadd hG dX11_pass_75 ?_
          refine ps_put20_1 hG inX11_pass_X11 ps_q80.1 (ps_lt hw ps_q80.2.2.1) ps_q80.2.2.2 mX11_pass_164 dX11_pass_76 ?_
          refine ps_aload_n hG dX11_pass_79 rfl 0 rfl ?_
          refine ps_get20_1 hG inX11_pass_X11 ps_q80.1 (ps_lt hw ps_q80.2.2.1) mX11_pass_164 dX11_pass_80 ?_
          cases h
          exact hret _ _ dX11_pass_83
    · replace h := ps_ip c19 h
      refine ps_iconst (v := 0) hG dX11_pass_22 (by decide) ?_
      cases h
      exact hret _ _ dX11_pass_23
  refine ps_icmp_ne (tgt := 15) hG dX11_pass_8 (by decide) (fun c8 => ?_) (fun c8 => ?_)
  · replace h := ps_in c8 h
    refine ps_iconst (v := 0) hG dX11_pass_15 (by decide) ?_
    exact (ps_sub [0] rfl (hJ16 0 h))
  · replace h := ps_ip c8 h
    refine ps_iconst (v := 1) hG dX11_pass_11 (by decide) ?_
    refine ps_goto (tgt := 16) hG dX11_pass_12 (by decide) ?_
    exact (ps_sub [0] rfl (hJ16 1 h))
