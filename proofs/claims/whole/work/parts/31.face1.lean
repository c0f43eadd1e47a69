def f_X10_needBelow (p0 : Int32) (p1 : Int32) : Option (Nat ⊕ Unit) :=
  (if p0 < 0 then
    some (.inl 0)
  else
    (if p0 < p1 then
      some (.inr ())
    else
      some (.inl 0)))
theorem mX10_needBelow_i120 : Cond.initialized "java/lang/IllegalArgumentException" ∈ wsX10_needBelow := List.mem_of_getElem? (i := 2) rfl
theorem mX10_needBelow_k120 : Cond.classLink RX10 120 "java/lang/IllegalArgumentException" ∈ wsX10_needBelow := List.mem_of_getElem? (i := 1) rfl
theorem gX10_needBelow_t124 : ∀ q ∈ (vx_atS RX10 124 "java/lang/IllegalArgumentException" ["java/lang/RuntimeException", "java/lang/Exception"]).filter goodWord, q ∈ wsX10_needBelow := fun _ h => List.mem_cons_of_mem _ (List.mem_append_right _ h)
set_option maxHeartbeats 4000000 in
set_option maxRecDepth 100000 in
theorem c_X10_needBelow (l : Launch) (hflags : l.stackTraces = false) {w : ps_X} (hw : ps_ww w) {S : ps_S} {p0 p1 : Int32} {z : (Nat ⊕ Unit)} (h : f_X10_needBelow p0 p1 = some z) : ps_MXV l yX10_needBelow wsX10_needBelow (ps_rx 6 1 6 90) w [.int p0, .int p1] S z 1 6 := by
  refine ps_mkXV hflags (cc := cX10_needBelow) (maxL := 2) (own := RX10) (by decide +kernel) rfl rfl rfl (Nat.le_of_ble_eq_true rfl) rfl (fun G XC hl hX hthr hret => ?_)
  have hG := hX.1
  unfold f_X10_needBelow at h
  refine ps_iload_n hG dX10_needBelow_0 rfl 0 rfl ?_
  refine ps_if_lt (tgt := 9) hG dX10_needBelow_1 (by decide) (fun c1 => ?_) (fun c1 => ?_)
  · replace h := ps_ip c1 h
    cases h
    exact ps_throwW (cls := "java/lang/IllegalArgumentException") (tx := "out of range") (rest := []) hX 0 rfl (hthr 0 rfl) mX10_needBelow_k120 mX10_needBelow_i120 (by decide) gX10_needBelow_t124 ps_tn124 (by decide +kernel) ps_tg124 (Nat.le_of_ble_eq_true rfl) (Nat.le_of_ble_eq_true rfl) ⟨Nat.le_of_ble_eq_true rfl, Nat.le_of_ble_eq_true rfl⟩ ⟨Nat.le_of_ble_eq_true rfl, Nat.le_of_ble_eq_true rfl⟩ dX10_needBelow_9 dX10_needBelow_12 dX10_needBelow_13 dX10_needBelow_16 dX10_needBelow_19
  · replace h := ps_in c1 h
    refine ps_iload_n hG dX10_needBelow_4 rfl 0 rfl ?_
    refine ps_iload_n hG dX10_needBelow_5 rfl 1 rfl ?_
    refine ps_icmp_lt (tgt := 20) hG dX10_needBelow_6 (by decide) (fun c6 => ?_) (fun c6 => ?_)
    · replace h := ps_ip c6 h
      cases h
      exact hret rfl _ _ _ _ (Nat.le_of_ble_eq_true rfl) (Nat.le_of_ble_eq_true rfl) dX10_needBelow_20
    · replace h := ps_in c6 h
      cases h
      exact ps_throwW (cls := "java/lang/IllegalArgumentException") (tx := "out of range") (rest := []) hX 0 rfl (hthr 0 rfl) mX10_needBelow_k120 mX10_needBelow_i120 (by decide) gX10_needBelow_t124 ps_tn124 (by decide +kernel) ps_tg124 (Nat.le_of_ble_eq_true rfl) (Nat.le_of_ble_eq_true rfl) ⟨Nat.le_of_ble_eq_true rfl, Nat.le_of_ble_eq_true rfl⟩ ⟨Nat.le_of_ble_eq_true rfl, Nat.le_of_ble_eq_true rfl⟩ dX10_needBelow_9 dX10_needBelow_12 dX10_needBelow_13 dX10_needBelow_16 dX10_needBelow_19
def f_X10_needPeer (S : ps_S) (p1 : Int32) : Option (Nat ⊕ Unit) :=
  ((f_X5_has S p1).bind fun r5 =>
  (if r5 = 0 then
    some (.inl 1)
  else
    some (.inr ())))
theorem inX10_needPeer_X10 : ∀ q ∈ wsX100, q ∈ wsX10_needPeer := fun _ h => List.mem_cons_of_mem _ (List.mem_append_left _ (List.mem_append_left _ (List.mem_append_right _ h)))
theorem mX10_needPeer_20 : Cond.fieldLink RX10 20 (TX10 0).1 (TX10 0).2.1 (TX10 0).2.2.1 ∈ wsX10_needPeer := List.mem_of_getElem? (i := 3) rfl
theorem mX10_needPeer_i112 : Cond.initialized "java/lang/IndexOutOfBoundsException" ∈ wsX10_needPeer := List.mem_of_getElem? (i := 2) rfl
theorem mX10_needPeer_k112 : Cond.classLink RX10 112 "java/lang/IndexOutOfBoundsException" ∈ wsX10_needPeer := List.mem_of_getElem? (i := 1) rfl
theorem gX10_needPeer_t116 : ∀ q ∈ (vx_atS RX10 116 "java/lang/IndexOutOfBoundsException" ["java/lang/RuntimeException", "java/lang/Exception"]).filter goodWord, q ∈ wsX10_needPeer := fun _ h => List.mem_cons_of_mem _ (List.mem_append_right _ h)
set_option maxHeartbeats 4000000 in
set_option maxRecDepth 100000 in
theorem c_X10_needPeer (l : Launch) (hflags : l.stackTraces = false) {w : ps_X} (hw : ps_ww w) {S : ps_S} {p1 : Int32} {z : (Nat ⊕ Unit)} (h : f_X10_needPeer S p1 = some z) : ps_MXV l yX10_needPeer wsX10_needPeer (ps_rx 6 1 6 90) w [.ref (w.2.1 0), .int p1] S z 1 6 := by
  refine ps_mkXV hflags (cc := cX10_needPeer) (maxL := 2) (own := RX10) (by decide +kernel) rfl rfl rfl (Nat.le_of_ble_eq_true rfl) rfl (fun G XC hl hX hthr hret => ?_)
  have hG := hX.1
  unfold f_X10_needPeer at h
  refine ps_aload_n hG dX10_needPeer_0 rfl 0 rfl ?_
  refine ps_get19_0 hG hw inX10_needPeer_X10 ps_q0.1 (ps_lt hw ps_q0.2.2.1) mX10_needPeer_20 dX10_needPeer_1 ?_
  refine ps_iload_n hG dX10_needPeer_4 rfl 1 rfl ?_
  obtain ⟨r5, hr5, h⟩ := ps_bd h
  refine ps_callVI (As := [.int p1]) (rest := []) (nA := 1) hG (c_X5_has _ hw hr5) gX10_needPeer_X5_has rfl (by decide +kernel) rfl ⟨Nat.le_of_ble_eq_true rfl, Nat.le_of_ble_eq_true rfl⟩ ⟨rfl, rfl⟩ ⟨Nat.le_of_ble_eq_true rfl, Nat.le_of_ble_eq_true rfl⟩ (ps_lt hw ps_q1.2.2.1) (ps_cel_14 ps_q1.1 _) rfl rfl (Nat.le_of_ble_eq_true rfl) dX10_needPeer_5 ?_
  refine ps_if_ne (tgt := 22) hG dX10_needPeer_8 (by decide) (fun c8 => ?_) (fun c8 => ?_)
  · replace h := ps_in c8 h
    cases h
    exact hret rfl _ _ _ _ (Nat.le_of_ble_eq_true rfl) (Nat.le_of_ble_eq_true rfl) dX10_needPeer_22
  · replace h := ps_ip c8 h
    cases h
    exact ps_throwW (cls := "java/lang/IndexOutOfBoundsException") (tx := "no such peer") (rest := []) hX 1 rfl (hthr 1 rfl) mX10_needPeer_k112 mX10_needPeer_i112 (by decide) gX10_needPeer_t116 ps_tn116 (by decide +kernel) ps_tg116 (Nat.le_of_ble_eq_true rfl) (Nat.le_of_ble_eq_true rfl) ⟨Nat.le_of_ble_eq_true rfl, Nat.le_of_ble_eq_true rfl⟩ ⟨Nat.le_of_ble_eq_true rfl, Nat.le_of_ble_eq_true rfl⟩ dX10_needPeer_11 dX10_needPeer_14 dX10_needPeer_15 dX10_needPeer_18 dX10_needPeer_21
def f_X10_needOnline (S : ps_S) (p1 : Int32) : Option (Nat ⊕ Unit) :=
  ((f_X5_isOnline S p1).bind fun r5 =>
  (if r5 = 0 then
    some (.inl 2)
  else
    some (.inr ())))
theorem inX10_needOnline_X10 : ∀ q ∈ wsX100, q ∈ wsX10_needOnline := fun _ h => List.mem_cons_of_mem _ (List.mem_append_left _ (List.mem_append_left _ (List.mem_append_right _ h)))
theorem mX10_needOnline_20 : Cond.fieldLink RX10 20 (TX10 0).1 (TX10 0).2.1 (TX10 0).2.2.1 ∈ wsX10_needOnline := List.mem_of_getElem? (i := 3) rfl
theorem mX10_needOnline_i84 : Cond.initialized "java/lang/IllegalStateException" ∈ wsX10_needOnline := List.mem_of_getElem? (i := 2) rfl
theorem mX10_needOnline_k84 : Cond.classLink RX10 84 "java/lang/IllegalStateException" ∈ wsX10_needOnline := List.mem_of_getElem? (i := 1) rfl
theorem gX10_needOnline_t88 : ∀ q ∈ (vx_atS RX10 88 "java/lang/IllegalStateException" ["java/lang/RuntimeException", "java/lang/Exception"]).filter goodWord, q ∈ wsX10_needOnline := fun _ h => List.mem_cons_of_mem _ (List.mem_append_right _ h)
set_option maxHeartbeats 4000000 in
set_option maxRecDepth 100000 in
theorem c_X10_needOnline (l : Launch) (hflags : l.stackTraces = false) {w : ps_X} (hw : ps_ww w) {S : ps_S} {p1 : Int32} {z : (Nat ⊕ Unit)} (h : f_X10_needOnline S p1 = some z) : ps_MXV l yX10_needOnline wsX10_needOnline (ps_rx 6 1 6 90) w [.ref (w.2.1 0), .int p1] S z 1 6 := by
  refine ps_mkXV hflags (cc := cX10_needOnline) (maxL := 2) (own := RX10) (by decide +kernel) rfl rfl rfl (Nat.le_of_ble_eq_true rfl) rfl (fun G XC hl hX hthr hret => ?_)
  have hG := hX.1
  unfold f_X10_needOnline at h
  refine ps_aload_n hG dX10_needOnline_0 rfl 0 rfl ?_
  refine ps_get19_0 hG hw inX10_needOnline_X10 ps_q0.1 (ps_lt hw ps_q0.2.2.1) mX10_needOnline_20 dX10_needOnline_1 ?_
  refine ps_iload_n hG dX10_needOnline_4 rfl 1 rfl ?_
  obtain ⟨r5, hr5, h⟩ := ps_bd h
  refine ps_callVI (As := [.int p1]) (rest := []) (nA := 1) hG (c_X5_isOnline _ hw hr5) gX10_needOnline_X5_isOnline rfl (by decide +kernel) rfl ⟨Nat.le_of_ble_eq_true rfl, Nat.le_of_ble_eq_true rfl⟩ ⟨rfl, rfl⟩ ⟨Nat.le_of_ble_eq_true rfl, Nat.le_of_ble_eq_true rfl⟩ (ps_lt hw ps_q1.2.2.1) (ps_cel_14 ps_q1.1 _) rfl rfl (Nat.le_of_ble_eq_true rfl) dX10_needOnline_5 ?_
  refine ps_if_ne (tgt := 22) hG dX10_needOnline_8 (by decide) (fun c8 => ?_) (fun c8 => ?_)
  · replace h := ps_in c8 h
    cases h
    exact hret rfl _ _ _ _ (Nat.le_of_ble_eq_true rfl) (Nat.le_of_ble_eq_true rfl) dX10_needOnline_22
  · replace h := ps_ip c8 h
    cases h
    exact ps_throwW (cls := "java/lang/IllegalStateException") (tx := "the peer is not online") (rest := []) hX 2 rfl (hthr 2 rfl) mX10_needOnline_k84 mX10_needOnline_i84 (by decide) gX10_needOnline_t88 ps_tn88 (by decide +kernel) ps_tg88 (Nat.le_of_ble_eq_true rfl) (Nat.le_of_ble_eq_true rfl) ⟨Nat.le_of_ble_eq_true rfl, Nat.le_of_ble_eq_true rfl⟩ ⟨Nat.le_of_ble_eq_true rfl, Nat.le_of_ble_eq_true rfl⟩ dX10_needOnline_11 dX10_needOnline_14 dX10_needOnline_15 dX10_needOnline_18 dX10_needOnline_21
def f_X10_needPiece (p0 : Int32) : Option (Nat ⊕ Unit) :=
  (if p0 < 0 then
    some (.inl 1)
  else
    (if p0 < 6 then
      some (.inr ())
    else
      some (.inl 1)))
theorem mX10_needPiece_i112 : Cond.initialized "java/lang/IndexOutOfBoundsException" ∈ wsX10_needPiece := List.mem_of_getElem? (i := 2) rfl
theorem mX10_needPiece_k112 : Cond.classLink RX10 112 "java/lang/IndexOutOfBoundsException" ∈ wsX10_needPiece := List.mem_of_getElem? (i := 1) rfl
theorem gX10_needPiece_t116 : ∀ q ∈ (vx_atS RX10 116 "java/lang/IndexOutOfBoundsException" ["java/lang/RuntimeException", "java/lang/Exception"]).filter goodWord, q ∈ wsX10_needPiece := fun _ h => List.mem_cons_of_mem _ (List.mem_append_right _ h)
set_option maxHeartbeats 4000000 in
set_option maxRecDepth 100000 in
theorem c_X10_needPiece (l : Launch) (hflags : l.stackTraces = false) {w : ps_X} (hw : ps_ww w) {S : ps_S} {p0 : Int32} {z : (Nat ⊕ Unit)} (h : f_X10_needPiece p0 = some z) : ps_MXV l yX10_needPiece wsX10_needPiece (ps_rx 6 1 6 90) w [.int p0] S z 1 6 := by
  refine ps_mkXV hflags (cc := cX10_needPiece) (maxL := 1) (own := RX10) (by decide +kernel) rfl rfl rfl (Nat.le_of_ble_eq_true rfl) rfl (fun G XC hl hX hthr hret => ?_)
  have hG := hX.1
  unfold f_X10_needPiece at h
  refine ps_iload_n hG dX10_needPiece_0 rfl 0 rfl ?_
  refine ps_if_lt (tgt := 10) hG dX10_needPiece_1 (by decide) (fun c1 => ?_) (fun c1 => ?_)
  · replace h := ps_ip c1 h
    cases h
    exact ps_throwW (cls := "java/lang/IndexOutOfBoundsException") (tx := "no such piece") (rest := []) hX 1 rfl (hthr 1 rfl) mX10_needPiece_k112 mX10_needPiece_i112 (by decide) gX10_needPiece_t116 ps_tn116 (by decide +kernel) ps_tg116 (Nat.le_of_ble_eq_true rfl) (Nat.le_of_ble_eq_true rfl) ⟨Nat.le_of_ble_eq_true rfl, Nat.le_of_ble_eq_true rfl⟩ ⟨Nat.le_of_ble_eq_true rfl, Nat.le_of_ble_eq_true rfl⟩ dX10_needPiece_10 dX10_needPiece_13 dX10_needPiece_14 dX10_needPiece_17 dX10_needPiece_20
  · replace h := ps_in c1 h
    refine ps_iload_n hG dX10_needPiece_4 rfl 0 rfl ?_
    refine ps_bipush (v := 6) hG dX10_needPiece_5 (by decide) ?_
    refine ps_icmp_lt (tgt := 21) hG dX10_needPiece_7 (by decide) (fun c7 => ?_) (fun c7 => ?_)
    · replace h := ps_ip c7 h
      cases h
      exact hret rfl _ _ _ _ (Nat.le_of_ble_eq_true rfl) (Nat.le_of_ble_eq_true rfl) dX10_needPiece_21
    · replace h := ps_in c7 h
      cases h
      exact ps_throwW (cls := "java/lang/IndexOutOfBoundsException") (tx := "no such piece") (rest := []) hX 1 rfl (hthr 1 rfl) mX10_needPiece_k112 mX10_needPiece_i112 (by decide) gX10_needPiece_t116 ps_tn116 (by decide +kernel) ps_tg116 (Nat.le_of_ble_eq_true rfl) (Nat.le_of_ble_eq_true rfl) ⟨Nat.le_of_ble_eq_true rfl, Nat.le_of_ble_eq_true rfl⟩ ⟨Nat.le_of_ble_eq_true rfl, Nat.le_of_ble_eq_true rfl⟩ dX10_needPiece_10 dX10_needPiece_13 dX10_needPiece_14 dX10_needPiece_17 dX10_needPiece_20
def f_X10_fileAt (S : ps_S) (p1 : Int32) : Option (Nat ⊕ Nat) :=
  (if p1 < 0 then
    some (.inl 1)
  else
    (if 12 ≤ p1 then
      some (.inl 1)
    else
      (if ps_ib p1 12 = true then
      (if S 57 p1.toNatClampNeg = 0 then
        some (.inl 1)
      else
        some (.inr (103 + 7 * p1.toNatClampNeg))) else none)))
theorem inX10_fileAt_X10 : ∀ q ∈ wsX100, q ∈ wsX10_fileAt := fun _ h => List.mem_cons_of_mem _ (List.mem_append_left _ (List.mem_append_right _ h))
theorem mX10_fileAt_41 : Cond.fieldLink RX10 41 (TX10 3).1 (TX10 3).2.1 (TX10 3).2.2.1 ∈ wsX10_fileAt := List.mem_of_getElem? (i := 3) rfl
theorem mX10_fileAt_i112 : Cond.initialized "java/lang/IndexOutOfBoundsException" ∈ wsX10_fileAt := List.mem_of_getElem? (i := 2) rfl
theorem mX10_fileAt_k112 : Cond.classLink RX10 112 "java/lang/IndexOutOfBoundsException" ∈ wsX10_fileAt := List.mem_of_getElem? (i := 1) rfl
theorem gX10_fileAt_t116 : ∀ q ∈ (vx_atS RX10 116 "java/lang/IndexOutOfBoundsException" ["java/lang/RuntimeException", "java/lang/Exception"]).filter goodWord, q ∈ wsX10_fileAt := fun _ h => List.mem_cons_of_mem _ (List.mem_append_right _ h)
set_option maxHeartbeats 4000000 in
set_option maxRecDepth 100000 in
theorem c_X10_fileAt (l : Launch) (hflags : l.stackTraces = false) {w : ps_X} (hw : ps_ww w) {S : ps_S} {p1 : Int32} {z : (Nat ⊕ Nat)} (h : f_X10_fileAt S p1 = some z) : ps_MXR l yX10_fileAt wsX10_fileAt (ps_rx 6 1 6 90) w [.ref (w.2.1 0), .int p1] S z 1 6 := by
  refine ps_mkXR hflags (cc := cX10_fileAt) (maxL := 3) (own := RX10) (by decide +kernel) rfl ⟨_, rfl⟩ rfl (Nat.le_of_ble_eq_true rfl) rfl (fun G XC hl hX hthr hret => ?_)
  have hG := hX.1
  unfold f_X10_fileAt at h
  refine ps_iload_n hG dX10_fileAt_0 rfl 1 rfl ?_
  refine ps_if_lt (tgt := 22) hG dX10_fileAt_1 (by decide) (fun c1 => ?_) (fun c1 => ?_)
  · replace h := ps_ip c1 h
    refine ps_null hG dX10_fileAt_22 ?_
    refine ps_astore_nN (lv' := [(2, .null), (0, .ref (w.2.1 0)), (1, .int p1)]) hG dX10_fileAt_23 rfl (by decide) rfl ?_
    refine ps_aload_nN hG dX10_fileAt_24 rfl 0 rfl ?_
    refine ps_ifnonnullN (tgt := 39) hG dX10_fileAt_25 (by decide) ?_
    cases h
    exact ps_throwW (cls := "java/lang/IndexOutOfBoundsException") (tx := "no such file") (rest := []) hX 1 rfl (hthr 1 rfl) mX10_fileAt_k112 mX10_fileAt_i112 (by decide) gX10_fileAt_t116 ps_tn116 (by decide +kernel) ps_tg116 (Nat.le_of_ble_eq_true rfl) (Nat.le_of_ble_eq_true rfl) ⟨Nat.le_of_ble_eq_true rfl, Nat.le_of_ble_eq_true rfl⟩ ⟨Nat.le_of_ble_eq_true rfl, Nat.le_of_ble_eq_true rfl⟩ dX10_fileAt_28 dX10_fileAt_31 dX10_fileAt_32 dX10_fileAt_35 dX10_fileAt_38
  · replace h := ps_in c1 h
    refine ps_iload_n hG dX10_fileAt_4 rfl 1 rfl ?_
    refine ps_aload_n hG dX10_fileAt_5 rfl 0 rfl ?_
    refine ps_get19_3 hG hw inX10_fileAt_X10 ps_q0.1 (ps_lt hw ps_q0.2.2.1) mX10_fileAt_41 dX10_fileAt_6 ?_
    refine ps_alenF (v := 12) hG (ps_lt hw ps_q57.2.2) (by decide) dX10_fileAt_9 ?_
    refine ps_icmp_ge (tgt := 22) hG dX10_fileAt_10 (by decide) (fun c10 => ?_) (fun c10 => ?_)
    · replace h := ps_ip c10 h
      refine ps_null hG dX10_fileAt_22 ?_
      refine ps_astore_nN (lv' := [(2, .null), (0, .ref (w.2.1 0)), (1, .int p1)]) hG dX10_fileAt_23 rfl (by decide) rfl ?_
      refine ps_aload_nN hG dX10_fileAt_24 rfl 0 rfl ?_
      refine ps_ifnonnullN (tgt := 39) hG dX10_fileAt_25 (by decide) ?_
      cases h
      exact ps_throwW (cls := "java/lang/IndexOutOfBoundsException") (tx := "no such file") (rest := []) hX 1 rfl (hthr 1 rfl) mX10_fileAt_k112 mX10_fileAt_i112 (by decide) gX10_fileAt_t116 ps_tn116 (by decide +kernel) ps_tg116 (Nat.le_of_ble_eq_true rfl) (Nat.le_of_ble_eq_true rfl) ⟨Nat.le_of_ble_eq_true rfl, Nat.le_of_ble_eq_true rfl⟩ ⟨Nat.le_of_ble_eq_true rfl, Nat.le_of_ble_eq_true rfl⟩ dX10_fileAt_28 dX10_fileAt_31 dX10_fileAt_32 dX10_fileAt_35 dX10_fileAt_38
    · replace h := ps_in c10 h
      refine ps_aload_n hG dX10_fileAt_13 rfl 0 rfl ?_
      refine ps_get19_3 hG hw inX10_fileAt_X10 ps_q0.1 (ps_lt hw ps_q0.2.2.1) mX10_fileAt_41 dX10_fileAt_14 ?_
      refine ps_iload_n hG dX10_fileAt_17 rfl 1 rfl ?_
      obtain ⟨hb18, h⟩ := ps_ig h
      refine ps_getinv (fun hi18 => ?_)
      refine ps_aaldF hG (ps_lt hw ps_q57.2.2) hb18 dX10_fileAt_18 (fun c18 => ?_) (fun c18 => ?_)
      · replace h := ps_ip c18 h
        refine ps_goto (tgt := 23) hG dX10_fileAt_19 (by decide) ?_
        refine ps_astore_nN (lv' := [(2, .null), (0, .ref (w.2.1 0)), (1, .int p1)]) hG dX10_fileAt_23 rfl (by decide) rfl ?_
        refine ps_aload_nN hG dX10_fileAt_24 rfl 0 rfl ?_
        refine ps_ifnonnullN (tgt := 39) hG dX10_fileAt_25 (by decide) ?_
        cases h
        exact ps_throwW (cls := "java/lang/IndexOutOfBoundsException") (tx := "no such file") (rest := []) hX 1 rfl (hthr 1 rfl) mX10_fileAt_k112 mX10_fileAt_i112 (by decide) gX10_fileAt_t116 ps_tn116 (by decide +kernel) ps_tg116 (Nat.le_of_ble_eq_true rfl) (Nat.le_of_ble_eq_true rfl) ⟨Nat.le_of_ble_eq_true rfl, Nat.le_of_ble_eq_true rfl⟩ ⟨Nat.le_of_ble_eq_true rfl, Nat.le_of_ble_eq_true rfl⟩ dX10_fileAt_28 dX10_fileAt_31 dX10_fileAt_32 dX10_fileAt_35 dX10_fileAt_38
      · replace h := ps_in c18 h
        have hf18 := ps_invF hi18 c18
        refine ps_goto (tgt := 23) hG dX10_fileAt_19 (by decide) ?_
        refine ps_astore_n (lv' := [(2, .ref (w.2.1 (103 + 7 * p1.toNatClampNeg))), (0, .ref (w.2.1 0)), (1, .int p1)]) hG dX10_fileAt_23 rfl (by decide) rfl ?_
        refine ps_aload_n hG dX10_fileAt_24 rfl 0 rfl ?_
        refine ps_ifnonnull (tgt := 39) hG dX10_fileAt_25 (by decide) ?_
        refine ps_aload_n hG dX10_fileAt_39 rfl 0 rfl ?_
        cases h
        exact hret _ rfl hf18 _ _ _ _ (Nat.le_of_ble_eq_true rfl) (Nat.le_of_ble_eq_true rfl) dX10_fileAt_40
def f_X10_turn (S : ps_S) (p1 : Int32) (p2 : Int32) : Option (Nat ⊕ (Int32 × ps_S)) :=
  (ps_bx (f_X10_needPeer S p1) fun _ =>
  ((f_X5_isOnline S p1).bind fun r10 =>
  ((f_X5_setOnline S p1 p2).bind fun S20 =>
  (if r10 = 0 ∨ r10 = 1 then some (.inr (r10, S20)) else none))))
theorem inX10_turn_X10 : ∀ q ∈ wsX100, q ∈ wsX10_turn := fun _ h => List.mem_cons_of_mem _ (List.mem_append_left _ (List.mem_append_left _ (List.mem_append_right _ h)))
theorem mX10_turn_20 : Cond.fieldLink RX10 20 (TX10 0).1 (TX10 0).2.1 (TX10 0).2.2.1 ∈ wsX10_turn := List.mem_of_getElem? (i := 1) rfl
set_option maxHeartbeats 4000000 in
set_option maxRecDepth 100000 in
theorem c_X10_turn (l : Launch) (hflags : l.stackTraces = false) {w : ps_X} (hw : ps_ww w) {S : ps_S} {p1 p2 : Int32} {z : (Nat ⊕ (Int32 × ps_S))} (h : f_X10_turn S p1 p2 = some z) : ps_MXI l yX10_turn wsX10_turn (ps_rx 7 1 6 111) w [.ref (w.2.1 0), .int p1, .int p2] S z 1 6 := by
  refine ps_mkXZ hflags (cc := cX10_turn) (maxL := 4) (own := RX10) (by decide +kernel) rfl rfl rfl (Nat.le_of_ble_eq_true rfl) rfl (fun G XC hl hX hthr hret => ?_)
  have hG := hX.1
  unfold f_X10_turn at h
  refine ps_aload_n hG dX10_turn_0 rfl 0 rfl ?_
  refine ps_iload_n hG dX10_turn_1 rfl 1 rfl ?_
  obtain ⟨⟨q2, hr2⟩, h2⟩ := ps_dx h
  replace h2 := h2 q2 hr2
  refine ps_xcallVV (As := [.int p1]) (rest := []) (nA := 1) hX (c_X10_needPeer _ hX.2.2.2.1 hw hr2) gX10_turn_X10_needPeer rfl (by decide +kernel) rfl ⟨Nat.le_of_ble_eq_true rfl, Nat.le_of_ble_eq_true rfl⟩ ⟨rfl, rfl⟩ ⟨Nat.le_of_ble_eq_true rfl, Nat.le_of_ble_eq_true rfl⟩ ⟨Nat.le_of_ble_eq_true rfl, Nat.le_of_ble_eq_true rfl⟩ (ps_lt hw ps_q0.2.2.1) (ps_cel_19 ps_q0.1 _) rfl rfl (Nat.le_of_ble_eq_true rfl) dX10_turn_2 (fun e he => hthr e (h2.1 e he)) (fun hz => ?_)
  replace h := h2.2 _ hz
  refine ps_aload_n hG dX10_turn_5 rfl 0 rfl ?_
  refine ps_get19_0 hG hw inX10_turn_X10 ps_q0.1 (ps_lt hw ps_q0.2.2.1) mX10_turn_20 dX10_turn_6 ?_
  refine ps_iload_n hG dX10_turn_9 rfl 1 rfl ?_
  obtain ⟨r10, hr10, h⟩ := ps_bd h
  refine ps_callVI (As := [.int p1]) (rest := []) (nA := 1) hG (c_X5_isOnline _ hw hr10) gX10_turn_X5_isOnline rfl (by decide +kernel) rfl ⟨Nat.le_of_ble_eq_true rfl, Nat.le_of_ble_eq_true rfl⟩ ⟨rfl, rfl⟩ ⟨Nat.le_of_ble_eq_true rfl, Nat.le_of_ble_eq_true rfl⟩ (ps_lt hw ps_q1.2.2.1) (ps_cel_14 ps_q1.1 _) rfl rfl (Nat.le_of_ble_eq_true rfl) dX10_turn_10 ?_
  refine ps_istore_n (lv' := [(3, .int r10), (0, .ref (w.2.1 0)), (1, .int p1), (2, .int p2)]) hG dX10_turn_13 rfl (by decide) rfl ?_
  refine ps_aload_n hG dX10_turn_14 rfl 1 rfl ?_
  refine ps_get19_0 hG hw inX10_turn_X10 ps_q0.1 (ps_lt hw ps_q0.2.2.1) mX10_turn_20 dX10_turn_15 ?_
  refine ps_iload_n hG dX10_turn_18 rfl 2 rfl ?_
  refine ps_iload_n hG dX10_turn_19 rfl 3 rfl ?_
  obtain ⟨S20, hr20, h⟩ := ps_bd h
  refine ps_callVV (As := [.int p1, .int p2]) (rest := []) (nA := 2) hG (c_X5_setOnline _ hw hr20) gX10_turn_X5_setOnline rfl (by decide +kernel) rfl ⟨Nat.le_of_ble_eq_true rfl, Nat.le_of_ble_eq_true rfl⟩ ⟨rfl, rfl⟩ ⟨Nat.le_of_ble_eq_true rfl, Nat.le_of_ble_eq_true rfl⟩ (ps_lt hw ps_q1.2.2.1) (ps_cel_14 ps_q1.1 _) rfl rfl (Nat.le_of_ble_eq_true rfl) dX10_turn_20 ?_
  refine ps_iload_n hG dX10_turn_23 rfl 0 rfl ?_
  obtain ⟨hz24, h⟩ := ps_ig h
  cases h
  exact hret _ _ rfl _ _ _ _ (Nat.le_of_ble_eq_true rfl) (Nat.le_of_ble_eq_true rfl) dX10_turn_24 (ps_z01 hz24)
def f_X10_bucket (S : ps_S) (p1 : Int32) (p2 : Int32) (p3 : Int32) : Option (Nat ⊕ (Int32 × ps_S)) :=
  (ps_bx (f_X10_needPeer S p1) fun _ =>
  (if 0 ≤ p3 then
    (ps_bx (f_X10_needBelow p2 8) fun _ =>
    (if 2 ≤ p3 then
      some (.inr ((-1), S))
    else
      ((f_X5_keptAt S p1 ((p2 * 2) + p3)).bind fun r40 =>
      some (.inr (r40, S)))))
  else
    some (.inl 1)))
theorem inX10_bucket_X10 : ∀ q ∈ wsX100, q ∈ wsX10_bucket := fun _ h => List.mem_cons_of_mem _ (List.mem_append_left _ (List.mem_append_left _ (List.mem_append_left _ (List.mem_append_right _ h))))
theorem mX10_bucket_20 : Cond.fieldLink RX10 20 (TX10 0).1 (TX10 0).2.1 (TX10 0).2.2.1 ∈ wsX10_bucket := List.mem_of_getElem? (i := 3) rfl
theorem mX10_bucket_i112 : Cond.initialized "java/lang/IndexOutOfBoundsException" ∈ wsX10_bucket := List.mem_of_getElem? (i := 2) rfl
theorem mX10_bucket_k112 : Cond.classLink RX10 112 "java/lang/IndexOutOfBoundsException" ∈ wsX10_bucket := List.mem_of_getElem? (i := 1) rfl
theorem gX10_bucket_t116 : ∀ q ∈ (vx_atS RX10 116 "java/lang/IndexOutOfBoundsException" ["java/lang/RuntimeException", "java/lang/Exception"]).filter goodWord, q ∈ wsX10_bucket := fun _ h => List.mem_cons_of_mem _ (List.mem_append_left _ (List.mem_append_right _ h))
set_option maxHeartbeats 4000000 in
set_option maxRecDepth 100000 in
theorem c_X10_bucket (l : Launch) (hflags : l.stackTraces = false) {w : ps_X} (hw : ps_ww w) {S : ps_S} {p1 p2 p3 : Int32} {z : (Nat ⊕ (Int32 × ps_S))} (h : f_X10_bucket S p1 p2 p3 = some z) : ps_MXI l yX10_bucket wsX10_bucket (ps_rx 7 2 12 111) w [.ref (w.2.1 0), .int p1, .int p2, .int p3] S z 2 12 := by
  refine ps_mkXI hflags (cc := cX10_bucket) (maxL := 4) (own := RX10) (by decide +kernel) rfl rfl rfl (Nat.le_of_ble_eq_true rfl) rfl (fun G XC hl hX hthr hret => ?_)
  have hG := hX.1
  unfold f_X10_bucket at h
  refine ps_aload_n hG dX10_bucket_0 rfl 0 rfl ?_
  refine ps_iload_n hG dX10_bucket_1 rfl 1 rfl ?_
  obtain ⟨⟨q2, hr2⟩, h2⟩ := ps_dx h
  replace h2 := h2 q2 hr2
  refine ps_xcallVV (As := [.int p1]) (rest := []) (nA := 1) hX (c_X10_needPeer _ hX.2.2.2.1 hw hr2) gX10_bucket_X10_needPeer rfl (by decide +kernel) rfl ⟨Nat.le_of_ble_eq_true rfl, Nat.le_of_ble_eq_true rfl⟩ ⟨rfl, rfl⟩ ⟨Nat.le_of_ble_eq_true rfl, Nat.le_of_ble_eq_true rfl⟩ ⟨Nat.le_of_ble_eq_true rfl, Nat.le_of_ble_eq_true rfl⟩ (ps_lt hw ps_q0.2.2.1) (ps_cel_19 ps_q0.1 _) rfl rfl (Nat.le_of_ble_eq_true rfl) dX10_bucket_2 (fun e he => hthr e (h2.1 e he)) (fun hz => ?_)
  replace h := h2.2 _ hz
  refine ps_iload_n hG dX10_bucket_5 rfl 3 rfl ?_
  refine ps_if_ge (tgt := 19) hG dX10_bucket_6 (by decide) (fun c6 => ?_) (fun c6 => ?_)
  · replace h := ps_ip c6 h
    refine ps_iload_n hG dX10_bucket_19 rfl 2 rfl ?_
    refine ps_bipush (v := 8) hG dX10_bucket_20 (by decide) ?_
    obtain ⟨⟨q22, hr22⟩, h22⟩ := ps_dx h
    replace h22 := h22 q22 hr22
    refine ps_xcallSV (As := [.int p2, .int 8]) (rest := []) (nA := 2) hX (c_X10_needBelow _ hX.2.2.2.1 hw hr22) gX10_bucket_X10_needBelow rfl (by decide +kernel) rfl ⟨Nat.le_of_ble_eq_true rfl, Nat.le_of_ble_eq_true rfl⟩ ⟨rfl, rfl⟩ ⟨Nat.le_of_ble_eq_true rfl, Nat.le_of_ble_eq_true rfl⟩ ⟨Nat.le_of_ble_eq_true rfl, Nat.le_of_ble_eq_true rfl⟩ rfl (Nat.le_of_ble_eq_true rfl) dX10_bucket_22 (fun e he => hthr e (h22.1 e he)) (fun hz => ?_)
    replace h := h22.2 _ hz
    refine ps_iload_n hG dX10_bucket_25 rfl 3 rfl ?_
    refine ps_iconst (v := 2) hG dX10_bucket_26 (by decide) ?_
    refine ps_icmp_ge (tgt := 46) hG dX10_bucket_27 (by decide) (fun c27 => ?_) (fun c27 => ?_)
    · replace h := ps_ip c27 h
      refine ps_iconst (v := (-1)) hG dX10_bucket_46 (by decide) ?_
      cases h
      exact hret _ _ rfl _ _ _ _ (Nat.le_of_ble_eq_true rfl) (Nat.le_of_ble_eq_true rfl) dX10_bucket_47
    · replace h := ps_in c27 h
      refine ps_aload_n hG dX10_bucket_30 rfl 0 rfl ?_
      refine ps_get19_0 hG hw inX10_bucket_X10 ps_q0.1 (ps_lt hw ps_q0.2.2.1) mX10_bucket_20 dX10_bucket_31 ?_
      refine ps_iload_n hG dX10_bucket_34 rfl 1 rfl ?_
      refine ps_iload_n hG dX10_bucket_35 rfl 2 rfl ?_
      refine ps_iconst (v := 2) hG dX10_bucket_36 (by decide) ?_
      refine ps_imul hG dX10_bucket_37 ?_
      refine ps_iload_n hG dX10_bucket_38 rfl 3 rfl ?_
      refine ps_iadd hG dX10_bucket_39 ?_
      obtain ⟨r40, hr40, h⟩ := ps_bd h
      refine ps_callVI (As := [.int p1, .int ((p2 * 2) + p3)]) (rest := []) (nA := 2) hG (c_X5_keptAt _ hw hr40) gX10_bucket_X5_keptAt rfl (by decide +kernel) rfl ⟨Nat.le_of_ble_eq_true rfl, Nat.le_of_ble_eq_true rfl⟩ ⟨rfl, rfl⟩ ⟨Nat.le_of_ble_eq_true rfl, Nat.le_of_ble_eq_true rfl⟩ (ps_lt hw ps_q1.2.2.1) (ps_cel_14 ps_q1.1 _) rfl rfl (Nat.le_of_ble_eq_true rfl) dX10_bucket_40 ?_
      refine ps_goto (tgt := 47) hG dX10_bucket_43 (by decide) ?_
      cases h
      exact hret _ _ rfl _ _ _ _ (Nat.le_of_ble_eq_true rfl) (Nat.le_of_ble_eq_true rfl) dX10_bucket_47
  · replace h := ps_in c6 h
    cases h
    exact ps_throw (cls := "java/lang/IndexOutOfBoundsException") (tx := "no such place") (rest := []) hX 1 rfl (hthr 1 rfl) mX10_bucket_k112 mX10_bucket_i112 (by decide) gX10_bucket_t116 ps_tn116 (by decide +kernel) ps_tg116 (Nat.le_of_ble_eq_true rfl) (Nat.le_of_ble_eq_true rfl) ⟨Nat.le_of_ble_eq_true rfl, Nat.le_of_ble_eq_true rfl⟩ ⟨Nat.le_of_ble_eq_true rfl, Nat.le_of_ble_eq_true rfl⟩ dX10_bucket_9 dX10_bucket_12 dX10_bucket_13 dX10_bucket_15 dX10_bucket_18
def f_X10_lookup (S : ps_S) (p1 : Int32) (p2 : Int32) (p3 : Int32) : Option (Nat ⊕ (Int32 × ps_S)) :=
  (ps_bx (f_X10_needPeer S p1) fun _ =>
  (ps_bx (f_X10_needBelow p2 256) fun _ =>
  (if p3 < 1 then
    some (.inl 0)
  else
    (if p3 ≤ 2 then
      (ps_bx (f_X10_needOnline S p1) fun _ =>
      ((f_X7_run S p1 p2 p3).bind fun S44 =>
      ((f_X6_digits S44 29).bind fun r54 =>
      some (.inr (r54, S44)))))
    else
      some (.inl 0)))))
theorem inX10_lookup_X10 : ∀ q ∈ wsX100, q ∈ wsX10_lookup := fun _ h => List.mem_cons_of_mem _ (List.mem_append_left _ (List.mem_append_left _ (List.mem_append_left _ (List.mem_append_left _ (List.mem_append_left _ (List.mem_append_left _ (List.mem_append_right _ h)))))))
theorem mX10_lookup_24 : Cond.fieldLink RX10 24 (TX10 1).1 (TX10 1).2.1 (TX10 1).2.2.1 ∈ wsX10_lookup := List.mem_of_getElem? (i := 3) rfl
theorem mX10_lookup_i120 : Cond.initialized "java/lang/IllegalArgumentException" ∈ wsX10_lookup := List.mem_of_getElem? (i := 2) rfl
theorem mX10_lookup_k120 : Cond.classLink RX10 120 "java/lang/IllegalArgumentException" ∈ wsX10_lookup := List.mem_of_getElem? (i := 1) rfl
theorem gX10_lookup_t124 : ∀ q ∈ (vx_atS RX10 124 "java/lang/IllegalArgumentException" ["java/lang/RuntimeException", "java/lang/Exception"]).filter goodWord, q ∈ wsX10_lookup := fun _ h => List.mem_cons_of_mem _ (List.mem_append_left _ (List.mem_append_left _ (List.mem_append_right _ h)))
set_option maxHeartbeats 4000000 in
set_option maxRecDepth 100000 in
theorem c_X10_lookup (l : Launch) (hflags : l.stackTraces = false) {w : ps_X} (hw : ps_ww w) {S : ps_S} {p1 p2 p3 : Int32} {z : (Nat ⊕ (Int32 × ps_S))} (h : f_X10_lookup S p1 p2 p3 = some z) : ps_MXI l yX10_lookup wsX10_lookup (ps_rx 7 3 18 133) w [.ref (w.2.1 0), .int p1, .int p2, .int p3] S z 3 18 := by
  refine ps_mkXI hflags (cc := cX10_lookup) (maxL := 4) (own := RX10) (by decide +kernel) rfl rfl rfl (Nat.le_of_ble_eq_true rfl) rfl (fun G XC hl hX hthr hret => ?_)
  have hG := hX.1
  unfold f_X10_lookup at h
  refine ps_aload_n hG dX10_lookup_0 rfl 0 rfl ?_
  refine ps_iload_n hG dX10_lookup_1 rfl 1 rfl ?_
  obtain ⟨⟨q2, hr2⟩, h2⟩ := ps_dx h
  replace h2 := h2 q2 hr2
  refine ps_xcallVV (As := [.int p1]) (rest := []) (nA := 1) hX (c_X10_needPeer _ hX.2.2.2.1 hw hr2) gX10_lookup_X10_needPeer rfl (by decide +kernel) rfl ⟨Nat.le_of_ble_eq_true rfl, Nat.le_of_ble_eq_true rfl⟩ ⟨rfl, rfl⟩ ⟨Nat.le_of_ble_eq_true rfl, Nat.le_of_ble_eq_true rfl⟩ ⟨Nat.le_of_ble_eq_true rfl, Nat.le_of_ble_eq_true rfl⟩ (ps_lt hw ps_q0.2.2.1) (ps_cel_19 ps_q0.1 _) rfl rfl (Nat.le_of_ble_eq_true rfl) dX10_lookup_2 (fun e he => hthr e (h2.1 e he)) (fun hz => ?_)
  replace h := h2.2 _ hz
  refine ps_iload_n hG dX10_lookup_5 rfl 2 rfl ?_
  refine ps_sipush (v := 256) hG dX10_lookup_6 (by decide) ?_
  obtain ⟨⟨q9, hr9⟩, h9⟩ := ps_dx h
  replace h9 := h9 q9 hr9
  refine ps_xcallSV (As := [.int p2, .int 256]) (rest := []) (nA := 2) hX (c_X10_needBelow _ hX.2.2.2.1 hw hr9) gX10_lookup_X10_needBelow rfl (by decide +kernel) rfl ⟨Nat.le_of_ble_eq_true rfl, Nat.le_of_ble_eq_true rfl⟩ ⟨rfl, rfl⟩ ⟨Nat.le_of_ble_eq_true rfl, Nat.le_of_ble_eq_true rfl⟩ ⟨Nat.le_of_ble_eq_true rfl, Nat.le_of_ble_eq_true rfl⟩ rfl (Nat.le_of_ble_eq_true rfl) dX10_lookup_9 (fun e he => hthr e (h9.1 e he)) (fun hz => ?_)
  replace h := h9.2 _ hz
  refine ps_iload_n hG dX10_lookup_12 rfl 3 rfl ?_
  refine ps_iconst (v := 1) hG dX10_lookup_13 (by decide) ?_
  refine ps_icmp_lt (tgt := 22) hG dX10_lookup_14 (by decide) (fun c14 => ?_) (fun c14 => ?_)
  · replace h := ps_ip c14 h
    cases h
    exact ps_throw (cls := "java/lang/IllegalArgumentException") (tx := "one way or two") (rest := []) hX 0 rfl (hthr 0 rfl) mX10_lookup_k120 mX10_lookup_i120 (by decide) gX10_lookup_t124 ps_tn124 (by decide +kernel) ps_tg124 (Nat.le_of_ble_eq_true rfl) (Nat.le_of_ble_eq_true rfl) ⟨Nat.le_of_ble_eq_true rfl, Nat.le_of_ble_eq_true rfl⟩ ⟨Nat.le_of_ble_eq_true rfl, Nat.le_of_ble_eq_true rfl⟩ dX10_lookup_22 dX10_lookup_25 dX10_lookup_26 dX10_lookup_28 dX10_lookup_31
  · replace h := ps_in c14 h
    refine ps_iload_n hG dX10_lookup_17 rfl 3 rfl ?_
    refine ps_iconst (v := 2) hG dX10_lookup_18 (by decide) ?_
    refine ps_icmp_le (tgt := 32) hG dX10_lookup_19 (by decide) (fun c19 => ?_) (fun c19 => ?_)
    · replace h := ps_ip c19 h
      refine ps_aload_n hG dX10_lookup_32 rfl 0 rfl ?_
      refine ps_iload_n hG dX10_lookup_33 rfl 1 rfl ?_
      obtain ⟨⟨q34, hr34⟩, h34⟩ := ps_dx h
      replace h34 := h34 q34 hr34
      refine ps_xcallVV (As := [.int p1]) (rest := []) (nA := 1) hX (c_X10_needOnline _ hX.2.2.2.1 hw hr34) gX10_lookup_X10_needOnline rfl (by decide +kernel) rfl ⟨Nat.le_of_ble_eq_true rfl, Nat.le_of_ble_eq_true rfl⟩ ⟨rfl, rfl⟩ ⟨Nat.le_of_ble_eq_true rfl, Nat.le_of_ble_eq_true rfl⟩ ⟨Nat.le_of_ble_eq_true rfl, Nat.le_of_ble_eq_true rfl⟩ (ps_lt hw ps_q0.2.2.1) (ps_cel_19 ps_q0.1 _) rfl rfl (Nat.le_of_ble_eq_true rfl) dX10_lookup_34 (fun e he => hthr e (h34.1 e he)) (fun hz => ?_)
      replace h := h34.2 _ hz
      refine ps_aload_n hG dX10_lookup_37 rfl 0 rfl ?_
      refine ps_get19_1 hG hw inX10_lookup_X10 ps_q0.1 (ps_lt hw ps_q0.2.2.1) mX10_lookup_24 dX10_lookup_38 ?_
      refine ps_iload_n hG dX10_lookup_41 rfl 1 rfl ?_
      refine ps_iload_n hG dX10_lookup_42 rfl 2 rfl ?_
      refine ps_iload_n hG dX10_lookup_43 rfl 3 rfl ?_
      obtain ⟨S44, hr44, h⟩ := ps_bd h
      refine ps_callVV (As := [.int p1, .int p2, .int p3]) (rest := []) (nA := 3) hG (c_X7_run _ hw hr44) gX10_lookup_X7_run rfl (by decide +kernel) rfl ⟨Nat.le_of_ble_eq_true rfl, Nat.le_of_ble_eq_true rfl⟩ ⟨rfl, rfl⟩ ⟨Nat.le_of_ble_eq_true rfl, Nat.le_of_ble_eq_true rfl⟩ (ps_lt hw ps_q22.2.2.1) (ps_cel_16 ps_q22.1 _) rfl rfl (Nat.le_of_ble_eq_true rfl) dX10_lookup_44 ?_
      refine ps_aload_n hG dX10_lookup_47 rfl 0 rfl ?_
      refine ps_get19_1 hG hw inX10_lookup_X10 ps_q0.1 (ps_lt hw ps_q0.2.2.1) mX10_lookup_24 dX10_lookup_48 ?_
      refine ps_callVR (As := []) (rest := []) (nA := 0) hG (c_X7_result _ hw) gX10_lookup_X7_result rfl (by decide +kernel) rfl ⟨Nat.le_of_ble_eq_true rfl, Nat.le_of_ble_eq_true rfl⟩ ⟨rfl, rfl⟩ ⟨Nat.le_of_ble_eq_true rfl, Nat.le_of_ble_eq_true rfl⟩ (ps_lt hw ps_q22.2.2.1) (ps_cel_16 ps_q22.1 _) rfl rfl (Nat.le_of_ble_eq_true rfl) dX10_lookup_51 ?_
      obtain ⟨r54, hr54, h⟩ := ps_bd h
      refine ps_callVI (As := []) (rest := []) (nA := 0) hG (c_X6_digits _ hw ps_isR_29 hr54) gX10_lookup_X6_digits rfl (by decide +kernel) rfl ⟨Nat.le_of_ble_eq_true rfl, Nat.le_of_ble_eq_true rfl⟩ ⟨rfl, rfl⟩ ⟨Nat.le_of_ble_eq_true rfl, Nat.le_of_ble_eq_true rfl⟩ (ps_lt hw ps_q29.2.2.1) (ps_cel_15 ps_q29.1 _) rfl rfl (Nat.le_of_ble_eq_true rfl) dX10_lookup_54 ?_
      cases h
      exact hret _ _ rfl _ _ _ _ (Nat.le_of_ble_eq_true rfl) (Nat.le_of_ble_eq_true rfl) dX10_lookup_57
    · replace h := ps_in c19 h
      cases h
      exact ps_throw (cls := "java/lang/IllegalArgumentException") (tx := "one way or two") (rest := []) hX 0 rfl (hthr 0 rfl) mX10_lookup_k120 mX10_lookup_i120 (by decide) gX10_lookup_t124 ps_tn124 (by decide +kernel) ps_tg124 (Nat.le_of_ble_eq_true rfl) (Nat.le_of_ble_eq_true rfl) ⟨Nat.le_of_ble_eq_true rfl, Nat.le_of_ble_eq_true rfl⟩ ⟨Nat.le_of_ble_eq_true rfl, Nat.le_of_ble_eq_true rfl⟩ dX10_lookup_22 dX10_lookup_25 dX10_lookup_26 dX10_lookup_28 dX10_lookup_31
def f_X10_asked (S : ps_S) : Option Int32 :=
  ((f_X7_askedCount S).bind fun r4 =>
  some r4)
theorem inX10_asked_X10 : ∀ q ∈ wsX100, q ∈ wsX10_asked := fun _ h => List.mem_cons_of_mem _ (List.mem_append_left _ (List.mem_append_right _ h))
theorem mX10_asked_24 : Cond.fieldLink RX10 24 (TX10 1).1 (TX10 1).2.1 (TX10 1).2.2.1 ∈ wsX10_asked := List.mem_of_getElem? (i := 1) rfl
set_option maxHeartbeats 4000000 in
set_option maxRecDepth 100000 in
theorem c_X10_asked (l : Launch) {w : ps_X} (hw : ps_ww w) {S : ps_S} {r : Int32} (h : f_X10_asked S = some r) : ps_MetI l yX10_asked wsX10_asked (ps_rm 1 20) w [.ref (w.2.1 0)] S S r := by
  refine ps_mkI (cc := cX10_asked) (maxL := 1) (own := RX10) (by decide +kernel) rfl (Or.inl rfl) rfl (Nat.le_of_ble_eq_true rfl) rfl (fun G hl hG hret => ?_)
  unfold f_X10_asked at h
  refine ps_aload_n hG dX10_asked_0 rfl 0 rfl ?_
  refine ps_get19_1 hG hw inX10_asked_X10 ps_q0.1 (ps_lt hw ps_q0.2.2.1) mX10_asked_24 dX10_asked_1 ?_
  obtain ⟨r4, hr4, h⟩ := ps_bd h
  refine ps_callVI (As := []) (rest := []) (nA := 0) hG (c_X7_askedCount _ hw hr4) gX10_asked_X7_askedCount rfl (by decide +kernel) rfl ⟨Nat.le_of_ble_eq_true rfl, Nat.le_of_ble_eq_true rfl⟩ ⟨rfl, rfl⟩ ⟨Nat.le_of_ble_eq_true rfl, Nat.le_of_ble_eq_true rfl⟩ (ps_lt hw ps_q22.2.2.1) (ps_cel_16 ps_q22.1 _) rfl rfl (Nat.le_of_ble_eq_true rfl) dX10_asked_4 ?_
  cases h
  exact hret _ _ dX10_asked_7
def f_X10_closest_J60 (v3_21 : Int32) (T60 : ps_S) : Option ((ps_S × Int32) ⊕ (ps_S)) :=
  some (.inl (T60, v3_21 + 1))
def f_X10_closest_L21 (p1 : Int32) (p2 : Int32) (T21 : ps_S) (v3_21 : Int32) : Option ((ps_S × Int32) ⊕ (ps_S)) :=
  (if 16 ≤ v3_21 then
        some (.inr T21)
      else
        (if v3_21 = p1 then
          f_X10_closest_J60 v3_21 T21
        else
          ((f_X5_answers T21 v3_21).bind fun r37 =>
          (if r37 = 0 then
            f_X10_closest_J60 v3_21 T21
          else
            ((f_X5_distance T21 v3_21 p2).bind fun r54 =>
            ((f_X6_add T21 54 v3_21 r54).bind fun S57 =>
            f_X10_closest_J60 v3_21 S57))))))
def f_X10_closest (S : ps_S) (p1 : Int32) (p2 : Int32) : Option (Nat ⊕ (Int32 × ps_S)) :=
  (ps_bx (f_X10_needPeer S p1) fun _ =>
  (ps_bx (f_X10_needBelow p2 256) fun _ =>
  ((f_X6_clear S 54).bind fun S16 =>
  ((ps_it (fun (a : ps_S × Int32) => f_X10_closest_L21 p1 p2 a.1 a.2) ps_fu (S16, 0)).bind (fun S21 => ((f_X6_digits S21 54).bind fun r70 =>
  some (.inr (r70, S21))))))))
theorem inX10_closest_X10 : ∀ q ∈ wsX100, q ∈ wsX10_closest := fun _ h => List.mem_cons_of_mem _ (List.mem_append_left _ (List.mem_append_left _ (List.mem_append_left _ (List.mem_append_left _ (List.mem_append_right _ h)))))
theorem mX10_closest_20 : Cond.fieldLink RX10 20 (TX10 0).1 (TX10 0).2.1 (TX10 0).2.2.1 ∈ wsX10_closest := List.mem_of_getElem? (i := 2) rfl
theorem mX10_closest_35 : Cond.fieldLink RX10 35 (TX10 2).1 (TX10 2).2.1 (TX10 2).2.2.1 ∈ wsX10_closest := List.mem_of_getElem? (i := 1) rfl
set_option maxHeartbeats 4000000 in
set_option maxRecDepth 100000 in
theorem c_X10_closest (l : Launch) (hflags : l.stackTraces = false) {w : ps_X} (hw : ps_ww w) {S : ps_S} {p1 p2 : Int32} {z : (Nat ⊕ (Int32 × ps_S))} (h : f_X10_closest S p1 p2 = some z) : ps_MXI l yX10_closest wsX10_closest (ps_rx 7 2 12 111) w [.ref (w.2.1 0), .int p1, .int p2] S z 2 12 := by
  refine ps_mkXI hflags (cc := cX10_closest) (maxL := 4) (own := RX10) (by decide +kernel) rfl rfl rfl (Nat.le_of_ble_eq_true rfl) rfl (fun G XC hl hX hthr hret => ?_)
  have hG := hX.1
  unfold f_X10_closest at h
  refine ps_aload_n hG dX10_closest_0 rfl 0 rfl ?_
  refine ps_iload_n hG dX10_closest_1 rfl 1 rfl ?_
  obtain ⟨⟨q2, hr2⟩, h2⟩ := ps_dx h
  replace h2 := h2 q2 hr2
  refine ps_xcallVV (As := [.int p1]) (rest := []) (nA := 1) hX (c_X10_needPeer _ hX.2.2.2.1 hw hr2) gX10_closest_X10_needPeer rfl (by decide +kernel) rfl ⟨Nat.le_of_ble_eq_true rfl, Nat.le_of_ble_eq_true rfl⟩ ⟨rfl, rfl⟩ ⟨Nat.le_of_ble_eq_true rfl, Nat.le_of_ble_eq_true rfl⟩ ⟨Nat.le_of_ble_eq_true rfl, Nat.le_of_ble_eq_true rfl⟩ (ps_lt hw ps_q0.2.2.1) (ps_cel_19 ps_q0.1 _) rfl rfl (Nat.le_of_ble_eq_true rfl) dX10_closest_2 (fun e he => hthr e (h2.1 e he)) (fun hz => ?_)
  replace h := h2.2 _ hz
  refine ps_iload_n hG dX10_closest_5 rfl 2 rfl ?_
  refine ps_sipush (v := 256) hG dX10_closest_6 (by decide) ?_
  obtain ⟨⟨q9, hr9⟩, h9⟩ := ps_dx h
  replace h9 := h9 q9 hr9
  refine ps_xcallSV (As := [.int p2, .int 256]) (rest := []) (nA := 2) hX (c_X10_needBelow _ hX.2.2.2.1 hw hr9) gX10_closest_X10_needBelow rfl (by decide +kernel) rfl ⟨Nat.le_of_ble_eq_true rfl, Nat.le_of_ble_eq_true rfl⟩ ⟨rfl, rfl⟩ ⟨Nat.le_of_ble_eq_true rfl, Nat.le_of_ble_eq_true rfl⟩ ⟨Nat.le_of_ble_eq_true rfl, Nat.le_of_ble_eq_true rfl⟩ rfl (Nat.le_of_ble_eq_true rfl) dX10_closest_9 (fun e he => hthr e (h9.1 e he)) (fun hz => ?_)
  replace h := h9.2 _ hz
  refine ps_aload_n hG dX10_closest_12 rfl 0 rfl ?_
  refine ps_get19_2 hG hw inX10_closest_X10 ps_q0.1 (ps_lt hw ps_q0.2.2.1) mX10_closest_35 dX10_closest_13 ?_
  obtain ⟨S16, hr16, h⟩ := ps_bd h
  refine ps_callVV (As := []) (rest := []) (nA := 0) hG (c_X6_clear _ hw ps_isR_54 hr16) gX10_closest_X6_clear rfl (by decide +kernel) rfl ⟨Nat.le_of_ble_eq_true rfl, Nat.le_of_ble_eq_true rfl⟩ ⟨rfl, rfl⟩ ⟨Nat.le_of_ble_eq_true rfl, Nat.le_of_ble_eq_true rfl⟩ (ps_lt hw ps_q54.2.2.1) (ps_cel_15 ps_q54.1 _) rfl rfl (Nat.le_of_ble_eq_true rfl) dX10_closest_16 ?_
  refine ps_iconst (v := 0) hG dX10_closest_19 (by decide) ?_
  refine ps_istore_n (lv' := [(3, .int 0), (0, .ref (w.2.1 0)), (1, .int p1), (2, .int p2)]) hG dX10_closest_20 rfl (by decide) rfl ?_
  obtain ⟨S21, hq21, h⟩ := ps_bd h
  refine ps_widen (Nat.le_of_ble_eq_true rfl) (Nat.le_of_ble_eq_true rfl) (ps_sub [1, 2, 3, 0] rfl (ps_itV (fun (a : ps_S × Int32) => ps_V G 4 2 12 w a.1 21 [(0, .ref (w.2.1 0)), (1, .int p1), (2, .int p2), (3, .int a.2)] []) (fun (b : ps_S) => ps_V G 4 2 12 w b 66 [(0, .ref (w.2.1 0))] []) ?_ _ _ _ hq21 ?_))
  · intro a r9 h kc ke
    obtain ⟨T21, v3_21⟩ := a
    replace h : f_X10_closest_L21 p1 p2 T21 v3_21 = some r9 := h
    show ps_V G 4 2 12 w T21 21 [(0, .ref (w.2.1 0)), (1, .int p1), (2, .int p2), (3, .int v3_21)] []
    unfold f_X10_closest_L21 at h
    refine ps_iload_n hG dX10_closest_21 rfl 3 rfl ?_
    refine ps_bipush (v := 16) hG dX10_closest_22 (by decide) ?_
    refine ps_icmp_ge (tgt := 66) hG dX10_closest_24 (by decide) (fun c24 => ?_) (fun c24 => ?_)
    · replace h := ps_ip c24 h
      cases h
      exact ps_widen (Nat.le_of_ble_eq_true rfl) (Nat.le_of_ble_eq_true rfl) (ps_sub [0] rfl (ke _ rfl))
    · replace h := ps_in c24 h
      refine ps_iload_n hG dX10_closest_27 rfl 3 rfl ?_
      refine ps_iload_n hG dX10_closest_28 rfl 1 rfl ?_
      have hJ60 : ∀ (T60 : ps_S), f_X10_closest_J60 v3_21 T60 = some r9 → ps_V G 4 2 12 w T60 60 [(0, .ref (w.2.1 0)), (1, .int p1), (2, .int p2), (3, .int v3_21)] [] := by
        intro T60 h
        unfold f_X10_closest_J60 at h
        refine ps_iinc (lv' := [(3, .int (v3_21 + 1)), (0, .ref (w.2.1 0)), (1, .int p1), (2, .int p2)]) hG dX10_closest_60 3 rfl (by rfl) (by decide) rfl ?_
        refine ps_goto (tgt := 21) hG dX10_closest_63 (by decide) ?_
        cases h
        exact ps_widen (Nat.le_of_ble_eq_true rfl) (Nat.le_of_ble_eq_true rfl) (ps_sub [1, 2, 3, 0] rfl (kc _ rfl))
      refine ps_icmp_eq (tgt := 60) hG dX10_closest_29 (by decide) (fun c29 => ?_) (fun c29 => ?_)
      · replace h := ps_ip c29 h
        exact ps_widen (Nat.le_of_ble_eq_true rfl) (Nat.le_of_ble_eq_true rfl) (ps_sub [0, 1, 2, 3] rfl (hJ60 T21 h))
      · replace h := ps_in c29 h
        refine ps_aload_n hG dX10_closest_32 rfl 0 rfl ?_
        refine ps_get19_0 hG hw inX10_closest_X10 ps_q0.1 (ps_lt hw ps_q0.2.2.1) mX10_closest_20 dX10_closest_33 ?_
        refine ps_iload_n hG dX10_closest_36 rfl 3 rfl ?_
        obtain ⟨r37, hr37, h⟩ := ps_bd h
        refine ps_callVI (As := [.int v3_21]) (rest := []) (nA := 1) hG (c_X5_answers _ hw hr37) gX10_closest_X5_answers rfl (by decide +kernel) rfl ⟨Nat.le_of_ble_eq_true rfl, Nat.le_of_ble_eq_true rfl⟩ ⟨rfl, rfl⟩ ⟨Nat.le_of_ble_eq_true rfl, Nat.le_of_ble_eq_true rfl⟩ (ps_lt hw ps_q1.2.2.1) (ps_cel_14 ps_q1.1 _) rfl rfl (Nat.le_of_ble_eq_true rfl) dX10_closest_37 ?_
        refine ps_if_eq (tgt := 60) hG dX10_closest_40 (by decide) (fun c40 => ?_) (fun c40 => ?_)
        · replace h := ps_ip c40 h
          exact ps_widen (Nat.le_of_ble_eq_true rfl) (Nat.le_of_ble_eq_true rfl) (ps_sub [0, 1, 2, 3] rfl (hJ60 T21 h))
        · replace h := ps_in c40 h
          refine ps_aload_n hG dX10_closest_43 rfl 0 rfl ?_
          refine ps_get19_2 hG hw inX10_closest_X10 ps_q0.1 (ps_lt hw ps_q0.2.2.1) mX10_closest_35 dX10_closest_44 ?_
          refine ps_iload_n hG dX10_closest_47 rfl 3 rfl ?_
          refine ps_aload_n hG dX10_closest_48 rfl 0 rfl ?_
          refine ps_get19_0 hG hw inX10_closest_X10 ps_q0.1 (ps_lt hw ps_q0.2.2.1) mX10_closest_20 dX10_closest_49 ?_
          refine ps_iload_n hG dX10_closest_52 rfl 3 rfl ?_
          refine ps_iload_n hG dX10_closest_53 rfl 2 rfl ?_
          obtain ⟨r54, hr54, h⟩ := ps_bd h
          refine ps_callVI (As := [.int v3_21, .int p2]) (rest := [.int v3_21, .ref (w.2.1 54)]) (nA := 2) hG (c_X5_distance _ hw hr54) gX10_closest_X5_distance rfl (by decide +kernel) rfl ⟨Nat.le_of_ble_eq_true rfl, Nat.le_of_ble_eq_true rfl⟩ ⟨rfl, rfl⟩ ⟨Nat.le_of_ble_eq_true rfl, Nat.le_of_ble_eq_true rfl⟩ (ps_lt hw ps_q1.2.2.1) (ps_cel_14 ps_q1.1 _) rfl rfl (Nat.le_of_ble_eq_true rfl) dX10_closest_54 ?_
          obtain ⟨S57, hr57, h⟩ := ps_bd h
          refine ps_callVV (As := [.int v3_21, .int r54]) (rest := []) (nA := 2) hG (c_X6_add _ hw ps_isR_54 hr57) gX10_closest_X6_add rfl (by decide +kernel) rfl ⟨Nat.le_of_ble_eq_true rfl, Nat.le_of_ble_eq_true rfl⟩ ⟨rfl, rfl⟩ ⟨Nat.le_of_ble_eq_true rfl, Nat.le_of_ble_eq_true rfl⟩ (ps_lt hw ps_q54.2.2.1) (ps_cel_15 ps_q54.1 _) rfl rfl (Nat.le_of_ble_eq_true rfl) dX10_closest_57 ?_
          exact ps_widen (Nat.le_of_ble_eq_true rfl) (Nat.le_of_ble_eq_true rfl) (ps_sub [0, 1, 2, 3] rfl (hJ60 S57 h))
  · show ps_V G 4 2 12 w S21 66 [(0, .ref (w.2.1 0))] []
    refine ps_aload_n hG dX10_closest_66 rfl 0 rfl ?_
    refine ps_get19_2 hG hw inX10_closest_X10 ps_q0.1 (ps_lt hw ps_q0.2.2.1) mX10_closest_35 dX10_closest_67 ?_
    obtain ⟨r70, hr70, h⟩ := ps_bd h
    refine ps_callVI (As := []) (rest := []) (nA := 0) hG (c_X6_digits _ hw ps_isR_54 hr70) gX10_closest_X6_digits rfl (by decide +kernel) rfl ⟨Nat.le_of_ble_eq_true rfl, Nat.le_of_ble_eq_true rfl⟩ ⟨rfl, rfl⟩ ⟨Nat.le_of_ble_eq_true rfl, Nat.le_of_ble_eq_true rfl⟩ (ps_lt hw ps_q54.2.2.1) (ps_cel_15 ps_q54.1 _) rfl rfl (Nat.le_of_ble_eq_true rfl) dX10_closest_70 ?_
    cases h
    exact hret _ _ rfl _ _ _ _ (Nat.le_of_ble_eq_true rfl) (Nat.le_of_ble_eq_true rfl) dX10_closest_73
def f_X10_piece (S : ps_S) (p1 : Int32) (p2 : Int32) (p3 : Int32) : Option (Nat ⊕ (Int32 × ps_S)) :=
  (ps_bx (f_X10_fileAt S p1) fun k2 =>
  (ps_bx (f_X10_needPiece p2) fun _ =>
  (if p3 = 0 then
    ((f_X8_value S k2 p2).bind fun r47 =>
    some (.inr (r47, S)))
  else
    (if p3 = 1 then
    ((f_X8_holder S k2 p2).bind fun r54 =>
    some (.inr (r54, S)))
  else
    (if p3 = 2 then
    ((f_X8_isKept S k2 p2).bind fun r61 =>
    (if r61 = 0 then
      some (.inr (0, S))
    else
      some (.inr (1, S))))
  else
    (if p3 = 3 then
    ((f_X8_missed S k2 p2).bind fun r76 =>
    some (.inr (r76, S)))
  else
    some (.inl 0)))))))
theorem mX10_piece_i120 : Cond.initialized "java/lang/IllegalArgumentException" ∈ wsX10_piece := List.mem_of_getElem? (i := 2) rfl
theorem mX10_piece_k120 : Cond.classLink RX10 120 "java/lang/IllegalArgumentException" ∈ wsX10_piece := List.mem_of_getElem? (i := 1) rfl
theorem gX10_piece_t124 : ∀ q ∈ (vx_atS RX10 124 "java/lang/IllegalArgumentException" ["java/lang/RuntimeException", "java/lang/Exception"]).filter goodWord, q ∈ wsX10_piece := fun _ h => List.mem_cons_of_mem _ (List.mem_append_left _ (List.mem_append_right _ h))
set_option maxHeartbeats 4000000 in
set_option maxRecDepth 100000 in
theorem c_X10_piece (l : Launch) (hflags : l.stackTraces = false) {w : ps_X} (hw : ps_ww w) {S : ps_S} {p1 p2 p3 : Int32} {z : (Nat ⊕ (Int32 × ps_S))} (h : f_X10_piece S p1 p2 p3 = some z) : ps_MXI l yX10_piece wsX10_piece (ps_rx 7 3 18 112) w [.ref (w.2.1 0), .int p1, .int p2, .int p3] S z 3 18 := by
  refine ps_mkXI hflags (cc := cX10_piece) (maxL := 5) (own := RX10) (by decide +kernel) rfl rfl rfl (Nat.le_of_ble_eq_true rfl) rfl (fun G XC hl hX hthr hret => ?_)
  have hG := hX.1
  unfold f_X10_piece at h
  refine ps_aload_n hG dX10_piece_0 rfl 0 rfl ?_
  refine ps_iload_n hG dX10_piece_1 rfl 1 rfl ?_
  obtain ⟨⟨q2, hr2⟩, h2⟩ := ps_dx h
  replace h2 := h2 q2 hr2
  refine ps_xcallVR (As := [.int p1]) (rest := []) (nA := 1) hX (c_X10_fileAt _ hX.2.2.2.1 hw hr2) gX10_piece_X10_fileAt rfl (by decide +kernel) rfl ⟨Nat.le_of_ble_eq_true rfl, Nat.le_of_ble_eq_true rfl⟩ ⟨rfl, rfl⟩ ⟨Nat.le_of_ble_eq_true rfl, Nat.le_of_ble_eq_true rfl⟩ ⟨Nat.le_of_ble_eq_true rfl, Nat.le_of_ble_eq_true rfl⟩ (ps_lt hw ps_q0.2.2.1) (ps_cel_19 ps_q0.1 _) rfl rfl (Nat.le_of_ble_eq_true rfl) dX10_piece_2 (fun e he => hthr e (h2.1 e he)) (fun k2 hz hF2 => ?_)
  replace h := h2.2 _ hz
  refine ps_astore (lv' := [(4, .ref (w.2.1 k2)), (0, .ref (w.2.1 0)), (1, .int p1), (2, .int p2), (3, .int p3)]) hG dX10_piece_5 (by decide) rfl ?_
  refine ps_iload_n hG dX10_piece_7 rfl 3 rfl ?_
  obtain ⟨⟨q8, hr8⟩, h8⟩ := ps_dx h
  replace h8 := h8 q8 hr8
  refine ps_xcallSV (As := [.int p2]) (rest := []) (nA := 1) hX (c_X10_needPiece _ hX.2.2.2.1 hw hr8) gX10_piece_X10_needPiece rfl (by decide +kernel) rfl ⟨Nat.le_of_ble_eq_true rfl, Nat.le_of_ble_eq_true rfl⟩ ⟨rfl, rfl⟩ ⟨Nat.le_of_ble_eq_true rfl, Nat.le_of_ble_eq_true rfl⟩ ⟨Nat.le_of_ble_eq_true rfl, Nat.le_of_ble_eq_true rfl⟩ rfl (Nat.le_of_ble_eq_true rfl) dX10_piece_8 (fun e he => hthr e (h8.1 e he)) (fun hz => ?_)
  replace h := h8.2 _ hz
  refine ps_iload_n hG dX10_piece_11 rfl 4 rfl ?_
  refine ps_tsw4 (t0 := 44) (t1 := 51) (t2 := 58) (t3 := 73) (td := 80) hG dX10_piece_12 (by decide) (by decide) (by decide) (by decide) (by decide) (fun c12 => ?_) (fun c12 => ?_) (fun c12 => ?_) (fun c12 => ?_) (fun c12_0 c12_1 c12_2 c12_3 => ?_)
  · skip
    replace h := ps_ip c12 h
    refine ps_aload hG dX10_piece_44 0 rfl ?_
    refine ps_iload_n hG dX10_piece_46 rfl 3 rfl ?_
    obtain ⟨r47, hr47, h⟩ := ps_bd h
    refine ps_callVI (As := [.int p2]) (rest := []) (nA := 1) hG (c_X8_value _ hw hF2 hr47) gX10_piece_X8_value rfl (by decide +kernel) rfl ⟨Nat.le_of_ble_eq_true rfl, Nat.le_of_ble_eq_true rfl⟩ ⟨rfl, rfl⟩ ⟨Nat.le_of_ble_eq_true rfl, Nat.le_of_ble_eq_true rfl⟩ (ps_isF_0 hF2).2.2.1 (ps_cel_17 (ps_isF_0 hF2).1 _) rfl rfl (Nat.le_of_ble_eq_true rfl) dX10_piece_47 ?_
    cases h
    exact hret _ _ rfl _ _ _ _ (Nat.le_of_ble_eq_true rfl) (Nat.le_of_ble_eq_true rfl) dX10_piece_50
  · skip
    replace h := ps_in (by rw [c12]; decide) h
    replace h := ps_ip c12 h
    refine ps_aload hG dX10_piece_51 0 rfl ?_
    refine ps_iload_n hG dX10_piece_53 rfl 3 rfl ?_
    obtain ⟨r54, hr54, h⟩ := ps_bd h
    refine ps_callVI (As := [.int p2]) (rest := []) (nA := 1) hG (c_X8_holder _ hw hF2 hr54) gX10_piece_X8_holder rfl (by decide +kernel) rfl ⟨Nat.le_of_ble_eq_true rfl, Nat.le_of_ble_eq_true rfl⟩ ⟨rfl, rfl⟩ ⟨Nat.le_of_ble_eq_true rfl, Nat.le_of_ble_eq_true rfl⟩ (ps_isF_0 hF2).2.2.1 (ps_cel_17 (ps_isF_0 hF2).1 _) rfl rfl (Nat.le_of_ble_eq_true rfl) dX10_piece_54 ?_
    cases h
    exact hret _ _ rfl _ _ _ _ (Nat.le_of_ble_eq_true rfl) (Nat.le_of_ble_eq_true rfl) dX10_piece_57
  · skip
    replace h := ps_in (by rw [c12]; decide) h
    replace h := ps_in (by rw [c12]; decide) h
    replace h := ps_ip c12 h
    refine ps_aload hG dX10_piece_58 0 rfl ?_
    refine ps_iload_n hG dX10_piece_60 rfl 3 rfl ?_
    obtain ⟨r61, hr61, h⟩ := ps_bd h
    refine ps_callVI (As := [.int p2]) (rest := []) (nA := 1) hG (c_X8_isKept _ hw hF2 hr61) gX10_piece_X8_isKept rfl (by decide +kernel) rfl ⟨Nat.le_of_ble_eq_true rfl, Nat.le_of_ble_eq_true rfl⟩ ⟨rfl, rfl⟩ ⟨Nat.le_of_ble_eq_true rfl, Nat.le_of_ble_eq_true rfl⟩ (ps_isF_0 hF2).2.2.1 (ps_cel_17 (ps_isF_0 hF2).1 _) rfl rfl (Nat.le_of_ble_eq_true rfl) dX10_piece_61 ?_
    refine ps_if_eq (tgt := 71) hG dX10_piece_64 (by decide) (fun c64 => ?_) (fun c64 => ?_)
    · replace h := ps_ip c64 h
      refine ps_iconst (v := 0) hG dX10_piece_71 (by decide) ?_
      cases h
      exact hret _ _ rfl _ _ _ _ (Nat.le_of_ble_eq_true rfl) (Nat.le_of_ble_eq_true rfl) dX10_piece_72
    · replace h := ps_in c64 h
      refine ps_iconst (v := 1) hG dX10_piece_67 (by decide) ?_
      refine ps_goto (tgt := 72) hG dX10_piece_68 (by decide) ?_
      cases h
      exact hret _ _ rfl _ _ _ _ (Nat.le_of_ble_eq_true rfl) (Nat.le_of_ble_eq_true rfl) dX10_piece_72
  · skip
    replace h := ps_in (by rw [c12]; decide) h
    replace h := ps_in (by rw [c12]; decide) h
    replace h := ps_in (by rw [c12]; decide) h
    replace h := ps_ip c12 h
    refine ps_aload hG dX10_piece_73 0 rfl ?_
    refine ps_iload_n hG dX10_piece_75 rfl 3 rfl ?_
    obtain ⟨r76, hr76, h⟩ := ps_bd h
    refine ps_callVI (As := [.int p2]) (rest := []) (nA := 1) hG (c_X8_missed _ hw hF2 hr76) gX10_piece_X8_missed rfl (by decide +kernel) rfl ⟨Nat.le_of_ble_eq_true rfl, Nat.le_of_ble_eq_true rfl⟩ ⟨rfl, rfl⟩ ⟨Nat.le_of_ble_eq_true rfl, Nat.le_of_ble_eq_true rfl⟩ (ps_isF_0 hF2).2.2.1 (ps_cel_17 (ps_isF_0 hF2).1 _) rfl rfl (Nat.le_of_ble_eq_true rfl) dX10_piece_76 ?_
    cases h
    exact hret _ _ rfl _ _ _ _ (Nat.le_of_ble_eq_true rfl) (Nat.le_of_ble_eq_true rfl) dX10_piece_79
  · skip
    replace h := ps_in c12_0 h
    replace h := ps_in c12_1 h
    replace h := ps_in c12_2 h
    replace h := ps_in c12_3 h
    cases h
    exact ps_throw (cls := "java/lang/IllegalArgumentException") (tx := "what is 0 to 3") (rest := []) hX 0 rfl (hthr 0 rfl) mX10_piece_k120 mX10_piece_i120 (by decide) gX10_piece_t124 ps_tn124 (by decide +kernel) ps_tg124 (Nat.le_of_ble_eq_true rfl) (Nat.le_of_ble_eq_true rfl) ⟨Nat.le_of_ble_eq_true rfl, Nat.le_of_ble_eq_true rfl⟩ ⟨Nat.le_of_ble_eq_true rfl, Nat.le_of_ble_eq_true rfl⟩ dX10_piece_80 dX10_piece_83 dX10_piece_84 dX10_piece_86 dX10_piece_89
def f_X10_spoil (S : ps_S) (p1 : Int32) (p2 : Int32) : Option (Nat ⊕ (Int32 × ps_S)) :=
  (ps_bx (f_X10_fileAt S p1) fun k2 =>
  (ps_bx (f_X10_needPiece p2) fun _ =>
  ((f_X8_isHeld S k2 p2).bind fun r12 =>
  (if r12 = 0 then
    some (.inl 2)
  else
    ((f_X8_isKept S k2 p2).bind fun r30 =>
    ((f_X8_throwAway S k2 p2).bind fun S37 =>
    (if r30 = 0 ∨ r30 = 1 then some (.inr (r30, S37)) else none)))))))
theorem mX10_spoil_i84 : Cond.initialized "java/lang/IllegalStateException" ∈ wsX10_spoil := List.mem_of_getElem? (i := 2) rfl
theorem mX10_spoil_k84 : Cond.classLink RX10 84 "java/lang/IllegalStateException" ∈ wsX10_spoil := List.mem_of_getElem? (i := 1) rfl
theorem gX10_spoil_t88 : ∀ q ∈ (vx_atS RX10 88 "java/lang/IllegalStateException" ["java/lang/RuntimeException", "java/lang/Exception"]).filter goodWord, q ∈ wsX10_spoil := fun _ h => List.mem_cons_of_mem _ (List.mem_append_left _ (List.mem_append_right _ h))
set_option maxHeartbeats 4000000 in
set_option maxRecDepth 100000 in
theorem c_X10_spoil (l : Launch) (hflags : l.stackTraces = false) {w : ps_X} (hw : ps_ww w) {S : ps_S} {p1 p2 : Int32} {z : (Nat ⊕ (Int32 × ps_S))} (h : f_X10_spoil S p1 p2 = some z) : ps_MXI l yX10_spoil wsX10_spoil (ps_rx 7 3 18 112) w [.ref (w.2.1 0), .int p1, .int p2] S z 3 18 := by
  refine ps_mkXZ hflags (cc := cX10_spoil) (maxL := 5) (own := RX10) (by decide +kernel) rfl rfl rfl (Nat.le_of_ble_eq_true rfl) rfl (fun G XC hl hX hthr hret => ?_)
  have hG := hX.1
  unfold f_X10_spoil at h
  refine ps_aload_n hG dX10_spoil_0 rfl 0 rfl ?_
  refine ps_iload_n hG dX10_spoil_1 rfl 1 rfl ?_
  obtain ⟨⟨q2, hr2⟩, h2⟩ := ps_dx h
  replace h2 := h2 q2 hr2
  refine ps_xcallVR (As := [.int p1]) (rest := []) (nA := 1) hX (c_X10_fileAt _ hX.2.2.2.1 hw hr2) gX10_spoil_X10_fileAt rfl (by decide +kernel) rfl ⟨Nat.le_of_ble_eq_true rfl, Nat.le_of_ble_eq_true rfl⟩ ⟨rfl, rfl⟩ ⟨Nat.le_of_ble_eq_true rfl, Nat.le_of_ble_eq_true rfl⟩ ⟨Nat.le_of_ble_eq_true rfl, Nat.le_of_ble_eq_true rfl⟩ (ps_lt hw ps_q0.2.2.1) (ps_cel_19 ps_q0.1 _) rfl rfl (Nat.le_of_ble_eq_true rfl) dX10_spoil_2 (fun e he => hthr e (h2.1 e he)) (fun k2 hz hF2 => ?_)
  replace h := h2.2 _ hz
  refine ps_astore_n (lv' := [(3, .ref (w.2.1 k2)), (0, .ref (w.2.1 0)), (1, .int p1), (2, .int p2)]) hG dX10_spoil_5 rfl (by decide) rfl ?_
  refine ps_iload_n hG dX10_spoil_6 rfl 3 rfl ?_
  obtain ⟨⟨q7, hr7⟩, h7⟩ := ps_dx h
  replace h7 := h7 q7 hr7
  refine ps_xcallSV (As := [.int p2]) (rest := []) (nA := 1) hX (c_X10_needPiece _ hX.2.2.2.1 hw hr7) gX10_spoil_X10_needPiece rfl (by decide +kernel) rfl ⟨Nat.le_of_ble_eq_true rfl, Nat.le_of_ble_eq_true rfl⟩ ⟨rfl, rfl⟩ ⟨Nat.le_of_ble_eq_true rfl, Nat.le_of_ble_eq_true rfl⟩ ⟨Nat.le_of_ble_eq_true rfl, Nat.le_of_ble_eq_true rfl⟩ rfl (Nat.le_of_ble_eq_true rfl) dX10_spoil_7 (fun e he => hthr e (h7.1 e he)) (fun hz => ?_)
  replace h := h7.2 _ hz
  refine ps_aload_n hG dX10_spoil_10 rfl 0 rfl ?_
  refine ps_iload_n hG dX10_spoil_11 rfl 3 rfl ?_
  obtain ⟨r12, hr12, h⟩ := ps_bd h
  refine ps_callVI (As := [.int p2]) (rest := []) (nA := 1) hG (c_X8_isHeld _ hw hF2 hr12) gX10_spoil_X8_isHeld rfl (by decide +kernel) rfl ⟨Nat.le_of_ble_eq_true rfl, Nat.le_of_ble_eq_true rfl⟩ ⟨rfl, rfl⟩ ⟨Nat.le_of_ble_eq_true rfl, Nat.le_of_ble_eq_true rfl⟩ (ps_isF_0 hF2).2.2.1 (ps_cel_17 (ps_isF_0 hF2).1 _) rfl rfl (Nat.le_of_ble_eq_true rfl) dX10_spoil_12 ?_
  refine ps_if_ne (tgt := 28) hG dX10_spoil_15 (by decide) (fun c15 => ?_) (fun c15 => ?_)
  · replace h := ps_in c15 h
    refine ps_aload_n hG dX10_spoil_28 rfl 0 rfl ?_
    refine ps_iload_n hG dX10_spoil_29 rfl 3 rfl ?_
    obtain ⟨r30, hr30, h⟩ := ps_bd h
    refine ps_callVI (As := [.int p2]) (rest := []) (nA := 1) hG (c_X8_isKept _ hw hF2 hr30) gX10_spoil_X8_isKept rfl (by decide +kernel) rfl ⟨Nat.le_of_ble_eq_true rfl, Nat.le_of_ble_eq_true rfl⟩ ⟨rfl, rfl⟩ ⟨Nat.le_of_ble_eq_true rfl, Nat.le_of_ble_eq_true rfl⟩ (ps_isF_0 hF2).2.2.1 (ps_cel_17 (ps_isF_0 hF2).1 _) rfl rfl (Nat.le_of_ble_eq_true rfl) dX10_spoil_30 ?_
    refine ps_istore (lv' := [(4, .int r30), (3, .ref (w.2.1 k2)), (0, .ref (w.2.1 0)), (1, .int p1), (2, .int p2)]) hG dX10_spoil_33 (by decide) rfl ?_
    refine ps_aload_n hG dX10_spoil_35 rfl 1 rfl ?_
    refine ps_iload_n hG dX10_spoil_36 rfl 4 rfl ?_
    obtain ⟨S37, hr37, h⟩ := ps_bd h
    refine ps_callVV (As := [.int p2]) (rest := []) (nA := 1) hG (c_X8_throwAway _ hw hF2 hr37) gX10_spoil_X8_throwAway rfl (by decide +kernel) rfl ⟨Nat.le_of_ble_eq_true rfl, Nat.le_of_ble_eq_true rfl⟩ ⟨rfl, rfl⟩ ⟨Nat.le_of_ble_eq_true rfl, Nat.le_of_ble_eq_true rfl⟩ (ps_isF_0 hF2).2.2.1 (ps_cel_17 (ps_isF_0 hF2).1 _) rfl rfl (Nat.le_of_ble_eq_true rfl) dX10_spoil_37 ?_
    refine ps_iload hG dX10_spoil_40 0 rfl ?_
    obtain ⟨hz42, h⟩ := ps_ig h
    cases h
    exact hret _ _ rfl _ _ _ _ (Nat.le_of_ble_eq_true rfl) (Nat.le_of_ble_eq_true rfl) dX10_spoil_42 (ps_z01 hz42)
  · replace h := ps_ip c15 h
    cases h
    exact ps_throw (cls := "java/lang/IllegalStateException") (tx := "nobody holds this piece") (rest := []) hX 2 rfl (hthr 2 rfl) mX10_spoil_k84 mX10_spoil_i84 (by decide) gX10_spoil_t88 ps_tn88 (by decide +kernel) ps_tg88 (Nat.le_of_ble_eq_true rfl) (Nat.le_of_ble_eq_true rfl) ⟨Nat.le_of_ble_eq_true rfl, Nat.le_of_ble_eq_true rfl⟩ ⟨Nat.le_of_ble_eq_true rfl, Nat.le_of_ble_eq_true rfl⟩ dX10_spoil_18 dX10_spoil_21 dX10_spoil_22 dX10_spoil_24 dX10_spoil_27
def f_X10_root (S : ps_S) (p1 : Int32) : Option (Nat ⊕ (Int32 × ps_S)) :=
  (ps_bx (f_X10_fileAt S p1) fun k2 =>
  ((f_X9_top S (k2 + 5)).bind fun r8 =>
  some (.inr (r8, S))))
set_option maxHeartbeats 4000000 in
set_option maxRecDepth 100000 in
theorem c_X10_root (l : Launch) (hflags : l.stackTraces = false) {w : ps_X} (hw : ps_ww w) {S : ps_S} {p1 : Int32} {z : (Nat ⊕ (Int32 × ps_S))} (h : f_X10_root S p1 = some z) : ps_MXI l yX10_root wsX10_root (ps_rx 7 1 6 112) w [.ref (w.2.1 0), .int p1] S z 1 6 := by
  refine ps_mkXI hflags (cc := cX10_root) (maxL := 2) (own := RX10) (by decide +kernel) rfl rfl rfl (Nat.le_of_ble_eq_true rfl) rfl (fun G XC hl hX hthr hret => ?_)
  have hG := hX.1
  unfold f_X10_root at h
  refine ps_aload_n hG dX10_root_0 rfl 0 rfl ?_
  refine ps_iload_n hG dX10_root_1 rfl 1 rfl ?_
  obtain ⟨⟨q2, hr2⟩, h2⟩ := ps_dx h
  replace h2 := h2 q2 hr2
  refine ps_xcallVR (As := [.int p1]) (rest := []) (nA := 1) hX (c_X10_fileAt _ hX.2.2.2.1 hw hr2) gX10_root_X10_fileAt rfl (by decide +kernel) rfl ⟨Nat.le_of_ble_eq_true rfl, Nat.le_of_ble_eq_true rfl⟩ ⟨rfl, rfl⟩ ⟨Nat.le_of_ble_eq_true rfl, Nat.le_of_ble_eq_true rfl⟩ ⟨Nat.le_of_ble_eq_true rfl, Nat.le_of_ble_eq_true rfl⟩ (ps_lt hw ps_q0.2.2.1) (ps_cel_19 ps_q0.1 _) rfl rfl (Nat.le_of_ble_eq_true rfl) dX10_root_2 (fun e he => hthr e (h2.1 e he)) (fun k2 hz hF2 => ?_)
  replace h := h2.2 _ hz
  refine ps_callVR (As := []) (rest := []) (nA := 0) hG (c_X8_tree _ hw hF2) gX10_root_X8_tree rfl (by decide +kernel) rfl ⟨Nat.le_of_ble_eq_true rfl, Nat.le_of_ble_eq_true rfl⟩ ⟨rfl, rfl⟩ ⟨Nat.le_of_ble_eq_true rfl, Nat.le_of_ble_eq_true rfl⟩ (ps_isF_0 hF2).2.2.1 (ps_cel_17 (ps_isF_0 hF2).1 _) rfl rfl (Nat.le_of_ble_eq_true rfl) dX10_root_5 ?_
  obtain ⟨r8, hr8, h⟩ := ps_bd h
  refine ps_callVI (As := []) (rest := []) (nA := 0) hG (c_X9_top _ hw (ps_isF_5 hF2) hr8) gX10_root_X9_top rfl (by decide +kernel) rfl ⟨Nat.le_of_ble_eq_true rfl, Nat.le_of_ble_eq_true rfl⟩ ⟨rfl, rfl⟩ ⟨Nat.le_of_ble_eq_true rfl, Nat.le_of_ble_eq_true rfl⟩ (ps_isT_0 (ps_isF_5 hF2)).2.2.1 (ps_cel_18 (ps_isT_0 (ps_isF_5 hF2)).1 _) rfl rfl (Nat.le_of_ble_eq_true rfl) dX10_root_8 ?_
  cases h
  exact hret _ _ rfl _ _ _ _ (Nat.le_of_ble_eq_true rfl) (Nat.le_of_ble_eq_true rfl) dX10_root_11
def f_X10_proof (S : ps_S) (p1 : Int32) (p2 : Int32) (p3 : Int32) : Option (Nat ⊕ (Int32 × ps_S)) :=
  (ps_bx (f_X10_fileAt S p1) fun k2 =>
  (ps_bx (f_X10_needPiece p2) fun _ =>
  (ps_bx (f_X10_needBelow p3 3) fun _ =>
  ((f_X9_neighbour S (k2 + 5) p2 p3).bind fun r23 =>
  some (.inr (r23, S))))))
set_option maxHeartbeats 4000000 in
set_option maxRecDepth 100000 in
theorem c_X10_proof (l : Launch) (hflags : l.stackTraces = false) {w : ps_X} (hw : ps_ww w) {S : ps_S} {p1 p2 p3 : Int32} {z : (Nat ⊕ (Int32 × ps_S))} (h : f_X10_proof S p1 p2 p3 = some z) : ps_MXI l yX10_proof wsX10_proof (ps_rx 7 3 18 112) w [.ref (w.2.1 0), .int p1, .int p2, .int p3] S z 3 18 := by
  refine ps_mkXI hflags (cc := cX10_proof) (maxL := 5) (own := RX10) (by decide +kernel) rfl rfl rfl (Nat.le_of_ble_eq_true rfl) rfl (fun G XC hl hX hthr hret => ?_)
  have hG := hX.1
  unfold f_X10_proof at h
  refine ps_aload_n hG dX10_proof_0 rfl 0 rfl ?_
  refine ps_iload_n hG dX10_proof_1 rfl 1 rfl ?_
  obtain ⟨⟨q2, hr2⟩, h2⟩ := ps_dx h
  replace h2 := h2 q2 hr2
  refine ps_xcallVR (As := [.int p1]) (rest := []) (nA := 1) hX (c_X10_fileAt _ hX.2.2.2.1 hw hr2) gX10_proof_X10_fileAt rfl (by decide +kernel) rfl ⟨Nat.le_of_ble_eq_true rfl, Nat.le_of_ble_eq_true rfl⟩ ⟨rfl, rfl⟩ ⟨Nat.le_of_ble_eq_true rfl, Nat.le_of_ble_eq_true rfl⟩ ⟨Nat.le_of_ble_eq_true rfl, Nat.le_of_ble_eq_true rfl⟩ (ps_lt hw ps_q0.2.2.1) (ps_cel_19 ps_q0.1 _) rfl rfl (Nat.le_of_ble_eq_true rfl) dX10_proof_2 (fun e he => hthr e (h2.1 e he)) (fun k2 hz hF2 => ?_)
  replace h := h2.2 _ hz
  refine ps_astore (lv' := [(4, .ref (w.2.1 k2)), (0, .ref (w.2.1 0)), (1, .int p1), (2, .int p2), (3, .int p3)]) hG dX10_proof_5 (by decide) rfl ?_
  refine ps_iload_n hG dX10_proof_7 rfl 3 rfl ?_
  obtain ⟨⟨q8, hr8⟩, h8⟩ := ps_dx h
  replace h8 := h8 q8 hr8
  refine ps_xcallSV (As := [.int p2]) (rest := []) (nA := 1) hX (c_X10_needPiece _ hX.2.2.2.1 hw hr8) gX10_proof_X10_needPiece rfl (by decide +kernel) rfl ⟨Nat.le_of_ble_eq_true rfl, Nat.le_of_ble_eq_true rfl⟩ ⟨rfl, rfl⟩ ⟨Nat.le_of_ble_eq_true rfl, Nat.le_of_ble_eq_true rfl⟩ ⟨Nat.le_of_ble_eq_true rfl, Nat.le_of_ble_eq_true rfl⟩ rfl (Nat.le_of_ble_eq_true rfl) dX10_proof_8 (fun e he => hthr e (h8.1 e he)) (fun hz => ?_)
  replace h := h8.2 _ hz
  refine ps_iload_n hG dX10_proof_11 rfl 4 rfl ?_
  refine ps_iconst (v := 3) hG dX10_proof_12 (by decide) ?_
  obtain ⟨⟨q13, hr13⟩, h13⟩ := ps_dx h
  replace h13 := h13 q13 hr13
  refine ps_xcallSV (As := [.int p3, .int 3]) (rest := []) (nA := 2) hX (c_X10_needBelow _ hX.2.2.2.1 hw hr13) gX10_proof_X10_needBelow rfl (by decide +kernel) rfl ⟨Nat.le_of_ble_eq_true rfl, Nat.le_of_ble_eq_true rfl⟩ ⟨rfl, rfl⟩ ⟨Nat.le_of_ble_eq_true rfl, Nat.le_of_ble_eq_true rfl⟩ ⟨Nat.le_of_ble_eq_true rfl, Nat.le_of_ble_eq_true rfl⟩ rfl (Nat.le_of_ble_eq_true rfl) dX10_proof_13 (fun e he => hthr e (h13.1 e he)) (fun hz => ?_)
  replace h := h13.2 _ hz
  refine ps_aload hG dX10_proof_16 0 rfl ?_
  refine ps_callVR (As := []) (rest := []) (nA := 0) hG (c_X8_tree _ hw hF2) gX10_proof_X8_tree rfl (by decide +kernel) rfl ⟨Nat.le_of_ble_eq_true rfl, Nat.le_of_ble_eq_true rfl⟩ ⟨rfl, rfl⟩ ⟨Nat.le_of_ble_eq_true rfl, Nat.le_of_ble_eq_true rfl⟩ (ps_isF_0 hF2).2.2.1 (ps_cel_17 (ps_isF_0 hF2).1 _) rfl rfl (Nat.le_of_ble_eq_true rfl) dX10_proof_18 ?_
  refine ps_iload_n hG dX10_proof_21 rfl 3 rfl ?_
  refine ps_iload_n hG dX10_proof_22 rfl 4 rfl ?_
  obtain ⟨r23, hr23, h⟩ := ps_bd h
  refine ps_callVI (As := [.int p2, .int p3]) (rest := []) (nA := 2) hG (c_X9_neighbour _ hw (ps_isF_5 hF2) hr23) gX10_proof_X9_neighbour rfl (by decide +kernel) rfl ⟨Nat.le_of_ble_eq_true rfl, Nat.le_of_ble_eq_true rfl⟩ ⟨rfl, rfl⟩ ⟨Nat.le_of_ble_eq_true rfl, Nat.le_of_ble_eq_true rfl⟩ (ps_isT_0 (ps_isF_5 hF2)).2.2.1 (ps_cel_18 (ps_isT_0 (ps_isF_5 hF2)).1 _) rfl rfl (Nat.le_of_ble_eq_true rfl) dX10_proof_23 ?_
  cases h
  exact hret _ _ rfl _ _ _ _ (Nat.le_of_ble_eq_true rfl) (Nat.le_of_ble_eq_true rfl) dX10_proof_26
def f_X10_isProved (S : ps_S) (p1 : Int32) (p2 : Int32) (p3 : Int32) (p4 : Int32) (p5 : Int32) (p6 : Int32) : Option (Nat ⊕ (Int32 × ps_S)) :=
  (ps_bx (f_X10_fileAt S p1) fun k2 =>
  (ps_bx (f_X10_needPiece p2) fun _ =>
  (ps_bx (f_X10_needBelow p3 256) fun _ =>
  ((f_X9_top S (k2 + 5)).bind fun r23 =>
  ((f_X9_climb p2 p3 p4 p5 p6).bind fun r34 =>
  (if r23 = r34 then
    some (.inr (1, S))
  else
    some (.inr (0, S))))))))
set_option maxHeartbeats 4000000 in
set_option maxRecDepth 100000 in
theorem c_X10_isProved (l : Launch) (hflags : l.stackTraces = false) {w : ps_X} (hw : ps_ww w) {S : ps_S} {p1 p2 p3 p4 p5 p6 : Int32} {z : (Nat ⊕ (Int32 × ps_S))} (h : f_X10_isProved S p1 p2 p3 p4 p5 p6 = some z) : ps_MXI l yX10_isProved wsX10_isProved (ps_rx 7 3 18 112) w [.ref (w.2.1 0), .int p1, .int p2, .int p3, .int p4, .int p5, .int p6] S z 3 18 := by
  refine ps_mkXZ hflags (cc := cX10_isProved) (maxL := 8) (own := RX10) (by decide +kernel) rfl rfl rfl (Nat.le_of_ble_eq_true rfl) rfl (fun G XC hl hX hthr hret => ?_)
  have hG := hX.1
  unfold f_X10_isProved at h
  refine ps_aload_n hG dX10_isProved_0 rfl 0 rfl ?_
  refine ps_iload_n hG dX10_isProved_1 rfl 1 rfl ?_
  obtain ⟨⟨q2, hr2⟩, h2⟩ := ps_dx h
  replace h2 := h2 q2 hr2
  refine ps_xcallVR (As := [.int p1]) (rest := []) (nA := 1) hX (c_X10_fileAt _ hX.2.2.2.1 hw hr2) gX10_isProved_X10_fileAt rfl (by decide +kernel) rfl ⟨Nat.le_of_ble_eq_true rfl, Nat.le_of_ble_eq_true rfl⟩ ⟨rfl, rfl⟩ ⟨Nat.le_of_ble_eq_true rfl, Nat.le_of_ble_eq_true rfl⟩ ⟨Nat.le_of_ble_eq_true rfl, Nat.le_of_ble_eq_true rfl⟩ (ps_lt hw ps_q0.2.2.1) (ps_cel_19 ps_q0.1 _) rfl rfl (Nat.le_of_ble_eq_true rfl) dX10_isProved_2 (fun e he => hthr e (h2.1 e he)) (fun k2 hz hF2 => ?_)
  replace h := h2.2 _ hz
  refine ps_astore (lv' := [(7, .ref (w.2.1 k2)), (0, .ref (w.2.1 0)), (1, .int p1), (2, .int p2), (3, .int p3), (4, .int p4), (5, .int p5), (6, .int p6)]) hG dX10_isProved_5 (by decide) rfl ?_
  refine ps_iload_n hG dX10_isProved_7 rfl 3 rfl ?_
  obtain ⟨⟨q8, hr8⟩, h8⟩ := ps_dx h
  replace h8 := h8 q8 hr8
  refine ps_xcallSV (As := [.int p2]) (rest := []) (nA := 1) hX (c_X10_needPiece _ hX.2.2.2.1 hw hr8) gX10_isProved_X10_needPiece rfl (by decide +kernel) rfl ⟨Nat.le_of_ble_eq_true rfl, Nat.le_of_ble_eq_true rfl⟩ ⟨rfl, rfl⟩ ⟨Nat.le_of_ble_eq_true rfl, Nat.le_of_ble_eq_true rfl⟩ ⟨Nat.le_of_ble_eq_true rfl, Nat.le_of_ble_eq_true rfl⟩ rfl (Nat.le_of_ble_eq_true rfl) dX10_isProved_8 (fun e he => hthr e (h8.1 e he)) (fun hz => ?_)
  replace h := h8.2 _ hz
  refine ps_iload_n hG dX10_isProved_11 rfl 4 rfl ?_
  refine ps_sipush (v := 256) hG dX10_isProved_12 (by decide) ?_
  obtain ⟨⟨q15, hr15⟩, h15⟩ := ps_dx h
  replace h15 := h15 q15 hr15
  refine ps_xcallSV (As := [.int p3, .int 256]) (rest := []) (nA := 2) hX (c_X10_needBelow _ hX.2.2.2.1 hw hr15) gX10_isProved_X10_needBelow rfl (by decide +kernel) rfl ⟨Nat.le_of_ble_eq_true rfl, Nat.le_of_ble_eq_true rfl⟩ ⟨rfl, rfl⟩ ⟨Nat.le_of_ble_eq_true rfl, Nat.le_of_ble_eq_true rfl⟩ ⟨Nat.le_of_ble_eq_true rfl, Nat.le_of_ble_eq_true rfl⟩ rfl (Nat.le_of_ble_eq_true rfl) dX10_isProved_15 (fun e he => hthr e (h15.1 e he)) (fun hz => ?_)
  replace h := h15.2 _ hz
  refine ps_aload hG dX10_isProved_18 0 rfl ?_
  refine ps_callVR (As := []) (rest := []) (nA := 0) hG (c_X8_tree _ hw hF2) gX10_isProved_X8_tree rfl (by decide +kernel) rfl ⟨Nat.le_of_ble_eq_true rfl, Nat.le_of_ble_eq_true rfl⟩ ⟨rfl, rfl⟩ ⟨Nat.le_of_ble_eq_true rfl, Nat.le_of_ble_eq_true rfl⟩ (ps_isF_0 hF2).2.2.1 (ps_cel_17 (ps_isF_0 hF2).1 _) rfl rfl (Nat.le_of_ble_eq_true rfl) dX10_isProved_20 ?_
  obtain ⟨r23, hr23, h⟩ := ps_bd h
  refine ps_callVI (As := []) (rest := []) (nA := 0) hG (c_X9_top _ hw (ps_isF_5 hF2) hr23) gX10_isProved_X9_top rfl (by decide +kernel) rfl ⟨Nat.le_of_ble_eq_true rfl, Nat.le_of_ble_eq_true rfl⟩ ⟨rfl, rfl⟩ ⟨Nat.le_of_ble_eq_true rfl, Nat.le_of_ble_eq_true rfl⟩ (ps_isT_0 (ps_isF_5 hF2)).2.2.1 (ps_cel_18 (ps_isT_0 (ps_isF_5 hF2)).1 _) rfl rfl (Nat.le_of_ble_eq_true rfl) dX10_isProved_23 ?_
  refine ps_iload_n hG dX10_isProved_26 rfl 3 rfl ?_
  refine ps_iload_n hG dX10_isProved_27 rfl 4 rfl ?_
  refine ps_iload hG dX10_isProved_28 5 rfl ?_
  refine ps_iload hG dX10_isProved_30 6 rfl ?_
  refine ps_iload hG dX10_isProved_32 7 rfl ?_
  obtain ⟨r34, hr34, h⟩ := ps_bd h
  refine ps_callSI (As := [.int p2, .int p3, .int p4, .int p5, .int p6]) (rest := [.int r23]) (nA := 5) hG (c_X9_climb _ hw hr34) gX10_isProved_X9_climb rfl (by decide +kernel) rfl ⟨Nat.le_of_ble_eq_true rfl, Nat.le_of_ble_eq_true rfl⟩ ⟨rfl, rfl⟩ ⟨Nat.le_of_ble_eq_true rfl, Nat.le_of_ble_eq_true rfl⟩ rfl (Nat.le_of_ble_eq_true rfl) dX10_isProved_34 ?_
  refine ps_icmp_ne (tgt := 44) hG dX10_isProved_37 (by decide) (fun c37 => ?_) (fun c37 => ?_)
  · replace h := ps_in c37 h
    refine ps_iconst (v := 0) hG dX10_isProved_44 (by decide) ?_
    cases h
    exact hret _ _ rfl _ _ _ _ (Nat.le_of_ble_eq_true rfl) (Nat.le_of_ble_eq_true rfl) dX10_isProved_45 rfl
  · replace h := ps_ip c37 h
    refine ps_iconst (v := 1) hG dX10_isProved_40 (by decide) ?_
    refine ps_goto (tgt := 45) hG dX10_isProved_41 (by decide) ?_
    cases h
    exact hret _ _ rfl _ _ _ _ (Nat.le_of_ble_eq_true rfl) (Nat.le_of_ble_eq_true rfl) dX10_isProved_45 rfl
def f_X10_mend (S : ps_S) (p1 : Int32) (p2 : Int32) : Option (Nat ⊕ (Int32 × ps_S)) :=
  (ps_bx (f_X10_fileAt S p1) fun k2 =>
  (ps_bx (f_X10_needBelow p2 64) fun _ =>
  ((f_J6_bitCount_0f7a4 p2).bind fun r13 =>
  (if 4 ≤ r13 then
    ((f_X8_mended S k2 p2).bind fun r32 =>
    some (.inr (r32, S)))
  else
    some (.inl 0)))))
theorem mX10_mend_i120 : Cond.initialized "java/lang/IllegalArgumentException" ∈ wsX10_mend := List.mem_of_getElem? (i := 2) rfl
theorem mX10_mend_k120 : Cond.classLink RX10 120 "java/lang/IllegalArgumentException" ∈ wsX10_mend := List.mem_of_getElem? (i := 1) rfl
theorem gX10_mend_t124 : ∀ q ∈ (vx_atS RX10 124 "java/lang/IllegalArgumentException" ["java/lang/RuntimeException", "java/lang/Exception"]).filter goodWord, q ∈ wsX10_mend := fun _ h => List.mem_cons_of_mem _ (List.mem_append_left _ (List.mem_append_right _ h))
set_option maxHeartbeats 4000000 in
set_option maxRecDepth 100000 in
theorem c_X10_mend (l : Launch) (hflags : l.stackTraces = false) {w : ps_X} (hw : ps_ww w) {S : ps_S} {p1 p2 : Int32} {z : (Nat ⊕ (Int32 × ps_S))} (h : f_X10_mend S p1 p2 = some z) : ps_MXI l yX10_mend wsX10_mend (ps_rx 7 3 18 121) w [.ref (w.2.1 0), .int p1, .int p2] S z 3 18 := by
  refine ps_mkXI hflags (cc := cX10_mend) (maxL := 4) (own := RX10) (by decide +kernel) rfl rfl rfl (Nat.le_of_ble_eq_true rfl) rfl (fun G XC hl hX hthr hret => ?_)
  have hG := hX.1
  unfold f_X10_mend at h
  refine ps_aload_n hG dX10_mend_0 rfl 0 rfl ?_
  refine ps_iload_n hG dX10_mend_1 rfl 1 rfl ?_
  obtain ⟨⟨q2, hr2⟩, h2⟩ := ps_dx h
  replace h2 := h2 q2 hr2
  refine ps_xcallVR (As := [.int p1]) (rest := []) (nA := 1) hX (c_X10_fileAt _ hX.2.2.2.1 hw hr2) gX10_mend_X10_fileAt rfl (by decide +kernel) rfl ⟨Nat.le_of_ble_eq_true rfl, Nat.le_of_ble_eq_true rfl⟩ ⟨rfl, rfl⟩ ⟨Nat.le_of_ble_eq_true rfl, Nat.le_of_ble_eq_true rfl⟩ ⟨Nat.le_of_ble_eq_true rfl, Nat.le_of_ble_eq_true rfl⟩ (ps_lt hw ps_q0.2.2.1) (ps_cel_19 ps_q0.1 _) rfl rfl (Nat.le_of_ble_eq_true rfl) dX10_mend_2 (fun e he => hthr e (h2.1 e he)) (fun k2 hz hF2 => ?_)
  replace h := h2.2 _ hz
  refine ps_astore_n (lv' := [(3, .ref (w.2.1 k2)), (0, .ref (w.2.1 0)), (1, .int p1), (2, .int p2)]) hG dX10_mend_5 rfl (by decide) rfl ?_
  refine ps_iload_n hG dX10_mend_6 rfl 3 rfl ?_
  refine ps_bipush (v := 64) hG dX10_mend_7 (by decide) ?_
  obtain ⟨⟨q9, hr9⟩, h9⟩ := ps_dx h
  replace h9 := h9 q9 hr9
  refine ps_xcallSV (As := [.int p2, .int 64]) (rest := []) (nA := 2) hX (c_X10_needBelow _ hX.2.2.2.1 hw hr9) gX10_mend_X10_needBelow rfl (by decide +kernel) rfl ⟨Nat.le_of_ble_eq_true rfl, Nat.le_of_ble_eq_true rfl⟩ ⟨rfl, rfl⟩ ⟨Nat.le_of_ble_eq_true rfl, Nat.le_of_ble_eq_true rfl⟩ ⟨Nat.le_of_ble_eq_true rfl, Nat.le_of_ble_eq_true rfl⟩ rfl (Nat.le_of_ble_eq_true rfl) dX10_mend_9 (fun e he => hthr e (h9.1 e he)) (fun hz => ?_)
  replace h := h9.2 _ hz
  refine ps_iload_n hG dX10_mend_12 rfl 3 rfl ?_
  obtain ⟨r13, hr13, h⟩ := ps_bd h
  refine ps_callSI (As := [.int p2]) (rest := []) (nA := 1) hG (c_J6_bitCount_0f7a4 _ hw hr13) gX10_mend_J6_bitCount_0f7a4 rfl (by decide +kernel) rfl ⟨Nat.le_of_ble_eq_true rfl, Nat.le_of_ble_eq_true rfl⟩ ⟨rfl, rfl⟩ ⟨Nat.le_of_ble_eq_true rfl, Nat.le_of_ble_eq_true rfl⟩ rfl (Nat.le_of_ble_eq_true rfl) dX10_mend_13 ?_
  refine ps_iconst (v := 4) hG dX10_mend_16 (by decide) ?_
  refine ps_icmp_ge (tgt := 30) hG dX10_mend_17 (by decide) (fun c17 => ?_) (fun c17 => ?_)
  · replace h := ps_ip c17 h
    refine ps_aload_n hG dX10_mend_30 rfl 0 rfl ?_
    refine ps_iload_n hG dX10_mend_31 rfl 3 rfl ?_
    obtain ⟨r32, hr32, h⟩ := ps_bd h
    refine ps_callVI (As := [.int p2]) (rest := []) (nA := 1) hG (c_X8_mended _ hw hF2 hr32) gX10_mend_X8_mended rfl (by decide +kernel) rfl ⟨Nat.le_of_ble_eq_true rfl, Nat.le_of_ble_eq_true rfl⟩ ⟨rfl, rfl⟩ ⟨Nat.le_of_ble_eq_true rfl, Nat.le_of_ble_eq_true rfl⟩ (ps_isF_0 hF2).2.2.1 (ps_cel_17 (ps_isF_0 hF2).1 _) rfl rfl (Nat.le_of_ble_eq_true rfl) dX10_mend_32 ?_
    cases h
    exact hret _ _ rfl _ _ _ _ (Nat.le_of_ble_eq_true rfl) (Nat.le_of_ble_eq_true rfl) dX10_mend_35
  · replace h := ps_in c17 h
    cases h
    exact ps_throw (cls := "java/lang/IllegalArgumentException") (tx := "at least four pieces are needed") (rest := []) hX 0 rfl (hthr 0 rfl) mX10_mend_k120 mX10_mend_i120 (by decide) gX10_mend_t124 ps_tn124 (by decide +kernel) ps_tg124 (Nat.le_of_ble_eq_true rfl) (Nat.le_of_ble_eq_true rfl) ⟨Nat.le_of_ble_eq_true rfl, Nat.le_of_ble_eq_true rfl⟩ ⟨Nat.le_of_ble_eq_true rfl, Nat.le_of_ble_eq_true rfl⟩ dX10_mend_20 dX10_mend_23 dX10_mend_24 dX10_mend_26 dX10_mend_29
def f_X10_fetch (S : ps_S) (p1 : Int32) (p2 : Int32) : Option (Nat ⊕ (Int32 × ps_S)) :=
  (ps_bx (f_X10_needPeer S p1) fun _ =>
  (ps_bx (f_X10_fileAt S p2) fun k7 =>
  (ps_bx (f_X10_needOnline S p1) fun _ =>
  (ps_b2 (f_X1_give S k7 p1) fun r22 S22 =>
  some (.inr (r22, S22))))))
theorem inX10_fetch_X10 : ∀ q ∈ wsX100, q ∈ wsX10_fetch := fun _ h => List.mem_cons_of_mem _ (List.mem_append_left _ (List.mem_append_left _ (List.mem_append_left _ (List.mem_append_left _ (List.mem_append_left _ (List.mem_append_left _ (List.mem_append_right _ h)))))))
theorem mX10_fetch_50 : Cond.fieldLink RX10 50 (TX10 4).1 (TX10 4).2.1 (TX10 4).2.2.1 ∈ wsX10_fetch := List.mem_of_getElem? (i := 1) rfl
set_option maxHeartbeats 4000000 in
set_option maxRecDepth 100000 in
theorem c_X10_fetch (l : Launch) (hflags : l.stackTraces = false) {w : ps_X} (hw : ps_ww w) {S : ps_S} {p1 p2 : Int32} {z : (Nat ⊕ (Int32 × ps_S))} (h : f_X10_fetch S p1 p2 = some z) : ps_MXI l yX10_fetch wsX10_fetch (ps_rx 7 3 18 112) w [.ref (w.2.1 0), .int p1, .int p2] S z 3 18 := by
  refine ps_mkXI hflags (cc := cX10_fetch) (maxL := 4) (own := RX10) (by decide +kernel) rfl rfl rfl (Nat.le_of_ble_eq_true rfl) rfl (fun G XC hl hX hthr hret => ?_)
  have hG := hX.1
  unfold f_X10_fetch at h
  refine ps_aload_n hG dX10_fetch_0 rfl 0 rfl ?_
  refine ps_iload_n hG dX10_fetch_1 rfl 1 rfl ?_
  obtain ⟨⟨q2, hr2⟩, h2⟩ := ps_dx h
  replace h2 := h2 q2 hr2
  refine ps_xcallVV (As := [.int p1]) (rest := []) (nA := 1) hX (c_X10_needPeer _ hX.2.2.2.1 hw hr2) gX10_fetch_X10_needPeer rfl (by decide +kernel) rfl ⟨Nat.le_of_ble_eq_true rfl, Nat.le_of_ble_eq_true rfl⟩ ⟨rfl, rfl⟩ ⟨Nat.le_of_ble_eq_true rfl, Nat.le_of_ble_eq_true rfl⟩ ⟨Nat.le_of_ble_eq_true rfl, Nat.le_of_ble_eq_true rfl⟩ (ps_lt hw ps_q0.2.2.1) (ps_cel_19 ps_q0.1 _) rfl rfl (Nat.le_of_ble_eq_true rfl) dX10_fetch_2 (fun e he => hthr e (h2.1 e he)) (fun hz => ?_)
  replace h := h2.2 _ hz
  refine ps_aload_n hG dX10_fetch_5 rfl 0 rfl ?_
  refine ps_iload_n hG dX10_fetch_6 rfl 2 rfl ?_
  obtain ⟨⟨q7, hr7⟩, h7⟩ := ps_dx h
  replace h7 := h7 q7 hr7
  refine ps_xcallVR (As := [.int p2]) (rest := []) (nA := 1) hX (c_X10_fileAt _ hX.2.2.2.1 hw hr7) gX10_fetch_X10_fileAt rfl (by decide +kernel) rfl ⟨Nat.le_of_ble_eq_true rfl, Nat.le_of_ble_eq_true rfl⟩ ⟨rfl, rfl⟩ ⟨Nat.le_of_ble_eq_true rfl, Nat.le_of_ble_eq_true rfl⟩ ⟨Nat.le_of_ble_eq_true rfl, Nat.le_of_ble_eq_true rfl⟩ (ps_lt hw ps_q0.2.2.1) (ps_cel_19 ps_q0.1 _) rfl rfl (Nat.le_of_ble_eq_true rfl) dX10_fetch_7 (fun e he => hthr e (h7.1 e he)) (fun k7 hz hF7 => ?_)
  replace h := h7.2 _ hz
  refine ps_astore_n (lv' := [(3, .ref (w.2.1 k7)), (0, .ref (w.2.1 0)), (1, .int p1), (2, .int p2)]) hG dX10_fetch_10 rfl (by decide) rfl ?_
  refine ps_aload_n hG dX10_fetch_11 rfl 1 rfl ?_
  refine ps_iload_n hG dX10_fetch_12 rfl 2 rfl ?_
  obtain ⟨⟨q13, hr13⟩, h13⟩ := ps_dx h
  replace h13 := h13 q13 hr13
  refine ps_xcallVV (As := [.int p1]) (rest := []) (nA := 1) hX (c_X10_needOnline _ hX.2.2.2.1 hw hr13) gX10_fetch_X10_needOnline rfl (by decide +kernel) rfl ⟨Nat.le_of_ble_eq_true rfl, Nat.le_of_ble_eq_true rfl⟩ ⟨rfl, rfl⟩ ⟨Nat.le_of_ble_eq_true rfl, Nat.le_of_ble_eq_true rfl⟩ ⟨Nat.le_of_ble_eq_true rfl, Nat.le_of_ble_eq_true rfl⟩ (ps_lt hw ps_q0.2.2.1) (ps_cel_19 ps_q0.1 _) rfl rfl (Nat.le_of_ble_eq_true rfl) dX10_fetch_13 (fun e he => hthr e (h13.1 e he)) (fun hz => ?_)
  replace h := h13.2 _ hz
  refine ps_aload_n hG dX10_fetch_16 rfl 1 rfl ?_
  refine ps_get19_4 hG hw inX10_fetch_X10 ps_q0.1 (ps_lt hw ps_q0.2.2.1) mX10_fetch_50 dX10_fetch_17 ?_
  refine ps_aload_n hG dX10_fetch_20 rfl 0 rfl ?_
  refine ps_iload_n hG dX10_fetch_21 rfl 2 rfl ?_
  obtain ⟨r22, S22, hr22, h⟩ := ps_d2 h
  refine ps_callVI (As := [.ref (w.2.1 k7), .int p1]) (rest := []) (nA := 2) hG (c_X1_give _ hw hF7 hr22) gX10_fetch_X1_give rfl (by decide +kernel) rfl ⟨Nat.le_of_ble_eq_true rfl, Nat.le_of_ble_eq_true rfl⟩ ⟨rfl, rfl⟩ ⟨Nat.le_of_ble_eq_true rfl, Nat.le_of_ble_eq_true rfl⟩ (ps_lt hw ps_q58.2.2.1) (ps_cel_10 ps_q58.1 _) rfl rfl (Nat.le_of_ble_eq_true rfl) dX10_fetch_22 ?_
  cases h
  exact hret _ _ rfl _ _ _ _ (Nat.le_of_ble_eq_true rfl) (Nat.le_of_ble_eq_true rfl) dX10_fetch_25
def f_X10_pass_J60 (v1_32 : Int32) (T60 : ps_S) : Option ((ps_S × Int32) ⊕ (ps_S)) :=
  some (.inl (T60, v1_32 + 1))
def f_X10_pass_L32  (T32 : ps_S) (v1_32 : Int32) : Option ((ps_S × Int32) ⊕ (ps_S)) :=
  (if 12 ≤ v1_32 then
          some (.inr T32)
        else
          (if ps_ib v1_32 12 = true then
          (if T32 57 v1_32.toNatClampNeg = 0 then
            f_X10_pass_J60 v1_32 T32
          else
            ((f_X1_challenge T32 (103 + 7 * v1_32.toNatClampNeg)).bind fun S57 =>
            f_X10_pass_J60 v1_32 S57)) else none))
def f_X10_pass_J107 (v1_68 : Int32) (T107 : ps_S) : Option ((ps_S × Int32) ⊕ (ps_S)) :=
  some (.inl (T107, v1_68 + 1))
def f_X10_pass_L68  (T68 : ps_S) (v1_68 : Int32) : Option ((ps_S × Int32) ⊕ (ps_S)) :=
  (if 12 ≤ v1_68 then
          some (.inr T68)
        else
          (if ps_ib v1_68 12 = true then
          (if T68 57 v1_68.toNatClampNeg = 0 then
            f_X10_pass_J107 v1_68 T68
          else
            ((f_X1_isToRepair T68 (103 + 7 * v1_68.toNatClampNeg)).bind fun r93 =>
            (if r93 = 0 then
              f_X10_pass_J107 v1_68 T68
            else
              ((f_X1_storeMissing T68 (103 + 7 * v1_68.toNatClampNeg)).bind fun S104 =>
              f_X10_pass_J107 v1_68 S104)))) else none))
def f_X10_pass (S : ps_S) : Option (Nat ⊕ (Int32 × ps_S)) :=
  (if (S 0 9) < 500 then
    ((ps_it (fun (a : ps_S × Int32) => f_X10_pass_L32 a.1 a.2) ps_fu (ps_up S 0 9 ((S 0 9) + 1), 0)).bind (fun S32 => ((ps_it (fun (a : ps_S × Int32) => f_X10_pass_L68 a.1 a.2) ps_fu (S32, 0)).bind (fun S68 => some (.inr (S68 0 9, S68))))))
  else
    some (.inl 2))
theorem inX10_pass_X10 : ∀ q ∈ wsX100, q ∈ wsX10_pass := fun _ h => List.mem_cons_of_mem _ (List.mem_append_left _ (List.mem_append_left _ (List.mem_append_left _ (List.mem_append_left _ (List.mem_append_left _ (List.mem_append_left _ (List.mem_append_left _ (List.mem_append_left _ (List.mem_append_right _ h)))))))))
theorem mX10_pass_219 : Cond.fieldLink RX10 219 (TX10 9).1 (TX10 9).2.1 (TX10 9).2.2.1 ∈ wsX10_pass := List.mem_of_getElem? (i := 3) rfl
theorem mX10_pass_41 : Cond.fieldLink RX10 41 (TX10 3).1 (TX10 3).2.1 (TX10 3).2.2.1 ∈ wsX10_pass := List.mem_of_getElem? (i := 4) rfl
theorem mX10_pass_50 : Cond.fieldLink RX10 50 (TX10 4).1 (TX10 4).2.1 (TX10 4).2.2.1 ∈ wsX10_pass := List.mem_of_getElem? (i := 5) rfl
theorem mX10_pass_i84 : Cond.initialized "java/lang/IllegalStateException" ∈ wsX10_pass := List.mem_of_getElem? (i := 2) rfl
theorem mX10_pass_k84 : Cond.classLink RX10 84 "java/lang/IllegalStateException" ∈ wsX10_pass := List.mem_of_getElem? (i := 1) rfl
theorem gX10_pass_t88 : ∀ q ∈ (vx_atS RX10 88 "java/lang/IllegalStateException" ["java/lang/RuntimeException", "java/lang/Exception"]).filter goodWord, q ∈ wsX10_pass := fun _ h => List.mem_cons_of_mem _ (List.mem_append_right _ h)
set_option maxHeartbeats 4000000 in
set_option maxRecDepth 100000 in
theorem c_X10_pass (l : Launch) (hflags : l.stackTraces = false) {w : ps_X} (hw : ps_ww w) {S : ps_S} {z : (Nat ⊕ (Int32 × ps_S))} (h : f_X10_pass S = some z) : ps_MXI l yX10_pass wsX10_pass (ps_rx 6 1 6 156) w [.ref (w.2.1 0)] S z 1 6 := by
  refine ps_mkXI hflags (cc := cX10_pass) (maxL := 3) (own := RX10) (by decide +kernel) rfl rfl rfl (Nat.le_of_ble_eq_true rfl) rfl (fun G XC hl hX hthr hret => ?_)
  have hG := hX.1
  unfold f_X10_pass at h
  refine ps_aload_n hG dX10_pass_0 rfl 0 rfl ?_
  refine ps_get19_9 hG inX10_pass_X10 ps_q0.1 (ps_lt hw ps_q0.2.2.1) mX10_pass_219 dX10_pass_1 ?_
  refine ps_sipush (v := 500) hG dX10_pass_4 (by decide) ?_
  refine ps_icmp_lt (tgt := 20) hG dX10_pass_7 (by decide) (fun c7 => ?_) (fun c7 => ?_)
  · replace h := ps_ip c7 h
    refine ps_aload_n hG dX10_pass_20 rfl 0 rfl ?_
    refine ps_dup hG dX10_pass_21 rfl ?_
    refine ps_get19_9 hG inX10_pass_X10 ps_q0.1 (ps_lt hw ps_q0.2.2.1) mX10_pass_219 dX10_pass_22 ?_
    refine ps_iconst (v := 1) hG dX10_pass_25 (by decide) ?_
    refine ps_iadd hG dX10_pass_26 ?_
    refine ps_put19_9 hG inX10_pass_X10 ps_q0.1 (ps_lt hw ps_q0.2.2.1) ps_q0.2.2.2 mX10_pass_219 dX10_pass_27 ?_
    refine ps_iconst (v := 0) hG dX10_pass_30 (by decide) ?_
    refine ps_istore_n (lv' := [(1, .int 0), (0, .ref (w.2.1 0))]) hG dX10_pass_31 rfl (by decide) rfl ?_
    obtain ⟨S32, hq32, h⟩ := ps_bd h
    refine ps_widen (Nat.le_of_ble_eq_true rfl) (Nat.le_of_ble_eq_true rfl) (ps_sub [1, 0] rfl (ps_itV (fun (a : ps_S × Int32) => ps_V G 3 0 0 w a.1 32 [(0, .ref (w.2.1 0)), (1, .int a.2)] []) (fun (b : ps_S) => ps_V G 3 0 0 w b 66 [(0, .ref (w.2.1 0))] []) ?_ _ _ _ hq32 ?_))
    · intro a r9 h kc ke
      obtain ⟨T32, v1_32⟩ := a
      replace h : f_X10_pass_L32 T32 v1_32 = some r9 := h
      show ps_V G 3 0 0 w T32 32 [(0, .ref (w.2.1 0)), (1, .int v1_32)] []
      unfold f_X10_pass_L32 at h
      refine ps_iload_n hG dX10_pass_32 rfl 1 rfl ?_
      refine ps_aload_n hG dX10_pass_33 rfl 0 rfl ?_
      refine ps_get19_3 hG hw inX10_pass_X10 ps_q0.1 (ps_lt hw ps_q0.2.2.1) mX10_pass_41 dX10_pass_34 ?_
      refine ps_alenF (v := 12) hG (ps_lt hw ps_q57.2.2) (by decide) dX10_pass_37 ?_
      refine ps_icmp_ge (tgt := 66) hG dX10_pass_38 (by decide) (fun c38 => ?_) (fun c38 => ?_)
      · replace h := ps_ip c38 h
        cases h
        exact ps_widen (Nat.le_of_ble_eq_true rfl) (Nat.le_of_ble_eq_true rfl) (ps_sub [0] rfl (ke _ rfl))
      · replace h := ps_in c38 h
        refine ps_aload_n hG dX10_pass_41 rfl 0 rfl ?_
        refine ps_get19_3 hG hw inX10_pass_X10 ps_q0.1 (ps_lt hw ps_q0.2.2.1) mX10_pass_41 dX10_pass_42 ?_
        refine ps_iload_n hG dX10_pass_45 rfl 1 rfl ?_
        obtain ⟨hb46, h⟩ := ps_ig h
        refine ps_getinv (fun hi46 => ?_)
        refine ps_aaldF hG (ps_lt hw ps_q57.2.2) hb46 dX10_pass_46 (fun c46 => ?_) (fun c46 => ?_)
        · replace h := ps_ip c46 h
          refine ps_astore_nN (lv' := [(2, .null), (0, .ref (w.2.1 0)), (1, .int v1_32)]) hG dX10_pass_47 rfl (by decide) rfl ?_
          refine ps_aload_nN hG dX10_pass_48 rfl 0 rfl ?_
          have hJ60 : ∀ (T60 : ps_S), f_X10_pass_J60 v1_32 T60 = some r9 → ps_V G 3 0 0 w T60 60 [(0, .ref (w.2.1 0)), (1, .int v1_32)] [] := by
            intro T60 h
            unfold f_X10_pass_J60 at h
            refine ps_iinc (lv' := [(1, .int (v1_32 + 1)), (0, .ref (w.2.1 0))]) hG dX10_pass_60 1 rfl (by rfl) (by decide) rfl ?_
            refine ps_goto (tgt := 32) hG dX10_pass_63 (by decide) ?_
            cases h
            exact ps_widen (Nat.le_of_ble_eq_true rfl) (Nat.le_of_ble_eq_true rfl) (ps_sub [1, 0] rfl (kc _ rfl))
          refine ps_ifnullN (tgt := 60) hG dX10_pass_49 (by decide) ?_
          exact ps_widen (Nat.le_of_ble_eq_true rfl) (Nat.le_of_ble_eq_true rfl) (ps_sub [1, 2] rfl (hJ60 T32 h))
        · replace h := ps_in c46 h
          have hf46 := ps_invF hi46 c46
          refine ps_astore_n (lv' := [(2, .ref (w.2.1 (103 + 7 * v1_32.toNatClampNeg))), (0, .ref (w.2.1 0)), (1, .int v1_32)]) hG dX10_pass_47 rfl (by decide) rfl ?_
          refine ps_aload_n hG dX10_pass_48 rfl 0 rfl ?_
          have hJ60 : ∀ (T60 : ps_S), f_X10_pass_J60 v1_32 T60 = some r9 → ps_V G 3 0 0 w T60 60 [(0, .ref (w.2.1 0)), (1, .int v1_32)] [] := by
            intro T60 h
            unfold f_X10_pass_J60 at h
            refine ps_iinc (lv' := [(1, .int (v1_32 + 1)), (0, .ref (w.2.1 0))]) hG dX10_pass_60 1 rfl (by rfl) (by decide) rfl ?_
            refine ps_goto (tgt := 32) hG dX10_pass_63 (by decide) ?_
            cases h
            exact ps_widen (Nat.le_of_ble_eq_true rfl) (Nat.le_of_ble_eq_true rfl) (ps_sub [1, 0] rfl (kc _ rfl))
          refine ps_ifnull (tgt := 60) hG dX10_pass_49 (by decide) ?_
          refine ps_aload_n hG dX10_pass_52 rfl 1 rfl ?_
          refine ps_get19_4 hG hw inX10_pass_X10 ps_q0.1 (ps_lt hw ps_q0.2.2.1) mX10_pass_50 dX10_pass_53 ?_
          refine ps_aload_n hG dX10_pass_56 rfl 0 rfl ?_
          obtain ⟨S57, hr57, h⟩ := ps_bd h
          refine ps_callVV (As := [.ref (w.2.1 (103 + 7 * v1_32.toNatClampNeg))]) (rest := []) (nA := 1) hG (c_X1_challenge _ hw hf46 hr57) gX10_pass_X1_challenge rfl (by decide +kernel) rfl ⟨Nat.le_of_ble_eq_true rfl, Nat.le_of_ble_eq_true rfl⟩ ⟨rfl, rfl⟩ ⟨Nat.le_of_ble_eq_true rfl, Nat.le_of_ble_eq_true rfl⟩ (ps_lt hw ps_q58.2.2.1) (ps_cel_10 ps_q58.1 _) rfl rfl (Nat.le_of_ble_eq_true rfl) dX10_pass_57 ?_
          exact ps_widen (Nat.le_of_ble_eq_true rfl) (Nat.le_of_ble_eq_true rfl) (ps_sub [1, 2] rfl (hJ60 S57 h))
    · show ps_V G 3 0 0 w S32 66 [(0, .ref (w.2.1 0))] []
      refine ps_iconst (v := 0) hG dX10_pass_66 (by decide) ?_
      refine ps_istore_n (lv' := [(1, .int 0), (0, .ref (w.2.1 0))]) hG dX10_pass_67 rfl (by decide) rfl ?_
      obtain ⟨S68, hq68, h⟩ := ps_bd h
      refine ps_widen (Nat.le_of_ble_eq_true rfl) (Nat.le_of_ble_eq_true rfl) (ps_sub [1, 0] rfl (ps_itV (fun (a : ps_S × Int32) => ps_V G 3 0 0 w a.1 68 [(0, .ref (w.2.1 0)), (1, .int a.2)] []) (fun (b : ps_S) => ps_V G 3 0 0 w b 113 [(0, .ref (w.2.1 0))] []) ?_ _ _ _ hq68 ?_))
      · intro a r9 h kc ke
        obtain ⟨T68, v1_68⟩ := a
        replace h : f_X10_pass_L68 T68 v1_68 = some r9 := h
        show ps_V G 3 0 0 w T68 68 [(0, .ref (w.2.1 0)), (1, .int v1_68)] []
        unfold f_X10_pass_L68 at h
        refine ps_iload_n hG dX10_pass_68 rfl 1 rfl ?_
        refine ps_aload_n hG dX10_pass_69 rfl 0 rfl ?_
        refine ps_get19_3 hG hw inX10_pass_X10 ps_q0.1 (ps_lt hw ps_q0.2.2.1) mX10_pass_41 dX10_pass_70 ?_
        refine ps_alenF (v := 12) hG (ps_lt hw ps_q57.2.2) (by decide) dX10_pass_73 ?_
        refine ps_icmp_ge (tgt := 113) hG dX10_pass_74 (by decide) (fun c74 => ?_) (fun c74 => ?_)
        · replace h := ps_ip c74 h
          cases h
          exact ps_widen (Nat.le_of_ble_eq_true rfl) (Nat.le_of_ble_eq_true rfl) (ps_sub [0] rfl (ke _ rfl))
        · replace h := ps_in c74 h
          refine ps_aload_n hG dX10_pass_77 rfl 0 rfl ?_
          refine ps_get19_3 hG hw inX10_pass_X10 ps_q0.1 (ps_lt hw ps_q0.2.2.1) mX10_pass_41 dX10_pass_78 ?_
          refine ps_iload_n hG dX10_pass_81 rfl 1 rfl ?_
          obtain ⟨hb82, h⟩ := ps_ig h
          refine ps_getinv (fun hi82 => ?_)
          refine ps_aaldF hG (ps_lt hw ps_q57.2.2) hb82 dX10_pass_82 (fun c82 => ?_) (fun c82 => ?_)
          · replace h := ps_ip c82 h
            refine ps_astore_nN (lv' := [(2, .null), (0, .ref (w.2.1 0)), (1, .int v1_68)]) hG dX10_pass_83 rfl (by decide) rfl ?_
            refine ps_aload_nN hG dX10_pass_84 rfl 0 rfl ?_
            have hJ107 : ∀ (T107 : ps_S), f_X10_pass_J107 v1_68 T107 = some r9 → ps_V G 3 0 0 w T107 107 [(0, .ref (w.2.1 0)), (1, .int v1_68)] [] := by
              intro T107 h
              unfold f_X10_pass_J107 at h
              refine ps_iinc (lv' := [(1, .int (v1_68 + 1)), (0, .ref (w.2.1 0))]) hG dX10_pass_107 1 rfl (by rfl) (by decide) rfl ?_
              refine ps_goto (tgt := 68) hG dX10_pass_110 (by decide) ?_
              cases h
              exact ps_widen (Nat.le_of_ble_eq_true rfl) (Nat.le_of_ble_eq_true rfl) (ps_sub [1, 0] rfl (kc _ rfl))
            refine ps_ifnullN (tgt := 107) hG dX10_pass_85 (by decide) ?_
            exact ps_widen (Nat.le_of_ble_eq_true rfl) (Nat.le_of_ble_eq_true rfl) (ps_sub [1, 2] rfl (hJ107 T68 h))
          · replace h := ps_in c82 h
            have hf82 := ps_invF hi82 c82
            refine ps_astore_n (lv' := [(2, .ref (w.2.1 (103 + 7 * v1_68.toNatClampNeg))), (0, .ref (w.2.1 0)), (1, .int v1_68)]) hG dX10_pass_83 rfl (by decide) rfl ?_
            refine ps_aload_n hG dX10_pass_84 rfl 0 rfl ?_
            have hJ107 : ∀ (T107 : ps_S), f_X10_pass_J107 v1_68 T107 = some r9 → ps_V G 3 0 0 w T107 107 [(0, .ref (w.2.1 0)), (1, .int v1_68)] [] := by
              intro T107 h
              unfold f_X10_pass_J107 at h
              refine ps_iinc (lv' := [(1, .int (v1_68 + 1)), (0, .ref (w.2.1 0))]) hG dX10_pass_107 1 rfl (by rfl) (by decide) rfl ?_
              refine ps_goto (tgt := 68) hG dX10_pass_110 (by decide) ?_
              cases h
              exact ps_widen (Nat.le_of_ble_eq_true rfl) (Nat.le_of_ble_eq_true rfl) (ps_sub [1, 0] rfl (kc _ rfl))
            refine ps_ifnull (tgt := 107) hG dX10_pass_85 (by decide) ?_
            refine ps_aload_n hG dX10_pass_88 rfl 1 rfl ?_
            refine ps_get19_4 hG hw inX10_pass_X10 ps_q0.1 (ps_lt hw ps_q0.2.2.1) mX10_pass_50 dX10_pass_89 ?_
            refine ps_aload_n hG dX10_pass_92 rfl 0 rfl ?_
            obtain ⟨r93, hr93, h⟩ := ps_bd h
            refine ps_callVI (As := [.ref (w.2.1 (103 + 7 * v1_68.toNatClampNeg))]) (rest := []) (nA := 1) hG (c_X1_isToRepair _ hw hf82 hr93) gX10_pass_X1_isToRepair rfl (by decide +kernel) rfl ⟨Nat.le_of_ble_eq_true rfl, Nat.le_of_ble_eq_true rfl⟩ ⟨rfl, rfl⟩ ⟨Nat.le_of_ble_eq_true rfl, Nat.le_of_ble_eq_true rfl⟩ (ps_lt hw ps_q58.2.2.1) (ps_cel_10 ps_q58.1 _) rfl rfl (Nat.le_of_ble_eq_true rfl) dX10_pass_93 ?_
            refine ps_if_eq (tgt := 107) hG dX10_pass_96 (by decide) (fun c96 => ?_) (fun c96 => ?_)
            · replace h := ps_ip c96 h
              exact ps_widen (Nat.le_of_ble_eq_true rfl) (Nat.le_of_ble_eq_true rfl) (ps_sub [1, 2] rfl (hJ107 T68 h))
            · replace h := ps_in c96 h
              refine ps_aload_n hG dX10_pass_99 rfl 1 rfl ?_
              refine ps_get19_4 hG hw inX10_pass_X10 ps_q0.1 (ps_lt hw ps_q0.2.2.1) mX10_pass_50 dX10_pass_100 ?_
              refine ps_aload_n hG dX10_pass_103 rfl 0 rfl ?_
              obtain ⟨S104, hr104, h⟩ := ps_bd h
              refine ps_callVV (As := [.ref (w.2.1 (103 + 7 * v1_68.toNatClampNeg))]) (rest := []) (nA := 1) hG (c_X1_storeMissing _ hw hf82 hr104) gX10_pass_X1_storeMissing rfl (by decide +kernel) rfl ⟨Nat.le_of_ble_eq_true rfl, Nat.le_of_ble_eq_true rfl⟩ ⟨rfl, rfl⟩ ⟨Nat.le_of_ble_eq_true rfl, Nat.le_of_ble_eq_true rfl⟩ (ps_lt hw ps_q58.2.2.1) (ps_cel_10 ps_q58.1 _) rfl rfl (Nat.le_of_ble_eq_true rfl) dX10_pass_104 ?_
              exact ps_widen (Nat.le_of_ble_eq_true rfl) (Nat.le_of_ble_eq_true rfl) (ps_sub [1, 2] rfl (hJ107 S104 h))
      · show ps_V G 3 0 0 w S68 113 [(0, .ref (w.2.1 0))] []
        refine ps_aload_n hG dX10_pass_113 rfl 0 rfl ?_
        refine ps_get19_9 hG inX10_pass_X10 ps_q0.1 (ps_lt hw ps_q0.2.2.1) mX10_pass_219 dX10_pass_114 ?_
        cases h
        exact hret _ _ rfl _ _ _ _ (Nat.le_of_ble_eq_true rfl) (Nat.le_of_ble_eq_true rfl) dX10_pass_117
  · replace h := ps_in c7 h
    cases h
    exact ps_throw (cls := "java/lang/IllegalStateException") (tx := "there is no day behind the day 500") (rest := []) hX 2 rfl (hthr 2 rfl) mX10_pass_k84 mX10_pass_i84 (by decide) gX10_pass_t88 ps_tn88 (by decide +kernel) ps_tg88 (Nat.le_of_ble_eq_true rfl) (Nat.le_of_ble_eq_true rfl) ⟨Nat.le_of_ble_eq_true rfl, Nat.le_of_ble_eq_true rfl⟩ ⟨Nat.le_of_ble_eq_true rfl, Nat.le_of_ble_eq_true rfl⟩ dX10_pass_10 dX10_pass_13 dX10_pass_14 dX10_pass_16 dX10_pass_19
def f_X10_tell_J130 (v6_79 : Int32) (T130 : ps_S) (v5_130 : Int32) : Option ((ps_S × Int32 × Int32) ⊕ (ps_S × Int32)) :=
  some (.inl (T130, v5_130, v6_79 + 1))
def f_X10_tell_L79 (p2 : Int32) (p3 : Int32) (p4 : Int32) (T79 : ps_S) (v5_79 : Int32) (v6_79 : Int32) : Option ((ps_S × Int32 × Int32) ⊕ (ps_S × Int32)) :=
  (if 3 ≤ v6_79 then
          some (.inr (T79, v5_79))
        else
          ((f_X6_at T79 29 v6_79).bind fun r94 =>
          ((f_X5_isHonest T79 r94).bind fun r105 =>
          (if r105 = 0 then
            f_X10_tell_J130 v6_79 T79 v5_79
          else
            (ps_b2 (f_X4_keep T79 r94 p2 p3 p4) fun r121 S121 =>
            (if r121 = 0 then
              f_X10_tell_J130 v6_79 S121 v5_79
            else
              f_X10_tell_J130 v6_79 S121 (v5_79 + 1)))))))
def f_X10_tell (S : ps_S) (p1 : Int32) (p2 : Int32) (p3 : Int32) (p4 : Int32) : Option (Nat ⊕ (Int32 × ps_S)) :=
  (ps_bx (f_X10_needPeer S p1) fun _ =>
  (ps_bx (f_X10_needBelow p2 256) fun _ =>
  (ps_bx (f_X10_needBelow p3 1000) fun _ =>
  (ps_bx (f_X10_needBelow p4 1000) fun _ =>
  (ps_bx (f_X10_needOnline S p1) fun _ =>
  ((f_X4_mayTell S p1 p2).bind fun r38 =>
  (if r38 = 0 then
    some (.inl 2)
  else
    ((f_X4_claim S p1 p2).bind fun S60 =>
    ((f_X7_run S60 p1 p2 2).bind fun S70 =>
    (ps_b2 (ps_it (fun (a : ps_S × Int32 × Int32) => f_X10_tell_L79 p2 p3 p4 a.1 a.2.1 a.2.2) ps_fu (S70, 0, 0)) (fun S79 e5_79 => some (.inr (e5_79, S79)))))))))))))
theorem inX10_tell_X10 : ∀ q ∈ wsX100, q ∈ wsX10_tell := fun _ h => List.mem_cons_of_mem _ (List.mem_append_left _ (List.mem_append_left _ (List.mem_append_left _ (List.mem_append_left _ (List.mem_append_left _ (List.mem_append_left _ (List.mem_append_left _ (List.mem_append_right _ h))))))))
theorem mX10_tell_20 : Cond.fieldLink RX10 20 (TX10 0).1 (TX10 0).2.1 (TX10 0).2.2.1 ∈ wsX10_tell := List.mem_of_getElem? (i := 5) rfl
theorem mX10_tell_24 : Cond.fieldLink RX10 24 (TX10 1).1 (TX10 1).2.1 (TX10 1).2.2.1 ∈ wsX10_tell := List.mem_of_getElem? (i := 4) rfl
theorem mX10_tell_57 : Cond.fieldLink RX10 57 (TX10 5).1 (TX10 5).2.1 (TX10 5).2.2.1 ∈ wsX10_tell := List.mem_of_getElem? (i := 3) rfl
theorem mX10_tell_i84 : Cond.initialized "java/lang/IllegalStateException" ∈ wsX10_tell := List.mem_of_getElem? (i := 2) rfl
theorem mX10_tell_k84 : Cond.classLink RX10 84 "java/lang/IllegalStateException" ∈ wsX10_tell := List.mem_of_getElem? (i := 1) rfl
theorem gX10_tell_t88 : ∀ q ∈ (vx_atS RX10 88 "java/lang/IllegalStateException" ["java/lang/RuntimeException", "java/lang/Exception"]).filter goodWord, q ∈ wsX10_tell := fun _ h => List.mem_cons_of_mem _ (List.mem_append_left _ (List.mem_append_left _ (List.mem_append_right _ h)))
set_option maxHeartbeats 4000000 in
set_option maxRecDepth 100000 in
theorem c_X10_tell (l : Launch) (hflags : l.stackTraces = false) {w : ps_X} (hw : ps_ww w) {S : ps_S} {p1 p2 p3 p4 : Int32} {z : (Nat ⊕ (Int32 × ps_S))} (h : f_X10_tell S p1 p2 p3 p4 = some z) : ps_MXI l yX10_tell wsX10_tell (ps_rx 7 6 36 133) w [.ref (w.2.1 0), .int p1, .int p2, .int p3, .int p4] S z 6 36 := by
  refine ps_mkXI hflags (cc := cX10_tell) (maxL := 8) (own := RX10) (by decide +kernel) rfl rfl rfl (Nat.le_of_ble_eq_true rfl) rfl (fun G XC hl hX hthr hret => ?_)
  have hG := hX.1
  unfold f_X10_tell at h
  refine ps_aload_n hG dX10_tell_0 rfl 0 rfl ?_
  refine ps_iload_n hG dX10_tell_1 rfl 1 rfl ?_
  obtain ⟨⟨q2, hr2⟩, h2⟩ := ps_dx h
  replace h2 := h2 q2 hr2
  refine ps_xcallVV (As := [.int p1]) (rest := []) (nA := 1) hX (c_X10_needPeer _ hX.2.2.2.1 hw hr2) gX10_tell_X10_needPeer rfl (by decide +kernel) rfl ⟨Nat.le_of_ble_eq_true rfl, Nat.le_of_ble_eq_true rfl⟩ ⟨rfl, rfl⟩ ⟨Nat.le_of_ble_eq_true rfl, Nat.le_of_ble_eq_true rfl⟩ ⟨Nat.le_of_ble_eq_true rfl, Nat.le_of_ble_eq_true rfl⟩ (ps_lt hw ps_q0.2.2.1) (ps_cel_19 ps_q0.1 _) rfl rfl (Nat.le_of_ble_eq_true rfl) dX10_tell_2 (fun e he => hthr e (h2.1 e he)) (fun hz => ?_)
  replace h := h2.2 _ hz
  refine ps_iload_n hG dX10_tell_5 rfl 2 rfl ?_
  refine ps_sipush (v := 256) hG dX10_tell_6 (by decide) ?_
  obtain ⟨⟨q9, hr9⟩, h9⟩ := ps_dx h
  replace h9 := h9 q9 hr9
  refine ps_xcallSV (As := [.int p2, .int 256]) (rest := []) (nA := 2) hX (c_X10_needBelow _ hX.2.2.2.1 hw hr9) gX10_tell_X10_needBelow rfl (by decide +kernel) rfl ⟨Nat.le_of_ble_eq_true rfl, Nat.le_of_ble_eq_true rfl⟩ ⟨rfl, rfl⟩ ⟨Nat.le_of_ble_eq_true rfl, Nat.le_of_ble_eq_true rfl⟩ ⟨Nat.le_of_ble_eq_true rfl, Nat.le_of_ble_eq_true rfl⟩ rfl (Nat.le_of_ble_eq_true rfl) dX10_tell_9 (fun e he => hthr e (h9.1 e he)) (fun hz => ?_)
  replace h := h9.2 _ hz
  refine ps_iload_n hG dX10_tell_12 rfl 3 rfl ?_
  refine ps_sipush (v := 1000) hG dX10_tell_13 (by decide) ?_
  obtain ⟨⟨q16, hr16⟩, h16⟩ := ps_dx h
  replace h16 := h16 q16 hr16
  refine ps_xcallSV (As := [.int p3, .int 1000]) (rest := []) (nA := 2) hX (c_X10_needBelow _ hX.2.2.2.1 hw hr16) gX10_tell_X10_needBelow rfl (by decide +kernel) rfl ⟨Nat.le_of_ble_eq_true rfl, Nat.le_of_ble_eq_true rfl⟩ ⟨rfl, rfl⟩ ⟨Nat.le_of_ble_eq_true rfl, Nat.le_of_ble_eq_true rfl⟩ ⟨Nat.le_of_ble_eq_true rfl, Nat.le_of_ble_eq_true rfl⟩ rfl (Nat.le_of_ble_eq_true rfl) dX10_tell_16 (fun e he => hthr e (h16.1 e he)) (fun hz => ?_)
  replace h := h16.2 _ hz
  refine ps_iload hG dX10_tell_19 4 rfl ?_
  refine ps_sipush (v := 1000) hG dX10_tell_21 (by decide) ?_
  obtain ⟨⟨q24, hr24⟩, h24⟩ := ps_dx h
  replace h24 := h24 q24 hr24
  refine ps_xcallSV (As := [.int p4, .int 1000]) (rest := []) (nA := 2) hX (c_X10_needBelow _ hX.2.2.2.1 hw hr24) gX10_tell_X10_needBelow rfl (by decide +kernel) rfl ⟨Nat.le_of_ble_eq_true rfl, Nat.le_of_ble_eq_true rfl⟩ ⟨rfl, rfl⟩ ⟨Nat.le_of_ble_eq_true rfl, Nat.le_of_ble_eq_true rfl⟩ ⟨Nat.le_of_ble_eq_true rfl, Nat.le_of_ble_eq_true rfl⟩ rfl (Nat.le_of_ble_eq_true rfl) dX10_tell_24 (fun e he => hthr e (h24.1 e he)) (fun hz => ?_)
  replace h := h24.2 _ hz
  refine ps_aload_n hG dX10_tell_27 rfl 0 rfl ?_
  refine ps_iload_n hG dX10_tell_28 rfl 1 rfl ?_
  obtain ⟨⟨q29, hr29⟩, h29⟩ := ps_dx h
  replace h29 := h29 q29 hr29
  refine ps_xcallVV (As := [.int p1]) (rest := []) (nA := 1) hX (c_X10_needOnline _ hX.2.2.2.1 hw hr29) gX10_tell_X10_needOnline rfl (by decide +kernel) rfl ⟨Nat.le_of_ble_eq_true rfl, Nat.le_of_ble_eq_true rfl⟩ ⟨rfl, rfl⟩ ⟨Nat.le_of_ble_eq_true rfl, Nat.le_of_ble_eq_true rfl⟩ ⟨Nat.le_of_ble_eq_true rfl, Nat.le_of_ble_eq_true rfl⟩ (ps_lt hw ps_q0.2.2.1) (ps_cel_19 ps_q0.1 _) rfl rfl (Nat.le_of_ble_eq_true rfl) dX10_tell_29 (fun e he => hthr e (h29.1 e he)) (fun hz => ?_)
  replace h := h29.2 _ hz
  refine ps_aload_n hG dX10_tell_32 rfl 0 rfl ?_
  refine ps_get19_5 hG hw inX10_tell_X10 ps_q0.1 (ps_lt hw ps_q0.2.2.1) mX10_tell_57 dX10_tell_33 ?_
  refine ps_iload_n hG dX10_tell_36 rfl 1 rfl ?_
  refine ps_iload_n hG dX10_tell_37 rfl 2 rfl ?_
  obtain ⟨r38, hr38, h⟩ := ps_bd h
  refine ps_callVI (As := [.int p1, .int p2]) (rest := []) (nA := 2) hG (c_X4_mayTell _ hw hr38) gX10_tell_X4_mayTell rfl (by decide +kernel) rfl ⟨Nat.le_of_ble_eq_true rfl, Nat.le_of_ble_eq_true rfl⟩ ⟨rfl, rfl⟩ ⟨Nat.le_of_ble_eq_true rfl, Nat.le_of_ble_eq_true rfl⟩ (ps_lt hw ps_q59.2.2.1) (ps_cel_13 ps_q59.1 _) rfl rfl (Nat.le_of_ble_eq_true rfl) dX10_tell_38 ?_
  refine ps_if_ne (tgt := 54) hG dX10_tell_41 (by decide) (fun c41 => ?_) (fun c41 => ?_)
  · replace h := ps_in c41 h
    refine ps_aload_n hG dX10_tell_54 rfl 0 rfl ?_
    refine ps_get19_5 hG hw inX10_tell_X10 ps_q0.1 (ps_lt hw ps_q0.2.2.1) mX10_tell_57 dX10_tell_55 ?_
    refine ps_iload_n hG dX10_tell_58 rfl 1 rfl ?_
    refine ps_iload_n hG dX10_tell_59 rfl 2 rfl ?_
    obtain ⟨S60, hr60, h⟩ := ps_bd h
    refine ps_callVV (As := [.int p1, .int p2]) (rest := []) (nA := 2) hG (c_X4_claim _ hw hr60) gX10_tell_X4_claim rfl (by decide +kernel) rfl ⟨Nat.le_of_ble_eq_true rfl, Nat.le_of_ble_eq_true rfl⟩ ⟨rfl, rfl⟩ ⟨Nat.le_of_ble_eq_true rfl, Nat.le_of_ble_eq_true rfl⟩ (ps_lt hw ps_q59.2.2.1) (ps_cel_13 ps_q59.1 _) rfl rfl (Nat.le_of_ble_eq_true rfl) dX10_tell_60 ?_
    refine ps_aload_n hG dX10_tell_63 rfl 0 rfl ?_
    refine ps_get19_1 hG hw inX10_tell_X10 ps_q0.1 (ps_lt hw ps_q0.2.2.1) mX10_tell_24 dX10_tell_64 ?_
    refine ps_iload_n hG dX10_tell_67 rfl 1 rfl ?_
    refine ps_iload_n hG dX10_tell_68 rfl 2 rfl ?_
    refine ps_iconst (v := 2) hG dX10_tell_69 (by decide) ?_
    obtain ⟨S70, hr70, h⟩ := ps_bd h
    refine ps_callVV (As := [.int p1, .int p2, .int 2]) (rest := []) (nA := 3) hG (c_X7_run _ hw hr70) gX10_tell_X7_run rfl (by decide +kernel) rfl ⟨Nat.le_of_ble_eq_true rfl, Nat.le_of_ble_eq_true rfl⟩ ⟨rfl, rfl⟩ ⟨Nat.le_of_ble_eq_true rfl, Nat.le_of_ble_eq_true rfl⟩ (ps_lt hw ps_q22.2.2.1) (ps_cel_16 ps_q22.1 _) rfl rfl (Nat.le_of_ble_eq_true rfl) dX10_tell_70 ?_
    refine ps_iconst (v := 0) hG dX10_tell_73 (by decide) ?_
    refine ps_istore (lv' := [(5, .int 0), (0, .ref (w.2.1 0)), (1, .int p1), (2, .int p2), (3, .int p3), (4, .int p4)]) hG dX10_tell_74 (by decide) rfl ?_
    refine ps_iconst (v := 0) hG dX10_tell_76 (by decide) ?_
    refine ps_istore (lv' := [(6, .int 0), (5, .int 0), (0, .ref (w.2.1 0)), (1, .int p1), (2, .int p2), (3, .int p3), (4, .int p4)]) hG dX10_tell_77 (by decide) rfl ?_
    obtain ⟨S79, e5_79, hq79, h⟩ := ps_d2 h
    refine ps_widen (Nat.le_of_ble_eq_true rfl) (Nat.le_of_ble_eq_true rfl) (ps_sub [2, 4, 5, 6, 1, 0] rfl (ps_itV (fun (a : ps_S × Int32 × Int32) => ps_V G 8 5 30 w a.1 79 [(0, .ref (w.2.1 0)), (2, .int p2), (3, .int p3), (4, .int p4), (5, .int a.2.1), (6, .int a.2.2)] []) (fun (b : ps_S × Int32) => ps_V G 8 5 30 w b.1 136 [(5, .int b.2)] []) ?_ _ _ _ hq79 ?_))
    · intro a r9 h kc ke
      obtain ⟨T79, v5_79, v6_79⟩ := a
      replace h : f_X10_tell_L79 p2 p3 p4 T79 v5_79 v6_79 = some r9 := h
      show ps_V G 8 5 30 w T79 79 [(0, .ref (w.2.1 0)), (2, .int p2), (3, .int p3), (4, .int p4), (5, .int v5_79), (6, .int v6_79)] []
      unfold f_X10_tell_L79 at h
      refine ps_iload hG dX10_tell_79 5 rfl ?_
      refine ps_iconst (v := 3) hG dX10_tell_81 (by decide) ?_
      refine ps_icmp_ge (tgt := 136) hG dX10_tell_82 (by decide) (fun c82 => ?_) (fun c82 => ?_)
      · replace h := ps_ip c82 h
        cases h
        exact ps_widen (Nat.le_of_ble_eq_true rfl) (Nat.le_of_ble_eq_true rfl) (ps_sub [4] rfl (ke _ rfl))
      · replace h := ps_in c82 h
        refine ps_aload_n hG dX10_tell_85 rfl 0 rfl ?_
        refine ps_get19_1 hG hw inX10_tell_X10 ps_q0.1 (ps_lt hw ps_q0.2.2.1) mX10_tell_24 dX10_tell_86 ?_
        refine ps_callVR (As := []) (rest := []) (nA := 0) hG (c_X7_result _ hw) gX10_tell_X7_result rfl (by decide +kernel) rfl ⟨Nat.le_of_ble_eq_true rfl, Nat.le_of_ble_eq_true rfl⟩ ⟨rfl, rfl⟩ ⟨Nat.le_of_ble_eq_true rfl, Nat.le_of_ble_eq_true rfl⟩ (ps_lt hw ps_q22.2.2.1) (ps_cel_16 ps_q22.1 _) rfl rfl (Nat.le_of_ble_eq_true rfl) dX10_tell_89 ?_
        refine ps_iload hG dX10_tell_92 5 rfl ?_
        obtain ⟨r94, hr94, h⟩ := ps_bd h
        refine ps_callVI (As := [.int v6_79]) (rest := []) (nA := 1) hG (c_X6_at _ hw ps_isR_29 hr94) gX10_tell_X6_at rfl (by decide +kernel) rfl ⟨Nat.le_of_ble_eq_true rfl, Nat.le_of_ble_eq_true rfl⟩ ⟨rfl, rfl⟩ ⟨Nat.le_of_ble_eq_true rfl, Nat.le_of_ble_eq_true rfl⟩ (ps_lt hw ps_q29.2.2.1) (ps_cel_15 ps_q29.1 _) rfl rfl (Nat.le_of_ble_eq_true rfl) dX10_tell_94 ?_
        refine ps_istore (lv' := [(7, .int r94), (0, .ref (w.2.1 0)), (2, .int p2), (3, .int p3), (4, .int p4), (5, .int v5_79), (6, .int v6_79)]) hG dX10_tell_97 (by decide) rfl ?_
        refine ps_aload_n hG dX10_tell_99 rfl 1 rfl ?_
        refine ps_get19_0 hG hw inX10_tell_X10 ps_q0.1 (ps_lt hw ps_q0.2.2.1) mX10_tell_20 dX10_tell_100 ?_
        refine ps_iload hG dX10_tell_103 0 rfl ?_
        obtain ⟨r105, hr105, h⟩ := ps_bd h
        refine ps_callVI (As := [.int r94]) (rest := []) (nA := 1) hG (c_X5_isHonest _ hw hr105) gX10_tell_X5_isHonest rfl (by decide +kernel) rfl ⟨Nat.le_of_ble_eq_true rfl, Nat.le_of_ble_eq_true rfl⟩ ⟨rfl, rfl⟩ ⟨Nat.le_of_ble_eq_true rfl, Nat.le_of_ble_eq_true rfl⟩ (ps_lt hw ps_q1.2.2.1) (ps_cel_14 ps_q1.1 _) rfl rfl (Nat.le_of_ble_eq_true rfl) dX10_tell_105 ?_
        have hJ130 : ∀ (T130 : ps_S) (v5_130 : Int32), f_X10_tell_J130 v6_79 T130 v5_130 = some r9 → ps_V G 8 5 30 w T130 130 [(0, .ref (w.2.1 0)), (2, .int p2), (3, .int p3), (4, .int p4), (5, .int v5_130), (6, .int v6_79)] [] := by
          intro T130 v5_130 h
          unfold f_X10_tell_J130 at h
          refine ps_iinc (lv' := [(6, .int (v6_79 + 1)), (0, .ref (w.2.1 0)), (2, .int p2), (3, .int p3), (4, .int p4), (5, .int v5_130)]) hG dX10_tell_130 5 rfl (by rfl) (by decide) rfl ?_
          refine ps_goto (tgt := 79) hG dX10_tell_133 (by decide) ?_
          cases h
          exact ps_widen (Nat.le_of_ble_eq_true rfl) (Nat.le_of_ble_eq_true rfl) (ps_sub [1, 2, 3, 4, 5, 0] rfl (kc _ rfl))
        refine ps_if_eq (tgt := 130) hG dX10_tell_108 (by decide) (fun c108 => ?_) (fun c108 => ?_)
        · replace h := ps_ip c108 h
          exact ps_widen (Nat.le_of_ble_eq_true rfl) (Nat.le_of_ble_eq_true rfl) (ps_sub [1, 2, 3, 4, 5, 6] rfl (hJ130 T79 v5_79 h))
        · replace h := ps_in c108 h
          refine ps_aload_n hG dX10_tell_111 rfl 1 rfl ?_
          refine ps_get19_5 hG hw inX10_tell_X10 ps_q0.1 (ps_lt hw ps_q0.2.2.1) mX10_tell_57 dX10_tell_112 ?_
          refine ps_iload hG dX10_tell_115 0 rfl ?_
          refine ps_iload_n hG dX10_tell_117 rfl 2 rfl ?_
          refine ps_iload_n hG dX10_tell_118 rfl 3 rfl ?_
          refine ps_iload hG dX10_tell_119 4 rfl ?_
          obtain ⟨r121, S121, hr121, h⟩ := ps_d2 h
          refine ps_callVI (As := [.int r94, .int p2, .int p3, .int p4]) (rest := []) (nA := 4) hG (c_X4_keep _ hw hr121) gX10_tell_X4_keep rfl (by decide +kernel) rfl ⟨Nat.le_of_ble_eq_true rfl, Nat.le_of_ble_eq_true rfl⟩ ⟨rfl, rfl⟩ ⟨Nat.le_of_ble_eq_true rfl, Nat.le_of_ble_eq_true rfl⟩ (ps_lt hw ps_q59.2.2.1) (ps_cel_13 ps_q59.1 _) rfl rfl (Nat.le_of_ble_eq_true rfl) dX10_tell_121 ?_
          refine ps_if_eq (tgt := 130) hG dX10_tell_124 (by decide) (fun c124 => ?_) (fun c124 => ?_)
          · replace h := ps_ip c124 h
            exact ps_widen (Nat.le_of_ble_eq_true rfl) (Nat.le_of_ble_eq_true rfl) (ps_sub [1, 2, 3, 4, 5, 6] rfl (hJ130 S121 v5_79 h))
          · replace h := ps_in c124 h
            refine ps_iinc (lv' := [(5, .int (v5_79 + 1)), (7, .int r94), (0, .ref (w.2.1 0)), (2, .int p2), (3, .int p3), (4, .int p4), (6, .int v6_79)]) hG dX10_tell_127 5 rfl (by rfl) (by decide) rfl ?_
            exact ps_widen (Nat.le_of_ble_eq_true rfl) (Nat.le_of_ble_eq_true rfl) (ps_sub [2, 3, 4, 5, 0, 6] rfl (hJ130 S121 (v5_79 + 1) h))
    · show ps_V G 8 5 30 w S79 136 [(5, .int e5_79)] []
      refine ps_iload hG dX10_tell_136 0 rfl ?_
      cases h
      exact hret _ _ rfl _ _ _ _ (Nat.le_of_ble_eq_true rfl) (Nat.le_of_ble_eq_true rfl) dX10_tell_138
  · replace h := ps_ip c41 h
    cases h
    exact ps_throw (cls := "java/lang/IllegalStateException") (tx := "the name is another one's") (rest := []) hX 2 rfl (hthr 2 rfl) mX10_tell_k84 mX10_tell_i84 (by decide) gX10_tell_t88 ps_tn88 (by decide +kernel) ps_tg88 (Nat.le_of_ble_eq_true rfl) (Nat.le_of_ble_eq_true rfl) ⟨Nat.le_of_ble_eq_true rfl, Nat.le_of_ble_eq_true rfl⟩ ⟨Nat.le_of_ble_eq_true rfl, Nat.le_of_ble_eq_true rfl⟩ dX10_tell_44 dX10_tell_47 dX10_tell_48 dX10_tell_50 dX10_tell_53
def f_X10_name_J92 (v4_32 : Int32) (v3_92 : Int32) : Option ((Int32 × Int32) ⊕ (Int32)) :=
  some (.inl (v3_92, v4_32 + 1))
def f_X10_name_J78 (v3_32 : Int32) (v4_32 : Int32) (s0_78 : Int32) : Option ((Int32 × Int32) ⊕ (Int32)) :=
  ((f_X4_isNewer s0_78 v3_32).bind fun r83 =>
          (if r83 = 0 then
            f_X10_name_J92 v4_32 v3_32
          else
            f_X10_name_J92 v4_32 s0_78))
def f_X10_name_L32 (p2 : Int32) (S24 : ps_S) (v3_32 : Int32) (v4_32 : Int32) : Option ((Int32 × Int32) ⊕ (Int32)) :=
  (if 3 ≤ v4_32 then
        some (.inr v3_32)
      else
        ((f_X6_at S24 29 v4_32).bind fun r47 =>
        ((f_X5_isHonest S24 r47).bind fun r58 =>
        (if r58 = 0 then
          f_X10_name_J78 v3_32 v4_32 (-1)
        else
          ((f_X4_keptBy S24 r47 p2).bind fun r71 =>
          f_X10_name_J78 v3_32 v4_32 r71)))))
def f_X10_name (S : ps_S) (p1 : Int32) (p2 : Int32) : Option (Nat ⊕ (Int32 × ps_S)) :=
  (ps_bx (f_X10_needPeer S p1) fun _ =>
  (ps_bx (f_X10_needBelow p2 256) fun _ =>
  (ps_bx (f_X10_needOnline S p1) fun _ =>
  ((f_X7_run S p1 p2 2).bind fun S24 =>
  ((ps_it (fun (a : Int32 × Int32) => f_X10_name_L32 p2 S24 a.1 a.2) ps_fu ((-1), 0)).bind (fun e3_32 => some (.inr (e3_32, S24))))))))
theorem inX10_name_X10 : ∀ q ∈ wsX100, q ∈ wsX10_name := fun _ h => List.mem_cons_of_mem _ (List.mem_append_left _ (List.mem_append_left _ (List.mem_append_left _ (List.mem_append_left _ (List.mem_append_left _ (List.mem_append_left _ (List.mem_append_left _ (List.mem_append_right _ h))))))))
theorem mX10_name_20 : Cond.fieldLink RX10 20 (TX10 0).1 (TX10 0).2.1 (TX10 0).2.2.1 ∈ wsX10_name := List.mem_of_getElem? (i := 2) rfl
theorem mX10_name_24 : Cond.fieldLink RX10 24 (TX10 1).1 (TX10 1).2.1 (TX10 1).2.2.1 ∈ wsX10_name := List.mem_of_getElem? (i := 1) rfl
theorem mX10_name_57 : Cond.fieldLink RX10 57 (TX10 5).1 (TX10 5).2.1 (TX10 5).2.2.1 ∈ wsX10_name := List.mem_of_getElem? (i := 3) rfl
set_option maxHeartbeats 4000000 in
set_option maxRecDepth 100000 in
theorem c_X10_name (l : Launch) (hflags : l.stackTraces = false) {w : ps_X} (hw : ps_ww w) {S : ps_S} {p1 p2 : Int32} {z : (Nat ⊕ (Int32 × ps_S))} (h : f_X10_name S p1 p2 = some z) : ps_MXI l yX10_name wsX10_name (ps_rx 7 3 18 133) w [.ref (w.2.1 0), .int p1, .int p2] S z 3 18 := by
  refine ps_mkXI hflags (cc := cX10_name) (maxL := 7) (own := RX10) (by decide +kernel) rfl rfl rfl (Nat.le_of_ble_eq_true rfl) rfl (fun G XC hl hX hthr hret => ?_)
  have hG := hX.1
  unfold f_X10_name at h
  refine ps_aload_n hG dX10_name_0 rfl 0 rfl ?_
  refine ps_iload_n hG dX10_name_1 rfl 1 rfl ?_
  obtain ⟨⟨q2, hr2⟩, h2⟩ := ps_dx h
  replace h2 := h2 q2 hr2
  refine ps_xcallVV (As := [.int p1]) (rest := []) (nA := 1) hX (c_X10_needPeer _ hX.2.2.2.1 hw hr2) gX10_name_X10_needPeer rfl (by decide +kernel) rfl ⟨Nat.le_of_ble_eq_true rfl, Nat.le_of_ble_eq_true rfl⟩ ⟨rfl, rfl⟩ ⟨Nat.le_of_ble_eq_true rfl, Nat.le_of_ble_eq_true rfl⟩ ⟨Nat.le_of_ble_eq_true rfl, Nat.le_of_ble_eq_true rfl⟩ (ps_lt hw ps_q0.2.2.1) (ps_cel_19 ps_q0.1 _) rfl rfl (Nat.le_of_ble_eq_true rfl) dX10_name_2 (fun e he => hthr e (h2.1 e he)) (fun hz => ?_)
  replace h := h2.2 _ hz
  refine ps_iload_n hG dX10_name_5 rfl 2 rfl ?_
  refine ps_sipush (v := 256) hG dX10_name_6 (by decide) ?_
  obtain ⟨⟨q9, hr9⟩, h9⟩ := ps_dx h
  replace h9 := h9 q9 hr9
  refine ps_xcallSV (As := [.int p2, .int 256]) (rest := []) (nA := 2) hX (c_X10_needBelow _ hX.2.2.2.1 hw hr9) gX10_name_X10_needBelow rfl (by decide +kernel) rfl ⟨Nat.le_of_ble_eq_true rfl, Nat.le_of_ble_eq_true rfl⟩ ⟨rfl, rfl⟩ ⟨Nat.le_of_ble_eq_true rfl, Nat.le_of_ble_eq_true rfl⟩ ⟨Nat.le_of_ble_eq_true rfl, Nat.le_of_ble_eq_true rfl⟩ rfl (Nat.le_of_ble_eq_true rfl) dX10_name_9 (fun e he => hthr e (h9.1 e he)) (fun hz => ?_)
  replace h := h9.2 _ hz
  refine ps_aload_n hG dX10_name_12 rfl 0 rfl ?_
  refine ps_iload_n hG dX10_name_13 rfl 1 rfl ?_
  obtain ⟨⟨q14, hr14⟩, h14⟩ := ps_dx h
  replace h14 := h14 q14 hr14
  refine ps_xcallVV (As := [.int p1]) (rest := []) (nA := 1) hX (c_X10_needOnline _ hX.2.2.2.1 hw hr14) gX10_name_X10_needOnline rfl (by decide +kernel) rfl ⟨Nat.le_of_ble_eq_true rfl, Nat.le_of_ble_eq_true rfl⟩ ⟨rfl, rfl⟩ ⟨Nat.le_of_ble_eq_true rfl, Nat.le_of_ble_eq_true rfl⟩ ⟨Nat.le_of_ble_eq_true rfl, Nat.le_of_ble_eq_true rfl⟩ (ps_lt hw ps_q0.2.2.1) (ps_cel_19 ps_q0.1 _) rfl rfl (Nat.le_of_ble_eq_true rfl) dX10_name_14 (fun e he => hthr e (h14.1 e he)) (fun hz => ?_)
  replace h := h14.2 _ hz
  refine ps_aload_n hG dX10_name_17 rfl 0 rfl ?_
  refine ps_get19_1 hG hw inX10_name_X10 ps_q0.1 (ps_lt hw ps_q0.2.2.1) mX10_name_24 dX10_name_18 ?_
  refine ps_iload_n hG dX10_name_21 rfl 1 rfl ?_
  refine ps_iload_n hG dX10_name_22 rfl 2 rfl ?_
  refine ps_iconst (v := 2) hG dX10_name_23 (by decide) ?_
  obtain ⟨S24, hr24, h⟩ := ps_bd h
  refine ps_callVV (As := [.int p1, .int p2, .int 2]) (rest := []) (nA := 3) hG (c_X7_run _ hw hr24) gX10_name_X7_run rfl (by decide +kernel) rfl ⟨Nat.le_of_ble_eq_true rfl, Nat.le_of_ble_eq_true rfl⟩ ⟨rfl, rfl⟩ ⟨Nat.le_of_ble_eq_true rfl, Nat.le_of_ble_eq_true rfl⟩ (ps_lt hw ps_q22.2.2.1) (ps_cel_16 ps_q22.1 _) rfl rfl (Nat.le_of_ble_eq_true rfl) dX10_name_24 ?_
  refine ps_iconst (v := (-1)) hG dX10_name_27 (by decide) ?_
  refine ps_istore_n (lv' := [(3, .int (-1)), (0, .ref (w.2.1 0)), (1, .int p1), (2, .int p2)]) hG dX10_name_28 rfl (by decide) rfl ?_
  refine ps_iconst (v := 0) hG dX10_name_29 (by decide) ?_
  refine ps_istore (lv' := [(4, .int 0), (3, .int (-1)), (0, .ref (w.2.1 0)), (1, .int p1), (2, .int p2)]) hG dX10_name_30 (by decide) rfl ?_
  obtain ⟨e3_32, hq32, h⟩ := ps_bd h
  refine ps_widen (Nat.le_of_ble_eq_true rfl) (Nat.le_of_ble_eq_true rfl) (ps_sub [2, 4, 1, 0] rfl (ps_itV (fun (a : Int32 × Int32) => ps_V G 7 3 18 w S24 32 [(0, .ref (w.2.1 0)), (2, .int p2), (3, .int a.1), (4, .int a.2)] []) (fun (b : Int32) => ps_V G 7 3 18 w S24 98 [(3, .int b)] []) ?_ _ _ _ hq32 ?_))
  · intro a r9 h kc ke
    obtain ⟨v3_32, v4_32⟩ := a
    replace h : f_X10_name_L32 p2 S24 v3_32 v4_32 = some r9 := h
    show ps_V G 7 3 18 w S24 32 [(0, .ref (w.2.1 0)), (2, .int p2), (3, .int v3_32), (4, .int v4_32)] []
    unfold f_X10_name_L32 at h
    refine ps_iload hG dX10_name_32 3 rfl ?_
    refine ps_iconst (v := 3) hG dX10_name_34 (by decide) ?_
    refine ps_icmp_ge (tgt := 98) hG dX10_name_35 (by decide) (fun c35 => ?_) (fun c35 => ?_)
    · replace h := ps_ip c35 h
      cases h
      exact ps_widen (Nat.le_of_ble_eq_true rfl) (Nat.le_of_ble_eq_true rfl) (ps_sub [2] rfl (ke _ rfl))
    · replace h := ps_in c35 h
      refine ps_aload_n hG dX10_name_38 rfl 0 rfl ?_
      refine ps_get19_1 hG hw inX10_name_X10 ps_q0.1 (ps_lt hw ps_q0.2.2.1) mX10_name_24 dX10_name_39 ?_
      refine ps_callVR (As := []) (rest := []) (nA := 0) hG (c_X7_result _ hw) gX10_name_X7_result rfl (by decide +kernel) rfl ⟨Nat.le_of_ble_eq_true rfl, Nat.le_of_ble_eq_true rfl⟩ ⟨rfl, rfl⟩ ⟨Nat.le_of_ble_eq_true rfl, Nat.le_of_ble_eq_true rfl⟩ (ps_lt hw ps_q22.2.2.1) (ps_cel_16 ps_q22.1 _) rfl rfl (Nat.le_of_ble_eq_true rfl) dX10_name_42 ?_
      refine ps_iload hG dX10_name_45 3 rfl ?_
      obtain ⟨r47, hr47, h⟩ := ps_bd h
      refine ps_callVI (As := [.int v4_32]) (rest := []) (nA := 1) hG (c_X6_at _ hw ps_isR_29 hr47) gX10_name_X6_at rfl (by decide +kernel) rfl ⟨Nat.le_of_ble_eq_true rfl, Nat.le_of_ble_eq_true rfl⟩ ⟨rfl, rfl⟩ ⟨Nat.le_of_ble_eq_true rfl, Nat.le_of_ble_eq_true rfl⟩ (ps_lt hw ps_q29.2.2.1) (ps_cel_15 ps_q29.1 _) rfl rfl (Nat.le_of_ble_eq_true rfl) dX10_name_47 ?_
      refine ps_istore (lv' := [(5, .int r47), (0, .ref (w.2.1 0)), (2, .int p2), (3, .int v3_32), (4, .int v4_32)]) hG dX10_name_50 (by decide) rfl ?_
      refine ps_aload_n hG dX10_name_52 rfl 1 rfl ?_
      refine ps_get19_0 hG hw inX10_name_X10 ps_q0.1 (ps_lt hw ps_q0.2.2.1) mX10_name_20 dX10_name_53 ?_
      refine ps_iload hG dX10_name_56 0 rfl ?_
      obtain ⟨r58, hr58, h⟩ := ps_bd h
      refine ps_callVI (As := [.int r47]) (rest := []) (nA := 1) hG (c_X5_isHonest _ hw hr58) gX10_name_X5_isHonest rfl (by decide +kernel) rfl ⟨Nat.le_of_ble_eq_true rfl, Nat.le_of_ble_eq_true rfl⟩ ⟨rfl, rfl⟩ ⟨Nat.le_of_ble_eq_true rfl, Nat.le_of_ble_eq_true rfl⟩ (ps_lt hw ps_q1.2.2.1) (ps_cel_14 ps_q1.1 _) rfl rfl (Nat.le_of_ble_eq_true rfl) dX10_name_58 ?_
      have hJ78 : ∀ (s0_78 : Int32), f_X10_name_J78 v3_32 v4_32 s0_78 = some r9 → ps_V G 7 3 18 w S24 78 [(0, .ref (w.2.1 0)), (2, .int p2), (3, .int v3_32), (4, .int v4_32)] [.int s0_78] := by
        intro s0_78 h
        unfold f_X10_name_J78 at h
        refine ps_istore (lv' := [(6, .int s0_78), (0, .ref (w.2.1 0)), (2, .int p2), (3, .int v3_32), (4, .int v4_32)]) hG dX10_name_78 (by decide) rfl ?_
        refine ps_iload hG dX10_name_80 0 rfl ?_
        refine ps_iload_n hG dX10_name_82 rfl 3 rfl ?_
        obtain ⟨r83, hr83, h⟩ := ps_bd h
        refine ps_callSI (As := [.int s0_78, .int v3_32]) (rest := []) (nA := 2) hG (c_X4_isNewer _ hw hr83) gX10_name_X4_isNewer rfl (by decide +kernel) rfl ⟨Nat.le_of_ble_eq_true rfl, Nat.le_of_ble_eq_true rfl⟩ ⟨rfl, rfl⟩ ⟨Nat.le_of_ble_eq_true rfl, Nat.le_of_ble_eq_true rfl⟩ rfl (Nat.le_of_ble_eq_true rfl) dX10_name_83 ?_
        have hJ92 : ∀ (v3_92 : Int32), f_X10_name_J92 v4_32 v3_92 = some r9 → ps_V G 7 3 18 w S24 92 [(0, .ref (w.2.1 0)), (2, .int p2), (3, .int v3_92), (4, .int v4_32)] [] := by
          intro v3_92 h
          unfold f_X10_name_J92 at h
          refine ps_iinc (lv' := [(4, .int (v4_32 + 1)), (0, .ref (w.2.1 0)), (2, .int p2), (3, .int v3_92)]) hG dX10_name_92 3 rfl (by rfl) (by decide) rfl ?_
          refine ps_goto (tgt := 32) hG dX10_name_95 (by decide) ?_
          cases h
          exact ps_widen (Nat.le_of_ble_eq_true rfl) (Nat.le_of_ble_eq_true rfl) (ps_sub [1, 2, 3, 0] rfl (kc _ rfl))
        refine ps_if_eq (tgt := 92) hG dX10_name_86 (by decide) (fun c86 => ?_) (fun c86 => ?_)
        · replace h := ps_ip c86 h
          exact ps_widen (Nat.le_of_ble_eq_true rfl) (Nat.le_of_ble_eq_true rfl) (ps_sub [1, 2, 3, 4] rfl (hJ92 v3_32 h))
        · replace h := ps_in c86 h
          refine ps_iload hG dX10_name_89 0 rfl ?_
          refine ps_istore_n (lv' := [(3, .int s0_78), (6, .int s0_78), (0, .ref (w.2.1 0)), (2, .int p2), (4, .int v4_32)]) hG dX10_name_91 rfl (by decide) rfl ?_
          exact ps_widen (Nat.le_of_ble_eq_true rfl) (Nat.le_of_ble_eq_true rfl) (ps_sub [2, 3, 0, 4] rfl (hJ92 s0_78 h))
      refine ps_if_eq (tgt := 77) hG dX10_name_61 (by decide) (fun c61 => ?_) (fun c61 => ?_)
      · replace h := ps_ip c61 h
        refine ps_iconst (v := (-1)) hG dX10_name_77 (by decide) ?_
        exact ps_widen (Nat.le_of_ble_eq_true rfl) (Nat.le_of_ble_eq_true rfl) (ps_sub [1, 2, 3, 4] rfl (hJ78 (-1) h))
      · replace h := ps_in c61 h
        refine ps_aload_n hG dX10_name_64 rfl 1 rfl ?_
        refine ps_get19_5 hG hw inX10_name_X10 ps_q0.1 (ps_lt hw ps_q0.2.2.1) mX10_name_57 dX10_name_65 ?_
        refine ps_iload hG dX10_name_68 0 rfl ?_
        refine ps_iload_n hG dX10_name_70 rfl 2 rfl ?_
        obtain ⟨r71, hr71, h⟩ := ps_bd h
        refine ps_callVI (As := [.int r47, .int p2]) (rest := []) (nA := 2) hG (c_X4_keptBy _ hw hr71) gX10_name_X4_keptBy rfl (by decide +kernel) rfl ⟨Nat.le_of_ble_eq_true rfl, Nat.le_of_ble_eq_true rfl⟩ ⟨rfl, rfl⟩ ⟨Nat.le_of_ble_eq_true rfl, Nat.le_of_ble_eq_true rfl⟩ (ps_lt hw ps_q59.2.2.1) (ps_cel_13 ps_q59.1 _) rfl rfl (Nat.le_of_ble_eq_true rfl) dX10_name_71 ?_
        refine ps_goto (tgt := 78) hG dX10_name_74 (by decide) ?_
        exact ps_widen (Nat.le_of_ble_eq_true rfl) (Nat.le_of_ble_eq_true rfl) (ps_sub [1, 2, 3, 4] rfl (hJ78 r71 h))
  · show ps_V G 7 3 18 w S24 98 [(3, .int e3_32)] []
    refine ps_iload_n hG dX10_name_98 rfl 0 rfl ?_
    cases h
    exact hret _ _ rfl _ _ _ _ (Nat.le_of_ble_eq_true rfl) (Nat.le_of_ble_eq_true rfl) dX10_name_99
def f_X10_spread (S : ps_S) (p1 : Int32) : Option (Nat ⊕ (Int32 × ps_S)) :=
  (ps_bx (f_X10_needPeer S p1) fun _ =>
  (ps_bx (f_X10_needOnline S p1) fun _ =>
  (ps_b2 (f_X3_run S p1) fun r15 S15 =>
  some (.inr (r15, S15)))))
theorem inX10_spread_X10 : ∀ q ∈ wsX100, q ∈ wsX10_spread := fun _ h => List.mem_cons_of_mem _ (List.mem_append_left _ (List.mem_append_left _ (List.mem_append_left _ (List.mem_append_left _ (List.mem_append_right _ h)))))
theorem mX10_spread_64 : Cond.fieldLink RX10 64 (TX10 6).1 (TX10 6).2.1 (TX10 6).2.2.1 ∈ wsX10_spread := List.mem_of_getElem? (i := 1) rfl
set_option maxHeartbeats 4000000 in
set_option maxRecDepth 100000 in
theorem c_X10_spread (l : Launch) (hflags : l.stackTraces = false) {w : ps_X} (hw : ps_ww w) {S : ps_S} {p1 : Int32} {z : (Nat ⊕ (Int32 × ps_S))} (h : f_X10_spread S p1 = some z) : ps_MXI l yX10_spread wsX10_spread (ps_rx 7 2 12 117) w [.ref (w.2.1 0), .int p1] S z 2 12 := by
  refine ps_mkXI hflags (cc := cX10_spread) (maxL := 2) (own := RX10) (by decide +kernel) rfl rfl rfl (Nat.le_of_ble_eq_true rfl) rfl (fun G XC hl hX hthr hret => ?_)
  have hG := hX.1
  unfold f_X10_spread at h
  refine ps_aload_n hG dX10_spread_0 rfl 0 rfl ?_
  refine ps_iload_n hG dX10_spread_1 rfl 1 rfl ?_
  obtain ⟨⟨q2, hr2⟩, h2⟩ := ps_dx h
  replace h2 := h2 q2 hr2
  refine ps_xcallVV (As := [.int p1]) (rest := []) (nA := 1) hX (c_X10_needPeer _ hX.2.2.2.1 hw hr2) gX10_spread_X10_needPeer rfl (by decide +kernel) rfl ⟨Nat.le_of_ble_eq_true rfl, Nat.le_of_ble_eq_true rfl⟩ ⟨rfl, rfl⟩ ⟨Nat.le_of_ble_eq_true rfl, Nat.le_of_ble_eq_true rfl⟩ ⟨Nat.le_of_ble_eq_true rfl, Nat.le_of_ble_eq_true rfl⟩ (ps_lt hw ps_q0.2.2.1) (ps_cel_19 ps_q0.1 _) rfl rfl (Nat.le_of_ble_eq_true rfl) dX10_spread_2 (fun e he => hthr e (h2.1 e he)) (fun hz => ?_)
  replace h := h2.2 _ hz
  refine ps_aload_n hG dX10_spread_5 rfl 0 rfl ?_
  refine ps_iload_n hG dX10_spread_6 rfl 1 rfl ?_
  obtain ⟨⟨q7, hr7⟩, h7⟩ := ps_dx h
  replace h7 := h7 q7 hr7
  refine ps_xcallVV (As := [.int p1]) (rest := []) (nA := 1) hX (c_X10_needOnline _ hX.2.2.2.1 hw hr7) gX10_spread_X10_needOnline rfl (by decide +kernel) rfl ⟨Nat.le_of_ble_eq_true rfl, Nat.le_of_ble_eq_true rfl⟩ ⟨rfl, rfl⟩ ⟨Nat.le_of_ble_eq_true rfl, Nat.le_of_ble_eq_true rfl⟩ ⟨Nat.le_of_ble_eq_true rfl, Nat.le_of_ble_eq_true rfl⟩ (ps_lt hw ps_q0.2.2.1) (ps_cel_19 ps_q0.1 _) rfl rfl (Nat.le_of_ble_eq_true rfl) dX10_spread_7 (fun e he => hthr e (h7.1 e he)) (fun hz => ?_)
  replace h := h7.2 _ hz
  refine ps_aload_n hG dX10_spread_10 rfl 0 rfl ?_
  refine ps_get19_6 hG hw inX10_spread_X10 ps_q0.1 (ps_lt hw ps_q0.2.2.1) mX10_spread_64 dX10_spread_11 ?_
  refine ps_iload_n hG dX10_spread_14 rfl 1 rfl ?_
  obtain ⟨r15, S15, hr15, h⟩ := ps_d2 h
  refine ps_callVI (As := [.int p1]) (rest := []) (nA := 1) hG (c_X3_run _ hw hr15) gX10_spread_X3_run rfl (by decide +kernel) rfl ⟨Nat.le_of_ble_eq_true rfl, Nat.le_of_ble_eq_true rfl⟩ ⟨rfl, rfl⟩ ⟨Nat.le_of_ble_eq_true rfl, Nat.le_of_ble_eq_true rfl⟩ (ps_lt hw ps_q78.2.2.1) (ps_cel_12 ps_q78.1 _) rfl rfl (Nat.le_of_ble_eq_true rfl) dX10_spread_15 ?_
  cases h
  exact hret _ _ rfl _ _ _ _ (Nat.le_of_ble_eq_true rfl) (Nat.le_of_ble_eq_true rfl) dX10_spread_18
def f_X10_rounds (S : ps_S) : Option Int32 :=
  ((f_X3_roundCount S).bind fun r4 =>
  some r4)
theorem inX10_rounds_X10 : ∀ q ∈ wsX100, q ∈ wsX10_rounds := fun _ h => List.mem_cons_of_mem _ (List.mem_append_left _ (List.mem_append_right _ h))
theorem mX10_rounds_64 : Cond.fieldLink RX10 64 (TX10 6).1 (TX10 6).2.1 (TX10 6).2.2.1 ∈ wsX10_rounds := List.mem_of_getElem? (i := 1) rfl
set_option maxHeartbeats 4000000 in
set_option maxRecDepth 100000 in
theorem c_X10_rounds (l : Launch) {w : ps_X} (hw : ps_ww w) {S : ps_S} {r : Int32} (h : f_X10_rounds S = some r) : ps_MetI l yX10_rounds wsX10_rounds (ps_rm 1 20) w [.ref (w.2.1 0)] S S r := by
  refine ps_mkI (cc := cX10_rounds) (maxL := 1) (own := RX10) (by decide +kernel) rfl (Or.inl rfl) rfl (Nat.le_of_ble_eq_true rfl) rfl (fun G hl hG hret => ?_)
  unfold f_X10_rounds at h
  refine ps_aload_n hG dX10_rounds_0 rfl 0 rfl ?_
  refine ps_get19_6 hG hw inX10_rounds_X10 ps_q0.1 (ps_lt hw ps_q0.2.2.1) mX10_rounds_64 dX10_rounds_1 ?_
  obtain ⟨r4, hr4, h⟩ := ps_bd h
  refine ps_callVI (As := []) (rest := []) (nA := 0) hG (c_X3_roundCount _ hw hr4) gX10_rounds_X3_roundCount rfl (by decide +kernel) rfl ⟨Nat.le_of_ble_eq_true rfl, Nat.le_of_ble_eq_true rfl⟩ ⟨rfl, rfl⟩ ⟨Nat.le_of_ble_eq_true rfl, Nat.le_of_ble_eq_true rfl⟩ (ps_lt hw ps_q78.2.2.1) (ps_cel_12 ps_q78.1 _) rfl rfl (Nat.le_of_ble_eq_true rfl) dX10_rounds_4 ?_
  cases h
  exact hret _ _ dX10_rounds_7
def f_X10_owes (S : ps_S) (p1 : Int32) (p2 : Int32) : Option (Nat ⊕ (Int32 × ps_S)) :=
  (ps_bx (f_X10_needPeer S p1) fun _ =>
  (ps_bx (f_X10_needPeer S p2) fun _ =>
  ((f_X2_debt S p1 p2).bind fun r16 =>
  some (.inr (r16, S)))))
theorem inX10_owes_X10 : ∀ q ∈ wsX100, q ∈ wsX10_owes := fun _ h => List.mem_cons_of_mem _ (List.mem_append_left _ (List.mem_append_left _ (List.mem_append_left _ (List.mem_append_right _ h))))
theorem mX10_owes_28 : Cond.fieldLink RX10 28 (TX10 7).1 (TX10 7).2.1 (TX10 7).2.2.1 ∈ wsX10_owes := List.mem_of_getElem? (i := 1) rfl
set_option maxHeartbeats 4000000 in
set_option maxRecDepth 100000 in
theorem c_X10_owes (l : Launch) (hflags : l.stackTraces = false) {w : ps_X} (hw : ps_ww w) {S : ps_S} {p1 p2 : Int32} {z : (Nat ⊕ (Int32 × ps_S))} (h : f_X10_owes S p1 p2 = some z) : ps_MXI l yX10_owes wsX10_owes (ps_rx 7 2 12 111) w [.ref (w.2.1 0), .int p1, .int p2] S z 2 12 := by
  refine ps_mkXI hflags (cc := cX10_owes) (maxL := 3) (own := RX10) (by decide +kernel) rfl rfl rfl (Nat.le_of_ble_eq_true rfl) rfl (fun G XC hl hX hthr hret => ?_)
  have hG := hX.1
  unfold f_X10_owes at h
  refine ps_aload_n hG dX10_owes_0 rfl 0 rfl ?_
  refine ps_iload_n hG dX10_owes_1 rfl 1 rfl ?_
  obtain ⟨⟨q2, hr2⟩, h2⟩ := ps_dx h
  replace h2 := h2 q2 hr2
  refine ps_xcallVV (As := [.int p1]) (rest := []) (nA := 1) hX (c_X10_needPeer _ hX.2.2.2.1 hw hr2) gX10_owes_X10_needPeer rfl (by decide +kernel) rfl ⟨Nat.le_of_ble_eq_true rfl, Nat.le_of_ble_eq_true rfl⟩ ⟨rfl, rfl⟩ ⟨Nat.le_of_ble_eq_true rfl, Nat.le_of_ble_eq_true rfl⟩ ⟨Nat.le_of_ble_eq_true rfl, Nat.le_of_ble_eq_true rfl⟩ (ps_lt hw ps_q0.2.2.1) (ps_cel_19 ps_q0.1 _) rfl rfl (Nat.le_of_ble_eq_true rfl) dX10_owes_2 (fun e he => hthr e (h2.1 e he)) (fun hz => ?_)
  replace h := h2.2 _ hz
  refine ps_aload_n hG dX10_owes_5 rfl 0 rfl ?_
  refine ps_iload_n hG dX10_owes_6 rfl 2 rfl ?_
  obtain ⟨⟨q7, hr7⟩, h7⟩ := ps_dx h
  replace h7 := h7 q7 hr7
  refine ps_xcallVV (As := [.int p2]) (rest := []) (nA := 1) hX (c_X10_needPeer _ hX.2.2.2.1 hw hr7) gX10_owes_X10_needPeer rfl (by decide +kernel) rfl ⟨Nat.le_of_ble_eq_true rfl, Nat.le_of_ble_eq_true rfl⟩ ⟨rfl, rfl⟩ ⟨Nat.le_of_ble_eq_true rfl, Nat.le_of_ble_eq_true rfl⟩ ⟨Nat.le_of_ble_eq_true rfl, Nat.le_of_ble_eq_true rfl⟩ (ps_lt hw ps_q0.2.2.1) (ps_cel_19 ps_q0.1 _) rfl rfl (Nat.le_of_ble_eq_true rfl) dX10_owes_7 (fun e he => hthr e (h7.1 e he)) (fun hz => ?_)
  replace h := h7.2 _ hz
  refine ps_aload_n hG dX10_owes_10 rfl 0 rfl ?_
  refine ps_get19_7 hG hw inX10_owes_X10 ps_q0.1 (ps_lt hw ps_q0.2.2.1) mX10_owes_28 dX10_owes_11 ?_
  refine ps_iload_n hG dX10_owes_14 rfl 1 rfl ?_
  refine ps_iload_n hG dX10_owes_15 rfl 2 rfl ?_
  obtain ⟨r16, hr16, h⟩ := ps_bd h
  refine ps_callVI (As := [.int p1, .int p2]) (rest := []) (nA := 2) hG (c_X2_debt _ hw hr16) gX10_owes_X2_debt rfl (by decide +kernel) rfl ⟨Nat.le_of_ble_eq_true rfl, Nat.le_of_ble_eq_true rfl⟩ ⟨rfl, rfl⟩ ⟨Nat.le_of_ble_eq_true rfl, Nat.le_of_ble_eq_true rfl⟩ (ps_lt hw ps_q36.2.2.1) (ps_cel_11 ps_q36.1 _) rfl rfl (Nat.le_of_ble_eq_true rfl) dX10_owes_16 ?_
  cases h
  exact hret _ _ rfl _ _ _ _ (Nat.le_of_ble_eq_true rfl) (Nat.le_of_ble_eq_true rfl) dX10_owes_19
def f_X10_net (S : ps_S) : Option (Int32 × ps_S) :=
  (ps_b2 (f_X2_lessenRings S) fun r4 S4 =>
  some (r4, S4))
theorem inX10_net_X10 : ∀ q ∈ wsX100, q ∈ wsX10_net := fun _ h => List.mem_cons_of_mem _ (List.mem_append_left _ (List.mem_append_right _ h))
theorem mX10_net_28 : Cond.fieldLink RX10 28 (TX10 7).1 (TX10 7).2.1 (TX10 7).2.2.1 ∈ wsX10_net := List.mem_of_getElem? (i := 1) rfl
set_option maxHeartbeats 4000000 in
set_option maxRecDepth 100000 in
theorem c_X10_net (l : Launch) {w : ps_X} (hw : ps_ww w) {S S' : ps_S} {r : Int32} (h : f_X10_net S = some (r, S')) : ps_MetI l yX10_net wsX10_net (ps_rm 4 92) w [.ref (w.2.1 0)] S S' r := by
  refine ps_mkI (cc := cX10_net) (maxL := 1) (own := RX10) (by decide +kernel) rfl (Or.inl rfl) rfl (Nat.le_of_ble_eq_true rfl) rfl (fun G hl hG hret => ?_)
  unfold f_X10_net at h
  refine ps_aload_n hG dX10_net_0 rfl 0 rfl ?_
  refine ps_get19_7 hG hw inX10_net_X10 ps_q0.1 (ps_lt hw ps_q0.2.2.1) mX10_net_28 dX10_net_1 ?_
  obtain ⟨r4, S4, hr4, h⟩ := ps_d2 h
  refine ps_callVI (As := []) (rest := []) (nA := 0) hG (c_X2_lessenRings _ hw hr4) gX10_net_X2_lessenRings rfl (by decide +kernel) rfl ⟨Nat.le_of_ble_eq_true rfl, Nat.le_of_ble_eq_true rfl⟩ ⟨rfl, rfl⟩ ⟨Nat.le_of_ble_eq_true rfl, Nat.le_of_ble_eq_true rfl⟩ (ps_lt hw ps_q36.2.2.1) (ps_cel_11 ps_q36.1 _) rfl rfl (Nat.le_of_ble_eq_true rfl) dX10_net_4 ?_
  cases h
  exact hret _ _ dX10_net_7
def f_X10_worth (S : ps_S) (p1 : Int32) : Option (Nat ⊕ (Int32 × ps_S)) :=
  (ps_bx (f_X10_needPeer S p1) fun _ =>
  ((f_X2_balance S p1).bind fun r10 =>
  some (.inr (r10, S))))
theorem inX10_worth_X10 : ∀ q ∈ wsX100, q ∈ wsX10_worth := fun _ h => List.mem_cons_of_mem _ (List.mem_append_left _ (List.mem_append_left _ (List.mem_append_left _ (List.mem_append_right _ h))))
theorem mX10_worth_28 : Cond.fieldLink RX10 28 (TX10 7).1 (TX10 7).2.1 (TX10 7).2.2.1 ∈ wsX10_worth := List.mem_of_getElem? (i := 1) rfl
set_option maxHeartbeats 4000000 in
set_option maxRecDepth 100000 in
theorem c_X10_worth (l : Launch) (hflags : l.stackTraces = false) {w : ps_X} (hw : ps_ww w) {S : ps_S} {p1 : Int32} {z : (Nat ⊕ (Int32 × ps_S))} (h : f_X10_worth S p1 = some z) : ps_MXI l yX10_worth wsX10_worth (ps_rx 7 1 6 111) w [.ref (w.2.1 0), .int p1] S z 1 6 := by
  refine ps_mkXI hflags (cc := cX10_worth) (maxL := 2) (own := RX10) (by decide +kernel) rfl rfl rfl (Nat.le_of_ble_eq_true rfl) rfl (fun G XC hl hX hthr hret => ?_)
  have hG := hX.1
  unfold f_X10_worth at h
  refine ps_aload_n hG dX10_worth_0 rfl 0 rfl ?_
  refine ps_iload_n hG dX10_worth_1 rfl 1 rfl ?_
  obtain ⟨⟨q2, hr2⟩, h2⟩ := ps_dx h
  replace h2 := h2 q2 hr2
  refine ps_xcallVV (As := [.int p1]) (rest := []) (nA := 1) hX (c_X10_needPeer _ hX.2.2.2.1 hw hr2) gX10_worth_X10_needPeer rfl (by decide +kernel) rfl ⟨Nat.le_of_ble_eq_true rfl, Nat.le_of_ble_eq_true rfl⟩ ⟨rfl, rfl⟩ ⟨Nat.le_of_ble_eq_true rfl, Nat.le_of_ble_eq_true rfl⟩ ⟨Nat.le_of_ble_eq_true rfl, Nat.le_of_ble_eq_true rfl⟩ (ps_lt hw ps_q0.2.2.1) (ps_cel_19 ps_q0.1 _) rfl rfl (Nat.le_of_ble_eq_true rfl) dX10_worth_2 (fun e he => hthr e (h2.1 e he)) (fun hz => ?_)
  replace h := h2.2 _ hz
  refine ps_aload_n hG dX10_worth_5 rfl 0 rfl ?_
  refine ps_get19_7 hG hw inX10_worth_X10 ps_q0.1 (ps_lt hw ps_q0.2.2.1) mX10_worth_28 dX10_worth_6 ?_
  refine ps_iload_n hG dX10_worth_9 rfl 1 rfl ?_
  obtain ⟨r10, hr10, h⟩ := ps_bd h
  refine ps_callVI (As := [.int p1]) (rest := []) (nA := 1) hG (c_X2_balance _ hw hr10) gX10_worth_X2_balance rfl (by decide +kernel) rfl ⟨Nat.le_of_ble_eq_true rfl, Nat.le_of_ble_eq_true rfl⟩ ⟨rfl, rfl⟩ ⟨Nat.le_of_ble_eq_true rfl, Nat.le_of_ble_eq_true rfl⟩ (ps_lt hw ps_q36.2.2.1) (ps_cel_11 ps_q36.1 _) rfl rfl (Nat.le_of_ble_eq_true rfl) dX10_worth_10 ?_
  cases h
  exact hret _ _ rfl _ _ _ _ (Nat.le_of_ble_eq_true rfl) (Nat.le_of_ble_eq_true rfl) dX10_worth_13
def f_X10_peer_J63 (S : ps_S) (p1 : Int32) (p2 : Int32) (p3 : Int32)  : Option (Nat ⊕ (Int32 × ps_S)) :=
  (ps_b2 (f_X5_add S p1 p2) fun r69 S69 =>
          (if p3 = (-1) then
            some (.inr (r69, S69))
          else
            ((f_X5_hear S69 p3 r69).bind fun S86 =>
            ((f_X5_hear S86 r69 p3).bind fun S96 =>
            ((f_X7_run S96 r69 p1 1).bind fun S107 =>
            some (.inr (r69, S107)))))))
def f_X10_peer_J22 (S : ps_S) (p1 : Int32) (p2 : Int32) (p3 : Int32)  : Option (Nat ⊕ (Int32 × ps_S)) :=
  ((f_X5_isFull S).bind fun r26 =>
    (if r26 = 0 then
      ((f_X5_hasId S p1).bind fun r37 =>
      (if r37 = 0 then
        (if p3 = (-1) then
          f_X10_peer_J63 S p1 p2 p3
        else
          (ps_bx (f_X10_needOnline S p3) fun _ =>
          f_X10_peer_J63 S p1 p2 p3))
      else
        some (.inl 2)))
    else
      some (.inl 2)))
def f_X10_peer (S : ps_S) (p1 : Int32) (p2 : Int32) (p3 : Int32) : Option (Nat ⊕ (Int32 × ps_S)) :=
  (ps_bx (f_X10_needBelow p1 256) fun _ =>
  (ps_bx (f_X10_needBelow p2 3) fun _ =>
  (if p3 = (-1) then
    f_X10_peer_J22 S p1 p2 p3
  else
    (ps_bx (f_X10_needPeer S p3) fun _ =>
    f_X10_peer_J22 S p1 p2 p3))))
theorem inX10_peer_X10 : ∀ q ∈ wsX100, q ∈ wsX10_peer := fun _ h => List.mem_cons_of_mem _ (List.mem_append_left _ (List.mem_append_left _ (List.mem_append_left _ (List.mem_append_left _ (List.mem_append_left _ (List.mem_append_left _ (List.mem_append_right _ h)))))))
theorem mX10_peer_20 : Cond.fieldLink RX10 20 (TX10 0).1 (TX10 0).2.1 (TX10 0).2.2.1 ∈ wsX10_peer := List.mem_of_getElem? (i := 3) rfl
theorem mX10_peer_24 : Cond.fieldLink RX10 24 (TX10 1).1 (TX10 1).2.1 (TX10 1).2.2.1 ∈ wsX10_peer := List.mem_of_getElem? (i := 4) rfl
theorem mX10_peer_i84 : Cond.initialized "java/lang/IllegalStateException" ∈ wsX10_peer := List.mem_of_getElem? (i := 2) rfl
theorem mX10_peer_k84 : Cond.classLink RX10 84 "java/lang/IllegalStateException" ∈ wsX10_peer := List.mem_of_getElem? (i := 1) rfl
theorem gX10_peer_t88 : ∀ q ∈ (vx_atS RX10 88 "java/lang/IllegalStateException" ["java/lang/RuntimeException", "java/lang/Exception"]).filter goodWord, q ∈ wsX10_peer := fun _ h => List.mem_cons_of_mem _ (List.mem_append_left _ (List.mem_append_left _ (List.mem_append_right _ h)))
set_option maxHeartbeats 4000000 in
set_option maxRecDepth 100000 in
theorem c_X10_peer (l : Launch) (hflags : l.stackTraces = false) {w : ps_X} (hw : ps_ww w) {S : ps_S} {p1 p2 p3 : Int32} {z : (Nat ⊕ (Int32 × ps_S))} (h : f_X10_peer S p1 p2 p3 = some z) : ps_MXI l yX10_peer wsX10_peer (ps_rx 7 4 24 133) w [.ref (w.2.1 0), .int p1, .int p2, .int p3] S z 4 24 := by
  refine ps_mkXI hflags (cc := cX10_peer) (maxL := 5) (own := RX10) (by decide +kernel) rfl rfl rfl (Nat.le_of_ble_eq_true rfl) rfl (fun G XC hl hX hthr hret => ?_)
  have hG := hX.1
  unfold f_X10_peer at h
  refine ps_iload_n hG dX10_peer_0 rfl 1 rfl ?_
  refine ps_sipush (v := 256) hG dX10_peer_1 (by decide) ?_
  obtain ⟨⟨q4, hr4⟩, h4⟩ := ps_dx h
  replace h4 := h4 q4 hr4
  refine ps_xcallSV (As := [.int p1, .int 256]) (rest := []) (nA := 2) hX (c_X10_needBelow _ hX.2.2.2.1 hw hr4) gX10_peer_X10_needBelow rfl (by decide +kernel) rfl ⟨Nat.le_of_ble_eq_true rfl, Nat.le_of_ble_eq_true rfl⟩ ⟨rfl, rfl⟩ ⟨Nat.le_of_ble_eq_true rfl, Nat.le_of_ble_eq_true rfl⟩ ⟨Nat.le_of_ble_eq_true rfl, Nat.le_of_ble_eq_true rfl⟩ rfl (Nat.le_of_ble_eq_true rfl) dX10_peer_4 (fun e he => hthr e (h4.1 e he)) (fun hz => ?_)
  replace h := h4.2 _ hz
  refine ps_iload_n hG dX10_peer_7 rfl 2 rfl ?_
  refine ps_iconst (v := 3) hG dX10_peer_8 (by decide) ?_
  obtain ⟨⟨q9, hr9⟩, h9⟩ := ps_dx h
  replace h9 := h9 q9 hr9
  refine ps_xcallSV (As := [.int p2, .int 3]) (rest := []) (nA := 2) hX (c_X10_needBelow _ hX.2.2.2.1 hw hr9) gX10_peer_X10_needBelow rfl (by decide +kernel) rfl ⟨Nat.le_of_ble_eq_true rfl, Nat.le_of_ble_eq_true rfl⟩ ⟨rfl, rfl⟩ ⟨Nat.le_of_ble_eq_true rfl, Nat.le_of_ble_eq_true rfl⟩ ⟨Nat.le_of_ble_eq_true rfl, Nat.le_of_ble_eq_true rfl⟩ rfl (Nat.le_of_ble_eq_true rfl) dX10_peer_9 (fun e he => hthr e (h9.1 e he)) (fun hz => ?_)
  replace h := h9.2 _ hz
  refine ps_iload_n hG dX10_peer_12 rfl 3 rfl ?_
  refine ps_iconst (v := (-1)) hG dX10_peer_13 (by decide) ?_
  have hJ22 : f_X10_peer_J22 S p1 p2 p3 = some z → ps_V G 5 3 18 w S 22 [(0, .ref (w.2.1 0)), (1, .int p1), (2, .int p2), (3, .int p3)] [] := by
    intro h
    unfold f_X10_peer_J22 at h
    refine ps_aload_n hG dX10_peer_22 rfl 0 rfl ?_
    refine ps_get19_0 hG hw inX10_peer_X10 ps_q0.1 (ps_lt hw ps_q0.2.2.1) mX10_peer_20 dX10_peer_23 ?_
    obtain ⟨r26, hr26, h⟩ := ps_bd h
    refine ps_callVI (As := []) (rest := []) (nA := 0) hG (c_X5_isFull _ hw hr26) gX10_peer_X5_isFull rfl (by decide +kernel) rfl ⟨Nat.le_of_ble_eq_true rfl, Nat.le_of_ble_eq_true rfl⟩ ⟨rfl, rfl⟩ ⟨Nat.le_of_ble_eq_true rfl, Nat.le_of_ble_eq_true rfl⟩ (ps_lt hw ps_q1.2.2.1) (ps_cel_14 ps_q1.1 _) rfl rfl (Nat.le_of_ble_eq_true rfl) dX10_peer_26 ?_
    refine ps_if_ne (tgt := 43) hG dX10_peer_29 (by decide) (fun c29 => ?_) (fun c29 => ?_)
    · replace h := ps_in c29 h
      cases h
      exact ps_throw (cls := "java/lang/IllegalStateException") (tx := "there are 16 peers, or one with this id") (rest := []) hX 2 rfl (hthr 2 rfl) mX10_peer_k84 mX10_peer_i84 (by decide) gX10_peer_t88 ps_tn88 (by decide +kernel) ps_tg88 (Nat.le_of_ble_eq_true rfl) (Nat.le_of_ble_eq_true rfl) ⟨Nat.le_of_ble_eq_true rfl, Nat.le_of_ble_eq_true rfl⟩ ⟨Nat.le_of_ble_eq_true rfl, Nat.le_of_ble_eq_true rfl⟩ dX10_peer_43 dX10_peer_46 dX10_peer_47 dX10_peer_49 dX10_peer_52
    · replace h := ps_ip c29 h
      refine ps_aload_n hG dX10_peer_32 rfl 0 rfl ?_
      refine ps_get19_0 hG hw inX10_peer_X10 ps_q0.1 (ps_lt hw ps_q0.2.2.1) mX10_peer_20 dX10_peer_33 ?_
      refine ps_iload_n hG dX10_peer_36 rfl 1 rfl ?_
      obtain ⟨r37, hr37, h⟩ := ps_bd h
      refine ps_callVI (As := [.int p1]) (rest := []) (nA := 1) hG (c_X5_hasId _ hw hr37) gX10_peer_X5_hasId rfl (by decide +kernel) rfl ⟨Nat.le_of_ble_eq_true rfl, Nat.le_of_ble_eq_true rfl⟩ ⟨rfl, rfl⟩ ⟨Nat.le_of_ble_eq_true rfl, Nat.le_of_ble_eq_true rfl⟩ (ps_lt hw ps_q1.2.2.1) (ps_cel_14 ps_q1.1 _) rfl rfl (Nat.le_of_ble_eq_true rfl) dX10_peer_37 ?_
      refine ps_if_eq (tgt := 53) hG dX10_peer_40 (by decide) (fun c40 => ?_) (fun c40 => ?_)
      · replace h := ps_ip c40 h
        refine ps_iload_n hG dX10_peer_53 rfl 3 rfl ?_
        refine ps_iconst (v := (-1)) hG dX10_peer_54 (by decide) ?_
        have hJ63 : f_X10_peer_J63 S p1 p2 p3 = some z → ps_V G 5 4 24 w S 63 [(0, .ref (w.2.1 0)), (1, .int p1), (2, .int p2), (3, .int p3)] [] := by
          intro h
          unfold f_X10_peer_J63 at h
          refine ps_aload_n hG dX10_peer_63 rfl 0 rfl ?_
          refine ps_get19_0 hG hw inX10_peer_X10 ps_q0.1 (ps_lt hw ps_q0.2.2.1) mX10_peer_20 dX10_peer_64 ?_
          refine ps_iload_n hG dX10_peer_67 rfl 1 rfl ?_
          refine ps_iload_n hG dX10_peer_68 rfl 2 rfl ?_
          obtain ⟨r69, S69, hr69, h⟩ := ps_d2 h
          refine ps_callVI (As := [.int p1, .int p2]) (rest := []) (nA := 2) hG (c_X5_add _ hw hr69) gX10_peer_X5_add rfl (by decide +kernel) rfl ⟨Nat.le_of_ble_eq_true rfl, Nat.le_of_ble_eq_true rfl⟩ ⟨rfl, rfl⟩ ⟨Nat.le_of_ble_eq_true rfl, Nat.le_of_ble_eq_true rfl⟩ (ps_lt hw ps_q1.2.2.1) (ps_cel_14 ps_q1.1 _) rfl rfl (Nat.le_of_ble_eq_true rfl) dX10_peer_69 ?_
          refine ps_istore (lv' := [(4, .int r69), (0, .ref (w.2.1 0)), (1, .int p1), (2, .int p2), (3, .int p3)]) hG dX10_peer_72 (by decide) rfl ?_
          refine ps_iload_n hG dX10_peer_74 rfl 4 rfl ?_
          refine ps_iconst (v := (-1)) hG dX10_peer_75 (by decide) ?_
          refine ps_icmp_eq (tgt := 110) hG dX10_peer_76 (by decide) (fun c76 => ?_) (fun c76 => ?_)
          · replace h := ps_ip c76 h
            refine ps_iload hG dX10_peer_110 0 rfl ?_
            cases h
            exact hret _ _ rfl _ _ _ _ (Nat.le_of_ble_eq_true rfl) (Nat.le_of_ble_eq_true rfl) dX10_peer_112
          · replace h := ps_in c76 h
            refine ps_aload_n hG dX10_peer_79 rfl 1 rfl ?_
            refine ps_get19_0 hG hw inX10_peer_X10 ps_q0.1 (ps_lt hw ps_q0.2.2.1) mX10_peer_20 dX10_peer_80 ?_
            refine ps_iload_n hG dX10_peer_83 rfl 4 rfl ?_
            refine ps_iload hG dX10_peer_84 0 rfl ?_
            obtain ⟨S86, hr86, h⟩ := ps_bd h
            refine ps_callVV (As := [.int p3, .int r69]) (rest := []) (nA := 2) hG (c_X5_hear _ hw hr86) gX10_peer_X5_hear rfl (by decide +kernel) rfl ⟨Nat.le_of_ble_eq_true rfl, Nat.le_of_ble_eq_true rfl⟩ ⟨rfl, rfl⟩ ⟨Nat.le_of_ble_eq_true rfl, Nat.le_of_ble_eq_true rfl⟩ (ps_lt hw ps_q1.2.2.1) (ps_cel_14 ps_q1.1 _) rfl rfl (Nat.le_of_ble_eq_true rfl) dX10_peer_86 ?_
            refine ps_aload_n hG dX10_peer_89 rfl 1 rfl ?_
            refine ps_get19_0 hG hw inX10_peer_X10 ps_q0.1 (ps_lt hw ps_q0.2.2.1) mX10_peer_20 dX10_peer_90 ?_
            refine ps_iload hG dX10_peer_93 0 rfl ?_
            refine ps_iload_n hG dX10_peer_95 rfl 4 rfl ?_
            obtain ⟨S96, hr96, h⟩ := ps_bd h
            refine ps_callVV (As := [.int r69, .int p3]) (rest := []) (nA := 2) hG (c_X5_hear _ hw hr96) gX10_peer_X5_hear rfl (by decide +kernel) rfl ⟨Nat.le_of_ble_eq_true rfl, Nat.le_of_ble_eq_true rfl⟩ ⟨rfl, rfl⟩ ⟨Nat.le_of_ble_eq_true rfl, Nat.le_of_ble_eq_true rfl⟩ (ps_lt hw ps_q1.2.2.1) (ps_cel_14 ps_q1.1 _) rfl rfl (Nat.le_of_ble_eq_true rfl) dX10_peer_96 ?_
            refine ps_aload_n hG dX10_peer_99 rfl 1 rfl ?_
            refine ps_get19_1 hG hw inX10_peer_X10 ps_q0.1 (ps_lt hw ps_q0.2.2.1) mX10_peer_24 dX10_peer_100 ?_
            refine ps_iload hG dX10_peer_103 0 rfl ?_
            refine ps_iload_n hG dX10_peer_105 rfl 2 rfl ?_
            refine ps_iconst (v := 1) hG dX10_peer_106 (by decide) ?_
            obtain ⟨S107, hr107, h⟩ := ps_bd h
            refine ps_callVV (As := [.int r69, .int p1, .int 1]) (rest := []) (nA := 3) hG (c_X7_run _ hw hr107) gX10_peer_X7_run rfl (by decide +kernel) rfl ⟨Nat.le_of_ble_eq_true rfl, Nat.le_of_ble_eq_true rfl⟩ ⟨rfl, rfl⟩ ⟨Nat.le_of_ble_eq_true rfl, Nat.le_of_ble_eq_true rfl⟩ (ps_lt hw ps_q22.2.2.1) (ps_cel_16 ps_q22.1 _) rfl rfl (Nat.le_of_ble_eq_true rfl) dX10_peer_107 ?_
            refine ps_iload hG dX10_peer_110 0 rfl ?_
            cases h
            exact hret _ _ rfl _ _ _ _ (Nat.le_of_ble_eq_true rfl) (Nat.le_of_ble_eq_true rfl) dX10_peer_112
        refine ps_icmp_eq (tgt := 63) hG dX10_peer_55 (by decide) (fun c55 => ?_) (fun c55 => ?_)
        · replace h := ps_ip c55 h
          exact ps_widen (Nat.le_of_ble_eq_true rfl) (Nat.le_of_ble_eq_true rfl) (ps_sub [0, 1, 2, 3] rfl (hJ63  h))
        · replace h := ps_in c55 h
          refine ps_aload_n hG dX10_peer_58 rfl 0 rfl ?_
          refine ps_iload_n hG dX10_peer_59 rfl 3 rfl ?_
          obtain ⟨⟨q60, hr60⟩, h60⟩ := ps_dx h
          replace h60 := h60 q60 hr60
          refine ps_xcallVV (As := [.int p3]) (rest := []) (nA := 1) hX (c_X10_needOnline _ hX.2.2.2.1 hw hr60) gX10_peer_X10_needOnline rfl (by decide +kernel) rfl ⟨Nat.le_of_ble_eq_true rfl, Nat.le_of_ble_eq_true rfl⟩ ⟨rfl, rfl⟩ ⟨Nat.le_of_ble_eq_true rfl, Nat.le_of_ble_eq_true rfl⟩ ⟨Nat.le_of_ble_eq_true rfl, Nat.le_of_ble_eq_true rfl⟩ (ps_lt hw ps_q0.2.2.1) (ps_cel_19 ps_q0.1 _) rfl rfl (Nat.le_of_ble_eq_true rfl) dX10_peer_60 (fun e he => hthr e (h60.1 e he)) (fun hz => ?_)
          replace h := h60.2 _ hz
          exact ps_widen (Nat.le_of_ble_eq_true rfl) (Nat.le_of_ble_eq_true rfl) (ps_sub [0, 1, 2, 3] rfl (hJ63  h))
      · replace h := ps_in c40 h
        cases h
        exact ps_throw (cls := "java/lang/IllegalStateException") (tx := "there are 16 peers, or one with this id") (rest := []) hX 2 rfl (hthr 2 rfl) mX10_peer_k84 mX10_peer_i84 (by decide) gX10_peer_t88 ps_tn88 (by decide +kernel) ps_tg88 (Nat.le_of_ble_eq_true rfl) (Nat.le_of_ble_eq_true rfl) ⟨Nat.le_of_ble_eq_true rfl, Nat.le_of_ble_eq_true rfl⟩ ⟨Nat.le_of_ble_eq_true rfl, Nat.le_of_ble_eq_true rfl⟩ dX10_peer_43 dX10_peer_46 dX10_peer_47 dX10_peer_49 dX10_peer_52
  refine ps_icmp_eq (tgt := 22) hG dX10_peer_14 (by decide) (fun c14 => ?_) (fun c14 => ?_)
  · replace h := ps_ip c14 h
    exact ps_widen (Nat.le_of_ble_eq_true rfl) (Nat.le_of_ble_eq_true rfl) (ps_sub [0, 1, 2, 3] rfl (hJ22  h))
  · replace h := ps_in c14 h
    refine ps_aload_n hG dX10_peer_17 rfl 0 rfl ?_
    refine ps_iload_n hG dX10_peer_18 rfl 3 rfl ?_
    obtain ⟨⟨q19, hr19⟩, h19⟩ := ps_dx h
    replace h19 := h19 q19 hr19
    refine ps_xcallVV (As := [.int p3]) (rest := []) (nA := 1) hX (c_X10_needPeer _ hX.2.2.2.1 hw hr19) gX10_peer_X10_needPeer rfl (by decide +kernel) rfl ⟨Nat.le_of_ble_eq_true rfl, Nat.le_of_ble_eq_true rfl⟩ ⟨rfl, rfl⟩ ⟨Nat.le_of_ble_eq_true rfl, Nat.le_of_ble_eq_true rfl⟩ ⟨Nat.le_of_ble_eq_true rfl, Nat.le_of_ble_eq_true rfl⟩ (ps_lt hw ps_q0.2.2.1) (ps_cel_19 ps_q0.1 _) rfl rfl (Nat.le_of_ble_eq_true rfl) dX10_peer_19 (fun e he => hthr e (h19.1 e he)) (fun hz => ?_)
    replace h := h19.2 _ hz
    exact ps_widen (Nat.le_of_ble_eq_true rfl) (Nat.le_of_ble_eq_true rfl) (ps_sub [0, 1, 2, 3] rfl (hJ22  h))
