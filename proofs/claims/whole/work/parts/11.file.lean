def f_X8_isPiece (p0 : Int32) : Option Int32 :=
  (if p0 < 0 then
    some 0
  else
    (if 6 ≤ p0 then
      some 0
    else
      some 1))
set_option maxHeartbeats 4000000 in
set_option maxRecDepth 100000 in
theorem c_X8_isPiece (l : Launch) {w : ps_X} (hw : ps_ww w) {S : ps_S} {p0 : Int32} {r : Int32} (h : f_X8_isPiece p0 = some r) : ps_MetI l yX8_isPiece wsX8_isPiece (ps_rm 0 0) w [.int p0] S S r := by
  refine ps_mkZ (cc := cX8_isPiece) (maxL := 1) (own := RX8) (by decide +kernel) rfl rfl rfl (Nat.le_of_ble_eq_true rfl) rfl (fun G hl hG hret => ?_)
  unfold f_X8_isPiece at h
  refine ps_iload_n hG dX8_isPiece_0 rfl 0 rfl ?_
  refine ps_if_lt (tgt := 14) hG dX8_isPiece_1 (by decide) (fun c1 => ?_) (fun c1 => ?_)
  · replace h := ps_ip c1 h
    refine ps_iconst (v := 0) hG dX8_isPiece_14 (by decide) ?_
    cases h
    exact hret _ _ dX8_isPiece_15 rfl
  · replace h := ps_in c1 h
    refine ps_iload_n hG dX8_isPiece_4 rfl 0 rfl ?_
    refine ps_bipush (v := 6) hG dX8_isPiece_5 (by decide) ?_
    refine ps_icmp_ge (tgt := 14) hG dX8_isPiece_7 (by decide) (fun c7 => ?_) (fun c7 => ?_)
    · replace h := ps_ip c7 h
      refine ps_iconst (v := 0) hG dX8_isPiece_14 (by decide) ?_
      cases h
      exact hret _ _ dX8_isPiece_15 rfl
    · replace h := ps_in c7 h
      refine ps_iconst (v := 1) hG dX8_isPiece_10 (by decide) ?_
      refine ps_goto (tgt := 15) hG dX8_isPiece_11 (by decide) ?_
      cases h
      exact hret _ _ dX8_isPiece_15 rfl
def f_X8_owner (S : ps_S) (k : Nat) : Option Int32 :=
  some (S k 0)
theorem inX8_owner_X8 : ∀ q ∈ wsX80, q ∈ wsX8_owner := fun _ h => List.mem_cons_of_mem _ (List.mem_append_right _ h)
theorem mX8_owner_28 : Cond.fieldLink RX8 28 (TX8 0).1 (TX8 0).2.1 (TX8 0).2.2.1 ∈ wsX8_owner := List.mem_of_getElem? (i := 1) rfl
set_option maxHeartbeats 4000000 in
set_option maxRecDepth 100000 in
theorem c_X8_owner (l : Launch) {w : ps_X} (hw : ps_ww w) {k : Nat} (hk : ps_isF w k) {S : ps_S} {r : Int32} (h : f_X8_owner S k = some r) : ps_MetI l yX8_owner wsX8_owner (ps_rm 0 0) w [.ref (w.2.1 k)] S S r := by
  refine ps_mkI (cc := cX8_owner) (maxL := 1) (own := RX8) (by decide +kernel) rfl (Or.inl rfl) rfl (Nat.le_of_ble_eq_true rfl) rfl (fun G hl hG hret => ?_)
  unfold f_X8_owner at h
  refine ps_aload_n hG dX8_owner_0 rfl 0 rfl ?_
  refine ps_get17_0 hG inX8_owner_X8 (ps_isF_0 hk).1 (ps_isF_0 hk).2.2.1 mX8_owner_28 dX8_owner_1 ?_
  cases h
  exact hret _ _ dX8_owner_4
theorem inX8_tree_X8 : ∀ q ∈ wsX80, q ∈ wsX8_tree := fun _ h => List.mem_cons_of_mem _ (List.mem_append_right _ h)
theorem mX8_tree_40 : Cond.fieldLink RX8 40 (TX8 2).1 (TX8 2).2.1 (TX8 2).2.2.1 ∈ wsX8_tree := List.mem_of_getElem? (i := 1) rfl
set_option maxHeartbeats 4000000 in
set_option maxRecDepth 100000 in
theorem c_X8_tree (l : Launch) {w : ps_X} (hw : ps_ww w) {k : Nat} (hk : ps_isF w k) {S : ps_S} : ps_MetR l yX8_tree wsX8_tree (ps_rm 0 0) w [.ref (w.2.1 k)] S S (k + 5) := by
  refine ps_mkR (cc := cX8_tree) (maxL := 1) (own := RX8) (by decide +kernel) rfl (Or.inl ⟨_, rfl⟩) rfl (Nat.le_of_ble_eq_true rfl) rfl (fun G hl hG hret => ?_)
  refine ps_aload_n hG dX8_tree_0 rfl 0 rfl ?_
  refine ps_get17_2 hG hw inX8_tree_X8 (ps_isF_0 hk).1 (ps_isF_0 hk).2.2.1 mX8_tree_40 dX8_tree_1 ?_
  exact hret _ _ dX8_tree_4
def f_X8_value (S : ps_S) (k : Nat) (p1 : Int32) : Option Int32 :=
  (if p1 < 0 then
    some (-1)
  else
    (if 6 ≤ p1 then
      some (-1)
    else
      (if ps_ib p1 6 = true then
      some (S (k + 4) p1.toNatClampNeg) else none)))
theorem inX8_value_X8 : ∀ q ∈ wsX80, q ∈ wsX8_value := fun _ h => List.mem_cons_of_mem _ (List.mem_append_right _ h)
theorem mX8_value_32 : Cond.fieldLink RX8 32 (TX8 1).1 (TX8 1).2.1 (TX8 1).2.2.1 ∈ wsX8_value := List.mem_of_getElem? (i := 1) rfl
set_option maxHeartbeats 4000000 in
set_option maxRecDepth 100000 in
theorem c_X8_value (l : Launch) {w : ps_X} (hw : ps_ww w) {k : Nat} (hk : ps_isF w k) {S : ps_S} {p1 : Int32} {r : Int32} (h : f_X8_value S k p1 = some r) : ps_MetI l yX8_value wsX8_value (ps_rm 0 0) w [.ref (w.2.1 k), .int p1] S S r := by
  refine ps_mkI (cc := cX8_value) (maxL := 2) (own := RX8) (by decide +kernel) rfl (Or.inl rfl) rfl (Nat.le_of_ble_eq_true rfl) rfl (fun G hl hG hret => ?_)
  unfold f_X8_value at h
  refine ps_iload_n hG dX8_value_0 rfl 1 rfl ?_
  refine ps_if_lt (tgt := 22) hG dX8_value_1 (by decide) (fun c1 => ?_) (fun c1 => ?_)
  · replace h := ps_ip c1 h
    refine ps_iconst (v := (-1)) hG dX8_value_22 (by decide) ?_
    cases h
    exact hret _ _ dX8_value_23
  · replace h := ps_in c1 h
    refine ps_iload_n hG dX8_value_4 rfl 1 rfl ?_
    refine ps_aload_n hG dX8_value_5 rfl 0 rfl ?_
    refine ps_get17_1 hG hw inX8_value_X8 (ps_isF_0 hk).1 (ps_isF_0 hk).2.2.1 mX8_value_32 dX8_value_6 ?_
    refine ps_alen (v := 6) hG (ps_isF_4 hk).1 (ps_isF_4 hk).2.1 (ps_isF_4 hk).2.2.1 (by decide) dX8_value_9 ?_
    refine ps_icmp_ge (tgt := 22) hG dX8_value_10 (by decide) (fun c10 => ?_) (fun c10 => ?_)
    · replace h := ps_ip c10 h
      refine ps_iconst (v := (-1)) hG dX8_value_22 (by decide) ?_
      cases h
      exact hret _ _ dX8_value_23
    · replace h := ps_in c10 h
      refine ps_aload_n hG dX8_value_13 rfl 0 rfl ?_
      refine ps_get17_1 hG hw inX8_value_X8 (ps_isF_0 hk).1 (ps_isF_0 hk).2.2.1 mX8_value_32 dX8_value_14 ?_
      refine ps_iload_n hG dX8_value_17 rfl 1 rfl ?_
      obtain ⟨hb18, h⟩ := ps_ig h
      refine ps_iald hG (ps_isF_4 hk).1 (ps_isF_4 hk).2.1 (ps_isF_4 hk).2.2.1 hb18 dX8_value_18 ?_
      refine ps_goto (tgt := 23) hG dX8_value_19 (by decide) ?_
      cases h
      exact hret _ _ dX8_value_23
def f_X8_key (S : ps_S) (k : Nat) (p1 : Int32) : Option Int32 :=
  ((f_X9_leaf S (k + 5) p1).bind fun r5 =>
  some (r5 &&& 255))
theorem inX8_key_X8 : ∀ q ∈ wsX80, q ∈ wsX8_key := fun _ h => List.mem_cons_of_mem _ (List.mem_append_left _ (List.mem_append_right _ h))
theorem mX8_key_40 : Cond.fieldLink RX8 40 (TX8 2).1 (TX8 2).2.1 (TX8 2).2.2.1 ∈ wsX8_key := List.mem_of_getElem? (i := 1) rfl
set_option maxHeartbeats 4000000 in
set_option maxRecDepth 100000 in
theorem c_X8_key (l : Launch) {w : ps_X} (hw : ps_ww w) {k : Nat} (hk : ps_isF w k) {S : ps_S} {p1 : Int32} {r : Int32} (h : f_X8_key S k p1 = some r) : ps_MetI l yX8_key wsX8_key (ps_rm 1 21) w [.ref (w.2.1 k), .int p1] S S r := by
  refine ps_mkI (cc := cX8_key) (maxL := 2) (own := RX8) (by decide +kernel) rfl (Or.inl rfl) rfl (Nat.le_of_ble_eq_true rfl) rfl (fun G hl hG hret => ?_)
  unfold f_X8_key at h
  refine ps_aload_n hG dX8_key_0 rfl 0 rfl ?_
  refine ps_get17_2 hG hw inX8_key_X8 (ps_isF_0 hk).1 (ps_isF_0 hk).2.2.1 mX8_key_40 dX8_key_1 ?_
  refine ps_iload_n hG dX8_key_4 rfl 1 rfl ?_
  obtain ⟨r5, hr5, h⟩ := ps_bd h
  refine ps_callVI (As := [.int p1]) (rest := []) (nA := 1) hG (c_X9_leaf _ hw (ps_isF_5 hk) hr5) gX8_key_X9_leaf rfl (by decide +kernel) rfl ⟨Nat.le_of_ble_eq_true rfl, Nat.le_of_ble_eq_true rfl⟩ ⟨rfl, rfl⟩ ⟨Nat.le_of_ble_eq_true rfl, Nat.le_of_ble_eq_true rfl⟩ (ps_isT_0 (ps_isF_5 hk)).2.2.1 (ps_cel_18 (ps_isT_0 (ps_isF_5 hk)).1 _) rfl rfl (Nat.le_of_ble_eq_true rfl) dX8_key_5 ?_
  refine ps_sipush (v := 255) hG dX8_key_8 (by decide) ?_
  refine ps_iand hG dX8_key_11 ?_
  cases h
  exact hret _ _ dX8_key_12
def f_X8_mended (S : ps_S) (k : Nat) (p1 : Int32) : Option Int32 :=
  ((f_X0_solve S (k + 4) p1).bind fun r5 =>
  some r5)
theorem inX8_mended_X8 : ∀ q ∈ wsX80, q ∈ wsX8_mended := fun _ h => List.mem_cons_of_mem _ (List.mem_append_right _ h)
theorem mX8_mended_32 : Cond.fieldLink RX8 32 (TX8 1).1 (TX8 1).2.1 (TX8 1).2.2.1 ∈ wsX8_mended := List.mem_of_getElem? (i := 1) rfl
set_option maxHeartbeats 4000000 in
set_option maxRecDepth 100000 in
theorem c_X8_mended (l : Launch) {w : ps_X} (hw : ps_ww w) {k : Nat} (hk : ps_isF w k) {S : ps_S} {p1 : Int32} {r : Int32} (h : f_X8_mended S k p1 = some r) : ps_MetI l yX8_mended wsX8_mended (ps_rm 4 100) w [.ref (w.2.1 k), .int p1] S S r := by
  refine ps_mkI (cc := cX8_mended) (maxL := 2) (own := RX8) (by decide +kernel) rfl (Or.inl rfl) rfl (Nat.le_of_ble_eq_true rfl) rfl (fun G hl hG hret => ?_)
  unfold f_X8_mended at h
  refine ps_aload_n hG dX8_mended_0 rfl 0 rfl ?_
  refine ps_get17_1 hG hw inX8_mended_X8 (ps_isF_0 hk).1 (ps_isF_0 hk).2.2.1 mX8_mended_32 dX8_mended_1 ?_
  refine ps_iload_n hG dX8_mended_4 rfl 1 rfl ?_
  obtain ⟨r5, hr5, h⟩ := ps_bd h
  refine ps_callSI (As := [.ref (w.2.1 (k + 4)), .int p1]) (rest := []) (nA := 2) hG (c_X0_solve _ hw (ps_isF_4 hk) hr5) gX8_mended_X0_solve rfl (by decide +kernel) rfl ⟨Nat.le_of_ble_eq_true rfl, Nat.le_of_ble_eq_true rfl⟩ ⟨rfl, rfl⟩ ⟨Nat.le_of_ble_eq_true rfl, Nat.le_of_ble_eq_true rfl⟩ rfl (Nat.le_of_ble_eq_true rfl) dX8_mended_5 ?_
  cases h
  exact hret _ _ dX8_mended_8
def f_X8_holder (S : ps_S) (k : Nat) (p1 : Int32) : Option Int32 :=
  ((f_X8_isPiece p1).bind fun r1 =>
  (if r1 = 0 then
    some (-1)
  else
    (if ps_ib p1 6 = true then
    some (S (k + 1) p1.toNatClampNeg) else none)))
theorem inX8_holder_X8 : ∀ q ∈ wsX80, q ∈ wsX8_holder := fun _ h => List.mem_cons_of_mem _ (List.mem_append_right _ h)
theorem mX8_holder_9 : Cond.fieldLink RX8 9 (TX8 3).1 (TX8 3).2.1 (TX8 3).2.2.1 ∈ wsX8_holder := List.mem_of_getElem? (i := 1) rfl
set_option maxHeartbeats 4000000 in
set_option maxRecDepth 100000 in
theorem c_X8_holder (l : Launch) {w : ps_X} (hw : ps_ww w) {k : Nat} (hk : ps_isF w k) {S : ps_S} {p1 : Int32} {r : Int32} (h : f_X8_holder S k p1 = some r) : ps_MetI l yX8_holder wsX8_holder (ps_rm 1 20) w [.ref (w.2.1 k), .int p1] S S r := by
  refine ps_mkI (cc := cX8_holder) (maxL := 2) (own := RX8) (by decide +kernel) rfl (Or.inl rfl) rfl (Nat.le_of_ble_eq_true rfl) rfl (fun G hl hG hret => ?_)
  unfold f_X8_holder at h
  refine ps_iload_n hG dX8_holder_0 rfl 1 rfl ?_
  obtain ⟨r1, hr1, h⟩ := ps_bd h
  refine ps_callSI (As := [.int p1]) (rest := []) (nA := 1) hG (c_X8_isPiece _ hw hr1) gX8_holder_X8_isPiece rfl (by decide +kernel) rfl ⟨Nat.le_of_ble_eq_true rfl, Nat.le_of_ble_eq_true rfl⟩ ⟨rfl, rfl⟩ ⟨Nat.le_of_ble_eq_true rfl, Nat.le_of_ble_eq_true rfl⟩ rfl (Nat.le_of_ble_eq_true rfl) dX8_holder_1 ?_
  refine ps_if_eq (tgt := 16) hG dX8_holder_4 (by decide) (fun c4 => ?_) (fun c4 => ?_)
  · replace h := ps_ip c4 h
    refine ps_iconst (v := (-1)) hG dX8_holder_16 (by decide) ?_
    cases h
    exact hret _ _ dX8_holder_17
  · replace h := ps_in c4 h
    refine ps_aload_n hG dX8_holder_7 rfl 0 rfl ?_
    refine ps_get17_3 hG hw inX8_holder_X8 (ps_isF_0 hk).1 (ps_isF_0 hk).2.2.1 mX8_holder_9 dX8_holder_8 ?_
    refine ps_iload_n hG dX8_holder_11 rfl 1 rfl ?_
    obtain ⟨hb12, h⟩ := ps_ig h
    refine ps_iald hG (ps_isF_1 hk).1 (ps_isF_1 hk).2.1 (ps_isF_1 hk).2.2.1 hb12 dX8_holder_12 ?_
    refine ps_goto (tgt := 17) hG dX8_holder_13 (by decide) ?_
    cases h
    exact hret _ _ dX8_holder_17
def f_X8_isHeld (S : ps_S) (k : Nat) (p1 : Int32) : Option Int32 :=
  ((f_X8_isPiece p1).bind fun r1 =>
  (if r1 = 0 then
    some 0
  else
    (if ps_ib p1 6 = true then
    (if (S (k + 1) p1.toNatClampNeg) = (-1) then
      some 0
    else
      some 1) else none)))
theorem inX8_isHeld_X8 : ∀ q ∈ wsX80, q ∈ wsX8_isHeld := fun _ h => List.mem_cons_of_mem _ (List.mem_append_right _ h)
theorem mX8_isHeld_9 : Cond.fieldLink RX8 9 (TX8 3).1 (TX8 3).2.1 (TX8 3).2.2.1 ∈ wsX8_isHeld := List.mem_of_getElem? (i := 1) rfl
set_option maxHeartbeats 4000000 in
set_option maxRecDepth 100000 in
theorem c_X8_isHeld (l : Launch) {w : ps_X} (hw : ps_ww w) {k : Nat} (hk : ps_isF w k) {S : ps_S} {p1 : Int32} {r : Int32} (h : f_X8_isHeld S k p1 = some r) : ps_MetI l yX8_isHeld wsX8_isHeld (ps_rm 1 20) w [.ref (w.2.1 k), .int p1] S S r := by
  refine ps_mkZ (cc := cX8_isHeld) (maxL := 2) (own := RX8) (by decide +kernel) rfl rfl rfl (Nat.le_of_ble_eq_true rfl) rfl (fun G hl hG hret => ?_)
  unfold f_X8_isHeld at h
  refine ps_iload_n hG dX8_isHeld_0 rfl 1 rfl ?_
  obtain ⟨r1, hr1, h⟩ := ps_bd h
  refine ps_callSI (As := [.int p1]) (rest := []) (nA := 1) hG (c_X8_isPiece _ hw hr1) gX8_isHeld_X8_isPiece rfl (by decide +kernel) rfl ⟨Nat.le_of_ble_eq_true rfl, Nat.le_of_ble_eq_true rfl⟩ ⟨rfl, rfl⟩ ⟨Nat.le_of_ble_eq_true rfl, Nat.le_of_ble_eq_true rfl⟩ rfl (Nat.le_of_ble_eq_true rfl) dX8_isHeld_1 ?_
  refine ps_if_eq (tgt := 21) hG dX8_isHeld_4 (by decide) (fun c4 => ?_) (fun c4 => ?_)
  · replace h := ps_ip c4 h
    refine ps_iconst (v := 0) hG dX8_isHeld_21 (by decide) ?_
    cases h
    exact hret _ _ dX8_isHeld_22 rfl
  · replace h := ps_in c4 h
    refine ps_aload_n hG dX8_isHeld_7 rfl 0 rfl ?_
    refine ps_get17_3 hG hw inX8_isHeld_X8 (ps_isF_0 hk).1 (ps_isF_0 hk).2.2.1 mX8_isHeld_9 dX8_isHeld_8 ?_
    refine ps_iload_n hG dX8_isHeld_11 rfl 1 rfl ?_
    obtain ⟨hb12, h⟩ := ps_ig h
    refine ps_iald hG (ps_isF_1 hk).1 (ps_isF_1 hk).2.1 (ps_isF_1 hk).2.2.1 hb12 dX8_isHeld_12 ?_
    refine ps_iconst (v := (-1)) hG dX8_isHeld_13 (by decide) ?_
    refine ps_icmp_eq (tgt := 21) hG dX8_isHeld_14 (by decide) (fun c14 => ?_) (fun c14 => ?_)
    · replace h := ps_ip c14 h
      refine ps_iconst (v := 0) hG dX8_isHeld_21 (by decide) ?_
      cases h
      exact hret _ _ dX8_isHeld_22 rfl
    · replace h := ps_in c14 h
      refine ps_iconst (v := 1) hG dX8_isHeld_17 (by decide) ?_
      refine ps_goto (tgt := 22) hG dX8_isHeld_18 (by decide) ?_
      cases h
      exact hret _ _ dX8_isHeld_22 rfl
def f_X8_isHeldBy_L11 (S : ps_S) (k : Nat) (p1 : Int32) (v4_11 : Int32) : Option ((Int32) ⊕ ((Unit) ⊕ Int32)) :=
  (if 6 ≤ v4_11 then
        some (.inr (.inl ()))
      else
        (if ps_ib v4_11 6 = true then
        (if (S (k + 1) v4_11.toNatClampNeg) = p1 then
          some (.inr (.inr 1))
        else
          some (.inl (v4_11 + 1))) else none))
def f_X8_isHeldBy (S : ps_S) (k : Nat) (p1 : Int32) : Option Int32 :=
  ps_bs (ps_it (fun (a : Int32) => f_X8_isHeldBy_L11 S k p1 a) ps_fu 0)
  (fun q => some 0)
  (fun q => some q)
theorem inX8_isHeldBy_X8 : ∀ q ∈ wsX80, q ∈ wsX8_isHeldBy := fun _ h => List.mem_cons_of_mem _ (List.mem_append_right _ h)
theorem mX8_isHeldBy_9 : Cond.fieldLink RX8 9 (TX8 3).1 (TX8 3).2.1 (TX8 3).2.2.1 ∈ wsX8_isHeldBy := List.mem_of_getElem? (i := 1) rfl
set_option maxHeartbeats 4000000 in
set_option maxRecDepth 100000 in
theorem c_X8_isHeldBy (l : Launch) {w : ps_X} (hw : ps_ww w) {k : Nat} (hk : ps_isF w k) {S : ps_S} {p1 : Int32} {r : Int32} (h : f_X8_isHeldBy S k p1 = some r) : ps_MetI l yX8_isHeldBy wsX8_isHeldBy (ps_rm 0 0) w [.ref (w.2.1 k), .int p1] S S r := by
  refine ps_mkZ (cc := cX8_isHeldBy) (maxL := 6) (own := RX8) (by decide +kernel) rfl rfl rfl (Nat.le_of_ble_eq_true rfl) rfl (fun G hl hG hret => ?_)
  unfold f_X8_isHeldBy at h
  refine ps_aload_n hG dX8_isHeldBy_0 rfl 0 rfl ?_
  refine ps_get17_3 hG hw inX8_isHeldBy_X8 (ps_isF_0 hk).1 (ps_isF_0 hk).2.2.1 mX8_isHeldBy_9 dX8_isHeldBy_1 ?_
  refine ps_astore_n (lv' := [(2, .ref (w.2.1 (k + 1))), (0, .ref (w.2.1 k)), (1, .int p1)]) hG dX8_isHeldBy_4 rfl (by decide) rfl ?_
  refine ps_aload_n hG dX8_isHeldBy_5 rfl 0 rfl ?_
  refine ps_alen (v := 6) hG (ps_isF_1 hk).1 (ps_isF_1 hk).2.1 (ps_isF_1 hk).2.2.1 (by decide) dX8_isHeldBy_6 ?_
  refine ps_istore_n (lv' := [(3, .int 6), (2, .ref (w.2.1 (k + 1))), (0, .ref (w.2.1 k)), (1, .int p1)]) hG dX8_isHeldBy_7 rfl (by decide) rfl ?_
  refine ps_iconst (v := 0) hG dX8_isHeldBy_8 (by decide) ?_
  refine ps_istore (lv' := [(4, .int 0), (3, .int 6), (2, .ref (w.2.1 (k + 1))), (0, .ref (w.2.1 k)), (1, .int p1)]) hG dX8_isHeldBy_9 (by decide) rfl ?_
  have h0 := ps_bd h
  obtain ⟨q11, hq11, h⟩ := h0
  refine (ps_sub [4, 2, 1, 0] rfl (ps_itV (fun (a : Int32) => ps_V G 6 0 0 w S 11 [(1, .int p1), (2, .ref (w.2.1 (k + 1))), (3, .int 6), (4, .int a)] []) (Sum.elim (fun (b : Unit) => ps_V G 6 0 0 w S 37 [] []) (fun (q : Int32) => ∀ pc lv, decode cX8_isHeldBy pc = .ok (.ireturn, 1) → narrow .boolean (.int q) = .int q → ps_V G 6 0 0 w S pc lv [.int q])) ?_ _ _ _ hq11 ?_))
  · intro a r9 h kc ke
    obtain ⟨v4_11, hx9⟩ : ∃ x, x = a := ⟨_, rfl⟩
    subst hx9
    replace h : f_X8_isHeldBy_L11 S k p1 v4_11 = some r9 := h
    show ps_V G 6 0 0 w S 11 [(1, .int p1), (2, .ref (w.2.1 (k + 1))), (3, .int 6), (4, .int v4_11)] []
    unfold f_X8_isHeldBy_L11 at h
    refine ps_iload hG dX8_isHeldBy_11 3 rfl ?_
    refine ps_iload_n hG dX8_isHeldBy_13 rfl 2 rfl ?_
    refine ps_icmp_ge (tgt := 37) hG dX8_isHeldBy_14 (by decide) (fun c14 => ?_) (fun c14 => ?_)
    · replace h := ps_ip c14 h
      cases h
      exact (ps_sub [] rfl (ke _ rfl))
    · replace h := ps_in c14 h
      refine ps_aload_n hG dX8_isHeldBy_17 rfl 1 rfl ?_
      refine ps_iload hG dX8_isHeldBy_18 3 rfl ?_
      obtain ⟨hb20, h⟩ := ps_ig h
      refine ps_iald hG (ps_isF_1 hk).1 (ps_isF_1 hk).2.1 (ps_isF_1 hk).2.2.1 hb20 dX8_isHeldBy_20 ?_
      refine ps_istore (lv' := [(5, .int (S (k + 1) v4_11.toNatClampNeg)), (1, .int p1), (2, .ref (w.2.1 (k + 1))), (3, .int 6), (4, .int v4_11)]) hG dX8_isHeldBy_21 (by decide) rfl ?_
      refine ps_iload hG dX8_isHeldBy_23 0 rfl ?_
      refine ps_iload_n hG dX8_isHeldBy_25 rfl 1 rfl ?_
      refine ps_icmp_ne (tgt := 31) hG dX8_isHeldBy_26 (by decide) (fun c26 => ?_) (fun c26 => ?_)
      · replace h := ps_in c26 h
        refine ps_iinc (lv' := [(4, .int (v4_11 + 1)), (5, .int (S (k + 1) v4_11.toNatClampNeg)), (1, .int p1), (2, .ref (w.2.1 (k + 1))), (3, .int 6)]) hG dX8_isHeldBy_31 4 rfl (by rfl) (by decide) rfl ?_
        refine ps_goto (tgt := 11) hG dX8_isHeldBy_34 (by decide) ?_
        cases h
        exact (ps_sub [2, 3, 4, 0] rfl (kc _ rfl))
      · replace h := ps_ip c26 h
        refine ps_iconst (v := 1) hG dX8_isHeldBy_29 (by decide) ?_
        cases h
        exact ke _ rfl _ _ dX8_isHeldBy_30 rfl
  · rcases q11 with q | q
    · skip
      show ps_V G 6 0 0 w S 37 [] []
      replace h : (some 0) = some r := h
      refine ps_iconst (v := 0) hG dX8_isHeldBy_37 (by decide) ?_
      cases h
      exact hret _ _ dX8_isHeldBy_38 rfl
    · cases h
      exact hret
def f_X8_isKept (S : ps_S) (k : Nat) (p1 : Int32) : Option Int32 :=
  ((f_X8_isPiece p1).bind fun r1 =>
  (if r1 = 0 then
    some 0
  else
    (if ps_ib p1 6 = true then
    (if (S (k + 2) p1.toNatClampNeg) = 0 then
      some 0
    else
      some 1) else none)))
theorem inX8_isKept_X8 : ∀ q ∈ wsX80, q ∈ wsX8_isKept := fun _ h => List.mem_cons_of_mem _ (List.mem_append_right _ h)
theorem mX8_isKept_15 : Cond.fieldLink RX8 15 (TX8 4).1 (TX8 4).2.1 (TX8 4).2.2.1 ∈ wsX8_isKept := List.mem_of_getElem? (i := 1) rfl
set_option maxHeartbeats 4000000 in
set_option maxRecDepth 100000 in
theorem c_X8_isKept (l : Launch) {w : ps_X} (hw : ps_ww w) {k : Nat} (hk : ps_isF w k) {S : ps_S} {p1 : Int32} {r : Int32} (h : f_X8_isKept S k p1 = some r) : ps_MetI l yX8_isKept wsX8_isKept (ps_rm 1 20) w [.ref (w.2.1 k), .int p1] S S r := by
  refine ps_mkZ (cc := cX8_isKept) (maxL := 2) (own := RX8) (by decide +kernel) rfl rfl rfl (Nat.le_of_ble_eq_true rfl) rfl (fun G hl hG hret => ?_)
  unfold f_X8_isKept at h
  refine ps_iload_n hG dX8_isKept_0 rfl 1 rfl ?_
  obtain ⟨r1, hr1, h⟩ := ps_bd h
  refine ps_callSI (As := [.int p1]) (rest := []) (nA := 1) hG (c_X8_isPiece _ hw hr1) gX8_isKept_X8_isPiece rfl (by decide +kernel) rfl ⟨Nat.le_of_ble_eq_true rfl, Nat.le_of_ble_eq_true rfl⟩ ⟨rfl, rfl⟩ ⟨Nat.le_of_ble_eq_true rfl, Nat.le_of_ble_eq_true rfl⟩ rfl (Nat.le_of_ble_eq_true rfl) dX8_isKept_1 ?_
  refine ps_if_eq (tgt := 20) hG dX8_isKept_4 (by decide) (fun c4 => ?_) (fun c4 => ?_)
  · replace h := ps_ip c4 h
    refine ps_iconst (v := 0) hG dX8_isKept_20 (by decide) ?_
    cases h
    exact hret _ _ dX8_isKept_21 rfl
  · replace h := ps_in c4 h
    refine ps_aload_n hG dX8_isKept_7 rfl 0 rfl ?_
    refine ps_get17_4 hG hw inX8_isKept_X8 (ps_isF_0 hk).1 (ps_isF_0 hk).2.2.1 mX8_isKept_15 dX8_isKept_8 ?_
    refine ps_iload_n hG dX8_isKept_11 rfl 1 rfl ?_
    obtain ⟨hb12, h⟩ := ps_ig h
    refine ps_zald hG (ps_isF_2 hk).1 (ps_isF_2 hk).2.1 (ps_isF_2 hk).2.2.1 hb12 dX8_isKept_12 ?_
    refine ps_if_eq (tgt := 20) hG dX8_isKept_13 (by decide) (fun c13 => ?_) (fun c13 => ?_)
    · replace h := ps_ip c13 h
      refine ps_iconst (v := 0) hG dX8_isKept_20 (by decide) ?_
      cases h
      exact hret _ _ dX8_isKept_21 rfl
    · replace h := ps_in c13 h
      refine ps_iconst (v := 1) hG dX8_isKept_16 (by decide) ?_
      refine ps_goto (tgt := 21) hG dX8_isKept_17 (by decide) ?_
      cases h
      exact hret _ _ dX8_isKept_21 rfl
def f_X8_missed (S : ps_S) (k : Nat) (p1 : Int32) : Option Int32 :=
  ((f_X8_isPiece p1).bind fun r1 =>
  (if r1 = 0 then
    some 0
  else
    (if ps_ib p1 6 = true then
    some (S (k + 3) p1.toNatClampNeg) else none)))
theorem inX8_missed_X8 : ∀ q ∈ wsX80, q ∈ wsX8_missed := fun _ h => List.mem_cons_of_mem _ (List.mem_append_right _ h)
theorem mX8_missed_19 : Cond.fieldLink RX8 19 (TX8 5).1 (TX8 5).2.1 (TX8 5).2.2.1 ∈ wsX8_missed := List.mem_of_getElem? (i := 1) rfl
set_option maxHeartbeats 4000000 in
set_option maxRecDepth 100000 in
theorem c_X8_missed (l : Launch) {w : ps_X} (hw : ps_ww w) {k : Nat} (hk : ps_isF w k) {S : ps_S} {p1 : Int32} {r : Int32} (h : f_X8_missed S k p1 = some r) : ps_MetI l yX8_missed wsX8_missed (ps_rm 1 20) w [.ref (w.2.1 k), .int p1] S S r := by
  refine ps_mkI (cc := cX8_missed) (maxL := 2) (own := RX8) (by decide +kernel) rfl (Or.inl rfl) rfl (Nat.le_of_ble_eq_true rfl) rfl (fun G hl hG hret => ?_)
  unfold f_X8_missed at h
  refine ps_iload_n hG dX8_missed_0 rfl 1 rfl ?_
  obtain ⟨r1, hr1, h⟩ := ps_bd h
  refine ps_callSI (As := [.int p1]) (rest := []) (nA := 1) hG (c_X8_isPiece _ hw hr1) gX8_missed_X8_isPiece rfl (by decide +kernel) rfl ⟨Nat.le_of_ble_eq_true rfl, Nat.le_of_ble_eq_true rfl⟩ ⟨rfl, rfl⟩ ⟨Nat.le_of_ble_eq_true rfl, Nat.le_of_ble_eq_true rfl⟩ rfl (Nat.le_of_ble_eq_true rfl) dX8_missed_1 ?_
  refine ps_if_eq (tgt := 16) hG dX8_missed_4 (by decide) (fun c4 => ?_) (fun c4 => ?_)
  · replace h := ps_ip c4 h
    refine ps_iconst (v := 0) hG dX8_missed_16 (by decide) ?_
    cases h
    exact hret _ _ dX8_missed_17
  · replace h := ps_in c4 h
    refine ps_aload_n hG dX8_missed_7 rfl 0 rfl ?_
    refine ps_get17_5 hG hw inX8_missed_X8 (ps_isF_0 hk).1 (ps_isF_0 hk).2.2.1 mX8_missed_19 dX8_missed_8 ?_
    refine ps_iload_n hG dX8_missed_11 rfl 1 rfl ?_
    obtain ⟨hb12, h⟩ := ps_ig h
    refine ps_iald hG (ps_isF_3 hk).1 (ps_isF_3 hk).2.1 (ps_isF_3 hk).2.2.1 hb12 dX8_missed_12 ?_
    refine ps_goto (tgt := 17) hG dX8_missed_13 (by decide) ?_
    cases h
    exact hret _ _ dX8_missed_17
def f_X8_setMissed (S : ps_S) (k : Nat) (p1 : Int32) (p2 : Int32) : Option ps_S :=
  ((f_X8_isPiece p1).bind fun r1 =>
  (if r1 = 0 then
    some S
  else
    (if ps_ib p1 6 = true then
    some (ps_up S (k + 3) p1.toNatClampNeg p2) else none)))
theorem inX8_setMissed_X8 : ∀ q ∈ wsX80, q ∈ wsX8_setMissed := fun _ h => List.mem_cons_of_mem _ (List.mem_append_right _ h)
theorem mX8_setMissed_19 : Cond.fieldLink RX8 19 (TX8 5).1 (TX8 5).2.1 (TX8 5).2.2.1 ∈ wsX8_setMissed := List.mem_of_getElem? (i := 1) rfl
set_option maxHeartbeats 4000000 in
set_option maxRecDepth 100000 in
theorem c_X8_setMissed (l : Launch) {w : ps_X} (hw : ps_ww w) {k : Nat} (hk : ps_isF w k) {S S' : ps_S} {p1 p2 : Int32} (h : f_X8_setMissed S k p1 p2 = some S') : ps_MetV l yX8_setMissed wsX8_setMissed (ps_rm 1 20) w [.ref (w.2.1 k), .int p1, .int p2] S S' := by
  refine ps_mkV (cc := cX8_setMissed) (maxL := 3) (own := RX8) (by decide +kernel) rfl rfl rfl (Nat.le_of_ble_eq_true rfl) rfl (fun G hl hG hret => ?_)
  unfold f_X8_setMissed at h
  refine ps_iload_n hG dX8_setMissed_0 rfl 1 rfl ?_
  obtain ⟨r1, hr1, h⟩ := ps_bd h
  refine ps_callSI (As := [.int p1]) (rest := []) (nA := 1) hG (c_X8_isPiece _ hw hr1) gX8_setMissed_X8_isPiece rfl (by decide +kernel) rfl ⟨Nat.le_of_ble_eq_true rfl, Nat.le_of_ble_eq_true rfl⟩ ⟨rfl, rfl⟩ ⟨Nat.le_of_ble_eq_true rfl, Nat.le_of_ble_eq_true rfl⟩ rfl (Nat.le_of_ble_eq_true rfl) dX8_setMissed_1 ?_
  refine ps_if_eq (tgt := 14) hG dX8_setMissed_4 (by decide) (fun c4 => ?_) (fun c4 => ?_)
  · replace h := ps_ip c4 h
    cases h
    exact hret _ _ dX8_setMissed_14
  · replace h := ps_in c4 h
    refine ps_aload_n hG dX8_setMissed_7 rfl 0 rfl ?_
    refine ps_get17_5 hG hw inX8_setMissed_X8 (ps_isF_0 hk).1 (ps_isF_0 hk).2.2.1 mX8_setMissed_19 dX8_setMissed_8 ?_
    refine ps_iload_n hG dX8_setMissed_11 rfl 1 rfl ?_
    refine ps_iload_n hG dX8_setMissed_12 rfl 2 rfl ?_
    obtain ⟨hb13, h⟩ := ps_ig h
    refine ps_iast hG (ps_isF_3 hk).1 (ps_isF_3 hk).2.1 (ps_isF_3 hk).2.2.1 hb13 dX8_setMissed_13 ?_
    cases h
    exact hret _ _ dX8_setMissed_14
def f_X8_throwAway (S : ps_S) (k : Nat) (p1 : Int32) : Option ps_S :=
  ((f_X8_isPiece p1).bind fun r1 =>
  (if r1 = 0 then
    some S
  else
    (if ps_ib p1 6 = true then
    some (ps_up S (k + 2) p1.toNatClampNeg (vp_nar .boolean 0)) else none)))
theorem inX8_throwAway_X8 : ∀ q ∈ wsX80, q ∈ wsX8_throwAway := fun _ h => List.mem_cons_of_mem _ (List.mem_append_right _ h)
theorem mX8_throwAway_15 : Cond.fieldLink RX8 15 (TX8 4).1 (TX8 4).2.1 (TX8 4).2.2.1 ∈ wsX8_throwAway := List.mem_of_getElem? (i := 1) rfl
set_option maxHeartbeats 4000000 in
set_option maxRecDepth 100000 in
theorem c_X8_throwAway (l : Launch) {w : ps_X} (hw : ps_ww w) {k : Nat} (hk : ps_isF w k) {S S' : ps_S} {p1 : Int32} (h : f_X8_throwAway S k p1 = some S') : ps_MetV l yX8_throwAway wsX8_throwAway (ps_rm 1 20) w [.ref (w.2.1 k), .int p1] S S' := by
  refine ps_mkV (cc := cX8_throwAway) (maxL := 2) (own := RX8) (by decide +kernel) rfl rfl rfl (Nat.le_of_ble_eq_true rfl) rfl (fun G hl hG hret => ?_)
  unfold f_X8_throwAway at h
  refine ps_iload_n hG dX8_throwAway_0 rfl 1 rfl ?_
  obtain ⟨r1, hr1, h⟩ := ps_bd h
  refine ps_callSI (As := [.int p1]) (rest := []) (nA := 1) hG (c_X8_isPiece _ hw hr1) gX8_throwAway_X8_isPiece rfl (by decide +kernel) rfl ⟨Nat.le_of_ble_eq_true rfl, Nat.le_of_ble_eq_true rfl⟩ ⟨rfl, rfl⟩ ⟨Nat.le_of_ble_eq_true rfl, Nat.le_of_ble_eq_true rfl⟩ rfl (Nat.le_of_ble_eq_true rfl) dX8_throwAway_1 ?_
  refine ps_if_eq (tgt := 14) hG dX8_throwAway_4 (by decide) (fun c4 => ?_) (fun c4 => ?_)
  · replace h := ps_ip c4 h
    cases h
    exact hret _ _ dX8_throwAway_14
  · replace h := ps_in c4 h
    refine ps_aload_n hG dX8_throwAway_7 rfl 0 rfl ?_
    refine ps_get17_4 hG hw inX8_throwAway_X8 (ps_isF_0 hk).1 (ps_isF_0 hk).2.2.1 mX8_throwAway_15 dX8_throwAway_8 ?_
    refine ps_iload_n hG dX8_throwAway_11 rfl 1 rfl ?_
    refine ps_iconst (v := 0) hG dX8_throwAway_12 (by decide) ?_
    obtain ⟨hb13, h⟩ := ps_ig h
    refine ps_zast hG (ps_isF_2 hk).1 (ps_isF_2 hk).2.1 (ps_isF_2 hk).2.2.1 hb13 dX8_throwAway_13 ?_
    cases h
    exact hret _ _ dX8_throwAway_14
def f_X8_hand (S : ps_S) (k : Nat) (p1 : Int32) (p2 : Int32) (p3 : Int32) : Option ps_S :=
  ((f_X8_isPiece p1).bind fun r1 =>
  (if r1 = 0 then
    some S
  else
    (if ps_ib p1 6 = true then
    (if ps_ib p1 6 = true then
    (if ps_ib p1 6 = true then
    some (ps_up (ps_up (ps_up S (k + 1) p1.toNatClampNeg p2) (k + 2) p1.toNatClampNeg (vp_nar .boolean p3)) (k + 3) p1.toNatClampNeg 0) else none) else none) else none)))
theorem inX8_hand_X8 : ∀ q ∈ wsX80, q ∈ wsX8_hand := fun _ h => List.mem_cons_of_mem _ (List.mem_append_right _ h)
theorem mX8_hand_15 : Cond.fieldLink RX8 15 (TX8 4).1 (TX8 4).2.1 (TX8 4).2.2.1 ∈ wsX8_hand := List.mem_of_getElem? (i := 2) rfl
theorem mX8_hand_19 : Cond.fieldLink RX8 19 (TX8 5).1 (TX8 5).2.1 (TX8 5).2.2.1 ∈ wsX8_hand := List.mem_of_getElem? (i := 3) rfl
theorem mX8_hand_9 : Cond.fieldLink RX8 9 (TX8 3).1 (TX8 3).2.1 (TX8 3).2.2.1 ∈ wsX8_hand := List.mem_of_getElem? (i := 1) rfl
set_option maxHeartbeats 4000000 in
set_option maxRecDepth 100000 in
theorem c_X8_hand (l : Launch) {w : ps_X} (hw : ps_ww w) {k : Nat} (hk : ps_isF w k) {S S' : ps_S} {p1 p2 p3 : Int32} (h : f_X8_hand S k p1 p2 p3 = some S') : ps_MetV l yX8_hand wsX8_hand (ps_rm 1 20) w [.ref (w.2.1 k), .int p1, .int p2, .int p3] S S' := by
  refine ps_mkV (cc := cX8_hand) (maxL := 4) (own := RX8) (by decide +kernel) rfl rfl rfl (Nat.le_of_ble_eq_true rfl) rfl (fun G hl hG hret => ?_)
  unfold f_X8_hand at h
  refine ps_iload_n hG dX8_hand_0 rfl 1 rfl ?_
  obtain ⟨r1, hr1, h⟩ := ps_bd h
  refine ps_callSI (As := [.int p1]) (rest := []) (nA := 1) hG (c_X8_isPiece _ hw hr1) gX8_hand_X8_isPiece rfl (by decide +kernel) rfl ⟨Nat.le_of_ble_eq_true rfl, Nat.le_of_ble_eq_true rfl⟩ ⟨rfl, rfl⟩ ⟨Nat.le_of_ble_eq_true rfl, Nat.le_of_ble_eq_true rfl⟩ rfl (Nat.le_of_ble_eq_true rfl) dX8_hand_1 ?_
  refine ps_if_eq (tgt := 28) hG dX8_hand_4 (by decide) (fun c4 => ?_) (fun c4 => ?_)
  · replace h := ps_ip c4 h
    cases h
    exact hret _ _ dX8_hand_28
  · replace h := ps_in c4 h
    refine ps_aload_n hG dX8_hand_7 rfl 0 rfl ?_
    refine ps_get17_3 hG hw inX8_hand_X8 (ps_isF_0 hk).1 (ps_isF_0 hk).2.2.1 mX8_hand_9 dX8_hand_8 ?_
    refine ps_iload_n hG dX8_hand_11 rfl 1 rfl ?_
    refine ps_iload_n hG dX8_hand_12 rfl 2 rfl ?_
    obtain ⟨hb13, h⟩ := ps_ig h
    refine ps_iast hG (ps_isF_1 hk).1 (ps_isF_1 hk).2.1 (ps_isF_1 hk).2.2.1 hb13 dX8_hand_13 ?_
    refine ps_aload_n hG dX8_hand_14 rfl 0 rfl ?_
    refine ps_get17_4 hG hw inX8_hand_X8 (ps_isF_0 hk).1 (ps_isF_0 hk).2.2.1 mX8_hand_15 dX8_hand_15 ?_
    refine ps_iload_n hG dX8_hand_18 rfl 1 rfl ?_
    refine ps_iload_n hG dX8_hand_19 rfl 3 rfl ?_
    obtain ⟨hb20, h⟩ := ps_ig h
    refine ps_zast hG (ps_isF_2 hk).1 (ps_isF_2 hk).2.1 (ps_isF_2 hk).2.2.1 hb20 dX8_hand_20 ?_
    refine ps_aload_n hG dX8_hand_21 rfl 0 rfl ?_
    refine ps_get17_5 hG hw inX8_hand_X8 (ps_isF_0 hk).1 (ps_isF_0 hk).2.2.1 mX8_hand_19 dX8_hand_22 ?_
    refine ps_iload_n hG dX8_hand_25 rfl 1 rfl ?_
    refine ps_iconst (v := 0) hG dX8_hand_26 (by decide) ?_
    obtain ⟨hb27, h⟩ := ps_ig h
    refine ps_iast hG (ps_isF_3 hk).1 (ps_isF_3 hk).2.1 (ps_isF_3 hk).2.2.1 hb27 dX8_hand_27 ?_
    cases h
    exact hret _ _ dX8_hand_28
