def f_X5_has (S : ps_S) (p1 : Int32) : Option Int32 :=
  (if p1 < 0 then
    some 0
  else
    (if (S 1 4) ≤ p1 then
      some 0
    else
      (if 16 ≤ p1 then
        some 0
      else
        some 1)))
theorem inX5_has_X5 : ∀ q ∈ wsX50, q ∈ wsX5_has := fun _ h => List.mem_cons_of_mem _ (List.mem_append_right _ h)
theorem mX5_has_27 : Cond.fieldLink RX5 27 (TX5 4).1 (TX5 4).2.1 (TX5 4).2.2.1 ∈ wsX5_has := List.mem_of_getElem? (i := 1) rfl
set_option maxHeartbeats 4000000 in
set_option maxRecDepth 100000 in
theorem c_X5_has (l : Launch) {w : ps_X} (hw : ps_ww w) {S : ps_S} {p1 : Int32} {r : Int32} (h : f_X5_has S p1 = some r) : ps_MetI l yX5_has wsX5_has (ps_rm 0 0) w [.ref (w.2.1 1), .int p1] S S r := by
  refine ps_mkZ (cc := cX5_has) (maxL := 2) (own := RX5) (by decide +kernel) rfl rfl rfl (Nat.le_of_ble_eq_true rfl) rfl (fun G hl hG hret => ?_)
  unfold f_X5_has at h
  refine ps_iload_n hG dX5_has_0 rfl 1 rfl ?_
  refine ps_if_lt (tgt := 22) hG dX5_has_1 (by decide) (fun c1 => ?_) (fun c1 => ?_)
  · replace h := ps_ip c1 h
    refine ps_iconst (v := 0) hG dX5_has_22 (by decide) ?_
    cases h
    exact hret _ _ dX5_has_23 rfl
  · replace h := ps_in c1 h
    refine ps_iload_n hG dX5_has_4 rfl 1 rfl ?_
    refine ps_aload_n hG dX5_has_5 rfl 0 rfl ?_
    refine ps_get14_4 hG inX5_has_X5 ps_q1.1 (ps_lt hw ps_q1.2.2.1) mX5_has_27 dX5_has_6 ?_
    refine ps_icmp_ge (tgt := 22) hG dX5_has_9 (by decide) (fun c9 => ?_) (fun c9 => ?_)
    · replace h := ps_ip c9 h
      refine ps_iconst (v := 0) hG dX5_has_22 (by decide) ?_
      cases h
      exact hret _ _ dX5_has_23 rfl
    · replace h := ps_in c9 h
      refine ps_iload_n hG dX5_has_12 rfl 1 rfl ?_
      refine ps_bipush (v := 16) hG dX5_has_13 (by decide) ?_
      refine ps_icmp_ge (tgt := 22) hG dX5_has_15 (by decide) (fun c15 => ?_) (fun c15 => ?_)
      · replace h := ps_ip c15 h
        refine ps_iconst (v := 0) hG dX5_has_22 (by decide) ?_
        cases h
        exact hret _ _ dX5_has_23 rfl
      · replace h := ps_in c15 h
        refine ps_iconst (v := 1) hG dX5_has_18 (by decide) ?_
        refine ps_goto (tgt := 23) hG dX5_has_19 (by decide) ?_
        cases h
        exact hret _ _ dX5_has_23 rfl
def f_X5_isFull (S : ps_S) : Option Int32 :=
  (if (S 1 4) < 16 then
    some 0
  else
    some 1)
theorem inX5_isFull_X5 : ∀ q ∈ wsX50, q ∈ wsX5_isFull := fun _ h => List.mem_cons_of_mem _ (List.mem_append_right _ h)
theorem mX5_isFull_27 : Cond.fieldLink RX5 27 (TX5 4).1 (TX5 4).2.1 (TX5 4).2.2.1 ∈ wsX5_isFull := List.mem_of_getElem? (i := 1) rfl
set_option maxHeartbeats 4000000 in
set_option maxRecDepth 100000 in
theorem c_X5_isFull (l : Launch) {w : ps_X} (hw : ps_ww w) {S : ps_S} {r : Int32} (h : f_X5_isFull S = some r) : ps_MetI l yX5_isFull wsX5_isFull (ps_rm 0 0) w [.ref (w.2.1 1)] S S r := by
  refine ps_mkZ (cc := cX5_isFull) (maxL := 1) (own := RX5) (by decide +kernel) rfl rfl rfl (Nat.le_of_ble_eq_true rfl) rfl (fun G hl hG hret => ?_)
  unfold f_X5_isFull at h
  refine ps_aload_n hG dX5_isFull_0 rfl 0 rfl ?_
  refine ps_get14_4 hG inX5_isFull_X5 ps_q1.1 (ps_lt hw ps_q1.2.2.1) mX5_isFull_27 dX5_isFull_1 ?_
  refine ps_bipush (v := 16) hG dX5_isFull_4 (by decide) ?_
  refine ps_icmp_lt (tgt := 13) hG dX5_isFull_6 (by decide) (fun c6 => ?_) (fun c6 => ?_)
  · replace h := ps_ip c6 h
    refine ps_iconst (v := 0) hG dX5_isFull_13 (by decide) ?_
    cases h
    exact hret _ _ dX5_isFull_14 rfl
  · replace h := ps_in c6 h
    refine ps_iconst (v := 1) hG dX5_isFull_9 (by decide) ?_
    refine ps_goto (tgt := 14) hG dX5_isFull_10 (by decide) ?_
    cases h
    exact hret _ _ dX5_isFull_14 rfl
def f_X5_hasId_L2 (S : ps_S) (p1 : Int32) (v2_2 : Int32) : Option ((Int32) ⊕ ((Unit) ⊕ Int32)) :=
  (if (S 1 4) ≤ v2_2 then
        some (.inr (.inl ()))
      else
        (if 16 ≤ v2_2 then
          some (.inr (.inl ()))
        else
          (if ps_ib v2_2 16 = true then
          (if (S 2 v2_2.toNatClampNeg) = p1 then
            some (.inr (.inr 1))
          else
            some (.inl (v2_2 + 1))) else none)))
def f_X5_hasId (S : ps_S) (p1 : Int32) : Option Int32 :=
  ps_bs (ps_it (fun (a : Int32) => f_X5_hasId_L2 S p1 a) ps_fu 0)
  (fun q => some 0)
  (fun q => some q)
theorem inX5_hasId_X5 : ∀ q ∈ wsX50, q ∈ wsX5_hasId := fun _ h => List.mem_cons_of_mem _ (List.mem_append_right _ h)
theorem mX5_hasId_27 : Cond.fieldLink RX5 27 (TX5 4).1 (TX5 4).2.1 (TX5 4).2.2.1 ∈ wsX5_hasId := List.mem_of_getElem? (i := 1) rfl
theorem mX5_hasId_9 : Cond.fieldLink RX5 9 (TX5 0).1 (TX5 0).2.1 (TX5 0).2.2.1 ∈ wsX5_hasId := List.mem_of_getElem? (i := 2) rfl
set_option maxHeartbeats 4000000 in
set_option maxRecDepth 100000 in
theorem c_X5_hasId (l : Launch) {w : ps_X} (hw : ps_ww w) {S : ps_S} {p1 : Int32} {r : Int32} (h : f_X5_hasId S p1 = some r) : ps_MetI l yX5_hasId wsX5_hasId (ps_rm 0 0) w [.ref (w.2.1 1), .int p1] S S r := by
  refine ps_mkZ (cc := cX5_hasId) (maxL := 3) (own := RX5) (by decide +kernel) rfl rfl rfl (Nat.le_of_ble_eq_true rfl) rfl (fun G hl hG hret => ?_)
  unfold f_X5_hasId at h
  refine ps_iconst (v := 0) hG dX5_hasId_0 (by decide) ?_
  refine ps_istore_n (lv' := [(2, .int 0), (0, .ref (w.2.1 1)), (1, .int p1)]) hG dX5_hasId_1 rfl (by decide) rfl ?_
  have h0 := ps_bd h
  obtain ⟨q2, hq2, h⟩ := h0
  refine (ps_sub [1, 2, 0] rfl (ps_itV (fun (a : Int32) => ps_V G 3 0 0 w S 2 [(0, .ref (w.2.1 1)), (1, .int p1), (2, .int a)] []) (Sum.elim (fun (b : Unit) => ps_V G 3 0 0 w S 34 [] []) (fun (q : Int32) => ∀ pc lv, decode cX5_hasId pc = .ok (.ireturn, 1) → narrow .boolean (.int q) = .int q → ps_V G 3 0 0 w S pc lv [.int q])) ?_ _ _ _ hq2 ?_))
  · intro a r9 h kc ke
    obtain ⟨v2_2, hx9⟩ : ∃ x, x = a := ⟨_, rfl⟩
    subst hx9
    replace h : f_X5_hasId_L2 S p1 v2_2 = some r9 := h
    show ps_V G 3 0 0 w S 2 [(0, .ref (w.2.1 1)), (1, .int p1), (2, .int v2_2)] []
    unfold f_X5_hasId_L2 at h
    refine ps_iload_n hG dX5_hasId_2 rfl 2 rfl ?_
    refine ps_aload_n hG dX5_hasId_3 rfl 0 rfl ?_
    refine ps_get14_4 hG inX5_hasId_X5 ps_q1.1 (ps_lt hw ps_q1.2.2.1) mX5_hasId_27 dX5_hasId_4 ?_
    refine ps_icmp_ge (tgt := 34) hG dX5_hasId_7 (by decide) (fun c7 => ?_) (fun c7 => ?_)
    · replace h := ps_ip c7 h
      cases h
      exact (ps_sub [] rfl (ke _ rfl))
    · replace h := ps_in c7 h
      refine ps_iload_n hG dX5_hasId_10 rfl 2 rfl ?_
      refine ps_bipush (v := 16) hG dX5_hasId_11 (by decide) ?_
      refine ps_icmp_ge (tgt := 34) hG dX5_hasId_13 (by decide) (fun c13 => ?_) (fun c13 => ?_)
      · replace h := ps_ip c13 h
        cases h
        exact (ps_sub [] rfl (ke _ rfl))
      · replace h := ps_in c13 h
        refine ps_aload_n hG dX5_hasId_16 rfl 0 rfl ?_
        refine ps_get14_0 hG hw inX5_hasId_X5 ps_q1.1 (ps_lt hw ps_q1.2.2.1) mX5_hasId_9 dX5_hasId_17 ?_
        refine ps_iload_n hG dX5_hasId_20 rfl 2 rfl ?_
        obtain ⟨hb21, h⟩ := ps_ig h
        refine ps_iald hG ps_q2.1 ps_q2.2.1 (ps_lt hw ps_q2.2.2.1) hb21 dX5_hasId_21 ?_
        refine ps_iload_n hG dX5_hasId_22 rfl 1 rfl ?_
        refine ps_icmp_ne (tgt := 28) hG dX5_hasId_23 (by decide) (fun c23 => ?_) (fun c23 => ?_)
        · replace h := ps_in c23 h
          refine ps_iinc (lv' := [(2, .int (v2_2 + 1)), (0, .ref (w.2.1 1)), (1, .int p1)]) hG dX5_hasId_28 2 rfl (by rfl) (by decide) rfl ?_
          refine ps_goto (tgt := 2) hG dX5_hasId_31 (by decide) ?_
          cases h
          exact (ps_sub [1, 2, 0] rfl (kc _ rfl))
        · replace h := ps_ip c23 h
          refine ps_iconst (v := 1) hG dX5_hasId_26 (by decide) ?_
          cases h
          exact ke _ rfl _ _ dX5_hasId_27 rfl
  · rcases q2 with q | q
    · skip
      show ps_V G 3 0 0 w S 34 [] []
      replace h : (some 0) = some r := h
      refine ps_iconst (v := 0) hG dX5_hasId_34 (by decide) ?_
      cases h
      exact hret _ _ dX5_hasId_35 rfl
    · cases h
      exact hret
def f_X5_add_L59 (x3_4 : Int32) (T59 : ps_S) (v5_59 : Int32) : Option ((ps_S × Int32) ⊕ (ps_S)) :=
  (if 16 ≤ v5_59 then
            some (.inr T59)
          else
            (if ps_ib v5_59 16 = true then
            some (.inl (ps_up T59 (6 + x3_4.toNatClampNeg) v5_59.toNatClampNeg (-1), v5_59 + 1)) else none))
def f_X5_add (S : ps_S) (p1 : Int32) (p2 : Int32) : Option (Int32 × ps_S) :=
  ps_lts (S 1 4) (fun x3_4 => (if x3_4 < 0 then
    some ((-1), S)
  else
    (if x3_4 < 16 then
      (if ps_ib x3_4 16 = true then
      (if ps_ib x3_4 16 = true then
      (if ps_ib x3_4 16 = true then
      (if ps_ib x3_4 16 = true then
      ((ps_it (fun (a : ps_S × Int32) => f_X5_add_L59 x3_4 a.1 a.2) ps_fu (ps_up (ps_up (ps_up (ps_up S 1 4 ((S 1 4) + 1)) 2 x3_4.toNatClampNeg p1) 3 x3_4.toNatClampNeg p2) 4 x3_4.toNatClampNeg (vp_nar .boolean 1), 0)).bind (fun S59 => some (x3_4, S59))) else none) else none) else none) else none)
    else
      some ((-1), S))))
theorem inX5_add_X5 : ∀ q ∈ wsX50, q ∈ wsX5_add := fun _ h => List.mem_cons_of_mem _ (List.mem_append_right _ h)
theorem mX5_add_15 : Cond.fieldLink RX5 15 (TX5 1).1 (TX5 1).2.1 (TX5 1).2.2.1 ∈ wsX5_add := List.mem_of_getElem? (i := 3) rfl
theorem mX5_add_18 : Cond.fieldLink RX5 18 (TX5 2).1 (TX5 2).2.1 (TX5 2).2.2.1 ∈ wsX5_add := List.mem_of_getElem? (i := 4) rfl
theorem mX5_add_24 : Cond.fieldLink RX5 24 (TX5 3).1 (TX5 3).2.1 (TX5 3).2.2.1 ∈ wsX5_add := List.mem_of_getElem? (i := 5) rfl
theorem mX5_add_27 : Cond.fieldLink RX5 27 (TX5 4).1 (TX5 4).2.1 (TX5 4).2.2.1 ∈ wsX5_add := List.mem_of_getElem? (i := 1) rfl
theorem mX5_add_9 : Cond.fieldLink RX5 9 (TX5 0).1 (TX5 0).2.1 (TX5 0).2.2.1 ∈ wsX5_add := List.mem_of_getElem? (i := 2) rfl
set_option maxHeartbeats 4000000 in
set_option maxRecDepth 100000 in
theorem c_X5_add (l : Launch) {w : ps_X} (hw : ps_ww w) {S S' : ps_S} {p1 p2 : Int32} {r : Int32} (h : f_X5_add S p1 p2 = some (r, S')) : ps_MetI l yX5_add wsX5_add (ps_rm 0 0) w [.ref (w.2.1 1), .int p1, .int p2] S S' r := by
  refine ps_mkI (cc := cX5_add) (maxL := 6) (own := RX5) (by decide +kernel) rfl (Or.inl rfl) rfl (Nat.le_of_ble_eq_true rfl) rfl (fun G hl hG hret => ?_)
  unfold f_X5_add at h
  refine ps_aload_n hG dX5_add_0 rfl 0 rfl ?_
  refine ps_get14_4 hG inX5_add_X5 ps_q1.1 (ps_lt hw ps_q1.2.2.1) mX5_add_27 dX5_add_1 ?_
  refine ps_let h (fun x3_4 h => ?_)
  refine ps_istore_n (lv' := [(3, .int x3_4), (0, .ref (w.2.1 1)), (1, .int p1), (2, .int p2)]) hG dX5_add_4 rfl (by decide) rfl ?_
  refine ps_iload_n hG dX5_add_5 rfl 0 rfl ?_
  refine ps_if_lt (tgt := 15) hG dX5_add_6 (by decide) (fun c6 => ?_) (fun c6 => ?_)
  · replace h := ps_ip c6 h
    refine ps_iconst (v := (-1)) hG dX5_add_15 (by decide) ?_
    cases h
    exact hret _ _ dX5_add_16
  · replace h := ps_in c6 h
    refine ps_iload_n hG dX5_add_9 rfl 0 rfl ?_
    refine ps_bipush (v := 16) hG dX5_add_10 (by decide) ?_
    refine ps_icmp_lt (tgt := 17) hG dX5_add_12 (by decide) (fun c12 => ?_) (fun c12 => ?_)
    · replace h := ps_ip c12 h
      refine ps_aload_n hG dX5_add_17 rfl 1 rfl ?_
      refine ps_dup hG dX5_add_18 rfl ?_
      refine ps_get14_4 hG inX5_add_X5 ps_q1.1 (ps_lt hw ps_q1.2.2.1) mX5_add_27 dX5_add_19 ?_
      refine ps_iconst (v := 1) hG dX5_add_22 (by decide) ?_
      refine ps_iadd hG dX5_add_23 ?_
      refine ps_put14_4 hG inX5_add_X5 ps_q1.1 (ps_lt hw ps_q1.2.2.1) ps_q1.2.2.2 mX5_add_27 dX5_add_24 ?_
      refine ps_aload_n hG dX5_add_27 rfl 1 rfl ?_
      refine ps_get14_0 hG hw inX5_add_X5 ps_q1.1 (ps_lt hw ps_q1.2.2.1) mX5_add_9 dX5_add_28 ?_
      refine ps_iload_n hG dX5_add_31 rfl 0 rfl ?_
      refine ps_iload_n hG dX5_add_32 rfl 2 rfl ?_
      obtain ⟨hb33, h⟩ := ps_ig h
      refine ps_iast hG ps_q2.1 ps_q2.2.1 (ps_lt hw ps_q2.2.2.1) hb33 dX5_add_33 ?_
      refine ps_aload_n hG dX5_add_34 rfl 1 rfl ?_
      refine ps_get14_1 hG hw inX5_add_X5 ps_q1.1 (ps_lt hw ps_q1.2.2.1) mX5_add_15 dX5_add_35 ?_
      refine ps_iload_n hG dX5_add_38 rfl 0 rfl ?_
      refine ps_iload_n hG dX5_add_39 rfl 3 rfl ?_
      obtain ⟨hb40, h⟩ := ps_ig h
      refine ps_iast hG ps_q3.1 ps_q3.2.1 (ps_lt hw ps_q3.2.2.1) hb40 dX5_add_40 ?_
      refine ps_aload_n hG dX5_add_41 rfl 1 rfl ?_
      refine ps_get14_2 hG hw inX5_add_X5 ps_q1.1 (ps_lt hw ps_q1.2.2.1) mX5_add_18 dX5_add_42 ?_
      refine ps_iload_n hG dX5_add_45 rfl 0 rfl ?_
      refine ps_iconst (v := 1) hG dX5_add_46 (by decide) ?_
      obtain ⟨hb47, h⟩ := ps_ig h
      refine ps_zast hG ps_q4.1 ps_q4.2.1 (ps_lt hw ps_q4.2.2.1) hb47 dX5_add_47 ?_
      refine ps_aload_n hG dX5_add_48 rfl 1 rfl ?_
      refine ps_get14_3 hG hw inX5_add_X5 ps_q1.1 (ps_lt hw ps_q1.2.2.1) mX5_add_24 dX5_add_49 ?_
      refine ps_iload_n hG dX5_add_52 rfl 0 rfl ?_
      obtain ⟨hb53, h⟩ := ps_ig h
      refine ps_aald (b := 6) hG ps_q5.1 ps_q5.2.1 (ps_lt hw ps_q5.2.2.1) rfl hb53 dX5_add_53 ?_
      refine ps_astore (lv' := [(4, .ref (w.2.1 (6 + x3_4.toNatClampNeg))), (3, .int x3_4), (0, .ref (w.2.1 1)), (1, .int p1), (2, .int p2)]) hG dX5_add_54 (by decide) rfl ?_
      refine ps_iconst (v := 0) hG dX5_add_56 (by decide) ?_
      refine ps_istore (lv' := [(5, .int 0), (4, .ref (w.2.1 (6 + x3_4.toNatClampNeg))), (3, .int x3_4), (0, .ref (w.2.1 1)), (1, .int p1), (2, .int p2)]) hG dX5_add_57 (by decide) rfl ?_
      obtain ⟨S59, hq59, h⟩ := ps_bd h
      refine (ps_sub [2, 1, 0] rfl (ps_itV (fun (a : ps_S × Int32) => ps_V G 6 0 0 w a.1 59 [(3, .int x3_4), (4, .ref (w.2.1 (6 + x3_4.toNatClampNeg))), (5, .int a.2)] []) (fun (b : ps_S) => ps_V G 6 0 0 w b 79 [(3, .int x3_4)] []) ?_ _ _ _ hq59 ?_))
      · intro a r9 h kc ke
        obtain ⟨T59, v5_59⟩ := a
        replace h : f_X5_add_L59 x3_4 T59 v5_59 = some r9 := h
        show ps_V G 6 0 0 w T59 59 [(3, .int x3_4), (4, .ref (w.2.1 (6 + x3_4.toNatClampNeg))), (5, .int v5_59)] []
        unfold f_X5_add_L59 at h
        refine ps_iload hG dX5_add_59 2 rfl ?_
        refine ps_aload hG dX5_add_61 1 rfl ?_
        refine ps_alen (v := 16) hG (ps_k6 hb53).1 (ps_k6 hb53).2.1 (ps_lt hw (ps_k6 hb53).2.2.1) (by decide) dX5_add_63 ?_
        refine ps_icmp_ge (tgt := 79) hG dX5_add_64 (by decide) (fun c64 => ?_) (fun c64 => ?_)
        · replace h := ps_ip c64 h
          cases h
          exact (ps_sub [0] rfl (ke _ rfl))
        · replace h := ps_in c64 h
          refine ps_aload hG dX5_add_67 1 rfl ?_
          refine ps_iload hG dX5_add_69 2 rfl ?_
          refine ps_iconst (v := (-1)) hG dX5_add_71 (by decide) ?_
          obtain ⟨hb72, h⟩ := ps_ig h
          refine ps_iast hG (ps_k6 hb53).1 (ps_k6 hb53).2.1 (ps_lt hw (ps_k6 hb53).2.2.1) hb72 dX5_add_72 ?_
          refine ps_iinc (lv' := [(5, .int (v5_59 + 1)), (3, .int x3_4), (4, .ref (w.2.1 (6 + x3_4.toNatClampNeg)))]) hG dX5_add_73 2 rfl (by rfl) (by decide) rfl ?_
          refine ps_goto (tgt := 59) hG dX5_add_76 (by decide) ?_
          cases h
          exact (ps_sub [1, 2, 0] rfl (kc _ rfl))
      · show ps_V G 6 0 0 w S59 79 [(3, .int x3_4)] []
        refine ps_iload_n hG dX5_add_79 rfl 0 rfl ?_
        cases h
        exact hret _ _ dX5_add_80
    · replace h := ps_in c12 h
      refine ps_iconst (v := (-1)) hG dX5_add_15 (by decide) ?_
      cases h
      exact hret _ _ dX5_add_16
def f_X5_isOnline (S : ps_S) (p1 : Int32) : Option Int32 :=
  ((f_X5_has S p1).bind fun r2 =>
  (if r2 = 0 then
    some 0
  else
    (if ps_ib p1 16 = true then
    (if (S 4 p1.toNatClampNeg) = 0 then
      some 0
    else
      some 1) else none)))
theorem inX5_isOnline_X5 : ∀ q ∈ wsX50, q ∈ wsX5_isOnline := fun _ h => List.mem_cons_of_mem _ (List.mem_append_right _ h)
theorem mX5_isOnline_18 : Cond.fieldLink RX5 18 (TX5 2).1 (TX5 2).2.1 (TX5 2).2.2.1 ∈ wsX5_isOnline := List.mem_of_getElem? (i := 1) rfl
set_option maxHeartbeats 4000000 in
set_option maxRecDepth 100000 in
theorem c_X5_isOnline (l : Launch) {w : ps_X} (hw : ps_ww w) {S : ps_S} {p1 : Int32} {r : Int32} (h : f_X5_isOnline S p1 = some r) : ps_MetI l yX5_isOnline wsX5_isOnline (ps_rm 1 21) w [.ref (w.2.1 1), .int p1] S S r := by
  refine ps_mkZ (cc := cX5_isOnline) (maxL := 2) (own := RX5) (by decide +kernel) rfl rfl rfl (Nat.le_of_ble_eq_true rfl) rfl (fun G hl hG hret => ?_)
  unfold f_X5_isOnline at h
  refine ps_aload_n hG dX5_isOnline_0 rfl 0 rfl ?_
  refine ps_iload_n hG dX5_isOnline_1 rfl 1 rfl ?_
  obtain ⟨r2, hr2, h⟩ := ps_bd h
  refine ps_callVI (As := [.int p1]) (rest := []) (nA := 1) hG (c_X5_has _ hw hr2) gX5_isOnline_X5_has rfl (by decide +kernel) rfl ⟨Nat.le_of_ble_eq_true rfl, Nat.le_of_ble_eq_true rfl⟩ ⟨rfl, rfl⟩ ⟨Nat.le_of_ble_eq_true rfl, Nat.le_of_ble_eq_true rfl⟩ (ps_lt hw ps_q1.2.2.1) (ps_cel_14 ps_q1.1 _) rfl rfl (Nat.le_of_ble_eq_true rfl) dX5_isOnline_2 ?_
  refine ps_if_eq (tgt := 21) hG dX5_isOnline_5 (by decide) (fun c5 => ?_) (fun c5 => ?_)
  · replace h := ps_ip c5 h
    refine ps_iconst (v := 0) hG dX5_isOnline_21 (by decide) ?_
    cases h
    exact hret _ _ dX5_isOnline_22 rfl
  · replace h := ps_in c5 h
    refine ps_aload_n hG dX5_isOnline_8 rfl 0 rfl ?_
    refine ps_get14_2 hG hw inX5_isOnline_X5 ps_q1.1 (ps_lt hw ps_q1.2.2.1) mX5_isOnline_18 dX5_isOnline_9 ?_
    refine ps_iload_n hG dX5_isOnline_12 rfl 1 rfl ?_
    obtain ⟨hb13, h⟩ := ps_ig h
    refine ps_zald hG ps_q4.1 ps_q4.2.1 (ps_lt hw ps_q4.2.2.1) hb13 dX5_isOnline_13 ?_
    refine ps_if_eq (tgt := 21) hG dX5_isOnline_14 (by decide) (fun c14 => ?_) (fun c14 => ?_)
    · replace h := ps_ip c14 h
      refine ps_iconst (v := 0) hG dX5_isOnline_21 (by decide) ?_
      cases h
      exact hret _ _ dX5_isOnline_22 rfl
    · replace h := ps_in c14 h
      refine ps_iconst (v := 1) hG dX5_isOnline_17 (by decide) ?_
      refine ps_goto (tgt := 22) hG dX5_isOnline_18 (by decide) ?_
      cases h
      exact hret _ _ dX5_isOnline_22 rfl
def f_X5_setOnline (S : ps_S) (p1 : Int32) (p2 : Int32) : Option ps_S :=
  ((f_X5_has S p1).bind fun r2 =>
  (if r2 = 0 then
    some S
  else
    (if ps_ib p1 16 = true then
    some (ps_up S 4 p1.toNatClampNeg (vp_nar .boolean p2)) else none)))
theorem inX5_setOnline_X5 : ∀ q ∈ wsX50, q ∈ wsX5_setOnline := fun _ h => List.mem_cons_of_mem _ (List.mem_append_right _ h)
theorem mX5_setOnline_18 : Cond.fieldLink RX5 18 (TX5 2).1 (TX5 2).2.1 (TX5 2).2.2.1 ∈ wsX5_setOnline := List.mem_of_getElem? (i := 1) rfl
set_option maxHeartbeats 4000000 in
set_option maxRecDepth 100000 in
theorem c_X5_setOnline (l : Launch) {w : ps_X} (hw : ps_ww w) {S S' : ps_S} {p1 p2 : Int32} (h : f_X5_setOnline S p1 p2 = some S') : ps_MetV l yX5_setOnline wsX5_setOnline (ps_rm 1 21) w [.ref (w.2.1 1), .int p1, .int p2] S S' := by
  refine ps_mkV (cc := cX5_setOnline) (maxL := 3) (own := RX5) (by decide +kernel) rfl rfl rfl (Nat.le_of_ble_eq_true rfl) rfl (fun G hl hG hret => ?_)
  unfold f_X5_setOnline at h
  refine ps_aload_n hG dX5_setOnline_0 rfl 0 rfl ?_
  refine ps_iload_n hG dX5_setOnline_1 rfl 1 rfl ?_
  obtain ⟨r2, hr2, h⟩ := ps_bd h
  refine ps_callVI (As := [.int p1]) (rest := []) (nA := 1) hG (c_X5_has _ hw hr2) gX5_setOnline_X5_has rfl (by decide +kernel) rfl ⟨Nat.le_of_ble_eq_true rfl, Nat.le_of_ble_eq_true rfl⟩ ⟨rfl, rfl⟩ ⟨Nat.le_of_ble_eq_true rfl, Nat.le_of_ble_eq_true rfl⟩ (ps_lt hw ps_q1.2.2.1) (ps_cel_14 ps_q1.1 _) rfl rfl (Nat.le_of_ble_eq_true rfl) dX5_setOnline_2 ?_
  refine ps_if_eq (tgt := 15) hG dX5_setOnline_5 (by decide) (fun c5 => ?_) (fun c5 => ?_)
  · replace h := ps_ip c5 h
    cases h
    exact hret _ _ dX5_setOnline_15
  · replace h := ps_in c5 h
    refine ps_aload_n hG dX5_setOnline_8 rfl 0 rfl ?_
    refine ps_get14_2 hG hw inX5_setOnline_X5 ps_q1.1 (ps_lt hw ps_q1.2.2.1) mX5_setOnline_18 dX5_setOnline_9 ?_
    refine ps_iload_n hG dX5_setOnline_12 rfl 1 rfl ?_
    refine ps_iload_n hG dX5_setOnline_13 rfl 2 rfl ?_
    obtain ⟨hb14, h⟩ := ps_ig h
    refine ps_zast hG ps_q4.1 ps_q4.2.1 (ps_lt hw ps_q4.2.2.1) hb14 dX5_setOnline_14 ?_
    cases h
    exact hret _ _ dX5_setOnline_15
def f_X5_isHonest (S : ps_S) (p1 : Int32) : Option Int32 :=
  ((f_X5_has S p1).bind fun r2 =>
  (if r2 = 0 then
    some 0
  else
    (if ps_ib p1 16 = true then
    (if (S 3 p1.toNatClampNeg) = 0 then
      some 1
    else
      some 0) else none)))
theorem inX5_isHonest_X5 : ∀ q ∈ wsX50, q ∈ wsX5_isHonest := fun _ h => List.mem_cons_of_mem _ (List.mem_append_right _ h)
theorem mX5_isHonest_15 : Cond.fieldLink RX5 15 (TX5 1).1 (TX5 1).2.1 (TX5 1).2.2.1 ∈ wsX5_isHonest := List.mem_of_getElem? (i := 1) rfl
set_option maxHeartbeats 4000000 in
set_option maxRecDepth 100000 in
theorem c_X5_isHonest (l : Launch) {w : ps_X} (hw : ps_ww w) {S : ps_S} {p1 : Int32} {r : Int32} (h : f_X5_isHonest S p1 = some r) : ps_MetI l yX5_isHonest wsX5_isHonest (ps_rm 1 21) w [.ref (w.2.1 1), .int p1] S S r := by
  refine ps_mkZ (cc := cX5_isHonest) (maxL := 2) (own := RX5) (by decide +kernel) rfl rfl rfl (Nat.le_of_ble_eq_true rfl) rfl (fun G hl hG hret => ?_)
  unfold f_X5_isHonest at h
  refine ps_aload_n hG dX5_isHonest_0 rfl 0 rfl ?_
  refine ps_iload_n hG dX5_isHonest_1 rfl 1 rfl ?_
  obtain ⟨r2, hr2, h⟩ := ps_bd h
  refine ps_callVI (As := [.int p1]) (rest := []) (nA := 1) hG (c_X5_has _ hw hr2) gX5_isHonest_X5_has rfl (by decide +kernel) rfl ⟨Nat.le_of_ble_eq_true rfl, Nat.le_of_ble_eq_true rfl⟩ ⟨rfl, rfl⟩ ⟨Nat.le_of_ble_eq_true rfl, Nat.le_of_ble_eq_true rfl⟩ (ps_lt hw ps_q1.2.2.1) (ps_cel_14 ps_q1.1 _) rfl rfl (Nat.le_of_ble_eq_true rfl) dX5_isHonest_2 ?_
  refine ps_if_eq (tgt := 21) hG dX5_isHonest_5 (by decide) (fun c5 => ?_) (fun c5 => ?_)
  · replace h := ps_ip c5 h
    refine ps_iconst (v := 0) hG dX5_isHonest_21 (by decide) ?_
    cases h
    exact hret _ _ dX5_isHonest_22 rfl
  · replace h := ps_in c5 h
    refine ps_aload_n hG dX5_isHonest_8 rfl 0 rfl ?_
    refine ps_get14_1 hG hw inX5_isHonest_X5 ps_q1.1 (ps_lt hw ps_q1.2.2.1) mX5_isHonest_15 dX5_isHonest_9 ?_
    refine ps_iload_n hG dX5_isHonest_12 rfl 1 rfl ?_
    obtain ⟨hb13, h⟩ := ps_ig h
    refine ps_iald hG ps_q3.1 ps_q3.2.1 (ps_lt hw ps_q3.2.2.1) hb13 dX5_isHonest_13 ?_
    refine ps_if_ne (tgt := 21) hG dX5_isHonest_14 (by decide) (fun c14 => ?_) (fun c14 => ?_)
    · replace h := ps_in c14 h
      refine ps_iconst (v := 0) hG dX5_isHonest_21 (by decide) ?_
      cases h
      exact hret _ _ dX5_isHonest_22 rfl
    · replace h := ps_ip c14 h
      refine ps_iconst (v := 1) hG dX5_isHonest_17 (by decide) ?_
      refine ps_goto (tgt := 22) hG dX5_isHonest_18 (by decide) ?_
      cases h
      exact hret _ _ dX5_isHonest_22 rfl
def f_X5_answers (S : ps_S) (p1 : Int32) : Option Int32 :=
  ((f_X5_has S p1).bind fun r2 =>
  (if r2 = 0 then
    some 0
  else
    (if ps_ib p1 16 = true then
    (if (S 4 p1.toNatClampNeg) = 0 then
      some 0
    else
      (if ps_ib p1 16 = true then
      (if (S 3 p1.toNatClampNeg) = 1 then
        some 0
      else
        some 1) else none)) else none)))
theorem inX5_answers_X5 : ∀ q ∈ wsX50, q ∈ wsX5_answers := fun _ h => List.mem_cons_of_mem _ (List.mem_append_right _ h)
theorem mX5_answers_15 : Cond.fieldLink RX5 15 (TX5 1).1 (TX5 1).2.1 (TX5 1).2.2.1 ∈ wsX5_answers := List.mem_of_getElem? (i := 2) rfl
theorem mX5_answers_18 : Cond.fieldLink RX5 18 (TX5 2).1 (TX5 2).2.1 (TX5 2).2.2.1 ∈ wsX5_answers := List.mem_of_getElem? (i := 1) rfl
set_option maxHeartbeats 4000000 in
set_option maxRecDepth 100000 in
theorem c_X5_answers (l : Launch) {w : ps_X} (hw : ps_ww w) {S : ps_S} {p1 : Int32} {r : Int32} (h : f_X5_answers S p1 = some r) : ps_MetI l yX5_answers wsX5_answers (ps_rm 1 21) w [.ref (w.2.1 1), .int p1] S S r := by
  refine ps_mkZ (cc := cX5_answers) (maxL := 2) (own := RX5) (by decide +kernel) rfl rfl rfl (Nat.le_of_ble_eq_true rfl) rfl (fun G hl hG hret => ?_)
  unfold f_X5_answers at h
  refine ps_aload_n hG dX5_answers_0 rfl 0 rfl ?_
  refine ps_iload_n hG dX5_answers_1 rfl 1 rfl ?_
  obtain ⟨r2, hr2, h⟩ := ps_bd h
  refine ps_callVI (As := [.int p1]) (rest := []) (nA := 1) hG (c_X5_has _ hw hr2) gX5_answers_X5_has rfl (by decide +kernel) rfl ⟨Nat.le_of_ble_eq_true rfl, Nat.le_of_ble_eq_true rfl⟩ ⟨rfl, rfl⟩ ⟨Nat.le_of_ble_eq_true rfl, Nat.le_of_ble_eq_true rfl⟩ (ps_lt hw ps_q1.2.2.1) (ps_cel_14 ps_q1.1 _) rfl rfl (Nat.le_of_ble_eq_true rfl) dX5_answers_2 ?_
  refine ps_if_eq (tgt := 31) hG dX5_answers_5 (by decide) (fun c5 => ?_) (fun c5 => ?_)
  · replace h := ps_ip c5 h
    refine ps_iconst (v := 0) hG dX5_answers_31 (by decide) ?_
    cases h
    exact hret _ _ dX5_answers_32 rfl
  · replace h := ps_in c5 h
    refine ps_aload_n hG dX5_answers_8 rfl 0 rfl ?_
    refine ps_get14_2 hG hw inX5_answers_X5 ps_q1.1 (ps_lt hw ps_q1.2.2.1) mX5_answers_18 dX5_answers_9 ?_
    refine ps_iload_n hG dX5_answers_12 rfl 1 rfl ?_
    obtain ⟨hb13, h⟩ := ps_ig h
    refine ps_zald hG ps_q4.1 ps_q4.2.1 (ps_lt hw ps_q4.2.2.1) hb13 dX5_answers_13 ?_
    refine ps_if_eq (tgt := 31) hG dX5_answers_14 (by decide) (fun c14 => ?_) (fun c14 => ?_)
    · replace h := ps_ip c14 h
      refine ps_iconst (v := 0) hG dX5_answers_31 (by decide) ?_
      cases h
      exact hret _ _ dX5_answers_32 rfl
    · replace h := ps_in c14 h
      refine ps_aload_n hG dX5_answers_17 rfl 0 rfl ?_
      refine ps_get14_1 hG hw inX5_answers_X5 ps_q1.1 (ps_lt hw ps_q1.2.2.1) mX5_answers_15 dX5_answers_18 ?_
      refine ps_iload_n hG dX5_answers_21 rfl 1 rfl ?_
      obtain ⟨hb22, h⟩ := ps_ig h
      refine ps_iald hG ps_q3.1 ps_q3.2.1 (ps_lt hw ps_q3.2.2.1) hb22 dX5_answers_22 ?_
      refine ps_iconst (v := 1) hG dX5_answers_23 (by decide) ?_
      refine ps_icmp_eq (tgt := 31) hG dX5_answers_24 (by decide) (fun c24 => ?_) (fun c24 => ?_)
      · replace h := ps_ip c24 h
        refine ps_iconst (v := 0) hG dX5_answers_31 (by decide) ?_
        cases h
        exact hret _ _ dX5_answers_32 rfl
      · replace h := ps_in c24 h
        refine ps_iconst (v := 1) hG dX5_answers_27 (by decide) ?_
        refine ps_goto (tgt := 32) hG dX5_answers_28 (by decide) ?_
        cases h
        exact hret _ _ dX5_answers_32 rfl
def f_X5_distance_J29   : Option Int32 :=
  some 256
def f_X5_distance (S : ps_S) (p1 : Int32) (p2 : Int32) : Option Int32 :=
  (if p1 < 0 then
    f_X5_distance_J29
  else
    (if (S 1 4) ≤ p1 then
      f_X5_distance_J29
    else
      (if 16 ≤ p1 then
        f_X5_distance_J29
      else
        (if ps_ib p1 16 = true then
        some ((S 2 p1.toNatClampNeg) ^^^ p2) else none))))
theorem inX5_distance_X5 : ∀ q ∈ wsX50, q ∈ wsX5_distance := fun _ h => List.mem_cons_of_mem _ (List.mem_append_right _ h)
theorem mX5_distance_27 : Cond.fieldLink RX5 27 (TX5 4).1 (TX5 4).2.1 (TX5 4).2.2.1 ∈ wsX5_distance := List.mem_of_getElem? (i := 1) rfl
theorem mX5_distance_9 : Cond.fieldLink RX5 9 (TX5 0).1 (TX5 0).2.1 (TX5 0).2.2.1 ∈ wsX5_distance := List.mem_of_getElem? (i := 2) rfl
set_option maxHeartbeats 4000000 in
set_option maxRecDepth 100000 in
theorem c_X5_distance (l : Launch) {w : ps_X} (hw : ps_ww w) {S : ps_S} {p1 p2 : Int32} {r : Int32} (h : f_X5_distance S p1 p2 = some r) : ps_MetI l yX5_distance wsX5_distance (ps_rm 0 0) w [.ref (w.2.1 1), .int p1, .int p2] S S r := by
  refine ps_mkI (cc := cX5_distance) (maxL := 3) (own := RX5) (by decide +kernel) rfl (Or.inl rfl) rfl (Nat.le_of_ble_eq_true rfl) rfl (fun G hl hG hret => ?_)
  unfold f_X5_distance at h
  refine ps_iload_n hG dX5_distance_0 rfl 1 rfl ?_
  have hJ29 : f_X5_distance_J29  = some r → ps_V G 3 0 0 w S 29 [] [] := by
    intro h
    unfold f_X5_distance_J29 at h
    refine ps_sipush (v := 256) hG dX5_distance_29 (by decide) ?_
    cases h
    exact hret _ _ dX5_distance_32
  refine ps_if_lt (tgt := 29) hG dX5_distance_1 (by decide) (fun c1 => ?_) (fun c1 => ?_)
  · replace h := ps_ip c1 h
    exact (ps_sub [] rfl (hJ29  h))
  · replace h := ps_in c1 h
    refine ps_iload_n hG dX5_distance_4 rfl 1 rfl ?_
    refine ps_aload_n hG dX5_distance_5 rfl 0 rfl ?_
    refine ps_get14_4 hG inX5_distance_X5 ps_q1.1 (ps_lt hw ps_q1.2.2.1) mX5_distance_27 dX5_distance_6 ?_
    refine ps_icmp_ge (tgt := 29) hG dX5_distance_9 (by decide) (fun c9 => ?_) (fun c9 => ?_)
    · replace h := ps_ip c9 h
      exact (ps_sub [] rfl (hJ29  h))
    · replace h := ps_in c9 h
      refine ps_iload_n hG dX5_distance_12 rfl 1 rfl ?_
      refine ps_bipush (v := 16) hG dX5_distance_13 (by decide) ?_
      refine ps_icmp_ge (tgt := 29) hG dX5_distance_15 (by decide) (fun c15 => ?_) (fun c15 => ?_)
      · replace h := ps_ip c15 h
        exact (ps_sub [] rfl (hJ29  h))
      · replace h := ps_in c15 h
        refine ps_aload_n hG dX5_distance_18 rfl 0 rfl ?_
        refine ps_get14_0 hG hw inX5_distance_X5 ps_q1.1 (ps_lt hw ps_q1.2.2.1) mX5_distance_9 dX5_distance_19 ?_
        refine ps_iload_n hG dX5_distance_22 rfl 1 rfl ?_
        obtain ⟨hb23, h⟩ := ps_ig h
        refine ps_iald hG ps_q2.1 ps_q2.2.1 (ps_lt hw ps_q2.2.2.1) hb23 dX5_distance_23 ?_
        refine ps_iload_n hG dX5_distance_24 rfl 2 rfl ?_
        refine ps_ixor hG dX5_distance_25 ?_
        refine ps_goto (tgt := 32) hG dX5_distance_26 (by decide) ?_
        cases h
        exact hret _ _ dX5_distance_32
def f_X5_keptAt (S : ps_S) (p1 : Int32) (p2 : Int32) : Option Int32 :=
  ((f_X5_has S p1).bind fun r2 =>
  (if r2 = 0 then
    some (-1)
  else
    (if p2 < 0 then
      some (-1)
    else
      (if ps_ib p1 16 = true then
      (if 16 ≤ p2 then
        some (-1)
      else
        (if ps_ib p1 16 = true then
        (if ps_ib p2 16 = true then
        some (S (6 + p1.toNatClampNeg) p2.toNatClampNeg) else none) else none)) else none))))
theorem inX5_keptAt_X5 : ∀ q ∈ wsX50, q ∈ wsX5_keptAt := fun _ h => List.mem_cons_of_mem _ (List.mem_append_right _ h)
theorem mX5_keptAt_24 : Cond.fieldLink RX5 24 (TX5 3).1 (TX5 3).2.1 (TX5 3).2.2.1 ∈ wsX5_keptAt := List.mem_of_getElem? (i := 1) rfl
set_option maxHeartbeats 4000000 in
set_option maxRecDepth 100000 in
theorem c_X5_keptAt (l : Launch) {w : ps_X} (hw : ps_ww w) {S : ps_S} {p1 p2 : Int32} {r : Int32} (h : f_X5_keptAt S p1 p2 = some r) : ps_MetI l yX5_keptAt wsX5_keptAt (ps_rm 1 21) w [.ref (w.2.1 1), .int p1, .int p2] S S r := by
  refine ps_mkI (cc := cX5_keptAt) (maxL := 3) (own := RX5) (by decide +kernel) rfl (Or.inl rfl) rfl (Nat.le_of_ble_eq_true rfl) rfl (fun G hl hG hret => ?_)
  unfold f_X5_keptAt at h
  refine ps_aload_n hG dX5_keptAt_0 rfl 0 rfl ?_
  refine ps_iload_n hG dX5_keptAt_1 rfl 1 rfl ?_
  obtain ⟨r2, hr2, h⟩ := ps_bd h
  refine ps_callVI (As := [.int p1]) (rest := []) (nA := 1) hG (c_X5_has _ hw hr2) gX5_keptAt_X5_has rfl (by decide +kernel) rfl ⟨Nat.le_of_ble_eq_true rfl, Nat.le_of_ble_eq_true rfl⟩ ⟨rfl, rfl⟩ ⟨Nat.le_of_ble_eq_true rfl, Nat.le_of_ble_eq_true rfl⟩ (ps_lt hw ps_q1.2.2.1) (ps_cel_14 ps_q1.1 _) rfl rfl (Nat.le_of_ble_eq_true rfl) dX5_keptAt_2 ?_
  refine ps_if_eq (tgt := 34) hG dX5_keptAt_5 (by decide) (fun c5 => ?_) (fun c5 => ?_)
  · replace h := ps_ip c5 h
    refine ps_iconst (v := (-1)) hG dX5_keptAt_34 (by decide) ?_
    cases h
    exact hret _ _ dX5_keptAt_35
  · replace h := ps_in c5 h
    refine ps_iload_n hG dX5_keptAt_8 rfl 2 rfl ?_
    refine ps_if_lt (tgt := 34) hG dX5_keptAt_9 (by decide) (fun c9 => ?_) (fun c9 => ?_)
    · replace h := ps_ip c9 h
      refine ps_iconst (v := (-1)) hG dX5_keptAt_34 (by decide) ?_
      cases h
      exact hret _ _ dX5_keptAt_35
    · replace h := ps_in c9 h
      refine ps_iload_n hG dX5_keptAt_12 rfl 2 rfl ?_
      refine ps_aload_n hG dX5_keptAt_13 rfl 0 rfl ?_
      refine ps_get14_3 hG hw inX5_keptAt_X5 ps_q1.1 (ps_lt hw ps_q1.2.2.1) mX5_keptAt_24 dX5_keptAt_14 ?_
      refine ps_iload_n hG dX5_keptAt_17 rfl 1 rfl ?_
      obtain ⟨hb18, h⟩ := ps_ig h
      refine ps_aald (b := 6) hG ps_q5.1 ps_q5.2.1 (ps_lt hw ps_q5.2.2.1) rfl hb18 dX5_keptAt_18 ?_
      refine ps_alen (v := 16) hG (ps_k6 hb18).1 (ps_k6 hb18).2.1 (ps_lt hw (ps_k6 hb18).2.2.1) (by decide) dX5_keptAt_19 ?_
      refine ps_icmp_ge (tgt := 34) hG dX5_keptAt_20 (by decide) (fun c20 => ?_) (fun c20 => ?_)
      · replace h := ps_ip c20 h
        refine ps_iconst (v := (-1)) hG dX5_keptAt_34 (by decide) ?_
        cases h
        exact hret _ _ dX5_keptAt_35
      · replace h := ps_in c20 h
        refine ps_aload_n hG dX5_keptAt_23 rfl 0 rfl ?_
        refine ps_get14_3 hG hw inX5_keptAt_X5 ps_q1.1 (ps_lt hw ps_q1.2.2.1) mX5_keptAt_24 dX5_keptAt_24 ?_
        refine ps_iload_n hG dX5_keptAt_27 rfl 1 rfl ?_
        obtain ⟨hb28, h⟩ := ps_ig h
        refine ps_aald (b := 6) hG ps_q5.1 ps_q5.2.1 (ps_lt hw ps_q5.2.2.1) rfl hb28 dX5_keptAt_28 ?_
        refine ps_iload_n hG dX5_keptAt_29 rfl 2 rfl ?_
        obtain ⟨hb30, h⟩ := ps_ig h
        refine ps_iald hG (ps_k6 hb28).1 (ps_k6 hb28).2.1 (ps_lt hw (ps_k6 hb28).2.2.1) hb30 dX5_keptAt_30 ?_
        refine ps_goto (tgt := 35) hG dX5_keptAt_31 (by decide) ?_
        cases h
        exact hret _ _ dX5_keptAt_35
def f_X5_gather_J84 (v7_30 : Int32) (T84 : ps_S) : Option ((ps_S × Int32) ⊕ (ps_S)) :=
  some (.inl (T84, v7_30 + 1))
def f_X5_gather_J68 (p1 : Int32) (p2 : Int32) (k4 : Nat) (T30 : ps_S) (v7_30 : Int32)  : Option ((ps_S × Int32) ⊕ (ps_S)) :=
  (if ps_ib (T30 (6 + p1.toNatClampNeg) v7_30.toNatClampNeg) 16 = true then
              ((f_X6_add T30 k4 (T30 (6 + p1.toNatClampNeg) v7_30.toNatClampNeg) ((T30 2 (T30 (6 + p1.toNatClampNeg) v7_30.toNatClampNeg).toNatClampNeg) ^^^ p2)).bind fun S81 =>
              f_X5_gather_J84 v7_30 S81) else none)
def f_X5_gather_L30 (p1 : Int32) (p2 : Int32) (p3 : Int32) (k4 : Nat) (T30 : ps_S) (v7_30 : Int32) : Option ((ps_S × Int32) ⊕ (ps_S)) :=
  (if 16 ≤ v7_30 then
          some (.inr T30)
        else
          (if ps_ib v7_30 16 = true then
          ((f_X5_has T30 (T30 (6 + p1.toNatClampNeg) v7_30.toNatClampNeg)).bind fun r47 =>
          (if r47 = 0 then
            f_X5_gather_J84 v7_30 T30
          else
            (if p3 = 0 then
              f_X5_gather_J68 p1 p2 k4 T30 v7_30
            else
              (if ps_ib (T30 (6 + p1.toNatClampNeg) v7_30.toNatClampNeg) 16 = true then
              (if (T30 3 (T30 (6 + p1.toNatClampNeg) v7_30.toNatClampNeg).toNatClampNeg) = 2 then
                f_X5_gather_J68 p1 p2 k4 T30 v7_30
              else
                f_X5_gather_J84 v7_30 T30) else none)))) else none))
def f_X5_gather (S : ps_S) (p1 : Int32) (p2 : Int32) (p3 : Int32) (k4 : Nat) : Option ps_S :=
  ((f_X6_clear S k4).bind fun S2 =>
  ((f_X5_has S2 p1).bind fun r7 =>
  (if r7 = 0 then
    some S2
  else
    (if ps_ib p1 16 = true then
    ((ps_it (fun (a : ps_S × Int32) => f_X5_gather_L30 p1 p2 p3 k4 a.1 a.2) ps_fu (S2, 0)).bind (fun S30 => some S30)) else none))))
theorem inX5_gather_X5 : ∀ q ∈ wsX50, q ∈ wsX5_gather := fun _ h => List.mem_cons_of_mem _ (List.mem_append_left _ (List.mem_append_right _ h))
theorem mX5_gather_15 : Cond.fieldLink RX5 15 (TX5 1).1 (TX5 1).2.1 (TX5 1).2.2.1 ∈ wsX5_gather := List.mem_of_getElem? (i := 2) rfl
theorem mX5_gather_24 : Cond.fieldLink RX5 24 (TX5 3).1 (TX5 3).2.1 (TX5 3).2.2.1 ∈ wsX5_gather := List.mem_of_getElem? (i := 1) rfl
theorem mX5_gather_9 : Cond.fieldLink RX5 9 (TX5 0).1 (TX5 0).2.1 (TX5 0).2.2.1 ∈ wsX5_gather := List.mem_of_getElem? (i := 3) rfl
set_option maxHeartbeats 4000000 in
set_option maxRecDepth 100000 in
theorem c_X5_gather (l : Launch) {w : ps_X} (hw : ps_ww w) {k4 : Nat} (hk4 : ps_isR k4) {S S' : ps_S} {p1 p2 p3 : Int32} (h : f_X5_gather S p1 p2 p3 k4 = some S') : ps_MetV l yX5_gather wsX5_gather (ps_rm 1 25) w [.ref (w.2.1 1), .int p1, .int p2, .int p3, .ref (w.2.1 k4)] S S' := by
  refine ps_mkV (cc := cX5_gather) (maxL := 9) (own := RX5) (by decide +kernel) rfl rfl rfl (Nat.le_of_ble_eq_true rfl) rfl (fun G hl hG hret => ?_)
  unfold f_X5_gather at h
  refine ps_aload hG dX5_gather_0 4 rfl ?_
  obtain ⟨S2, hr2, h⟩ := ps_bd h
  refine ps_callVV (As := []) (rest := []) (nA := 0) hG (c_X6_clear _ hw hk4 hr2) gX5_gather_X6_clear rfl (by decide +kernel) rfl ⟨Nat.le_of_ble_eq_true rfl, Nat.le_of_ble_eq_true rfl⟩ ⟨rfl, rfl⟩ ⟨Nat.le_of_ble_eq_true rfl, Nat.le_of_ble_eq_true rfl⟩ (ps_lt hw (ps_isR_0 hk4).2.2.1) (ps_cel_15 (ps_isR_0 hk4).1 _) rfl rfl (Nat.le_of_ble_eq_true rfl) dX5_gather_2 ?_
  refine ps_aload_n hG dX5_gather_5 rfl 0 rfl ?_
  refine ps_iload_n hG dX5_gather_6 rfl 1 rfl ?_
  obtain ⟨r7, hr7, h⟩ := ps_bd h
  refine ps_callVI (As := [.int p1]) (rest := []) (nA := 1) hG (c_X5_has _ hw hr7) gX5_gather_X5_has rfl (by decide +kernel) rfl ⟨Nat.le_of_ble_eq_true rfl, Nat.le_of_ble_eq_true rfl⟩ ⟨rfl, rfl⟩ ⟨Nat.le_of_ble_eq_true rfl, Nat.le_of_ble_eq_true rfl⟩ (ps_lt hw ps_q1.2.2.1) (ps_cel_14 ps_q1.1 _) rfl rfl (Nat.le_of_ble_eq_true rfl) dX5_gather_7 ?_
  refine ps_if_ne (tgt := 14) hG dX5_gather_10 (by decide) (fun c10 => ?_) (fun c10 => ?_)
  · replace h := ps_in c10 h
    refine ps_aload_n hG dX5_gather_14 rfl 0 rfl ?_
    refine ps_get14_3 hG hw inX5_gather_X5 ps_q1.1 (ps_lt hw ps_q1.2.2.1) mX5_gather_24 dX5_gather_15 ?_
    refine ps_iload_n hG dX5_gather_18 rfl 1 rfl ?_
    obtain ⟨hb19, h⟩ := ps_ig h
    refine ps_aald (b := 6) hG ps_q5.1 ps_q5.2.1 (ps_lt hw ps_q5.2.2.1) rfl hb19 dX5_gather_19 ?_
    refine ps_astore (lv' := [(5, .ref (w.2.1 (6 + p1.toNatClampNeg))), (0, .ref (w.2.1 1)), (1, .int p1), (2, .int p2), (3, .int p3), (4, .ref (w.2.1 k4))]) hG dX5_gather_20 (by decide) rfl ?_
    refine ps_aload hG dX5_gather_22 0 rfl ?_
    refine ps_alen (v := 16) hG (ps_k6 hb19).1 (ps_k6 hb19).2.1 (ps_lt hw (ps_k6 hb19).2.2.1) (by decide) dX5_gather_24 ?_
    refine ps_istore (lv' := [(6, .int 16), (5, .ref (w.2.1 (6 + p1.toNatClampNeg))), (0, .ref (w.2.1 1)), (1, .int p1), (2, .int p2), (3, .int p3), (4, .ref (w.2.1 k4))]) hG dX5_gather_25 (by decide) rfl ?_
    refine ps_iconst (v := 0) hG dX5_gather_27 (by decide) ?_
    refine ps_istore (lv' := [(7, .int 0), (6, .int 16), (5, .ref (w.2.1 (6 + p1.toNatClampNeg))), (0, .ref (w.2.1 1)), (1, .int p1), (2, .int p2), (3, .int p3), (4, .ref (w.2.1 k4))]) hG dX5_gather_28 (by decide) rfl ?_
    obtain ⟨S30, hq30, h⟩ := ps_bd h
    refine (ps_sub [3, 5, 6, 7, 2, 1, 0] rfl (ps_itV (fun (a : ps_S × Int32) => ps_V G 9 0 0 w a.1 30 [(0, .ref (w.2.1 1)), (2, .int p2), (3, .int p3), (4, .ref (w.2.1 k4)), (5, .ref (w.2.1 (6 + p1.toNatClampNeg))), (6, .int 16), (7, .int a.2)] []) (fun (b : ps_S) => ps_V G 9 0 0 w b 90 [] []) ?_ _ _ _ hq30 ?_))
    · intro a r9 h kc ke
      obtain ⟨T30, v7_30⟩ := a
      replace h : f_X5_gather_L30 p1 p2 p3 k4 T30 v7_30 = some r9 := h
      show ps_V G 9 0 0 w T30 30 [(0, .ref (w.2.1 1)), (2, .int p2), (3, .int p3), (4, .ref (w.2.1 k4)), (5, .ref (w.2.1 (6 + p1.toNatClampNeg))), (6, .int 16), (7, .int v7_30)] []
      unfold f_X5_gather_L30 at h
      refine ps_iload hG dX5_gather_30 6 rfl ?_
      refine ps_iload hG dX5_gather_32 5 rfl ?_
      refine ps_icmp_ge (tgt := 90) hG dX5_gather_34 (by decide) (fun c34 => ?_) (fun c34 => ?_)
      · replace h := ps_ip c34 h
        cases h
        exact (ps_sub [] rfl (ke _ rfl))
      · replace h := ps_in c34 h
        refine ps_aload hG dX5_gather_37 4 rfl ?_
        refine ps_iload hG dX5_gather_39 6 rfl ?_
        obtain ⟨hb41, h⟩ := ps_ig h
        refine ps_iald hG (ps_k6 hb19).1 (ps_k6 hb19).2.1 (ps_lt hw (ps_k6 hb19).2.2.1) hb41 dX5_gather_41 ?_
        refine ps_istore (lv' := [(8, .int (T30 (6 + p1.toNatClampNeg) v7_30.toNatClampNeg)), (0, .ref (w.2.1 1)), (2, .int p2), (3, .int p3), (4, .ref (w.2.1 k4)), (5, .ref (w.2.1 (6 + p1.toNatClampNeg))), (6, .int 16), (7, .int v7_30)]) hG dX5_gather_42 (by decide) rfl ?_
        refine ps_aload_n hG dX5_gather_44 rfl 1 rfl ?_
        refine ps_iload hG dX5_gather_45 0 rfl ?_
        obtain ⟨r47, hr47, h⟩ := ps_bd h
        refine ps_callVI (As := [.int (T30 (6 + p1.toNatClampNeg) v7_30.toNatClampNeg)]) (rest := []) (nA := 1) hG (c_X5_has _ hw hr47) gX5_gather_X5_has rfl (by decide +kernel) rfl ⟨Nat.le_of_ble_eq_true rfl, Nat.le_of_ble_eq_true rfl⟩ ⟨rfl, rfl⟩ ⟨Nat.le_of_ble_eq_true rfl, Nat.le_of_ble_eq_true rfl⟩ (ps_lt hw ps_q1.2.2.1) (ps_cel_14 ps_q1.1 _) rfl rfl (Nat.le_of_ble_eq_true rfl) dX5_gather_47 ?_
        have hJ84 : ∀ (T84 : ps_S), f_X5_gather_J84 v7_30 T84 = some r9 → ps_V G 9 0 0 w T84 84 [(0, .ref (w.2.1 1)), (2, .int p2), (3, .int p3), (4, .ref (w.2.1 k4)), (5, .ref (w.2.1 (6 + p1.toNatClampNeg))), (6, .int 16), (7, .int v7_30)] [] := by
          intro T84 h
          unfold f_X5_gather_J84 at h
          refine ps_iinc (lv' := [(7, .int (v7_30 + 1)), (0, .ref (w.2.1 1)), (2, .int p2), (3, .int p3), (4, .ref (w.2.1 k4)), (5, .ref (w.2.1 (6 + p1.toNatClampNeg))), (6, .int 16)]) hG dX5_gather_84 6 rfl (by rfl) (by decide) rfl ?_
          refine ps_goto (tgt := 30) hG dX5_gather_87 (by decide) ?_
          cases h
          exact (ps_sub [1, 2, 3, 4, 5, 6, 0] rfl (kc _ rfl))
        refine ps_if_eq (tgt := 84) hG dX5_gather_50 (by decide) (fun c50 => ?_) (fun c50 => ?_)
        · replace h := ps_ip c50 h
          exact (ps_sub [1, 2, 3, 4, 5, 6, 7] rfl (hJ84 T30 h))
        · replace h := ps_in c50 h
          refine ps_iload_n hG dX5_gather_53 rfl 3 rfl ?_
          have hJ68 : f_X5_gather_J68 p1 p2 k4 T30 v7_30 = some r9 → ps_V G 9 0 0 w T30 68 [(0, .ref (w.2.1 1)), (2, .int p2), (3, .int p3), (4, .ref (w.2.1 k4)), (5, .ref (w.2.1 (6 + p1.toNatClampNeg))), (6, .int 16), (7, .int v7_30), (8, .int (T30 (6 + p1.toNatClampNeg) v7_30.toNatClampNeg))] [] := by
            intro h
            unfold f_X5_gather_J68 at h
            refine ps_aload hG dX5_gather_68 3 rfl ?_
            refine ps_iload hG dX5_gather_70 7 rfl ?_
            refine ps_aload_n hG dX5_gather_72 rfl 0 rfl ?_
            refine ps_get14_0 hG hw inX5_gather_X5 ps_q1.1 (ps_lt hw ps_q1.2.2.1) mX5_gather_9 dX5_gather_73 ?_
            refine ps_iload hG dX5_gather_76 7 rfl ?_
            obtain ⟨hb78, h⟩ := ps_ig h
            refine ps_iald hG ps_q2.1 ps_q2.2.1 (ps_lt hw ps_q2.2.2.1) hb78 dX5_gather_78 ?_
            refine ps_iload_n hG dX5_gather_79 rfl 1 rfl ?_
            refine ps_ixor hG dX5_gather_80 ?_
            obtain ⟨S81, hr81, h⟩ := ps_bd h
            refine ps_callVV (As := [.int (T30 (6 + p1.toNatClampNeg) v7_30.toNatClampNeg), .int ((T30 2 (T30 (6 + p1.toNatClampNeg) v7_30.toNatClampNeg).toNatClampNeg) ^^^ p2)]) (rest := []) (nA := 2) hG (c_X6_add _ hw hk4 hr81) gX5_gather_X6_add rfl (by decide +kernel) rfl ⟨Nat.le_of_ble_eq_true rfl, Nat.le_of_ble_eq_true rfl⟩ ⟨rfl, rfl⟩ ⟨Nat.le_of_ble_eq_true rfl, Nat.le_of_ble_eq_true rfl⟩ (ps_lt hw (ps_isR_0 hk4).2.2.1) (ps_cel_15 (ps_isR_0 hk4).1 _) rfl rfl (Nat.le_of_ble_eq_true rfl) dX5_gather_81 ?_
            exact (ps_sub [0, 1, 2, 3, 4, 5, 6] rfl (hJ84 S81 h))
          refine ps_if_eq (tgt := 68) hG dX5_gather_54 (by decide) (fun c54 => ?_) (fun c54 => ?_)
          · replace h := ps_ip c54 h
            exact (ps_sub [1, 2, 3, 4, 5, 6, 7, 0] rfl (hJ68  h))
          · replace h := ps_in c54 h
            refine ps_aload_n hG dX5_gather_57 rfl 1 rfl ?_
            refine ps_get14_1 hG hw inX5_gather_X5 ps_q1.1 (ps_lt hw ps_q1.2.2.1) mX5_gather_15 dX5_gather_58 ?_
            refine ps_iload hG dX5_gather_61 0 rfl ?_
            obtain ⟨hb63, h⟩ := ps_ig h
            refine ps_iald hG ps_q3.1 ps_q3.2.1 (ps_lt hw ps_q3.2.2.1) hb63 dX5_gather_63 ?_
            refine ps_iconst (v := 2) hG dX5_gather_64 (by decide) ?_
            refine ps_icmp_ne (tgt := 84) hG dX5_gather_65 (by decide) (fun c65 => ?_) (fun c65 => ?_)
            · replace h := ps_in c65 h
              exact (ps_sub [1, 2, 3, 4, 5, 6, 7] rfl (hJ84 T30 h))
            · replace h := ps_ip c65 h
              exact (ps_sub [1, 2, 3, 4, 5, 6, 7, 0] rfl (hJ68  h))
    · show ps_V G 9 0 0 w S30 90 [] []
      cases h
      exact hret _ _ dX5_gather_90
  · replace h := ps_ip c10 h
    cases h
    exact hret _ _ dX5_gather_13
def f_X5_isOfBand (S : ps_S) (p1 : Int32) : Option Int32 :=
  ((f_X5_has S p1).bind fun r2 =>
  (if r2 = 0 then
    some 0
  else
    (if ps_ib p1 16 = true then
    (if (S 3 p1.toNatClampNeg) = 2 then
      some 1
    else
      some 0) else none)))
theorem inX5_isOfBand_X5 : ∀ q ∈ wsX50, q ∈ wsX5_isOfBand := fun _ h => List.mem_cons_of_mem _ (List.mem_append_right _ h)
theorem mX5_isOfBand_15 : Cond.fieldLink RX5 15 (TX5 1).1 (TX5 1).2.1 (TX5 1).2.2.1 ∈ wsX5_isOfBand := List.mem_of_getElem? (i := 1) rfl
set_option maxHeartbeats 4000000 in
set_option maxRecDepth 100000 in
theorem c_X5_isOfBand (l : Launch) {w : ps_X} (hw : ps_ww w) {S : ps_S} {p1 : Int32} {r : Int32} (h : f_X5_isOfBand S p1 = some r) : ps_MetI l yX5_isOfBand wsX5_isOfBand (ps_rm 1 21) w [.ref (w.2.1 1), .int p1] S S r := by
  refine ps_mkZ (cc := cX5_isOfBand) (maxL := 2) (own := RX5) (by decide +kernel) rfl rfl rfl (Nat.le_of_ble_eq_true rfl) rfl (fun G hl hG hret => ?_)
  unfold f_X5_isOfBand at h
  refine ps_aload_n hG dX5_isOfBand_0 rfl 0 rfl ?_
  refine ps_iload_n hG dX5_isOfBand_1 rfl 1 rfl ?_
  obtain ⟨r2, hr2, h⟩ := ps_bd h
  refine ps_callVI (As := [.int p1]) (rest := []) (nA := 1) hG (c_X5_has _ hw hr2) gX5_isOfBand_X5_has rfl (by decide +kernel) rfl ⟨Nat.le_of_ble_eq_true rfl, Nat.le_of_ble_eq_true rfl⟩ ⟨rfl, rfl⟩ ⟨Nat.le_of_ble_eq_true rfl, Nat.le_of_ble_eq_true rfl⟩ (ps_lt hw ps_q1.2.2.1) (ps_cel_14 ps_q1.1 _) rfl rfl (Nat.le_of_ble_eq_true rfl) dX5_isOfBand_2 ?_
  refine ps_if_eq (tgt := 22) hG dX5_isOfBand_5 (by decide) (fun c5 => ?_) (fun c5 => ?_)
  · replace h := ps_ip c5 h
    refine ps_iconst (v := 0) hG dX5_isOfBand_22 (by decide) ?_
    cases h
    exact hret _ _ dX5_isOfBand_23 rfl
  · replace h := ps_in c5 h
    refine ps_aload_n hG dX5_isOfBand_8 rfl 0 rfl ?_
    refine ps_get14_1 hG hw inX5_isOfBand_X5 ps_q1.1 (ps_lt hw ps_q1.2.2.1) mX5_isOfBand_15 dX5_isOfBand_9 ?_
    refine ps_iload_n hG dX5_isOfBand_12 rfl 1 rfl ?_
    obtain ⟨hb13, h⟩ := ps_ig h
    refine ps_iald hG ps_q3.1 ps_q3.2.1 (ps_lt hw ps_q3.2.2.1) hb13 dX5_isOfBand_13 ?_
    refine ps_iconst (v := 2) hG dX5_isOfBand_14 (by decide) ?_
    refine ps_icmp_ne (tgt := 22) hG dX5_isOfBand_15 (by decide) (fun c15 => ?_) (fun c15 => ?_)
    · replace h := ps_in c15 h
      refine ps_iconst (v := 0) hG dX5_isOfBand_22 (by decide) ?_
      cases h
      exact hret _ _ dX5_isOfBand_23 rfl
    · replace h := ps_ip c15 h
      refine ps_iconst (v := 1) hG dX5_isOfBand_18 (by decide) ?_
      refine ps_goto (tgt := 23) hG dX5_isOfBand_19 (by decide) ?_
      cases h
      exact hret _ _ dX5_isOfBand_23 rfl
def f_X5_highestBit_L3 (p0 : Int32) (v1_3 : Int32) : Option ((Int32) ⊕ (Int32)) :=
  (if v1_3 ≤ 0 then
        some (.inr v1_3)
      else
        (if (p0 >>> (v1_3 &&& 31)) = 0 then
          some (.inl (v1_3 + (-1)))
        else
          some (.inr v1_3)))
def f_X5_highestBit (p0 : Int32) : Option Int32 :=
  ((ps_it (fun (a : Int32) => f_X5_highestBit_L3 p0 a) ps_fu 7).bind (fun e1_3 => some e1_3))
set_option maxHeartbeats 4000000 in
set_option maxRecDepth 100000 in
theorem c_X5_highestBit (l : Launch) {w : ps_X} (hw : ps_ww w) {S : ps_S} {p0 : Int32} {r : Int32} (h : f_X5_highestBit p0 = some r) : ps_MetI l yX5_highestBit wsX5_highestBit (ps_rm 0 0) w [.int p0] S S r := by
  refine ps_mkI (cc := cX5_highestBit) (maxL := 2) (own := RX5) (by decide +kernel) rfl (Or.inl rfl) rfl (Nat.le_of_ble_eq_true rfl) rfl (fun G hl hG hret => ?_)
  unfold f_X5_highestBit at h
  refine ps_bipush (v := 7) hG dX5_highestBit_0 (by decide) ?_
  refine ps_istore_n (lv' := [(1, .int 7), (0, .int p0)]) hG dX5_highestBit_2 rfl (by decide) rfl ?_
  obtain ⟨e1_3, hq3, h⟩ := ps_bd h
  refine (ps_sub [1, 0] rfl (ps_itV (fun (a : Int32) => ps_V G 2 0 0 w S 3 [(0, .int p0), (1, .int a)] []) (fun (b : Int32) => ps_V G 2 0 0 w S 19 [(1, .int b)] []) ?_ _ _ _ hq3 ?_))
  · intro a r9 h kc ke
    obtain ⟨v1_3, hx9⟩ : ∃ x, x = a := ⟨_, rfl⟩
    subst hx9
    replace h : f_X5_highestBit_L3 p0 v1_3 = some r9 := h
    show ps_V G 2 0 0 w S 3 [(0, .int p0), (1, .int v1_3)] []
    unfold f_X5_highestBit_L3 at h
    refine ps_iload_n hG dX5_highestBit_3 rfl 1 rfl ?_
    refine ps_if_le (tgt := 19) hG dX5_highestBit_4 (by decide) (fun c4 => ?_) (fun c4 => ?_)
    · replace h := ps_ip c4 h
      cases h
      exact (ps_sub [1] rfl (ke _ rfl))
    · replace h := ps_in c4 h
      refine ps_iload_n hG dX5_highestBit_7 rfl 0 rfl ?_
      refine ps_iload_n hG dX5_highestBit_8 rfl 1 rfl ?_
      refine ps_ishr hG dX5_highestBit_9 ?_
      refine ps_if_ne (tgt := 19) hG dX5_highestBit_10 (by decide) (fun c10 => ?_) (fun c10 => ?_)
      · replace h := ps_in c10 h
        cases h
        exact (ps_sub [1] rfl (ke _ rfl))
      · replace h := ps_ip c10 h
        refine ps_iinc (lv' := [(1, .int (v1_3 + (-1))), (0, .int p0)]) hG dX5_highestBit_13 1 rfl (by rfl) (by decide) rfl ?_
        refine ps_goto (tgt := 3) hG dX5_highestBit_16 (by decide) ?_
        cases h
        exact (ps_sub [1, 0] rfl (kc _ rfl))
  · show ps_V G 2 0 0 w S 19 [(1, .int e1_3)] []
    refine ps_iload_n hG dX5_highestBit_19 rfl 0 rfl ?_
    cases h
    exact hret _ _ dX5_highestBit_20
def f_X5_hear_J180 (S : ps_S) (p1 : Int32) (r43 : Int32) (s2_180 : Int32) : Option ps_S :=
  (if ps_ib ((2 * r43) + 1) 16 = true then
                      some (ps_up (ps_up S (6 + p1.toNatClampNeg) (2 * r43).toNatClampNeg (S (6 + p1.toNatClampNeg) ((2 * r43) + 1).toNatClampNeg)) (6 + p1.toNatClampNeg) ((2 * r43) + 1).toNatClampNeg s2_180) else none)
def f_X5_hear_J156 (S : ps_S) (p1 : Int32) (p2 : Int32) (r43 : Int32) (s0_156 : Int32) : Option ps_S :=
  (if ps_ib ((2 * r43) + 1) 16 = true then
                    (if ps_ib (2 * r43) 16 = true then
                    (if s0_156 = 0 then
                      f_X5_hear_J180 S p1 r43 (S (6 + p1.toNatClampNeg) (2 * r43).toNatClampNeg)
                    else
                      f_X5_hear_J180 S p1 r43 p2) else none) else none)
def f_X5_hear_J108 (S : ps_S) (p1 : Int32) (r43 : Int32) (s2_108 : Int32) : Option ps_S :=
  (if ps_ib ((2 * r43) + 1) 16 = true then
                  some (ps_up S (6 + p1.toNatClampNeg) ((2 * r43) + 1).toNatClampNeg s2_108) else none)
def f_X5_hear (S : ps_S) (p1 : Int32) (p2 : Int32) : Option ps_S :=
  ((f_X5_has S p1).bind fun r2 =>
  (if r2 = 0 then
    some S
  else
    ((f_X5_has S p2).bind fun r10 =>
    (if r10 = 0 then
      some S
    else
      (if p1 = p2 then
        some S
      else
        (if ps_ib p1 16 = true then
        (if ps_ib p1 16 = true then
        (if ps_ib p2 16 = true then
        ((f_X5_highestBit ((S 2 p1.toNatClampNeg) ^^^ (S 2 p2.toNatClampNeg))).bind fun r43 =>
        (if (2 * r43) < 0 then
          some S
        else
          (if ((2 * r43) + 1) < 16 then
            (if ps_ib (2 * r43) 16 = true then
            (if (S (6 + p1.toNatClampNeg) (2 * r43).toNatClampNeg) = (-1) then
              (if ps_ib (2 * r43) 16 = true then
              some (ps_up S (6 + p1.toNatClampNeg) (2 * r43).toNatClampNeg p2) else none)
            else
              (if ps_ib ((2 * r43) + 1) 16 = true then
              (if (S (6 + p1.toNatClampNeg) ((2 * r43) + 1).toNatClampNeg) = (-1) then
                (if ps_ib (2 * r43) 16 = true then
                (if (S (6 + p1.toNatClampNeg) (2 * r43).toNatClampNeg) = p2 then
                  f_X5_hear_J108 S p1 r43 (-1)
                else
                  f_X5_hear_J108 S p1 r43 p2) else none)
              else
                (if ps_ib ((2 * r43) + 1) 16 = true then
                (if (S (6 + p1.toNatClampNeg) ((2 * r43) + 1).toNatClampNeg) = p2 then
                  some S
                else
                  (if ps_ib (2 * r43) 16 = true then
                  (if (S (6 + p1.toNatClampNeg) (2 * r43).toNatClampNeg) = p2 then
                    f_X5_hear_J156 S p1 p2 r43 1
                  else
                    ((f_X5_has S (S (6 + p1.toNatClampNeg) (2 * r43).toNatClampNeg)).bind fun r135 =>
                    (if r135 = 0 then
                      f_X5_hear_J156 S p1 p2 r43 1
                    else
                      (if ps_ib (S (6 + p1.toNatClampNeg) (2 * r43).toNatClampNeg) 16 = true then
                      (if (S 4 (S (6 + p1.toNatClampNeg) (2 * r43).toNatClampNeg).toNatClampNeg) = 0 then
                        f_X5_hear_J156 S p1 p2 r43 1
                      else
                        f_X5_hear_J156 S p1 p2 r43 0) else none)))) else none)) else none)) else none)) else none)
          else
            some S))) else none) else none) else none))))))
theorem inX5_hear_X5 : ∀ q ∈ wsX50, q ∈ wsX5_hear := fun _ h => List.mem_cons_of_mem _ (List.mem_append_right _ h)
theorem mX5_hear_18 : Cond.fieldLink RX5 18 (TX5 2).1 (TX5 2).2.1 (TX5 2).2.2.1 ∈ wsX5_hear := List.mem_of_getElem? (i := 3) rfl
theorem mX5_hear_24 : Cond.fieldLink RX5 24 (TX5 3).1 (TX5 3).2.1 (TX5 3).2.2.1 ∈ wsX5_hear := List.mem_of_getElem? (i := 1) rfl
theorem mX5_hear_9 : Cond.fieldLink RX5 9 (TX5 0).1 (TX5 0).2.1 (TX5 0).2.2.1 ∈ wsX5_hear := List.mem_of_getElem? (i := 2) rfl
set_option maxHeartbeats 4000000 in
set_option maxRecDepth 100000 in
theorem c_X5_hear (l : Launch) {w : ps_X} (hw : ps_ww w) {S S' : ps_S} {p1 p2 : Int32} (h : f_X5_hear S p1 p2 = some S') : ps_MetV l yX5_hear wsX5_hear (ps_rm 1 21) w [.ref (w.2.1 1), .int p1, .int p2] S S' := by
  refine ps_mkV (cc := cX5_hear) (maxL := 8) (own := RX5) (by decide +kernel) rfl rfl rfl (Nat.le_of_ble_eq_true rfl) rfl (fun G hl hG hret => ?_)
  unfold f_X5_hear at h
  refine ps_aload_n hG dX5_hear_0 rfl 0 rfl ?_
  refine ps_iload_n hG dX5_hear_1 rfl 1 rfl ?_
  obtain ⟨r2, hr2, h⟩ := ps_bd h
  refine ps_callVI (As := [.int p1]) (rest := []) (nA := 1) hG (c_X5_has _ hw hr2) gX5_hear_X5_has rfl (by decide +kernel) rfl ⟨Nat.le_of_ble_eq_true rfl, Nat.le_of_ble_eq_true rfl⟩ ⟨rfl, rfl⟩ ⟨Nat.le_of_ble_eq_true rfl, Nat.le_of_ble_eq_true rfl⟩ (ps_lt hw ps_q1.2.2.1) (ps_cel_14 ps_q1.1 _) rfl rfl (Nat.le_of_ble_eq_true rfl) dX5_hear_2 ?_
  refine ps_if_eq (tgt := 21) hG dX5_hear_5 (by decide) (fun c5 => ?_) (fun c5 => ?_)
  · replace h := ps_ip c5 h
    cases h
    exact hret _ _ dX5_hear_21
  · replace h := ps_in c5 h
    refine ps_aload_n hG dX5_hear_8 rfl 0 rfl ?_
    refine ps_iload_n hG dX5_hear_9 rfl 2 rfl ?_
    obtain ⟨r10, hr10, h⟩ := ps_bd h
    refine ps_callVI (As := [.int p2]) (rest := []) (nA := 1) hG (c_X5_has _ hw hr10) gX5_hear_X5_has rfl (by decide +kernel) rfl ⟨Nat.le_of_ble_eq_true rfl, Nat.le_of_ble_eq_true rfl⟩ ⟨rfl, rfl⟩ ⟨Nat.le_of_ble_eq_true rfl, Nat.le_of_ble_eq_true rfl⟩ (ps_lt hw ps_q1.2.2.1) (ps_cel_14 ps_q1.1 _) rfl rfl (Nat.le_of_ble_eq_true rfl) dX5_hear_10 ?_
    refine ps_if_eq (tgt := 21) hG dX5_hear_13 (by decide) (fun c13 => ?_) (fun c13 => ?_)
    · replace h := ps_ip c13 h
      cases h
      exact hret _ _ dX5_hear_21
    · replace h := ps_in c13 h
      refine ps_iload_n hG dX5_hear_16 rfl 1 rfl ?_
      refine ps_iload_n hG dX5_hear_17 rfl 2 rfl ?_
      refine ps_icmp_ne (tgt := 22) hG dX5_hear_18 (by decide) (fun c18 => ?_) (fun c18 => ?_)
      · replace h := ps_in c18 h
        refine ps_aload_n hG dX5_hear_22 rfl 0 rfl ?_
        refine ps_get14_3 hG hw inX5_hear_X5 ps_q1.1 (ps_lt hw ps_q1.2.2.1) mX5_hear_24 dX5_hear_23 ?_
        refine ps_iload_n hG dX5_hear_26 rfl 1 rfl ?_
        obtain ⟨hb27, h⟩ := ps_ig h
        refine ps_aald (b := 6) hG ps_q5.1 ps_q5.2.1 (ps_lt hw ps_q5.2.2.1) rfl hb27 dX5_hear_27 ?_
        refine ps_astore_n (lv' := [(3, .ref (w.2.1 (6 + p1.toNatClampNeg))), (0, .ref (w.2.1 1)), (1, .int p1), (2, .int p2)]) hG dX5_hear_28 rfl (by decide) rfl ?_
        refine ps_iconst (v := 2) hG dX5_hear_29 (by decide) ?_
        refine ps_aload_n hG dX5_hear_30 rfl 1 rfl ?_
        refine ps_get14_0 hG hw inX5_hear_X5 ps_q1.1 (ps_lt hw ps_q1.2.2.1) mX5_hear_9 dX5_hear_31 ?_
        refine ps_iload_n hG dX5_hear_34 rfl 2 rfl ?_
        obtain ⟨hb35, h⟩ := ps_ig h
        refine ps_iald hG ps_q2.1 ps_q2.2.1 (ps_lt hw ps_q2.2.2.1) hb35 dX5_hear_35 ?_
        refine ps_aload_n hG dX5_hear_36 rfl 1 rfl ?_
        refine ps_get14_0 hG hw inX5_hear_X5 ps_q1.1 (ps_lt hw ps_q1.2.2.1) mX5_hear_9 dX5_hear_37 ?_
        refine ps_iload_n hG dX5_hear_40 rfl 3 rfl ?_
        obtain ⟨hb41, h⟩ := ps_ig h
        refine ps_iald hG ps_q2.1 ps_q2.2.1 (ps_lt hw ps_q2.2.2.1) hb41 dX5_hear_41 ?_
        refine ps_ixor hG dX5_hear_42 ?_
        obtain ⟨r43, hr43, h⟩ := ps_bd h
        refine ps_callSI (As := [.int ((S 2 p1.toNatClampNeg) ^^^ (S 2 p2.toNatClampNeg))]) (rest := [.int 2]) (nA := 1) hG (c_X5_highestBit _ hw hr43) gX5_hear_X5_highestBit rfl (by decide +kernel) rfl ⟨Nat.le_of_ble_eq_true rfl, Nat.le_of_ble_eq_true rfl⟩ ⟨rfl, rfl⟩ ⟨Nat.le_of_ble_eq_true rfl, Nat.le_of_ble_eq_true rfl⟩ rfl (Nat.le_of_ble_eq_true rfl) dX5_hear_43 ?_
        refine ps_imul hG dX5_hear_46 ?_
        refine ps_istore (lv' := [(4, .int (2 * r43)), (3, .ref (w.2.1 (6 + p1.toNatClampNeg))), (0, .ref (w.2.1 1)), (1, .int p1), (2, .int p2)]) hG dX5_hear_47 (by decide) rfl ?_
        refine ps_iload hG dX5_hear_49 0 rfl ?_
        refine ps_iconst (v := 1) hG dX5_hear_51 (by decide) ?_
        refine ps_iadd hG dX5_hear_52 ?_
        refine ps_istore (lv' := [(5, .int ((2 * r43) + 1)), (4, .int (2 * r43)), (3, .ref (w.2.1 (6 + p1.toNatClampNeg))), (0, .ref (w.2.1 1)), (1, .int p1), (2, .int p2)]) hG dX5_hear_53 (by decide) rfl ?_
        refine ps_iload hG dX5_hear_55 1 rfl ?_
        refine ps_if_lt (tgt := 67) hG dX5_hear_57 (by decide) (fun c57 => ?_) (fun c57 => ?_)
        · replace h := ps_ip c57 h
          cases h
          exact hret _ _ dX5_hear_67
        · replace h := ps_in c57 h
          refine ps_iload hG dX5_hear_60 0 rfl ?_
          refine ps_aload_n hG dX5_hear_62 rfl 2 rfl ?_
          refine ps_alen (v := 16) hG (ps_k6 hb27).1 (ps_k6 hb27).2.1 (ps_lt hw (ps_k6 hb27).2.2.1) (by decide) dX5_hear_63 ?_
          refine ps_icmp_lt (tgt := 68) hG dX5_hear_64 (by decide) (fun c64 => ?_) (fun c64 => ?_)
          · replace h := ps_ip c64 h
            refine ps_aload_n hG dX5_hear_68 rfl 2 rfl ?_
            refine ps_iload hG dX5_hear_69 1 rfl ?_
            obtain ⟨hb71, h⟩ := ps_ig h
            refine ps_iald hG (ps_k6 hb27).1 (ps_k6 hb27).2.1 (ps_lt hw (ps_k6 hb27).2.2.1) hb71 dX5_hear_71 ?_
            refine ps_iconst (v := (-1)) hG dX5_hear_72 (by decide) ?_
            refine ps_icmp_ne (tgt := 84) hG dX5_hear_73 (by decide) (fun c73 => ?_) (fun c73 => ?_)
            · replace h := ps_in c73 h
              refine ps_aload_n hG dX5_hear_84 rfl 2 rfl ?_
              refine ps_iload hG dX5_hear_85 0 rfl ?_
              obtain ⟨hb87, h⟩ := ps_ig h
              refine ps_iald hG (ps_k6 hb27).1 (ps_k6 hb27).2.1 (ps_lt hw (ps_k6 hb27).2.2.1) hb87 dX5_hear_87 ?_
              refine ps_iconst (v := (-1)) hG dX5_hear_88 (by decide) ?_
              refine ps_icmp_ne (tgt := 112) hG dX5_hear_89 (by decide) (fun c89 => ?_) (fun c89 => ?_)
              · replace h := ps_in c89 h
                refine ps_aload_n hG dX5_hear_112 rfl 2 rfl ?_
                refine ps_iload hG dX5_hear_113 0 rfl ?_
                obtain ⟨hb115, h⟩ := ps_ig h
                refine ps_iald hG (ps_k6 hb27).1 (ps_k6 hb27).2.1 (ps_lt hw (ps_k6 hb27).2.2.1) hb115 dX5_hear_115 ?_
                refine ps_iload_n hG dX5_hear_116 rfl 5 rfl ?_
                refine ps_icmp_eq (tgt := 181) hG dX5_hear_117 (by decide) (fun c117 => ?_) (fun c117 => ?_)
                · replace h := ps_ip c117 h
                  cases h
                  exact hret _ _ dX5_hear_181
                · replace h := ps_in c117 h
                  refine ps_aload_n hG dX5_hear_120 rfl 2 rfl ?_
                  refine ps_iload hG dX5_hear_121 1 rfl ?_
                  obtain ⟨hb123, h⟩ := ps_ig h
                  refine ps_iald hG (ps_k6 hb27).1 (ps_k6 hb27).2.1 (ps_lt hw (ps_k6 hb27).2.2.1) hb123 dX5_hear_123 ?_
                  refine ps_istore (lv' := [(6, .int (S (6 + p1.toNatClampNeg) (2 * r43).toNatClampNeg)), (5, .int ((2 * r43) + 1)), (4, .int (2 * r43)), (3, .ref (w.2.1 (6 + p1.toNatClampNeg))), (0, .ref (w.2.1 1)), (1, .int p1), (2, .int p2)]) hG dX5_hear_124 (by decide) rfl ?_
                  refine ps_iload hG dX5_hear_126 0 rfl ?_
                  refine ps_iload_n hG dX5_hear_128 rfl 6 rfl ?_
                  have hJ156 : ∀ (s0_156 : Int32), f_X5_hear_J156 S p1 p2 r43 s0_156 = some S' → ps_V G 8 0 0 w S 156 [(2, .int p2), (3, .ref (w.2.1 (6 + p1.toNatClampNeg))), (4, .int (2 * r43)), (5, .int ((2 * r43) + 1)), (6, .int (S (6 + p1.toNatClampNeg) (2 * r43).toNatClampNeg))] [.int s0_156] := by
                    intro s0_156 h
                    unfold f_X5_hear_J156 at h
                    refine ps_istore (lv' := [(7, .int s0_156), (2, .int p2), (3, .ref (w.2.1 (6 + p1.toNatClampNeg))), (4, .int (2 * r43)), (5, .int ((2 * r43) + 1)), (6, .int (S (6 + p1.toNatClampNeg) (2 * r43).toNatClampNeg))]) hG dX5_hear_156 (by decide) rfl ?_
                    refine ps_aload_n hG dX5_hear_158 rfl 2 rfl ?_
                    refine ps_iload hG dX5_hear_159 3 rfl ?_
                    refine ps_aload_n hG dX5_hear_161 rfl 2 rfl ?_
                    refine ps_iload hG dX5_hear_162 4 rfl ?_
                    obtain ⟨hb164, h⟩ := ps_ig h
                    refine ps_iald hG (ps_k6 hb27).1 (ps_k6 hb27).2.1 (ps_lt hw (ps_k6 hb27).2.2.1) hb164 dX5_hear_164 ?_
                    obtain ⟨hb165, h⟩ := ps_ig h
                    refine ps_iast hG (ps_k6 hb27).1 (ps_k6 hb27).2.1 (ps_lt hw (ps_k6 hb27).2.2.1) hb165 dX5_hear_165 ?_
                    refine ps_aload_n hG dX5_hear_166 rfl 2 rfl ?_
                    refine ps_iload hG dX5_hear_167 4 rfl ?_
                    refine ps_iload hG dX5_hear_169 0 rfl ?_
                    have hJ180 : ∀ (s2_180 : Int32), f_X5_hear_J180 S p1 r43 s2_180 = some S' → ps_V G 8 0 0 w (ps_up S (6 + p1.toNatClampNeg) (2 * r43).toNatClampNeg (S (6 + p1.toNatClampNeg) ((2 * r43) + 1).toNatClampNeg)) 180 [] [.int s2_180, .int ((2 * r43) + 1), .ref (w.2.1 (6 + p1.toNatClampNeg))] := by
                      intro s2_180 h
                      unfold f_X5_hear_J180 at h
                      obtain ⟨hb180, h⟩ := ps_ig h
                      refine ps_iast hG (ps_k6 hb27).1 (ps_k6 hb27).2.1 (ps_lt hw (ps_k6 hb27).2.2.1) hb180 dX5_hear_180 ?_
                      cases h
                      exact hret _ _ dX5_hear_181
                    refine ps_if_eq (tgt := 178) hG dX5_hear_171 (by decide) (fun c171 => ?_) (fun c171 => ?_)
                    · replace h := ps_ip c171 h
                      refine ps_iload hG dX5_hear_178 5 rfl ?_
                      exact (ps_sub [] rfl (hJ180 (S (6 + p1.toNatClampNeg) (2 * r43).toNatClampNeg) h))
                    · replace h := ps_in c171 h
                      refine ps_iload_n hG dX5_hear_174 rfl 1 rfl ?_
                      refine ps_goto (tgt := 180) hG dX5_hear_175 (by decide) ?_
                      exact (ps_sub [] rfl (hJ180 p2 h))
                  refine ps_icmp_eq (tgt := 151) hG dX5_hear_129 (by decide) (fun c129 => ?_) (fun c129 => ?_)
                  · replace h := ps_ip c129 h
                    refine ps_iconst (v := 1) hG dX5_hear_151 (by decide) ?_
                    refine ps_goto (tgt := 156) hG dX5_hear_152 (by decide) ?_
                    exact (ps_sub [6, 3, 2, 1, 0] rfl (hJ156 1 h))
                  · replace h := ps_in c129 h
                    refine ps_aload_n hG dX5_hear_132 rfl 4 rfl ?_
                    refine ps_iload hG dX5_hear_133 0 rfl ?_
                    obtain ⟨r135, hr135, h⟩ := ps_bd h
                    refine ps_callVI (As := [.int (S (6 + p1.toNatClampNeg) (2 * r43).toNatClampNeg)]) (rest := []) (nA := 1) hG (c_X5_has _ hw hr135) gX5_hear_X5_has rfl (by decide +kernel) rfl ⟨Nat.le_of_ble_eq_true rfl, Nat.le_of_ble_eq_true rfl⟩ ⟨rfl, rfl⟩ ⟨Nat.le_of_ble_eq_true rfl, Nat.le_of_ble_eq_true rfl⟩ (ps_lt hw ps_q1.2.2.1) (ps_cel_14 ps_q1.1 _) rfl rfl (Nat.le_of_ble_eq_true rfl) dX5_hear_135 ?_
                    refine ps_if_eq (tgt := 151) hG dX5_hear_138 (by decide) (fun c138 => ?_) (fun c138 => ?_)
                    · replace h := ps_ip c138 h
                      refine ps_iconst (v := 1) hG dX5_hear_151 (by decide) ?_
                      refine ps_goto (tgt := 156) hG dX5_hear_152 (by decide) ?_
                      exact (ps_sub [6, 3, 2, 1, 0] rfl (hJ156 1 h))
                    · replace h := ps_in c138 h
                      refine ps_aload_n hG dX5_hear_141 rfl 4 rfl ?_
                      refine ps_get14_2 hG hw inX5_hear_X5 ps_q1.1 (ps_lt hw ps_q1.2.2.1) mX5_hear_18 dX5_hear_142 ?_
                      refine ps_iload hG dX5_hear_145 0 rfl ?_
                      obtain ⟨hb147, h⟩ := ps_ig h
                      refine ps_zald hG ps_q4.1 ps_q4.2.1 (ps_lt hw ps_q4.2.2.1) hb147 dX5_hear_147 ?_
                      refine ps_if_ne (tgt := 155) hG dX5_hear_148 (by decide) (fun c148 => ?_) (fun c148 => ?_)
                      · replace h := ps_in c148 h
                        refine ps_iconst (v := 0) hG dX5_hear_155 (by decide) ?_
                        exact (ps_sub [6, 3, 2, 1, 0] rfl (hJ156 0 h))
                      · replace h := ps_ip c148 h
                        refine ps_iconst (v := 1) hG dX5_hear_151 (by decide) ?_
                        refine ps_goto (tgt := 156) hG dX5_hear_152 (by decide) ?_
                        exact (ps_sub [6, 3, 2, 1, 0] rfl (hJ156 1 h))
              · replace h := ps_ip c89 h
                refine ps_aload_n hG dX5_hear_92 rfl 2 rfl ?_
                refine ps_iload hG dX5_hear_93 0 rfl ?_
                refine ps_aload_n hG dX5_hear_95 rfl 2 rfl ?_
                refine ps_iload hG dX5_hear_96 1 rfl ?_
                obtain ⟨hb98, h⟩ := ps_ig h
                refine ps_iald hG (ps_k6 hb27).1 (ps_k6 hb27).2.1 (ps_lt hw (ps_k6 hb27).2.2.1) hb98 dX5_hear_98 ?_
                refine ps_iload_n hG dX5_hear_99 rfl 5 rfl ?_
                have hJ108 : ∀ (s2_108 : Int32), f_X5_hear_J108 S p1 r43 s2_108 = some S' → ps_V G 8 0 0 w S 108 [] [.int s2_108, .int ((2 * r43) + 1), .ref (w.2.1 (6 + p1.toNatClampNeg))] := by
                  intro s2_108 h
                  unfold f_X5_hear_J108 at h
                  obtain ⟨hb108, h⟩ := ps_ig h
                  refine ps_iast hG (ps_k6 hb27).1 (ps_k6 hb27).2.1 (ps_lt hw (ps_k6 hb27).2.2.1) hb108 dX5_hear_108 ?_
                  refine ps_goto (tgt := 181) hG dX5_hear_109 (by decide) ?_
                  cases h
                  exact hret _ _ dX5_hear_181
                refine ps_icmp_ne (tgt := 107) hG dX5_hear_100 (by decide) (fun c100 => ?_) (fun c100 => ?_)
                · replace h := ps_in c100 h
                  refine ps_iload_n hG dX5_hear_107 rfl 5 rfl ?_
                  exact (ps_sub [] rfl (hJ108 p2 h))
                · replace h := ps_ip c100 h
                  refine ps_iconst (v := (-1)) hG dX5_hear_103 (by decide) ?_
                  refine ps_goto (tgt := 108) hG dX5_hear_104 (by decide) ?_
                  exact (ps_sub [] rfl (hJ108 (-1) h))
            · replace h := ps_ip c73 h
              refine ps_aload_n hG dX5_hear_76 rfl 2 rfl ?_
              refine ps_iload hG dX5_hear_77 1 rfl ?_
              refine ps_iload_n hG dX5_hear_79 rfl 5 rfl ?_
              obtain ⟨hb80, h⟩ := ps_ig h
              refine ps_iast hG (ps_k6 hb27).1 (ps_k6 hb27).2.1 (ps_lt hw (ps_k6 hb27).2.2.1) hb80 dX5_hear_80 ?_
              refine ps_goto (tgt := 181) hG dX5_hear_81 (by decide) ?_
              cases h
              exact hret _ _ dX5_hear_181
          · replace h := ps_in c64 h
            cases h
            exact hret _ _ dX5_hear_67
      · replace h := ps_ip c18 h
        cases h
        exact hret _ _ dX5_hear_21
