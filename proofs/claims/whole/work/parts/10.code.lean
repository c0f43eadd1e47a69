def f_J6_bitCount_0f7a4 (p0 : Int32) : Option Int32 :=
  some ((((((((p0 - ((ps_ushr p0 1) &&& 1431655765)) &&& 858993459) + ((ps_ushr (p0 - ((ps_ushr p0 1) &&& 1431655765)) 2) &&& 858993459)) + (ps_ushr (((p0 - ((ps_ushr p0 1) &&& 1431655765)) &&& 858993459) + ((ps_ushr (p0 - ((ps_ushr p0 1) &&& 1431655765)) 2) &&& 858993459)) 4)) &&& 252645135) + (ps_ushr (((((p0 - ((ps_ushr p0 1) &&& 1431655765)) &&& 858993459) + ((ps_ushr (p0 - ((ps_ushr p0 1) &&& 1431655765)) 2) &&& 858993459)) + (ps_ushr (((p0 - ((ps_ushr p0 1) &&& 1431655765)) &&& 858993459) + ((ps_ushr (p0 - ((ps_ushr p0 1) &&& 1431655765)) 2) &&& 858993459)) 4)) &&& 252645135) 8)) + (ps_ushr ((((((p0 - ((ps_ushr p0 1) &&& 1431655765)) &&& 858993459) + ((ps_ushr (p0 - ((ps_ushr p0 1) &&& 1431655765)) 2) &&& 858993459)) + (ps_ushr (((p0 - ((ps_ushr p0 1) &&& 1431655765)) &&& 858993459) + ((ps_ushr (p0 - ((ps_ushr p0 1) &&& 1431655765)) 2) &&& 858993459)) 4)) &&& 252645135) + (ps_ushr (((((p0 - ((ps_ushr p0 1) &&& 1431655765)) &&& 858993459) + ((ps_ushr (p0 - ((ps_ushr p0 1) &&& 1431655765)) 2) &&& 858993459)) + (ps_ushr (((p0 - ((ps_ushr p0 1) &&& 1431655765)) &&& 858993459) + ((ps_ushr (p0 - ((ps_ushr p0 1) &&& 1431655765)) 2) &&& 858993459)) 4)) &&& 252645135) 8)) 16)) &&& 63)
theorem mJ6_bitCount_0f7a4_265 : Cond.constant RJ6 265 (1431655765) ∈ wsJ6_bitCount_0f7a4 := List.mem_of_getElem? (i := 1) rfl
theorem mJ6_bitCount_0f7a4_266 : Cond.constant RJ6 266 (858993459) ∈ wsJ6_bitCount_0f7a4 := List.mem_of_getElem? (i := 2) rfl
theorem mJ6_bitCount_0f7a4_267 : Cond.constant RJ6 267 (252645135) ∈ wsJ6_bitCount_0f7a4 := List.mem_of_getElem? (i := 3) rfl
set_option maxHeartbeats 4000000 in
set_option maxRecDepth 100000 in
theorem c_J6_bitCount_0f7a4 (l : Launch) {w : ps_X} (hw : ps_ww w) {S : ps_S} {p0 : Int32} {r : Int32} (h : f_J6_bitCount_0f7a4 p0 = some r) : ps_MetI l yJ6_bitCount_0f7a4 wsJ6_bitCount_0f7a4 (ps_rm 0 0) w [.int p0] S S r := by
  refine ps_mkI (cc := cJ6_bitCount_0f7a4) (maxL := 1) (own := RJ6) (by decide +kernel) rfl (Or.inl rfl) rfl (Nat.le_of_ble_eq_true rfl) rfl (fun G hl hG hret => ?_)
  unfold f_J6_bitCount_0f7a4 at h
  refine ps_iload_n hG dJ6_bitCount_0f7a4_0 rfl 0 rfl ?_
  refine ps_iload_n hG dJ6_bitCount_0f7a4_1 rfl 0 rfl ?_
  refine ps_iconst (v := 1) hG dJ6_bitCount_0f7a4_2 (by decide) ?_
  refine ps_iushr hG dJ6_bitCount_0f7a4_3 ?_
  refine ps_ldc_w hG mJ6_bitCount_0f7a4_265 dJ6_bitCount_0f7a4_4 ?_
  refine ps_iand hG dJ6_bitCount_0f7a4_7 ?_
  refine ps_isub hG dJ6_bitCount_0f7a4_8 ?_
  refine ps_istore_n (lv' := [(0, .int (p0 - ((ps_ushr p0 1) &&& 1431655765)))]) hG dJ6_bitCount_0f7a4_9 rfl (by decide) rfl ?_
  refine ps_iload_n hG dJ6_bitCount_0f7a4_10 rfl 0 rfl ?_
  refine ps_ldc_w hG mJ6_bitCount_0f7a4_266 dJ6_bitCount_0f7a4_11 ?_
  refine ps_iand hG dJ6_bitCount_0f7a4_14 ?_
  refine ps_iload_n hG dJ6_bitCount_0f7a4_15 rfl 0 rfl ?_
  refine ps_iconst (v := 2) hG dJ6_bitCount_0f7a4_16 (by decide) ?_
  refine ps_iushr hG dJ6_bitCount_0f7a4_17 ?_
  refine ps_ldc_w hG mJ6_bitCount_0f7a4_266 dJ6_bitCount_0f7a4_18 ?_
  refine ps_iand hG dJ6_bitCount_0f7a4_21 ?_
  refine ps_iadd hG dJ6_bitCount_0f7a4_22 ?_
  refine ps_istore_n (lv' := [(0, .int (((p0 - ((ps_ushr p0 1) &&& 1431655765)) &&& 858993459) + ((ps_ushr (p0 - ((ps_ushr p0 1) &&& 1431655765)) 2) &&& 858993459)))]) hG dJ6_bitCount_0f7a4_23 rfl (by decide) rfl ?_
  refine ps_iload_n hG dJ6_bitCount_0f7a4_24 rfl 0 rfl ?_
  refine ps_iload_n hG dJ6_bitCount_0f7a4_25 rfl 0 rfl ?_
  refine ps_iconst (v := 4) hG dJ6_bitCount_0f7a4_26 (by decide) ?_
  refine ps_iushr hG dJ6_bitCount_0f7a4_27 ?_
  refine ps_iadd hG dJ6_bitCount_0f7a4_28 ?_
  refine ps_ldc_w hG mJ6_bitCount_0f7a4_267 dJ6_bitCount_0f7a4_29 ?_
  refine ps_iand hG dJ6_bitCount_0f7a4_32 ?_
  refine ps_istore_n (lv' := [(0, .int (((((p0 - ((ps_ushr p0 1) &&& 1431655765)) &&& 858993459) + ((ps_ushr (p0 - ((ps_ushr p0 1) &&& 1431655765)) 2) &&& 858993459)) + (ps_ushr (((p0 - ((ps_ushr p0 1) &&& 1431655765)) &&& 858993459) + ((ps_ushr (p0 - ((ps_ushr p0 1) &&& 1431655765)) 2) &&& 858993459)) 4)) &&& 252645135))]) hG dJ6_bitCount_0f7a4_33 rfl (by decide) rfl ?_
  refine ps_iload_n hG dJ6_bitCount_0f7a4_34 rfl 0 rfl ?_
  refine ps_iload_n hG dJ6_bitCount_0f7a4_35 rfl 0 rfl ?_
  refine ps_bipush (v := 8) hG dJ6_bitCount_0f7a4_36 (by decide) ?_
  refine ps_iushr hG dJ6_bitCount_0f7a4_38 ?_
  refine ps_iadd hG dJ6_bitCount_0f7a4_39 ?_
  refine ps_istore_n (lv' := [(0, .int ((((((p0 - ((ps_ushr p0 1) &&& 1431655765)) &&& 858993459) + ((ps_ushr (p0 - ((ps_ushr p0 1) &&& 1431655765)) 2) &&& 858993459)) + (ps_ushr (((p0 - ((ps_ushr p0 1) &&& 1431655765)) &&& 858993459) + ((ps_ushr (p0 - ((ps_ushr p0 1) &&& 1431655765)) 2) &&& 858993459)) 4)) &&& 252645135) + (ps_ushr (((((p0 - ((ps_ushr p0 1) &&& 1431655765)) &&& 858993459) + ((ps_ushr (p0 - ((ps_ushr p0 1) &&& 1431655765)) 2) &&& 858993459)) + (ps_ushr (((p0 - ((ps_ushr p0 1) &&& 1431655765)) &&& 858993459) + ((ps_ushr (p0 - ((ps_ushr p0 1) &&& 1431655765)) 2) &&& 858993459)) 4)) &&& 252645135) 8)))]) hG dJ6_bitCount_0f7a4_40 rfl (by decide) rfl ?_
  refine ps_iload_n hG dJ6_bitCount_0f7a4_41 rfl 0 rfl ?_
  refine ps_iload_n hG dJ6_bitCount_0f7a4_42 rfl 0 rfl ?_
  refine ps_bipush (v := 16) hG dJ6_bitCount_0f7a4_43 (by decide) ?_
  refine ps_iushr hG dJ6_bitCount_0f7a4_45 ?_
  refine ps_iadd hG dJ6_bitCount_0f7a4_46 ?_
  refine ps_istore_n (lv' := [(0, .int (((((((p0 - ((ps_ushr p0 1) &&& 1431655765)) &&& 858993459) + ((ps_ushr (p0 - ((ps_ushr p0 1) &&& 1431655765)) 2) &&& 858993459)) + (ps_ushr (((p0 - ((ps_ushr p0 1) &&& 1431655765)) &&& 858993459) + ((ps_ushr (p0 - ((ps_ushr p0 1) &&& 1431655765)) 2) &&& 858993459)) 4)) &&& 252645135) + (ps_ushr (((((p0 - ((ps_ushr p0 1) &&& 1431655765)) &&& 858993459) + ((ps_ushr (p0 - ((ps_ushr p0 1) &&& 1431655765)) 2) &&& 858993459)) + (ps_ushr (((p0 - ((ps_ushr p0 1) &&& 1431655765)) &&& 858993459) + ((ps_ushr (p0 - ((ps_ushr p0 1) &&& 1431655765)) 2) &&& 858993459)) 4)) &&& 252645135) 8)) + (ps_ushr ((((((p0 - ((ps_ushr p0 1) &&& 1431655765)) &&& 858993459) + ((ps_ushr (p0 - ((ps_ushr p0 1) &&& 1431655765)) 2) &&& 858993459)) + (ps_ushr (((p0 - ((ps_ushr p0 1) &&& 1431655765)) &&& 858993459) + ((ps_ushr (p0 - ((ps_ushr p0 1) &&& 1431655765)) 2) &&& 858993459)) 4)) &&& 252645135) + (ps_ushr (((((p0 - ((ps_ushr p0 1) &&& 1431655765)) &&& 858993459) + ((ps_ushr (p0 - ((ps_ushr p0 1) &&& 1431655765)) 2) &&& 858993459)) + (ps_ushr (((p0 - ((ps_ushr p0 1) &&& 1431655765)) &&& 858993459) + ((ps_ushr (p0 - ((ps_ushr p0 1) &&& 1431655765)) 2) &&& 858993459)) 4)) &&& 252645135) 8)) 16)))]) hG dJ6_bitCount_0f7a4_47 rfl (by decide) rfl ?_
  refine ps_iload_n hG dJ6_bitCount_0f7a4_48 rfl 0 rfl ?_
  refine ps_bipush (v := 63) hG dJ6_bitCount_0f7a4_49 (by decide) ?_
  refine ps_iand hG dJ6_bitCount_0f7a4_51 ?_
  cases h
  exact hret _ _ dJ6_bitCount_0f7a4_52
def f_X0_times_J45 (v4_7 : Int32) (v2_28 : Int32) (v3_45 : Int32) : Option ((Int32 × Int32 × Int32) ⊕ (Int32)) :=
  some (.inl (v2_28, v3_45, v4_7 + 1))
def f_X0_times_J28 (v3_7 : Int32) (v4_7 : Int32) (v2_28 : Int32) : Option ((Int32 × Int32 × Int32) ⊕ (Int32)) :=
  (if (v3_7 <<< (1 &&& 31)) < 256 then
            f_X0_times_J45 v4_7 v2_28 (v3_7 <<< (1 &&& 31))
          else
            f_X0_times_J45 v4_7 v2_28 ((v3_7 <<< (1 &&& 31)) ^^^ 285))
def f_X0_times_L7 (p1 : Int32) (v2_7 : Int32) (v3_7 : Int32) (v4_7 : Int32) : Option ((Int32 × Int32 × Int32) ⊕ (Int32)) :=
  (if 8 ≤ v4_7 then
        some (.inr v2_7)
      else
        (if ((p1 >>> (v4_7 &&& 31)) &&& 1) = 1 then
          f_X0_times_J28 v3_7 v4_7 (v2_7 ^^^ v3_7)
        else
          f_X0_times_J28 v3_7 v4_7 v2_7))
def f_X0_times (p0 : Int32) (p1 : Int32) : Option Int32 :=
  ((ps_it (fun (a : Int32 × Int32 × Int32) => f_X0_times_L7 p1 a.1 a.2.1 a.2.2) ps_fu (0, p0, 0)).bind (fun e2_7 => some e2_7))
set_option maxHeartbeats 4000000 in
set_option maxRecDepth 100000 in
theorem c_X0_times (l : Launch) {w : ps_X} (hw : ps_ww w) {S : ps_S} {p0 p1 : Int32} {r : Int32} (h : f_X0_times p0 p1 = some r) : ps_MetI l yX0_times wsX0_times (ps_rm 0 0) w [.int p0, .int p1] S S r := by
  refine ps_mkI (cc := cX0_times) (maxL := 5) (own := RX0) (by decide +kernel) rfl (Or.inl rfl) rfl (Nat.le_of_ble_eq_true rfl) rfl (fun G hl hG hret => ?_)
  unfold f_X0_times at h
  refine ps_iconst (v := 0) hG dX0_times_0 (by decide) ?_
  refine ps_istore_n (lv' := [(2, .int 0), (0, .int p0), (1, .int p1)]) hG dX0_times_1 rfl (by decide) rfl ?_
  refine ps_iload_n hG dX0_times_2 rfl 1 rfl ?_
  refine ps_istore_n (lv' := [(3, .int p0), (2, .int 0), (0, .int p0), (1, .int p1)]) hG dX0_times_3 rfl (by decide) rfl ?_
  refine ps_iconst (v := 0) hG dX0_times_4 (by decide) ?_
  refine ps_istore (lv' := [(4, .int 0), (3, .int p0), (2, .int 0), (0, .int p0), (1, .int p1)]) hG dX0_times_5 (by decide) rfl ?_
  obtain ⟨e2_7, hq7, h⟩ := ps_bd h
  refine (ps_sub [4, 2, 1, 0] rfl (ps_itV (fun (a : Int32 × Int32 × Int32) => ps_V G 5 0 0 w S 7 [(1, .int p1), (2, .int a.1), (3, .int a.2.1), (4, .int a.2.2)] []) (fun (b : Int32) => ps_V G 5 0 0 w S 51 [(2, .int b)] []) ?_ _ _ _ hq7 ?_))
  · intro a r9 h kc ke
    obtain ⟨v2_7, v3_7, v4_7⟩ := a
    replace h : f_X0_times_L7 p1 v2_7 v3_7 v4_7 = some r9 := h
    show ps_V G 5 0 0 w S 7 [(1, .int p1), (2, .int v2_7), (3, .int v3_7), (4, .int v4_7)] []
    unfold f_X0_times_L7 at h
    refine ps_iload hG dX0_times_7 3 rfl ?_
    refine ps_bipush (v := 8) hG dX0_times_9 (by decide) ?_
    refine ps_icmp_ge (tgt := 51) hG dX0_times_11 (by decide) (fun c11 => ?_) (fun c11 => ?_)
    · replace h := ps_ip c11 h
      cases h
      exact (ps_sub [1] rfl (ke _ rfl))
    · replace h := ps_in c11 h
      refine ps_iload_n hG dX0_times_14 rfl 0 rfl ?_
      refine ps_iload hG dX0_times_15 3 rfl ?_
      refine ps_ishr hG dX0_times_17 ?_
      refine ps_iconst (v := 1) hG dX0_times_18 (by decide) ?_
      refine ps_iand hG dX0_times_19 ?_
      refine ps_iconst (v := 1) hG dX0_times_20 (by decide) ?_
      have hJ28 : ∀ (v2_28 : Int32), f_X0_times_J28 v3_7 v4_7 v2_28 = some r9 → ps_V G 5 0 0 w S 28 [(1, .int p1), (2, .int v2_28), (3, .int v3_7), (4, .int v4_7)] [] := by
        intro v2_28 h
        unfold f_X0_times_J28 at h
        refine ps_iload_n hG dX0_times_28 rfl 2 rfl ?_
        refine ps_iconst (v := 1) hG dX0_times_29 (by decide) ?_
        refine ps_ishl hG dX0_times_30 ?_
        refine ps_istore_n (lv' := [(3, .int (v3_7 <<< (1 &&& 31))), (1, .int p1), (2, .int v2_28), (4, .int v4_7)]) hG dX0_times_31 rfl (by decide) rfl ?_
        refine ps_iload_n hG dX0_times_32 rfl 0 rfl ?_
        refine ps_sipush (v := 256) hG dX0_times_33 (by decide) ?_
        have hJ45 : ∀ (v3_45 : Int32), f_X0_times_J45 v4_7 v2_28 v3_45 = some r9 → ps_V G 5 0 0 w S 45 [(1, .int p1), (2, .int v2_28), (3, .int v3_45), (4, .int v4_7)] [] := by
          intro v3_45 h
          unfold f_X0_times_J45 at h
          refine ps_iinc (lv' := [(4, .int (v4_7 + 1)), (1, .int p1), (2, .int v2_28), (3, .int v3_45)]) hG dX0_times_45 3 rfl (by rfl) (by decide) rfl ?_
          refine ps_goto (tgt := 7) hG dX0_times_48 (by decide) ?_
          cases h
          exact (ps_sub [1, 2, 3, 0] rfl (kc _ rfl))
        refine ps_icmp_lt (tgt := 45) hG dX0_times_36 (by decide) (fun c36 => ?_) (fun c36 => ?_)
        · replace h := ps_ip c36 h
          exact (ps_sub [1, 2, 0, 3] rfl (hJ45 (v3_7 <<< (1 &&& 31)) h))
        · replace h := ps_in c36 h
          refine ps_iload_n hG dX0_times_39 rfl 0 rfl ?_
          refine ps_sipush (v := 285) hG dX0_times_40 (by decide) ?_
          refine ps_ixor hG dX0_times_43 ?_
          refine ps_istore_n (lv' := [(3, .int ((v3_7 <<< (1 &&& 31)) ^^^ 285)), (1, .int p1), (2, .int v2_28), (4, .int v4_7)]) hG dX0_times_44 rfl (by decide) rfl ?_
          exact (ps_sub [1, 2, 0, 3] rfl (hJ45 ((v3_7 <<< (1 &&& 31)) ^^^ 285) h))
      refine ps_icmp_ne (tgt := 28) hG dX0_times_21 (by decide) (fun c21 => ?_) (fun c21 => ?_)
      · replace h := ps_in c21 h
        exact (ps_sub [0, 1, 2, 3] rfl (hJ28 v2_7 h))
      · replace h := ps_ip c21 h
        refine ps_iload_n hG dX0_times_24 rfl 1 rfl ?_
        refine ps_iload_n hG dX0_times_25 rfl 2 rfl ?_
        refine ps_ixor hG dX0_times_26 ?_
        refine ps_istore_n (lv' := [(2, .int (v2_7 ^^^ v3_7)), (1, .int p1), (3, .int v3_7), (4, .int v4_7)]) hG dX0_times_27 rfl (by decide) rfl ?_
        exact (ps_sub [1, 0, 2, 3] rfl (hJ28 (v2_7 ^^^ v3_7) h))
  · show ps_V G 5 0 0 w S 51 [(2, .int e2_7)] []
    refine ps_iload_n hG dX0_times_51 rfl 0 rfl ?_
    cases h
    exact hret _ _ dX0_times_52
def f_X0_inverse_L6  (v1_6 : Int32) (v2_6 : Int32) (v3_6 : Int32) : Option ((Int32 × Int32 × Int32) ⊕ (Int32)) :=
  (if 8 ≤ v3_6 then
        some (.inr v2_6)
      else
        ((f_X0_times v1_6 v1_6).bind fun r14 =>
        ((f_X0_times v2_6 r14).bind fun r20 =>
        some (.inl (r14, r20, v3_6 + 1)))))
def f_X0_inverse (p0 : Int32) : Option Int32 :=
  ((ps_it (fun (a : Int32 × Int32 × Int32) => f_X0_inverse_L6 a.1 a.2.1 a.2.2) ps_fu (p0, 1, 1)).bind (fun e2_6 => some e2_6))
set_option maxHeartbeats 4000000 in
set_option maxRecDepth 100000 in
theorem c_X0_inverse (l : Launch) {w : ps_X} (hw : ps_ww w) {S : ps_S} {p0 : Int32} {r : Int32} (h : f_X0_inverse p0 = some r) : ps_MetI l yX0_inverse wsX0_inverse (ps_rm 1 24) w [.int p0] S S r := by
  refine ps_mkI (cc := cX0_inverse) (maxL := 4) (own := RX0) (by decide +kernel) rfl (Or.inl rfl) rfl (Nat.le_of_ble_eq_true rfl) rfl (fun G hl hG hret => ?_)
  unfold f_X0_inverse at h
  refine ps_iload_n hG dX0_inverse_0 rfl 0 rfl ?_
  refine ps_istore_n (lv' := [(1, .int p0), (0, .int p0)]) hG dX0_inverse_1 rfl (by decide) rfl ?_
  refine ps_iconst (v := 1) hG dX0_inverse_2 (by decide) ?_
  refine ps_istore_n (lv' := [(2, .int 1), (1, .int p0), (0, .int p0)]) hG dX0_inverse_3 rfl (by decide) rfl ?_
  refine ps_iconst (v := 1) hG dX0_inverse_4 (by decide) ?_
  refine ps_istore_n (lv' := [(3, .int 1), (2, .int 1), (1, .int p0), (0, .int p0)]) hG dX0_inverse_5 rfl (by decide) rfl ?_
  obtain ⟨e2_6, hq6, h⟩ := ps_bd h
  refine (ps_sub [2, 1, 0] rfl (ps_itV (fun (a : Int32 × Int32 × Int32) => ps_V G 4 0 0 w S 6 [(1, .int a.1), (2, .int a.2.1), (3, .int a.2.2)] []) (fun (b : Int32) => ps_V G 4 0 0 w S 30 [(2, .int b)] []) ?_ _ _ _ hq6 ?_))
  · intro a r9 h kc ke
    obtain ⟨v1_6, v2_6, v3_6⟩ := a
    replace h : f_X0_inverse_L6 v1_6 v2_6 v3_6 = some r9 := h
    show ps_V G 4 0 0 w S 6 [(1, .int v1_6), (2, .int v2_6), (3, .int v3_6)] []
    unfold f_X0_inverse_L6 at h
    refine ps_iload_n hG dX0_inverse_6 rfl 2 rfl ?_
    refine ps_bipush (v := 8) hG dX0_inverse_7 (by decide) ?_
    refine ps_icmp_ge (tgt := 30) hG dX0_inverse_9 (by decide) (fun c9 => ?_) (fun c9 => ?_)
    · replace h := ps_ip c9 h
      cases h
      exact (ps_sub [1] rfl (ke _ rfl))
    · replace h := ps_in c9 h
      refine ps_iload_n hG dX0_inverse_12 rfl 0 rfl ?_
      refine ps_iload_n hG dX0_inverse_13 rfl 0 rfl ?_
      obtain ⟨r14, hr14, h⟩ := ps_bd h
      refine ps_callSI (As := [.int v1_6, .int v1_6]) (rest := []) (nA := 2) hG (c_X0_times _ hw hr14) gX0_inverse_X0_times rfl (by decide +kernel) rfl ⟨Nat.le_of_ble_eq_true rfl, Nat.le_of_ble_eq_true rfl⟩ ⟨rfl, rfl⟩ ⟨Nat.le_of_ble_eq_true rfl, Nat.le_of_ble_eq_true rfl⟩ rfl (Nat.le_of_ble_eq_true rfl) dX0_inverse_14 ?_
      refine ps_istore_n (lv' := [(1, .int r14), (2, .int v2_6), (3, .int v3_6)]) hG dX0_inverse_17 rfl (by decide) rfl ?_
      refine ps_iload_n hG dX0_inverse_18 rfl 1 rfl ?_
      refine ps_iload_n hG dX0_inverse_19 rfl 0 rfl ?_
      obtain ⟨r20, hr20, h⟩ := ps_bd h
      refine ps_callSI (As := [.int v2_6, .int r14]) (rest := []) (nA := 2) hG (c_X0_times _ hw hr20) gX0_inverse_X0_times rfl (by decide +kernel) rfl ⟨Nat.le_of_ble_eq_true rfl, Nat.le_of_ble_eq_true rfl⟩ ⟨rfl, rfl⟩ ⟨Nat.le_of_ble_eq_true rfl, Nat.le_of_ble_eq_true rfl⟩ rfl (Nat.le_of_ble_eq_true rfl) dX0_inverse_20 ?_
      refine ps_istore_n (lv' := [(2, .int r20), (1, .int r14), (3, .int v3_6)]) hG dX0_inverse_23 rfl (by decide) rfl ?_
      refine ps_iinc (lv' := [(3, .int (v3_6 + 1)), (2, .int r20), (1, .int r14)]) hG dX0_inverse_24 2 rfl (by rfl) (by decide) rfl ?_
      refine ps_goto (tgt := 6) hG dX0_inverse_27 (by decide) ?_
      cases h
      exact (ps_sub [2, 1, 0] rfl (kc _ rfl))
  · show ps_V G 4 0 0 w S 30 [(2, .int e2_6)] []
    refine ps_iload_n hG dX0_inverse_30 rfl 0 rfl ?_
    cases h
    exact hret _ _ dX0_inverse_31
def f_X0_weighted (p0 : Int32) (p1 : Int32) : Option Int32 :=
  ((f_X0_times (1 <<< (p0 &&& 31)) p1).bind fun r4 =>
  some r4)
set_option maxHeartbeats 4000000 in
set_option maxRecDepth 100000 in
theorem c_X0_weighted (l : Launch) {w : ps_X} (hw : ps_ww w) {S : ps_S} {p0 p1 : Int32} {r : Int32} (h : f_X0_weighted p0 p1 = some r) : ps_MetI l yX0_weighted wsX0_weighted (ps_rm 1 24) w [.int p0, .int p1] S S r := by
  refine ps_mkI (cc := cX0_weighted) (maxL := 2) (own := RX0) (by decide +kernel) rfl (Or.inl rfl) rfl (Nat.le_of_ble_eq_true rfl) rfl (fun G hl hG hret => ?_)
  unfold f_X0_weighted at h
  refine ps_iconst (v := 1) hG dX0_weighted_0 (by decide) ?_
  refine ps_iload_n hG dX0_weighted_1 rfl 0 rfl ?_
  refine ps_ishl hG dX0_weighted_2 ?_
  refine ps_iload_n hG dX0_weighted_3 rfl 1 rfl ?_
  obtain ⟨r4, hr4, h⟩ := ps_bd h
  refine ps_callSI (As := [.int (1 <<< (p0 &&& 31)), .int p1]) (rest := []) (nA := 2) hG (c_X0_times _ hw hr4) gX0_weighted_X0_times rfl (by decide +kernel) rfl ⟨Nat.le_of_ble_eq_true rfl, Nat.le_of_ble_eq_true rfl⟩ ⟨rfl, rfl⟩ ⟨Nat.le_of_ble_eq_true rfl, Nat.le_of_ble_eq_true rfl⟩ rfl (Nat.le_of_ble_eq_true rfl) dX0_weighted_4 ?_
  cases h
  exact hret _ _ dX0_weighted_7
def f_X0_isIn (p0 : Int32) (p1 : Int32) : Option Int32 :=
  (if ((p0 >>> (p1 &&& 31)) &&& 1) = 1 then
    some 1
  else
    some 0)
set_option maxHeartbeats 4000000 in
set_option maxRecDepth 100000 in
theorem c_X0_isIn (l : Launch) {w : ps_X} (hw : ps_ww w) {S : ps_S} {p0 p1 : Int32} {r : Int32} (h : f_X0_isIn p0 p1 = some r) : ps_MetI l yX0_isIn wsX0_isIn (ps_rm 0 0) w [.int p0, .int p1] S S r := by
  refine ps_mkZ (cc := cX0_isIn) (maxL := 2) (own := RX0) (by decide +kernel) rfl rfl rfl (Nat.le_of_ble_eq_true rfl) rfl (fun G hl hG hret => ?_)
  unfold f_X0_isIn at h
  refine ps_iload_n hG dX0_isIn_0 rfl 0 rfl ?_
  refine ps_iload_n hG dX0_isIn_1 rfl 1 rfl ?_
  refine ps_ishr hG dX0_isIn_2 ?_
  refine ps_iconst (v := 1) hG dX0_isIn_3 (by decide) ?_
  refine ps_iand hG dX0_isIn_4 ?_
  refine ps_iconst (v := 1) hG dX0_isIn_5 (by decide) ?_
  refine ps_icmp_ne (tgt := 13) hG dX0_isIn_6 (by decide) (fun c6 => ?_) (fun c6 => ?_)
  · replace h := ps_in c6 h
    refine ps_iconst (v := 0) hG dX0_isIn_13 (by decide) ?_
    cases h
    exact hret _ _ dX0_isIn_14 rfl
  · replace h := ps_ip c6 h
    refine ps_iconst (v := 1) hG dX0_isIn_9 (by decide) ?_
    refine ps_goto (tgt := 14) hG dX0_isIn_10 (by decide) ?_
    cases h
    exact hret _ _ dX0_isIn_14 rfl
def f_X0_solveTwo (p0 : Int32) (p1 : Int32) (p2 : Int32) (p3 : Int32) : Option Int32 :=
  ((f_X0_weighted p0 p2).bind fun r3 =>
  ((f_X0_inverse ((1 <<< (p0 &&& 31)) ^^^ (1 <<< (p1 &&& 31)))).bind fun r18 =>
  ((f_X0_times (p3 ^^^ r3) r18).bind fun r21 =>
  some (((p2 ^^^ r21) <<< ((8 * p0) &&& 31)) ||| (r21 <<< ((8 * p1) &&& 31))))))
set_option maxHeartbeats 4000000 in
set_option maxRecDepth 100000 in
theorem c_X0_solveTwo (l : Launch) {w : ps_X} (hw : ps_ww w) {S : ps_S} {p0 p1 p2 p3 : Int32} {r : Int32} (h : f_X0_solveTwo p0 p1 p2 p3 = some r) : ps_MetI l yX0_solveTwo wsX0_solveTwo (ps_rm 2 47) w [.int p0, .int p1, .int p2, .int p3] S S r := by
  refine ps_mkI (cc := cX0_solveTwo) (maxL := 7) (own := RX0) (by decide +kernel) rfl (Or.inl rfl) rfl (Nat.le_of_ble_eq_true rfl) rfl (fun G hl hG hret => ?_)
  unfold f_X0_solveTwo at h
  refine ps_iload_n hG dX0_solveTwo_0 rfl 3 rfl ?_
  refine ps_iload_n hG dX0_solveTwo_1 rfl 0 rfl ?_
  refine ps_iload_n hG dX0_solveTwo_2 rfl 2 rfl ?_
  obtain ⟨r3, hr3, h⟩ := ps_bd h
  refine ps_callSI (As := [.int p0, .int p2]) (rest := [.int p3]) (nA := 2) hG (c_X0_weighted _ hw hr3) gX0_solveTwo_X0_weighted rfl (by decide +kernel) rfl ⟨Nat.le_of_ble_eq_true rfl, Nat.le_of_ble_eq_true rfl⟩ ⟨rfl, rfl⟩ ⟨Nat.le_of_ble_eq_true rfl, Nat.le_of_ble_eq_true rfl⟩ rfl (Nat.le_of_ble_eq_true rfl) dX0_solveTwo_3 ?_
  refine ps_ixor hG dX0_solveTwo_6 ?_
  refine ps_istore (lv' := [(4, .int (p3 ^^^ r3)), (0, .int p0), (1, .int p1), (2, .int p2), (3, .int p3)]) hG dX0_solveTwo_7 (by decide) rfl ?_
  refine ps_iload hG dX0_solveTwo_9 0 rfl ?_
  refine ps_iconst (v := 1) hG dX0_solveTwo_11 (by decide) ?_
  refine ps_iload_n hG dX0_solveTwo_12 rfl 1 rfl ?_
  refine ps_ishl hG dX0_solveTwo_13 ?_
  refine ps_iconst (v := 1) hG dX0_solveTwo_14 (by decide) ?_
  refine ps_iload_n hG dX0_solveTwo_15 rfl 2 rfl ?_
  refine ps_ishl hG dX0_solveTwo_16 ?_
  refine ps_ixor hG dX0_solveTwo_17 ?_
  obtain ⟨r18, hr18, h⟩ := ps_bd h
  refine ps_callSI (As := [.int ((1 <<< (p0 &&& 31)) ^^^ (1 <<< (p1 &&& 31)))]) (rest := [.int (p3 ^^^ r3)]) (nA := 1) hG (c_X0_inverse _ hw hr18) gX0_solveTwo_X0_inverse rfl (by decide +kernel) rfl ⟨Nat.le_of_ble_eq_true rfl, Nat.le_of_ble_eq_true rfl⟩ ⟨rfl, rfl⟩ ⟨Nat.le_of_ble_eq_true rfl, Nat.le_of_ble_eq_true rfl⟩ rfl (Nat.le_of_ble_eq_true rfl) dX0_solveTwo_18 ?_
  obtain ⟨r21, hr21, h⟩ := ps_bd h
  refine ps_callSI (As := [.int (p3 ^^^ r3), .int r18]) (rest := []) (nA := 2) hG (c_X0_times _ hw hr21) gX0_solveTwo_X0_times rfl (by decide +kernel) rfl ⟨Nat.le_of_ble_eq_true rfl, Nat.le_of_ble_eq_true rfl⟩ ⟨rfl, rfl⟩ ⟨Nat.le_of_ble_eq_true rfl, Nat.le_of_ble_eq_true rfl⟩ rfl (Nat.le_of_ble_eq_true rfl) dX0_solveTwo_21 ?_
  refine ps_istore (lv' := [(5, .int r21), (4, .int (p3 ^^^ r3)), (0, .int p0), (1, .int p1), (2, .int p2), (3, .int p3)]) hG dX0_solveTwo_24 (by decide) rfl ?_
  refine ps_iload_n hG dX0_solveTwo_26 rfl 4 rfl ?_
  refine ps_iload hG dX0_solveTwo_27 0 rfl ?_
  refine ps_ixor hG dX0_solveTwo_29 ?_
  refine ps_istore (lv' := [(6, .int (p2 ^^^ r21)), (5, .int r21), (4, .int (p3 ^^^ r3)), (0, .int p0), (1, .int p1), (2, .int p2), (3, .int p3)]) hG dX0_solveTwo_30 (by decide) rfl ?_
  refine ps_iload hG dX0_solveTwo_32 0 rfl ?_
  refine ps_bipush (v := 8) hG dX0_solveTwo_34 (by decide) ?_
  refine ps_iload_n hG dX0_solveTwo_36 rfl 3 rfl ?_
  refine ps_imul hG dX0_solveTwo_37 ?_
  refine ps_ishl hG dX0_solveTwo_38 ?_
  refine ps_iload hG dX0_solveTwo_39 1 rfl ?_
  refine ps_bipush (v := 8) hG dX0_solveTwo_41 (by decide) ?_
  refine ps_iload_n hG dX0_solveTwo_43 rfl 4 rfl ?_
  refine ps_imul hG dX0_solveTwo_44 ?_
  refine ps_ishl hG dX0_solveTwo_45 ?_
  refine ps_ior hG dX0_solveTwo_46 ?_
  cases h
  exact hret _ _ dX0_solveTwo_47
def f_X0_solve_J132 (v7_56 : Int32) (v2_132 : Int32) (v3_132 : Int32) (v4_132 : Int32) (v5_132 : Int32) (v6_132 : Int32) : Option ((Int32 × Int32 × Int32 × Int32 × Int32 × Int32) ⊕ (Int32 × Int32 × Int32 × Int32 × Int32)) :=
  some (.inl (v2_132, v3_132, v4_132, v5_132, v6_132, v7_56 + 1))
def f_X0_solve_L56 (S : ps_S) (k0 : Nat) (p1 : Int32) (v2_56 : Int32) (v3_56 : Int32) (v4_56 : Int32) (v5_56 : Int32) (v6_56 : Int32) (v7_56 : Int32) : Option ((Int32 × Int32 × Int32 × Int32 × Int32 × Int32) ⊕ (Int32 × Int32 × Int32 × Int32 × Int32)) :=
  (if 4 ≤ v7_56 then
            some (.inr (v2_56, v3_56, v4_56, v5_56, v6_56))
          else
            (if 6 ≤ v7_56 then
              some (.inr (v2_56, v3_56, v4_56, v5_56, v6_56))
            else
              ((f_X0_isIn p1 v7_56).bind fun r72 =>
              (if r72 = 0 then
                (if v5_56 = (-1) then
                  f_X0_solve_J132 v7_56 v2_56 v3_56 v4_56 v7_56 v6_56
                else
                  f_X0_solve_J132 v7_56 v2_56 v3_56 v4_56 v5_56 v7_56)
              else
                (if ps_ib v7_56 6 = true then
                (if ps_ib v7_56 6 = true then
                (if ps_ib v7_56 6 = true then
                ((f_X0_weighted v7_56 (S k0 v7_56.toNatClampNeg)).bind fun r106 =>
                f_X0_solve_J132 v7_56 (v2_56 ||| ((S k0 v7_56.toNatClampNeg) <<< ((8 * v7_56) &&& 31))) (v3_56 ^^^ (S k0 v7_56.toNatClampNeg)) (v4_56 ^^^ r106) v5_56 v6_56) else none) else none) else none)))))
def f_X0_solve_J189 (e2_56 : Int32) (e5_56 : Int32) (s0_189 : Int32) : Option Int32 :=
  some (e2_56 ||| (s0_189 <<< ((8 * e5_56) &&& 31)))
def f_X0_solve_J45 (S : ps_S) (k0 : Nat) (p1 : Int32) (s0_23 : Int32) (s0_45 : Int32) : Option Int32 :=
  (ps_b5 (ps_it (fun (a : Int32 × Int32 × Int32 × Int32 × Int32 × Int32) => f_X0_solve_L56 S k0 p1 a.1 a.2.1 a.2.2.1 a.2.2.2.1 a.2.2.2.2.1 a.2.2.2.2.2) ps_fu (0, s0_23, s0_45, (-1), (-1), 0)) (fun e2_56 e3_56 e4_56 e5_56 e6_56 => (if e5_56 = (-1) then
        some e2_56
      else
        (if e6_56 = (-1) then
          ((f_X0_isIn p1 4).bind fun r167 =>
          (if r167 = 0 then
            ((f_X0_inverse (1 <<< (e5_56 &&& 31))).bind fun r183 =>
            ((f_X0_times e4_56 r183).bind fun r186 =>
            f_X0_solve_J189 e2_56 e5_56 r186))
          else
            f_X0_solve_J189 e2_56 e5_56 e3_56))
        else
          ((f_X0_solveTwo e5_56 e6_56 e3_56 e4_56).bind fun r160 =>
          some (e2_56 ||| r160))))))
def f_X0_solve_J23 (S : ps_S) (k0 : Nat) (p1 : Int32) (s0_23 : Int32) : Option Int32 :=
  ((f_X0_isIn p1 5).bind fun r26 =>
    (if r26 = 0 then
      f_X0_solve_J45 S k0 p1 s0_23 0
    else
      f_X0_solve_J45 S k0 p1 s0_23 (S k0 (5 : Int32).toNatClampNeg)))
def f_X0_solve (S : ps_S) (k0 : Nat) (p1 : Int32) : Option Int32 :=
  ((f_X0_isIn p1 4).bind fun r4 =>
  (if r4 = 0 then
    f_X0_solve_J23 S k0 p1 0
  else
    f_X0_solve_J23 S k0 p1 (S k0 (4 : Int32).toNatClampNeg)))
set_option maxHeartbeats 4000000 in
set_option maxRecDepth 100000 in
theorem c_X0_solve (l : Launch) {w : ps_X} (hw : ps_ww w) {k0 : Nat} (hk0 : ps_isA w k0) {S : ps_S} {p1 : Int32} {r : Int32} (h : f_X0_solve S k0 p1 = some r) : ps_MetI l yX0_solve wsX0_solve (ps_rm 3 73) w [.ref (w.2.1 k0), .int p1] S S r := by
  refine ps_mkI (cc := cX0_solve) (maxL := 8) (own := RX0) (by decide +kernel) rfl (Or.inl rfl) rfl (Nat.le_of_ble_eq_true rfl) rfl (fun G hl hG hret => ?_)
  unfold f_X0_solve at h
  refine ps_iconst (v := 0) hG dX0_solve_0 (by decide) ?_
  refine ps_istore_n (lv' := [(2, .int 0), (0, .ref (w.2.1 k0)), (1, .int p1)]) hG dX0_solve_1 rfl (by decide) rfl ?_
  refine ps_iload_n hG dX0_solve_2 rfl 2 rfl ?_
  refine ps_iconst (v := 4) hG dX0_solve_3 (by decide) ?_
  obtain ⟨r4, hr4, h⟩ := ps_bd h
  refine ps_callSI (As := [.int p1, .int 4]) (rest := []) (nA := 2) hG (c_X0_isIn _ hw hr4) gX0_solve_X0_isIn rfl (by decide +kernel) rfl ⟨Nat.le_of_ble_eq_true rfl, Nat.le_of_ble_eq_true rfl⟩ ⟨rfl, rfl⟩ ⟨Nat.le_of_ble_eq_true rfl, Nat.le_of_ble_eq_true rfl⟩ rfl (Nat.le_of_ble_eq_true rfl) dX0_solve_4 ?_
  have hJ23 : ∀ (s0_23 : Int32), f_X0_solve_J23 S k0 p1 s0_23 = some r → ps_V G 8 0 0 w S 23 [(0, .ref (w.2.1 k0)), (1, .int p1), (2, .int 0)] [.int s0_23] := by
    intro s0_23 h
    unfold f_X0_solve_J23 at h
    refine ps_istore_n (lv' := [(3, .int s0_23), (0, .ref (w.2.1 k0)), (1, .int p1), (2, .int 0)]) hG dX0_solve_23 rfl (by decide) rfl ?_
    refine ps_iload_n hG dX0_solve_24 rfl 2 rfl ?_
    refine ps_iconst (v := 5) hG dX0_solve_25 (by decide) ?_
    obtain ⟨r26, hr26, h⟩ := ps_bd h
    refine ps_callSI (As := [.int p1, .int 5]) (rest := []) (nA := 2) hG (c_X0_isIn _ hw hr26) gX0_solve_X0_isIn rfl (by decide +kernel) rfl ⟨Nat.le_of_ble_eq_true rfl, Nat.le_of_ble_eq_true rfl⟩ ⟨rfl, rfl⟩ ⟨Nat.le_of_ble_eq_true rfl, Nat.le_of_ble_eq_true rfl⟩ rfl (Nat.le_of_ble_eq_true rfl) dX0_solve_26 ?_
    have hJ45 : ∀ (s0_45 : Int32), f_X0_solve_J45 S k0 p1 s0_23 s0_45 = some r → ps_V G 8 0 0 w S 45 [(0, .ref (w.2.1 k0)), (1, .int p1), (2, .int 0), (3, .int s0_23)] [.int s0_45] := by
      intro s0_45 h
      unfold f_X0_solve_J45 at h
      refine ps_istore (lv' := [(4, .int s0_45), (0, .ref (w.2.1 k0)), (1, .int p1), (2, .int 0), (3, .int s0_23)]) hG dX0_solve_45 (by decide) rfl ?_
      refine ps_iconst (v := (-1)) hG dX0_solve_47 (by decide) ?_
      refine ps_istore (lv' := [(5, .int (-1)), (4, .int s0_45), (0, .ref (w.2.1 k0)), (1, .int p1), (2, .int 0), (3, .int s0_23)]) hG dX0_solve_48 (by decide) rfl ?_
      refine ps_iconst (v := (-1)) hG dX0_solve_50 (by decide) ?_
      refine ps_istore (lv' := [(6, .int (-1)), (5, .int (-1)), (4, .int s0_45), (0, .ref (w.2.1 k0)), (1, .int p1), (2, .int 0), (3, .int s0_23)]) hG dX0_solve_51 (by decide) rfl ?_
      refine ps_iconst (v := 0) hG dX0_solve_53 (by decide) ?_
      refine ps_istore (lv' := [(7, .int 0), (6, .int (-1)), (5, .int (-1)), (4, .int s0_45), (0, .ref (w.2.1 k0)), (1, .int p1), (2, .int 0), (3, .int s0_23)]) hG dX0_solve_54 (by decide) rfl ?_
      obtain ⟨e2_56, e3_56, e4_56, e5_56, e6_56, hq56, h⟩ := ps_d5 h
      refine (ps_sub [4, 5, 6, 7, 3, 2, 1, 0] rfl (ps_itV (fun (a : Int32 × Int32 × Int32 × Int32 × Int32 × Int32) => ps_V G 8 0 0 w S 56 [(0, .ref (w.2.1 k0)), (1, .int p1), (2, .int a.1), (3, .int a.2.1), (4, .int a.2.2.1), (5, .int a.2.2.2.1), (6, .int a.2.2.2.2.1), (7, .int a.2.2.2.2.2)] []) (fun (b : Int32 × Int32 × Int32 × Int32 × Int32) => ps_V G 8 0 0 w S 138 [(1, .int p1), (2, .int b.1), (3, .int b.2.1), (4, .int b.2.2.1), (5, .int b.2.2.2.1), (6, .int b.2.2.2.2)] []) ?_ _ _ _ hq56 ?_))
      · intro a r9 h kc ke
        obtain ⟨v2_56, v3_56, v4_56, v5_56, v6_56, v7_56⟩ := a
        replace h : f_X0_solve_L56 S k0 p1 v2_56 v3_56 v4_56 v5_56 v6_56 v7_56 = some r9 := h
        show ps_V G 8 0 0 w S 56 [(0, .ref (w.2.1 k0)), (1, .int p1), (2, .int v2_56), (3, .int v3_56), (4, .int v4_56), (5, .int v5_56), (6, .int v6_56), (7, .int v7_56)] []
        unfold f_X0_solve_L56 at h
        refine ps_iload hG dX0_solve_56 7 rfl ?_
        refine ps_iconst (v := 4) hG dX0_solve_58 (by decide) ?_
        refine ps_icmp_ge (tgt := 138) hG dX0_solve_59 (by decide) (fun c59 => ?_) (fun c59 => ?_)
        · replace h := ps_ip c59 h
          cases h
          exact (ps_sub [1, 2, 3, 4, 5, 6] rfl (ke _ rfl))
        · replace h := ps_in c59 h
          refine ps_iload hG dX0_solve_62 7 rfl ?_
          refine ps_aload_n hG dX0_solve_64 rfl 0 rfl ?_
          refine ps_alen (v := 6) hG hk0.1 hk0.2.1 hk0.2.2.1 (by decide) dX0_solve_65 ?_
          refine ps_icmp_ge (tgt := 138) hG dX0_solve_66 (by decide) (fun c66 => ?_) (fun c66 => ?_)
          · replace h := ps_ip c66 h
            cases h
            exact (ps_sub [1, 2, 3, 4, 5, 6] rfl (ke _ rfl))
          · replace h := ps_in c66 h
            refine ps_iload_n hG dX0_solve_69 rfl 1 rfl ?_
            refine ps_iload hG dX0_solve_70 7 rfl ?_
            obtain ⟨r72, hr72, h⟩ := ps_bd h
            refine ps_callSI (As := [.int p1, .int v7_56]) (rest := []) (nA := 2) hG (c_X0_isIn _ hw hr72) gX0_solve_X0_isIn rfl (by decide +kernel) rfl ⟨Nat.le_of_ble_eq_true rfl, Nat.le_of_ble_eq_true rfl⟩ ⟨rfl, rfl⟩ ⟨Nat.le_of_ble_eq_true rfl, Nat.le_of_ble_eq_true rfl⟩ rfl (Nat.le_of_ble_eq_true rfl) dX0_solve_72 ?_
            have hJ132 : ∀ (v2_132 : Int32) (v3_132 : Int32) (v4_132 : Int32) (v5_132 : Int32) (v6_132 : Int32), f_X0_solve_J132 v7_56 v2_132 v3_132 v4_132 v5_132 v6_132 = some r9 → ps_V G 8 0 0 w S 132 [(0, .ref (w.2.1 k0)), (1, .int p1), (2, .int v2_132), (3, .int v3_132), (4, .int v4_132), (5, .int v5_132), (6, .int v6_132), (7, .int v7_56)] [] := by
              intro v2_132 v3_132 v4_132 v5_132 v6_132 h
              unfold f_X0_solve_J132 at h
              refine ps_iinc (lv' := [(7, .int (v7_56 + 1)), (0, .ref (w.2.1 k0)), (1, .int p1), (2, .int v2_132), (3, .int v3_132), (4, .int v4_132), (5, .int v5_132), (6, .int v6_132)]) hG dX0_solve_132 7 rfl (by rfl) (by decide) rfl ?_
              refine ps_goto (tgt := 56) hG dX0_solve_135 (by decide) ?_
              cases h
              exact (ps_sub [1, 2, 3, 4, 5, 6, 7, 0] rfl (kc _ rfl))
            refine ps_if_eq (tgt := 115) hG dX0_solve_75 (by decide) (fun c75 => ?_) (fun c75 => ?_)
            · replace h := ps_ip c75 h
              refine ps_iload hG dX0_solve_115 5 rfl ?_
              refine ps_iconst (v := (-1)) hG dX0_solve_117 (by decide) ?_
              refine ps_icmp_ne (tgt := 128) hG dX0_solve_118 (by decide) (fun c118 => ?_) (fun c118 => ?_)
              · replace h := ps_in c118 h
                refine ps_iload hG dX0_solve_128 7 rfl ?_
                refine ps_istore (lv' := [(6, .int v7_56), (0, .ref (w.2.1 k0)), (1, .int p1), (2, .int v2_56), (3, .int v3_56), (4, .int v4_56), (5, .int v5_56), (7, .int v7_56)]) hG dX0_solve_130 (by decide) rfl ?_
                exact (ps_sub [1, 2, 3, 4, 5, 6, 0, 7] rfl (hJ132 v2_56 v3_56 v4_56 v5_56 v7_56 h))
              · replace h := ps_ip c118 h
                refine ps_iload hG dX0_solve_121 7 rfl ?_
                refine ps_istore (lv' := [(5, .int v7_56), (0, .ref (w.2.1 k0)), (1, .int p1), (2, .int v2_56), (3, .int v3_56), (4, .int v4_56), (6, .int v6_56), (7, .int v7_56)]) hG dX0_solve_123 (by decide) rfl ?_
                refine ps_goto (tgt := 132) hG dX0_solve_125 (by decide) ?_
                exact (ps_sub [1, 2, 3, 4, 5, 0, 6, 7] rfl (hJ132 v2_56 v3_56 v4_56 v7_56 v6_56 h))
            · replace h := ps_in c75 h
              refine ps_iload_n hG dX0_solve_78 rfl 2 rfl ?_
              refine ps_aload_n hG dX0_solve_79 rfl 0 rfl ?_
              refine ps_iload hG dX0_solve_80 7 rfl ?_
              obtain ⟨hb82, h⟩ := ps_ig h
              refine ps_iald hG hk0.1 hk0.2.1 hk0.2.2.1 hb82 dX0_solve_82 ?_
              refine ps_bipush (v := 8) hG dX0_solve_83 (by decide) ?_
              refine ps_iload hG dX0_solve_85 7 rfl ?_
              refine ps_imul hG dX0_solve_87 ?_
              refine ps_ishl hG dX0_solve_88 ?_
              refine ps_ior hG dX0_solve_89 ?_
              refine ps_istore_n (lv' := [(2, .int (v2_56 ||| ((S k0 v7_56.toNatClampNeg) <<< ((8 * v7_56) &&& 31)))), (0, .ref (w.2.1 k0)), (1, .int p1), (3, .int v3_56), (4, .int v4_56), (5, .int v5_56), (6, .int v6_56), (7, .int v7_56)]) hG dX0_solve_90 rfl (by decide) rfl ?_
              refine ps_iload_n hG dX0_solve_91 rfl 3 rfl ?_
              refine ps_aload_n hG dX0_solve_92 rfl 1 rfl ?_
              refine ps_iload hG dX0_solve_93 7 rfl ?_
              obtain ⟨hb95, h⟩ := ps_ig h
              refine ps_iald hG hk0.1 hk0.2.1 hk0.2.2.1 hb95 dX0_solve_95 ?_
              refine ps_ixor hG dX0_solve_96 ?_
              refine ps_istore_n (lv' := [(3, .int (v3_56 ^^^ (S k0 v7_56.toNatClampNeg))), (2, .int (v2_56 ||| ((S k0 v7_56.toNatClampNeg) <<< ((8 * v7_56) &&& 31)))), (0, .ref (w.2.1 k0)), (1, .int p1), (4, .int v4_56), (5, .int v5_56), (6, .int v6_56), (7, .int v7_56)]) hG dX0_solve_97 rfl (by decide) rfl ?_
              refine ps_iload hG dX0_solve_98 4 rfl ?_
              refine ps_iload hG dX0_solve_100 7 rfl ?_
              refine ps_aload_n hG dX0_solve_102 rfl 2 rfl ?_
              refine ps_iload hG dX0_solve_103 7 rfl ?_
              obtain ⟨hb105, h⟩ := ps_ig h
              refine ps_iald hG hk0.1 hk0.2.1 hk0.2.2.1 hb105 dX0_solve_105 ?_
              obtain ⟨r106, hr106, h⟩ := ps_bd h
              refine ps_callSI (As := [.int v7_56, .int (S k0 v7_56.toNatClampNeg)]) (rest := [.int v4_56]) (nA := 2) hG (c_X0_weighted _ hw hr106) gX0_solve_X0_weighted rfl (by decide +kernel) rfl ⟨Nat.le_of_ble_eq_true rfl, Nat.le_of_ble_eq_true rfl⟩ ⟨rfl, rfl⟩ ⟨Nat.le_of_ble_eq_true rfl, Nat.le_of_ble_eq_true rfl⟩ rfl (Nat.le_of_ble_eq_true rfl) dX0_solve_106 ?_
              refine ps_ixor hG dX0_solve_109 ?_
              refine ps_istore (lv' := [(4, .int (v4_56 ^^^ r106)), (3, .int (v3_56 ^^^ (S k0 v7_56.toNatClampNeg))), (2, .int (v2_56 ||| ((S k0 v7_56.toNatClampNeg) <<< ((8 * v7_56) &&& 31)))), (0, .ref (w.2.1 k0)), (1, .int p1), (5, .int v5_56), (6, .int v6_56), (7, .int v7_56)]) hG dX0_solve_110 (by decide) rfl ?_
              refine ps_goto (tgt := 132) hG dX0_solve_112 (by decide) ?_
              exact (ps_sub [3, 4, 2, 1, 0, 5, 6, 7] rfl (hJ132 (v2_56 ||| ((S k0 v7_56.toNatClampNeg) <<< ((8 * v7_56) &&& 31))) (v3_56 ^^^ (S k0 v7_56.toNatClampNeg)) (v4_56 ^^^ r106) v5_56 v6_56 h))
      · show ps_V G 8 0 0 w S 138 [(1, .int p1), (2, .int e2_56), (3, .int e3_56), (4, .int e4_56), (5, .int e5_56), (6, .int e6_56)] []
        refine ps_iload hG dX0_solve_138 4 rfl ?_
        refine ps_iconst (v := (-1)) hG dX0_solve_140 (by decide) ?_
        refine ps_icmp_ne (tgt := 146) hG dX0_solve_141 (by decide) (fun c141 => ?_) (fun c141 => ?_)
        · replace h := ps_in c141 h
          refine ps_iload hG dX0_solve_146 5 rfl ?_
          refine ps_iconst (v := (-1)) hG dX0_solve_148 (by decide) ?_
          refine ps_icmp_eq (tgt := 165) hG dX0_solve_149 (by decide) (fun c149 => ?_) (fun c149 => ?_)
          · replace h := ps_ip c149 h
            refine ps_iload_n hG dX0_solve_165 rfl 0 rfl ?_
            refine ps_iconst (v := 4) hG dX0_solve_166 (by decide) ?_
            obtain ⟨r167, hr167, h⟩ := ps_bd h
            refine ps_callSI (As := [.int p1, .int 4]) (rest := []) (nA := 2) hG (c_X0_isIn _ hw hr167) gX0_solve_X0_isIn rfl (by decide +kernel) rfl ⟨Nat.le_of_ble_eq_true rfl, Nat.le_of_ble_eq_true rfl⟩ ⟨rfl, rfl⟩ ⟨Nat.le_of_ble_eq_true rfl, Nat.le_of_ble_eq_true rfl⟩ rfl (Nat.le_of_ble_eq_true rfl) dX0_solve_167 ?_
            have hJ189 : ∀ (s0_189 : Int32), f_X0_solve_J189 e2_56 e5_56 s0_189 = some r → ps_V G 8 0 0 w S 189 [(2, .int e2_56), (5, .int e5_56)] [.int s0_189] := by
              intro s0_189 h
              unfold f_X0_solve_J189 at h
              refine ps_istore (lv' := [(7, .int s0_189), (2, .int e2_56), (5, .int e5_56)]) hG dX0_solve_189 (by decide) rfl ?_
              refine ps_iload_n hG dX0_solve_191 rfl 1 rfl ?_
              refine ps_iload hG dX0_solve_192 0 rfl ?_
              refine ps_bipush (v := 8) hG dX0_solve_194 (by decide) ?_
              refine ps_iload hG dX0_solve_196 2 rfl ?_
              refine ps_imul hG dX0_solve_198 ?_
              refine ps_ishl hG dX0_solve_199 ?_
              refine ps_ior hG dX0_solve_200 ?_
              cases h
              exact hret _ _ dX0_solve_201
            refine ps_if_eq (tgt := 177) hG dX0_solve_170 (by decide) (fun c170 => ?_) (fun c170 => ?_)
            · replace h := ps_ip c170 h
              refine ps_iload hG dX0_solve_177 3 rfl ?_
              refine ps_iconst (v := 1) hG dX0_solve_179 (by decide) ?_
              refine ps_iload hG dX0_solve_180 4 rfl ?_
              refine ps_ishl hG dX0_solve_182 ?_
              obtain ⟨r183, hr183, h⟩ := ps_bd h
              refine ps_callSI (As := [.int (1 <<< (e5_56 &&& 31))]) (rest := [.int e4_56]) (nA := 1) hG (c_X0_inverse _ hw hr183) gX0_solve_X0_inverse rfl (by decide +kernel) rfl ⟨Nat.le_of_ble_eq_true rfl, Nat.le_of_ble_eq_true rfl⟩ ⟨rfl, rfl⟩ ⟨Nat.le_of_ble_eq_true rfl, Nat.le_of_ble_eq_true rfl⟩ rfl (Nat.le_of_ble_eq_true rfl) dX0_solve_183 ?_
              obtain ⟨r186, hr186, h⟩ := ps_bd h
              refine ps_callSI (As := [.int e4_56, .int r183]) (rest := []) (nA := 2) hG (c_X0_times _ hw hr186) gX0_solve_X0_times rfl (by decide +kernel) rfl ⟨Nat.le_of_ble_eq_true rfl, Nat.le_of_ble_eq_true rfl⟩ ⟨rfl, rfl⟩ ⟨Nat.le_of_ble_eq_true rfl, Nat.le_of_ble_eq_true rfl⟩ rfl (Nat.le_of_ble_eq_true rfl) dX0_solve_186 ?_
              exact (ps_sub [1, 4] rfl (hJ189 r186 h))
            · replace h := ps_in c170 h
              refine ps_iload_n hG dX0_solve_173 rfl 2 rfl ?_
              refine ps_goto (tgt := 189) hG dX0_solve_174 (by decide) ?_
              exact (ps_sub [1, 4] rfl (hJ189 e3_56 h))
          · replace h := ps_in c149 h
            refine ps_iload_n hG dX0_solve_152 rfl 1 rfl ?_
            refine ps_iload hG dX0_solve_153 4 rfl ?_
            refine ps_iload hG dX0_solve_155 5 rfl ?_
            refine ps_iload_n hG dX0_solve_157 rfl 2 rfl ?_
            refine ps_iload hG dX0_solve_158 3 rfl ?_
            obtain ⟨r160, hr160, h⟩ := ps_bd h
            refine ps_callSI (As := [.int e5_56, .int e6_56, .int e3_56, .int e4_56]) (rest := [.int e2_56]) (nA := 4) hG (c_X0_solveTwo _ hw hr160) gX0_solve_X0_solveTwo rfl (by decide +kernel) rfl ⟨Nat.le_of_ble_eq_true rfl, Nat.le_of_ble_eq_true rfl⟩ ⟨rfl, rfl⟩ ⟨Nat.le_of_ble_eq_true rfl, Nat.le_of_ble_eq_true rfl⟩ rfl (Nat.le_of_ble_eq_true rfl) dX0_solve_160 ?_
            refine ps_ior hG dX0_solve_163 ?_
            cases h
            exact hret _ _ dX0_solve_164
        · replace h := ps_ip c141 h
          refine ps_iload_n hG dX0_solve_144 rfl 1 rfl ?_
          cases h
          exact hret _ _ dX0_solve_145
    refine ps_if_eq (tgt := 44) hG dX0_solve_29 (by decide) (fun c29 => ?_) (fun c29 => ?_)
    · replace h := ps_ip c29 h
      refine ps_iconst (v := 0) hG dX0_solve_44 (by decide) ?_
      exact (ps_sub [1, 2, 3, 0] rfl (hJ45 0 h))
    · replace h := ps_in c29 h
      refine ps_iconst (v := 5) hG dX0_solve_32 (by decide) ?_
      refine ps_aload_n hG dX0_solve_33 rfl 1 rfl ?_
      refine ps_alen (v := 6) hG hk0.1 hk0.2.1 hk0.2.2.1 (by decide) dX0_solve_34 ?_
      refine ps_icmp_ge (tgt := 44) hG dX0_solve_35 (by decide) (fun c35 => ?_) (fun c35 => ?_)
      · exact absurd c35 (by decide)
      · refine ps_aload_n hG dX0_solve_38 rfl 1 rfl ?_
        refine ps_iconst (v := 5) hG dX0_solve_39 (by decide) ?_
        refine ps_iald hG hk0.1 hk0.2.1 hk0.2.2.1 (by decide) dX0_solve_40 ?_
        refine ps_goto (tgt := 45) hG dX0_solve_41 (by decide) ?_
        exact (ps_sub [1, 2, 3, 0] rfl (hJ45 (S k0 (5 : Int32).toNatClampNeg) h))
  refine ps_if_eq (tgt := 22) hG dX0_solve_7 (by decide) (fun c7 => ?_) (fun c7 => ?_)
  · replace h := ps_ip c7 h
    refine ps_iconst (v := 0) hG dX0_solve_22 (by decide) ?_
    exact (ps_sub [1, 2, 0] rfl (hJ23 0 h))
  · replace h := ps_in c7 h
    refine ps_iconst (v := 4) hG dX0_solve_10 (by decide) ?_
    refine ps_aload_n hG dX0_solve_11 rfl 1 rfl ?_
    refine ps_alen (v := 6) hG hk0.1 hk0.2.1 hk0.2.2.1 (by decide) dX0_solve_12 ?_
    refine ps_icmp_ge (tgt := 22) hG dX0_solve_13 (by decide) (fun c13 => ?_) (fun c13 => ?_)
    · exact absurd c13 (by decide)
    · refine ps_aload_n hG dX0_solve_16 rfl 1 rfl ?_
      refine ps_iconst (v := 4) hG dX0_solve_17 (by decide) ?_
      refine ps_iald hG hk0.1 hk0.2.1 hk0.2.2.1 (by decide) dX0_solve_18 ?_
      refine ps_goto (tgt := 23) hG dX0_solve_19 (by decide) ?_
      exact (ps_sub [1, 2, 0] rfl (hJ23 (S k0 (4 : Int32).toNatClampNeg) h))
