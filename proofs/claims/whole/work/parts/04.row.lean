def f_X6_clear (S : ps_S) (k : Nat) : Option ps_S :=
  some (ps_up S k 2 0)
theorem inX6_clear_X6 : ∀ q ∈ wsX60, q ∈ wsX6_clear := fun _ h => List.mem_cons_of_mem _ (List.mem_append_right _ h)
theorem mX6_clear_18 : Cond.fieldLink RX6 18 (TX6 2).1 (TX6 2).2.1 (TX6 2).2.2.1 ∈ wsX6_clear := List.mem_of_getElem? (i := 1) rfl
set_option maxHeartbeats 4000000 in
set_option maxRecDepth 100000 in
theorem c_X6_clear (l : Launch) {w : ps_X} (hw : ps_ww w) {k : Nat} (hk : ps_isR k) {S S' : ps_S} (h : f_X6_clear S k = some S') : ps_MetV l yX6_clear wsX6_clear (ps_rm 0 0) w [.ref (w.2.1 k)] S S' := by
  refine ps_mkV (cc := cX6_clear) (maxL := 1) (own := RX6) (by decide +kernel) rfl rfl rfl (Nat.le_of_ble_eq_true rfl) rfl (fun G hl hG hret => ?_)
  unfold f_X6_clear at h
  refine ps_aload_n hG dX6_clear_0 rfl 0 rfl ?_
  refine ps_iconst (v := 0) hG dX6_clear_1 (by decide) ?_
  refine ps_put15_2 hG inX6_clear_X6 (ps_isR_0 hk).1 (ps_lt hw (ps_isR_0 hk).2.2.1) (ps_isR_0 hk).2.2.2 mX6_clear_18 dX6_clear_2 ?_
  cases h
  exact hret _ _ dX6_clear_5
def f_X6_add_L2 (S : ps_S) (k : Nat) (p2 : Int32) (v3_2 : Int32) : Option ((Int32) ⊕ (Int32)) :=
  (if (S k 2) ≤ v3_2 then
        some (.inr v3_2)
      else
        (if 16 ≤ v3_2 then
          some (.inr v3_2)
        else
          (if ps_ib v3_2 16 = true then
          (if p2 ≤ (S (k + 2) v3_2.toNatClampNeg) then
            some (.inr v3_2)
          else
            some (.inl (v3_2 + 1))) else none)))
def f_X6_add_L84 (k : Nat) (e3_2 : Int32) (T84 : ps_S) (v5_84 : Int32) : Option ((ps_S × Int32) ⊕ (ps_S)) :=
  (if v5_84 ≤ e3_2 then
              some (.inr T84)
            else
              (if ps_ib (v5_84 - 1) 16 = true then
              (if ps_ib v5_84 16 = true then
              (if ps_ib (v5_84 - 1) 16 = true then
              (if ps_ib v5_84 16 = true then
              some (.inl (ps_up (ps_up T84 (k + 1) v5_84.toNatClampNeg (T84 (k + 1) (v5_84 - 1).toNatClampNeg)) (k + 2) v5_84.toNatClampNeg ((ps_up T84 (k + 1) v5_84.toNatClampNeg (T84 (k + 1) (v5_84 - 1).toNatClampNeg)) (k + 2) (v5_84 - 1).toNatClampNeg), v5_84 + (-1))) else none) else none) else none) else none))
def f_X6_add_J61 (S : ps_S) (k : Nat) (p1 : Int32) (p2 : Int32) (e3_2 : Int32) (s0_61 : Int32) : Option ps_S :=
  (if s0_61 = 0 then
      (if (S k 2) < 16 then
        ((ps_it (fun (a : ps_S × Int32) => f_X6_add_L84 k e3_2 a.1 a.2) ps_fu (S, S k 2)).bind (fun S84 => (if ps_ib e3_2 16 = true then
        (if ps_ib e3_2 16 = true then
        some (ps_up (ps_up (ps_up S84 (k + 1) e3_2.toNatClampNeg p1) (k + 2) e3_2.toNatClampNeg p2) k 2 (((ps_up (ps_up S84 (k + 1) e3_2.toNatClampNeg p1) (k + 2) e3_2.toNatClampNeg p2) k 2) + 1)) else none) else none)))
      else
        some S)
    else
      some S)
def f_X6_add (S : ps_S) (k : Nat) (p1 : Int32) (p2 : Int32) : Option ps_S :=
  ((ps_it (fun (a : Int32) => f_X6_add_L2 S k p2 a) ps_fu 0).bind (fun e3_2 => (if (S k 2) ≤ e3_2 then
    f_X6_add_J61 S k p1 p2 e3_2 0
  else
    (if 16 ≤ e3_2 then
      f_X6_add_J61 S k p1 p2 e3_2 0
    else
      (if ps_ib e3_2 16 = true then
      (if (S (k + 2) e3_2.toNatClampNeg) = p2 then
        f_X6_add_J61 S k p1 p2 e3_2 1
      else
        f_X6_add_J61 S k p1 p2 e3_2 0) else none)))))
theorem inX6_add_X6 : ∀ q ∈ wsX60, q ∈ wsX6_add := fun _ h => List.mem_cons_of_mem _ (List.mem_append_right _ h)
theorem mX6_add_15 : Cond.fieldLink RX6 15 (TX6 1).1 (TX6 1).2.1 (TX6 1).2.2.1 ∈ wsX6_add := List.mem_of_getElem? (i := 2) rfl
theorem mX6_add_18 : Cond.fieldLink RX6 18 (TX6 2).1 (TX6 2).2.1 (TX6 2).2.2.1 ∈ wsX6_add := List.mem_of_getElem? (i := 1) rfl
theorem mX6_add_9 : Cond.fieldLink RX6 9 (TX6 0).1 (TX6 0).2.1 (TX6 0).2.2.1 ∈ wsX6_add := List.mem_of_getElem? (i := 3) rfl
set_option maxHeartbeats 4000000 in
set_option maxRecDepth 100000 in
theorem c_X6_add (l : Launch) {w : ps_X} (hw : ps_ww w) {k : Nat} (hk : ps_isR k) {S S' : ps_S} {p1 p2 : Int32} (h : f_X6_add S k p1 p2 = some S') : ps_MetV l yX6_add wsX6_add (ps_rm 0 0) w [.ref (w.2.1 k), .int p1, .int p2] S S' := by
  refine ps_mkV (cc := cX6_add) (maxL := 6) (own := RX6) (by decide +kernel) rfl rfl rfl (Nat.le_of_ble_eq_true rfl) rfl (fun G hl hG hret => ?_)
  unfold f_X6_add at h
  refine ps_iconst (v := 0) hG dX6_add_0 (by decide) ?_
  refine ps_istore_n (lv' := [(3, .int 0), (0, .ref (w.2.1 k)), (1, .int p1), (2, .int p2)]) hG dX6_add_1 rfl (by decide) rfl ?_
  obtain ⟨e3_2, hq2, h⟩ := ps_bd h
  refine (ps_sub [1, 2, 3, 0] rfl (ps_itV (fun (a : Int32) => ps_V G 6 0 0 w S 2 [(0, .ref (w.2.1 k)), (1, .int p1), (2, .int p2), (3, .int a)] []) (fun (b : Int32) => ps_V G 6 0 0 w S 32 [(0, .ref (w.2.1 k)), (1, .int p1), (2, .int p2), (3, .int b)] []) ?_ _ _ _ hq2 ?_))
  · intro a r9 h kc ke
    obtain ⟨v3_2, hx9⟩ : ∃ x, x = a := ⟨_, rfl⟩
    subst hx9
    replace h : f_X6_add_L2 S k p2 v3_2 = some r9 := h
    show ps_V G 6 0 0 w S 2 [(0, .ref (w.2.1 k)), (1, .int p1), (2, .int p2), (3, .int v3_2)] []
    unfold f_X6_add_L2 at h
    refine ps_iload_n hG dX6_add_2 rfl 3 rfl ?_
    refine ps_aload_n hG dX6_add_3 rfl 0 rfl ?_
    refine ps_get15_2 hG inX6_add_X6 (ps_isR_0 hk).1 (ps_lt hw (ps_isR_0 hk).2.2.1) mX6_add_18 dX6_add_4 ?_
    refine ps_icmp_ge (tgt := 32) hG dX6_add_7 (by decide) (fun c7 => ?_) (fun c7 => ?_)
    · replace h := ps_ip c7 h
      cases h
      exact (ps_sub [0, 1, 2, 3] rfl (ke _ rfl))
    · replace h := ps_in c7 h
      refine ps_iload_n hG dX6_add_10 rfl 3 rfl ?_
      refine ps_bipush (v := 16) hG dX6_add_11 (by decide) ?_
      refine ps_icmp_ge (tgt := 32) hG dX6_add_13 (by decide) (fun c13 => ?_) (fun c13 => ?_)
      · replace h := ps_ip c13 h
        cases h
        exact (ps_sub [0, 1, 2, 3] rfl (ke _ rfl))
      · replace h := ps_in c13 h
        refine ps_aload_n hG dX6_add_16 rfl 0 rfl ?_
        refine ps_get15_1 hG hw inX6_add_X6 (ps_isR_0 hk).1 (ps_lt hw (ps_isR_0 hk).2.2.1) mX6_add_15 dX6_add_17 ?_
        refine ps_iload_n hG dX6_add_20 rfl 3 rfl ?_
        obtain ⟨hb21, h⟩ := ps_ig h
        refine ps_iald hG (ps_isR_2 hk).1 (ps_isR_2 hk).2.1 (ps_lt hw (ps_isR_2 hk).2.2.1) hb21 dX6_add_21 ?_
        refine ps_iload_n hG dX6_add_22 rfl 2 rfl ?_
        refine ps_icmp_ge (tgt := 32) hG dX6_add_23 (by decide) (fun c23 => ?_) (fun c23 => ?_)
        · replace h := ps_ip c23 h
          cases h
          exact (ps_sub [0, 1, 2, 3] rfl (ke _ rfl))
        · replace h := ps_in c23 h
          refine ps_iinc (lv' := [(3, .int (v3_2 + 1)), (0, .ref (w.2.1 k)), (1, .int p1), (2, .int p2)]) hG dX6_add_26 3 rfl (by rfl) (by decide) rfl ?_
          refine ps_goto (tgt := 2) hG dX6_add_29 (by decide) ?_
          cases h
          exact (ps_sub [1, 2, 3, 0] rfl (kc _ rfl))
  · show ps_V G 6 0 0 w S 32 [(0, .ref (w.2.1 k)), (1, .int p1), (2, .int p2), (3, .int e3_2)] []
    refine ps_iload_n hG dX6_add_32 rfl 3 rfl ?_
    refine ps_aload_n hG dX6_add_33 rfl 0 rfl ?_
    refine ps_get15_2 hG inX6_add_X6 (ps_isR_0 hk).1 (ps_lt hw (ps_isR_0 hk).2.2.1) mX6_add_18 dX6_add_34 ?_
    have hJ61 : ∀ (s0_61 : Int32), f_X6_add_J61 S k p1 p2 e3_2 s0_61 = some S' → ps_V G 6 0 0 w S 61 [(0, .ref (w.2.1 k)), (1, .int p1), (2, .int p2), (3, .int e3_2)] [.int s0_61] := by
      intro s0_61 h
      unfold f_X6_add_J61 at h
      refine ps_istore (lv' := [(4, .int s0_61), (0, .ref (w.2.1 k)), (1, .int p1), (2, .int p2), (3, .int e3_2)]) hG dX6_add_61 (by decide) rfl ?_
      refine ps_iload hG dX6_add_63 0 rfl ?_
      refine ps_if_ne (tgt := 77) hG dX6_add_65 (by decide) (fun c65 => ?_) (fun c65 => ?_)
      · replace h := ps_in c65 h
        cases h
        exact hret _ _ dX6_add_77
      · replace h := ps_ip c65 h
        refine ps_aload_n hG dX6_add_68 rfl 1 rfl ?_
        refine ps_get15_2 hG inX6_add_X6 (ps_isR_0 hk).1 (ps_lt hw (ps_isR_0 hk).2.2.1) mX6_add_18 dX6_add_69 ?_
        refine ps_bipush (v := 16) hG dX6_add_72 (by decide) ?_
        refine ps_icmp_lt (tgt := 78) hG dX6_add_74 (by decide) (fun c74 => ?_) (fun c74 => ?_)
        · replace h := ps_ip c74 h
          refine ps_aload_n hG dX6_add_78 rfl 1 rfl ?_
          refine ps_get15_2 hG inX6_add_X6 (ps_isR_0 hk).1 (ps_lt hw (ps_isR_0 hk).2.2.1) mX6_add_18 dX6_add_79 ?_
          refine ps_istore (lv' := [(5, .int (S k 2)), (4, .int s0_61), (0, .ref (w.2.1 k)), (1, .int p1), (2, .int p2), (3, .int e3_2)]) hG dX6_add_82 (by decide) rfl ?_
          obtain ⟨S84, hq84, h⟩ := ps_bd h
          refine (ps_sub [2, 3, 4, 5, 0] rfl (ps_itV (fun (a : ps_S × Int32) => ps_V G 6 0 0 w a.1 84 [(0, .ref (w.2.1 k)), (1, .int p1), (2, .int p2), (3, .int e3_2), (5, .int a.2)] []) (fun (b : ps_S) => ps_V G 6 0 0 w b 128 [(0, .ref (w.2.1 k)), (1, .int p1), (2, .int p2), (3, .int e3_2)] []) ?_ _ _ _ hq84 ?_))
          · intro a r9 h kc ke
            obtain ⟨T84, v5_84⟩ := a
            replace h : f_X6_add_L84 k e3_2 T84 v5_84 = some r9 := h
            show ps_V G 6 0 0 w T84 84 [(0, .ref (w.2.1 k)), (1, .int p1), (2, .int p2), (3, .int e3_2), (5, .int v5_84)] []
            unfold f_X6_add_L84 at h
            refine ps_iload hG dX6_add_84 4 rfl ?_
            refine ps_iload_n hG dX6_add_86 rfl 3 rfl ?_
            refine ps_icmp_le (tgt := 128) hG dX6_add_87 (by decide) (fun c87 => ?_) (fun c87 => ?_)
            · replace h := ps_ip c87 h
              cases h
              exact (ps_sub [0, 1, 2, 3] rfl (ke _ rfl))
            · replace h := ps_in c87 h
              refine ps_aload_n hG dX6_add_90 rfl 0 rfl ?_
              refine ps_get15_0 hG hw inX6_add_X6 (ps_isR_0 hk).1 (ps_lt hw (ps_isR_0 hk).2.2.1) mX6_add_9 dX6_add_91 ?_
              refine ps_iload hG dX6_add_94 4 rfl ?_
              refine ps_aload_n hG dX6_add_96 rfl 0 rfl ?_
              refine ps_get15_0 hG hw inX6_add_X6 (ps_isR_0 hk).1 (ps_lt hw (ps_isR_0 hk).2.2.1) mX6_add_9 dX6_add_97 ?_
              refine ps_iload hG dX6_add_100 4 rfl ?_
              refine ps_iconst (v := 1) hG dX6_add_102 (by decide) ?_
              refine ps_isub hG dX6_add_103 ?_
              obtain ⟨hb104, h⟩ := ps_ig h
              refine ps_iald hG (ps_isR_1 hk).1 (ps_isR_1 hk).2.1 (ps_lt hw (ps_isR_1 hk).2.2.1) hb104 dX6_add_104 ?_
              obtain ⟨hb105, h⟩ := ps_ig h
              refine ps_iast hG (ps_isR_1 hk).1 (ps_isR_1 hk).2.1 (ps_lt hw (ps_isR_1 hk).2.2.1) hb105 dX6_add_105 ?_
              refine ps_aload_n hG dX6_add_106 rfl 0 rfl ?_
              refine ps_get15_1 hG hw inX6_add_X6 (ps_isR_0 hk).1 (ps_lt hw (ps_isR_0 hk).2.2.1) mX6_add_15 dX6_add_107 ?_
              refine ps_iload hG dX6_add_110 4 rfl ?_
              refine ps_aload_n hG dX6_add_112 rfl 0 rfl ?_
              refine ps_get15_1 hG hw inX6_add_X6 (ps_isR_0 hk).1 (ps_lt hw (ps_isR_0 hk).2.2.1) mX6_add_15 dX6_add_113 ?_
              refine ps_iload hG dX6_add_116 4 rfl ?_
              refine ps_iconst (v := 1) hG dX6_add_118 (by decide) ?_
              refine ps_isub hG dX6_add_119 ?_
              obtain ⟨hb120, h⟩ := ps_ig h
              refine ps_iald hG (ps_isR_2 hk).1 (ps_isR_2 hk).2.1 (ps_lt hw (ps_isR_2 hk).2.2.1) hb120 dX6_add_120 ?_
              obtain ⟨hb121, h⟩ := ps_ig h
              refine ps_iast hG (ps_isR_2 hk).1 (ps_isR_2 hk).2.1 (ps_lt hw (ps_isR_2 hk).2.2.1) hb121 dX6_add_121 ?_
              refine ps_iinc (lv' := [(5, .int (v5_84 + (-1))), (0, .ref (w.2.1 k)), (1, .int p1), (2, .int p2), (3, .int e3_2)]) hG dX6_add_122 4 rfl (by rfl) (by decide) rfl ?_
              refine ps_goto (tgt := 84) hG dX6_add_125 (by decide) ?_
              cases h
              exact (ps_sub [1, 2, 3, 4, 0] rfl (kc _ rfl))
          · show ps_V G 6 0 0 w S84 128 [(0, .ref (w.2.1 k)), (1, .int p1), (2, .int p2), (3, .int e3_2)] []
            refine ps_aload_n hG dX6_add_128 rfl 0 rfl ?_
            refine ps_get15_0 hG hw inX6_add_X6 (ps_isR_0 hk).1 (ps_lt hw (ps_isR_0 hk).2.2.1) mX6_add_9 dX6_add_129 ?_
            refine ps_iload_n hG dX6_add_132 rfl 3 rfl ?_
            refine ps_iload_n hG dX6_add_133 rfl 1 rfl ?_
            obtain ⟨hb134, h⟩ := ps_ig h
            refine ps_iast hG (ps_isR_1 hk).1 (ps_isR_1 hk).2.1 (ps_lt hw (ps_isR_1 hk).2.2.1) hb134 dX6_add_134 ?_
            refine ps_aload_n hG dX6_add_135 rfl 0 rfl ?_
            refine ps_get15_1 hG hw inX6_add_X6 (ps_isR_0 hk).1 (ps_lt hw (ps_isR_0 hk).2.2.1) mX6_add_15 dX6_add_136 ?_
            refine ps_iload_n hG dX6_add_139 rfl 3 rfl ?_
            refine ps_iload_n hG dX6_add_140 rfl 2 rfl ?_
            obtain ⟨hb141, h⟩ := ps_ig h
            refine ps_iast hG (ps_isR_2 hk).1 (ps_isR_2 hk).2.1 (ps_lt hw (ps_isR_2 hk).2.2.1) hb141 dX6_add_141 ?_
            refine ps_aload_n hG dX6_add_142 rfl 0 rfl ?_
            refine ps_dup hG dX6_add_143 rfl ?_
            refine ps_get15_2 hG inX6_add_X6 (ps_isR_0 hk).1 (ps_lt hw (ps_isR_0 hk).2.2.1) mX6_add_18 dX6_add_144 ?_
            refine ps_iconst (v := 1) hG dX6_add_147 (by decide) ?_
            refine ps_iadd hG dX6_add_148 ?_
            refine ps_put15_2 hG inX6_add_X6 (ps_isR_0 hk).1 (ps_lt hw (ps_isR_0 hk).2.2.1) (ps_isR_0 hk).2.2.2 mX6_add_18 dX6_add_149 ?_
            cases h
            exact hret _ _ dX6_add_152
        · replace h := ps_in c74 h
          cases h
          exact hret _ _ dX6_add_77
    refine ps_icmp_ge (tgt := 60) hG dX6_add_37 (by decide) (fun c37 => ?_) (fun c37 => ?_)
    · replace h := ps_ip c37 h
      refine ps_iconst (v := 0) hG dX6_add_60 (by decide) ?_
      exact (ps_sub [0, 1, 2, 3] rfl (hJ61 0 h))
    · replace h := ps_in c37 h
      refine ps_iload_n hG dX6_add_40 rfl 3 rfl ?_
      refine ps_bipush (v := 16) hG dX6_add_41 (by decide) ?_
      refine ps_icmp_ge (tgt := 60) hG dX6_add_43 (by decide) (fun c43 => ?_) (fun c43 => ?_)
      · replace h := ps_ip c43 h
        refine ps_iconst (v := 0) hG dX6_add_60 (by decide) ?_
        exact (ps_sub [0, 1, 2, 3] rfl (hJ61 0 h))
      · replace h := ps_in c43 h
        refine ps_aload_n hG dX6_add_46 rfl 0 rfl ?_
        refine ps_get15_1 hG hw inX6_add_X6 (ps_isR_0 hk).1 (ps_lt hw (ps_isR_0 hk).2.2.1) mX6_add_15 dX6_add_47 ?_
        refine ps_iload_n hG dX6_add_50 rfl 3 rfl ?_
        obtain ⟨hb51, h⟩ := ps_ig h
        refine ps_iald hG (ps_isR_2 hk).1 (ps_isR_2 hk).2.1 (ps_lt hw (ps_isR_2 hk).2.2.1) hb51 dX6_add_51 ?_
        refine ps_iload_n hG dX6_add_52 rfl 2 rfl ?_
        refine ps_icmp_ne (tgt := 60) hG dX6_add_53 (by decide) (fun c53 => ?_) (fun c53 => ?_)
        · replace h := ps_in c53 h
          refine ps_iconst (v := 0) hG dX6_add_60 (by decide) ?_
          exact (ps_sub [0, 1, 2, 3] rfl (hJ61 0 h))
        · replace h := ps_ip c53 h
          refine ps_iconst (v := 1) hG dX6_add_56 (by decide) ?_
          refine ps_goto (tgt := 61) hG dX6_add_57 (by decide) ?_
          exact (ps_sub [0, 1, 2, 3] rfl (hJ61 1 h))
def f_X6_at (S : ps_S) (k : Nat) (p1 : Int32) : Option Int32 :=
  (if p1 < 0 then
    some (-1)
  else
    (if (S k 2) ≤ p1 then
      some (-1)
    else
      (if 16 ≤ p1 then
        some (-1)
      else
        (if ps_ib p1 16 = true then
        some (S (k + 1) p1.toNatClampNeg) else none))))
theorem inX6_at_X6 : ∀ q ∈ wsX60, q ∈ wsX6_at := fun _ h => List.mem_cons_of_mem _ (List.mem_append_right _ h)
theorem mX6_at_18 : Cond.fieldLink RX6 18 (TX6 2).1 (TX6 2).2.1 (TX6 2).2.2.1 ∈ wsX6_at := List.mem_of_getElem? (i := 1) rfl
theorem mX6_at_9 : Cond.fieldLink RX6 9 (TX6 0).1 (TX6 0).2.1 (TX6 0).2.2.1 ∈ wsX6_at := List.mem_of_getElem? (i := 2) rfl
set_option maxHeartbeats 4000000 in
set_option maxRecDepth 100000 in
theorem c_X6_at (l : Launch) {w : ps_X} (hw : ps_ww w) {k : Nat} (hk : ps_isR k) {S : ps_S} {p1 : Int32} {r : Int32} (h : f_X6_at S k p1 = some r) : ps_MetI l yX6_at wsX6_at (ps_rm 0 0) w [.ref (w.2.1 k), .int p1] S S r := by
  refine ps_mkI (cc := cX6_at) (maxL := 2) (own := RX6) (by decide +kernel) rfl (Or.inl rfl) rfl (Nat.le_of_ble_eq_true rfl) rfl (fun G hl hG hret => ?_)
  unfold f_X6_at at h
  refine ps_iload_n hG dX6_at_0 rfl 1 rfl ?_
  refine ps_if_lt (tgt := 27) hG dX6_at_1 (by decide) (fun c1 => ?_) (fun c1 => ?_)
  · replace h := ps_ip c1 h
    refine ps_iconst (v := (-1)) hG dX6_at_27 (by decide) ?_
    cases h
    exact hret _ _ dX6_at_28
  · replace h := ps_in c1 h
    refine ps_iload_n hG dX6_at_4 rfl 1 rfl ?_
    refine ps_aload_n hG dX6_at_5 rfl 0 rfl ?_
    refine ps_get15_2 hG inX6_at_X6 (ps_isR_0 hk).1 (ps_lt hw (ps_isR_0 hk).2.2.1) mX6_at_18 dX6_at_6 ?_
    refine ps_icmp_ge (tgt := 27) hG dX6_at_9 (by decide) (fun c9 => ?_) (fun c9 => ?_)
    · replace h := ps_ip c9 h
      refine ps_iconst (v := (-1)) hG dX6_at_27 (by decide) ?_
      cases h
      exact hret _ _ dX6_at_28
    · replace h := ps_in c9 h
      refine ps_iload_n hG dX6_at_12 rfl 1 rfl ?_
      refine ps_bipush (v := 16) hG dX6_at_13 (by decide) ?_
      refine ps_icmp_ge (tgt := 27) hG dX6_at_15 (by decide) (fun c15 => ?_) (fun c15 => ?_)
      · replace h := ps_ip c15 h
        refine ps_iconst (v := (-1)) hG dX6_at_27 (by decide) ?_
        cases h
        exact hret _ _ dX6_at_28
      · replace h := ps_in c15 h
        refine ps_aload_n hG dX6_at_18 rfl 0 rfl ?_
        refine ps_get15_0 hG hw inX6_at_X6 (ps_isR_0 hk).1 (ps_lt hw (ps_isR_0 hk).2.2.1) mX6_at_9 dX6_at_19 ?_
        refine ps_iload_n hG dX6_at_22 rfl 1 rfl ?_
        obtain ⟨hb23, h⟩ := ps_ig h
        refine ps_iald hG (ps_isR_1 hk).1 (ps_isR_1 hk).2.1 (ps_lt hw (ps_isR_1 hk).2.2.1) hb23 dX6_at_23 ?_
        refine ps_goto (tgt := 28) hG dX6_at_24 (by decide) ?_
        cases h
        exact hret _ _ dX6_at_28
def f_X6_digits_L4 (S : ps_S) (k : Nat) (v1_4 : Int32) (v2_4 : Int32) : Option ((Int32 × Int32) ⊕ (Int32)) :=
  (if v2_4 < 0 then
        some (.inr v1_4)
      else
        ((f_X6_at S k v2_4).bind fun r14 =>
        some (.inl (((v1_4 * 32) + r14) + 1, v2_4 + (-1)))))
def f_X6_digits (S : ps_S) (k : Nat) : Option Int32 :=
  ((ps_it (fun (a : Int32 × Int32) => f_X6_digits_L4 S k a.1 a.2) ps_fu (0, 2)).bind (fun e1_4 => some e1_4))
set_option maxHeartbeats 4000000 in
set_option maxRecDepth 100000 in
theorem c_X6_digits (l : Launch) {w : ps_X} (hw : ps_ww w) {k : Nat} (hk : ps_isR k) {S : ps_S} {r : Int32} (h : f_X6_digits S k = some r) : ps_MetI l yX6_digits wsX6_digits (ps_rm 1 21) w [.ref (w.2.1 k)] S S r := by
  refine ps_mkI (cc := cX6_digits) (maxL := 3) (own := RX6) (by decide +kernel) rfl (Or.inl rfl) rfl (Nat.le_of_ble_eq_true rfl) rfl (fun G hl hG hret => ?_)
  unfold f_X6_digits at h
  refine ps_iconst (v := 0) hG dX6_digits_0 (by decide) ?_
  refine ps_istore_n (lv' := [(1, .int 0), (0, .ref (w.2.1 k))]) hG dX6_digits_1 rfl (by decide) rfl ?_
  refine ps_iconst (v := 2) hG dX6_digits_2 (by decide) ?_
  refine ps_istore_n (lv' := [(2, .int 2), (1, .int 0), (0, .ref (w.2.1 k))]) hG dX6_digits_3 rfl (by decide) rfl ?_
  obtain ⟨e1_4, hq4, h⟩ := ps_bd h
  refine (ps_sub [2, 1, 0] rfl (ps_itV (fun (a : Int32 × Int32) => ps_V G 3 0 0 w S 4 [(0, .ref (w.2.1 k)), (1, .int a.1), (2, .int a.2)] []) (fun (b : Int32) => ps_V G 3 0 0 w S 27 [(1, .int b)] []) ?_ _ _ _ hq4 ?_))
  · intro a r9 h kc ke
    obtain ⟨v1_4, v2_4⟩ := a
    replace h : f_X6_digits_L4 S k v1_4 v2_4 = some r9 := h
    show ps_V G 3 0 0 w S 4 [(0, .ref (w.2.1 k)), (1, .int v1_4), (2, .int v2_4)] []
    unfold f_X6_digits_L4 at h
    refine ps_iload_n hG dX6_digits_4 rfl 2 rfl ?_
    refine ps_if_lt (tgt := 27) hG dX6_digits_5 (by decide) (fun c5 => ?_) (fun c5 => ?_)
    · replace h := ps_ip c5 h
      cases h
      exact (ps_sub [1] rfl (ke _ rfl))
    · replace h := ps_in c5 h
      refine ps_iload_n hG dX6_digits_8 rfl 1 rfl ?_
      refine ps_bipush (v := 32) hG dX6_digits_9 (by decide) ?_
      refine ps_imul hG dX6_digits_11 ?_
      refine ps_aload_n hG dX6_digits_12 rfl 0 rfl ?_
      refine ps_iload_n hG dX6_digits_13 rfl 2 rfl ?_
      obtain ⟨r14, hr14, h⟩ := ps_bd h
      refine ps_callVI (As := [.int v2_4]) (rest := [.int (v1_4 * 32)]) (nA := 1) hG (c_X6_at _ hw hk hr14) gX6_digits_X6_at rfl (by decide +kernel) rfl ⟨Nat.le_of_ble_eq_true rfl, Nat.le_of_ble_eq_true rfl⟩ ⟨rfl, rfl⟩ ⟨Nat.le_of_ble_eq_true rfl, Nat.le_of_ble_eq_true rfl⟩ (ps_lt hw (ps_isR_0 hk).2.2.1) (ps_cel_15 (ps_isR_0 hk).1 _) rfl rfl (Nat.le_of_ble_eq_true rfl) dX6_digits_14 ?_
      refine ps_iadd hG dX6_digits_17 ?_
      refine ps_iconst (v := 1) hG dX6_digits_18 (by decide) ?_
      refine ps_iadd hG dX6_digits_19 ?_
      refine ps_istore_n (lv' := [(1, .int (((v1_4 * 32) + r14) + 1)), (0, .ref (w.2.1 k)), (2, .int v2_4)]) hG dX6_digits_20 rfl (by decide) rfl ?_
      refine ps_iinc (lv' := [(2, .int (v2_4 + (-1))), (1, .int (((v1_4 * 32) + r14) + 1)), (0, .ref (w.2.1 k))]) hG dX6_digits_21 2 rfl (by rfl) (by decide) rfl ?_
      refine ps_goto (tgt := 4) hG dX6_digits_24 (by decide) ?_
      cases h
      exact (ps_sub [2, 1, 0] rfl (kc _ rfl))
  · show ps_V G 3 0 0 w S 27 [(1, .int e1_4)] []
    refine ps_iload_n hG dX6_digits_27 rfl 0 rfl ?_
    cases h
    exact hret _ _ dX6_digits_28
