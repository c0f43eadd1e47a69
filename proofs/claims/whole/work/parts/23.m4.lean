def f_X11_tell_J221 (v9_151 : Int32) (T221 : ps_S) (v8_221 : Int32) : Option ((ps_S × Int32 × Int32) ⊕ (ps_S × Int32)) :=
  some (.inl (T221, v8_221, v9_151 + 1))
def f_X11_tell_L151 (p2 : Int32) (p3 : Int32) (p4 : Int32) (T151 : ps_S) (v8_151 : Int32) (v9_151 : Int32) : Option ((ps_S × Int32 × Int32) ⊕ (ps_S × Int32)) :=
  (if (T151 80 13) ≤ v9_151 then
                some (.inr (T151, v8_151))
              else
                (if ps_ib v9_151 3 = true then
                (if ps_ib v9_151 3 = true then
                (if ps_ib (T151 90 v9_151.toNatClampNeg) 16 = true then
                (if (T151 82 (T151 90 v9_151.toNatClampNeg).toNatClampNeg) = 0 then
                  (if ps_ib ((256 * (T151 90 v9_151.toNatClampNeg)) + p2) 4096 = true then
                  (if p3 ≤ (T151 98 ((256 * (T151 90 v9_151.toNatClampNeg)) + p2).toNatClampNeg) then
                    f_X11_tell_J221 v9_151 T151 v8_151
                  else
                    (if ps_ib ((256 * (T151 90 v9_151.toNatClampNeg)) + p2) 4096 = true then
                    (if ps_ib ((256 * (T151 90 v9_151.toNatClampNeg)) + p2) 4096 = true then
                    f_X11_tell_J221 v9_151 (ps_up (ps_up T151 98 ((256 * (T151 90 v9_151.toNatClampNeg)) + p2).toNatClampNeg p3) 99 ((256 * (T151 90 v9_151.toNatClampNeg)) + p2).toNatClampNeg p4) (v8_151 + 1) else none) else none)) else none)
                else
                  f_X11_tell_J221 v9_151 T151 v8_151) else none) else none) else none))
def f_X11_tell_J123 (S : ps_S) (p1 : Int32) (p2 : Int32) (p3 : Int32) (p4 : Int32) (s1_123 : Int32) : Option (Int32 × ps_S) :=
  (ps_b2 (f_X11_holds S s1_123) fun r123 S123 =>
        (if r123 = 0 then
          some (0, S123)
        else
          (if ps_ib p2 256 = true then
          ((f_X11_looksUp (ps_up S123 97 p2.toNatClampNeg p1) p1 p2 2).bind fun S142 =>
          (ps_b2 (ps_it (fun (a : ps_S × Int32 × Int32) => f_X11_tell_L151 p2 p3 p4 a.1 a.2.1 a.2.2) ps_fu (S142, 0, 0)) (fun S151 e8_151 => some (e8_151, S151)))) else none)))
def f_X11_tell_J92 (S : ps_S) (p1 : Int32) (p2 : Int32) (p3 : Int32) (p4 : Int32) (r2 : Int32) (s0_46 : Int32) (s0_92 : Int32) : Option (Int32 × ps_S) :=
  (if r2 = 0 then
        f_X11_tell_J123 S p1 p2 p3 p4 1
      else
        (if s0_46 = 0 then
          f_X11_tell_J123 S p1 p2 p3 p4 2
        else
          (if s0_92 = 0 then
            f_X11_tell_J123 S p1 p2 p3 p4 3
          else
            f_X11_tell_J123 S p1 p2 p3 p4 0)))
def f_X11_tell_J46 (S : ps_S) (p1 : Int32) (p2 : Int32) (p3 : Int32) (p4 : Int32) (r2 : Int32) (s0_46 : Int32) : Option (Int32 × ps_S) :=
  (if r2 = 0 then
      f_X11_tell_J92 S p1 p2 p3 p4 r2 s0_46 0
    else
      (if s0_46 = 0 then
        f_X11_tell_J92 S p1 p2 p3 p4 r2 s0_46 0
      else
        (if ps_ib p1 16 = true then
        (if (S 83 p1.toNatClampNeg) = 0 then
          f_X11_tell_J92 S p1 p2 p3 p4 r2 s0_46 0
        else
          (if ps_ib p2 256 = true then
          (if (S 97 p2.toNatClampNeg) = (-1) then
            f_X11_tell_J92 S p1 p2 p3 p4 r2 s0_46 1
          else
            (if ps_ib p2 256 = true then
            (if (S 97 p2.toNatClampNeg) = p1 then
              f_X11_tell_J92 S p1 p2 p3 p4 r2 s0_46 1
            else
              f_X11_tell_J92 S p1 p2 p3 p4 r2 s0_46 0) else none)) else none)) else none)))
def f_X11_tell (S : ps_S) (p1 : Int32) (p2 : Int32) (p3 : Int32) (p4 : Int32) : Option (Int32 × ps_S) :=
  ((f_X11_isPeer S p1).bind fun r2 =>
  ((f_X11_isIn p2 0 255).bind fun r12 =>
  (if r12 = 0 then
    f_X11_tell_J46 S p1 p2 p3 p4 r2 0
  else
    ((f_X11_isIn p3 0 999).bind fun r23 =>
    (if r23 = 0 then
      f_X11_tell_J46 S p1 p2 p3 p4 r2 0
    else
      ((f_X11_isIn p4 0 999).bind fun r35 =>
      (if r35 = 0 then
        f_X11_tell_J46 S p1 p2 p3 p4 r2 0
      else
        f_X11_tell_J46 S p1 p2 p3 p4 r2 1)))))))
theorem inX11_tell_X11 : ∀ q ∈ wsX110, q ∈ wsX11_tell := fun _ h => List.mem_cons_of_mem _ (List.mem_append_right _ h)
theorem mX11_tell_114 : Cond.fieldLink RX11 114 (TX11 13).1 (TX11 13).2.1 (TX11 13).2.2.1 ∈ wsX11_tell := List.mem_of_getElem? (i := 3) rfl
theorem mX11_tell_13 : Cond.fieldLink RX11 13 (TX11 4).1 (TX11 4).2.1 (TX11 4).2.2.1 ∈ wsX11_tell := List.mem_of_getElem? (i := 5) rfl
theorem mX11_tell_16 : Cond.fieldLink RX11 16 (TX11 5).1 (TX11 5).2.1 (TX11 5).2.2.1 ∈ wsX11_tell := List.mem_of_getElem? (i := 1) rfl
theorem mX11_tell_38 : Cond.fieldLink RX11 38 (TX11 12).1 (TX11 12).2.1 (TX11 12).2.2.1 ∈ wsX11_tell := List.mem_of_getElem? (i := 4) rfl
theorem mX11_tell_59 : Cond.fieldLink RX11 59 (TX11 22).1 (TX11 22).2.1 (TX11 22).2.2.1 ∈ wsX11_tell := List.mem_of_getElem? (i := 2) rfl
theorem mX11_tell_62 : Cond.fieldLink RX11 62 (TX11 23).1 (TX11 23).2.1 (TX11 23).2.2.1 ∈ wsX11_tell := List.mem_of_getElem? (i := 6) rfl
theorem mX11_tell_65 : Cond.fieldLink RX11 65 (TX11 24).1 (TX11 24).2.1 (TX11 24).2.2.1 ∈ wsX11_tell := List.mem_of_getElem? (i := 7) rfl
set_option maxHeartbeats 4000000 in
set_option maxRecDepth 100000 in
theorem c_X11_tell (l : Launch) {w : ps_X} (hw : ps_ww w) {S S' : ps_S} {p1 p2 p3 p4 : Int32} {r : Int32} (h : f_X11_tell S p1 p2 p3 p4 = some (r, S')) : ps_MetI l yX11_tell wsX11_tell (ps_rm 4 109) w [.ref (w.2.1 80), .int p1, .int p2, .int p3, .int p4] S S' r := by
  refine ps_mkI (cc := cX11_tell) (maxL := 11) (own := RX11) (by decide +kernel) rfl (Or.inl rfl) rfl (Nat.le_of_ble_eq_true rfl) rfl (fun G hl hG hret => ?_)
  unfold f_X11_tell at h
  refine ps_aload_n hG dX11_tell_0 rfl 0 rfl ?_
  refine ps_iload_n hG dX11_tell_1 rfl 1 rfl ?_
  obtain ⟨r2, hr2, h⟩ := ps_bd h
  refine ps_callVI (As := [.int p1]) (rest := []) (nA := 1) hG (c_X11_isPeer _ hw hr2) gX11_tell_X11_isPeer rfl (by decide +kernel) rfl ⟨Nat.le_of_ble_eq_true rfl, Nat.le_of_ble_eq_true rfl⟩ ⟨rfl, rfl⟩ ⟨Nat.le_of_ble_eq_true rfl, Nat.le_of_ble_eq_true rfl⟩ (ps_lt hw ps_q80.2.2.1) (ps_cel_20 ps_q80.1 _) rfl rfl (Nat.le_of_ble_eq_true rfl) dX11_tell_2 ?_
  refine ps_istore (lv' := [(5, .int r2), (0, .ref (w.2.1 80)), (1, .int p1), (2, .int p2), (3, .int p3), (4, .int p4)]) hG dX11_tell_5 (by decide) rfl ?_
  refine ps_iload_n hG dX11_tell_7 rfl 3 rfl ?_
  refine ps_iconst (v := 0) hG dX11_tell_8 (by decide) ?_
  refine ps_sipush (v := 255) hG dX11_tell_9 (by decide) ?_
  obtain ⟨r12, hr12, h⟩ := ps_bd h
  refine ps_callSI (As := [.int p2, .int 0, .int 255]) (rest := []) (nA := 3) hG (c_X11_isIn _ hw hr12) gX11_tell_X11_isIn rfl (by decide +kernel) rfl ⟨Nat.le_of_ble_eq_true rfl, Nat.le_of_ble_eq_true rfl⟩ ⟨rfl, rfl⟩ ⟨Nat.le_of_ble_eq_true rfl, Nat.le_of_ble_eq_true rfl⟩ rfl (Nat.le_of_ble_eq_true rfl) dX11_tell_12 ?_
  have hJ46 : ∀ (s0_46 : Int32), f_X11_tell_J46 S p1 p2 p3 p4 r2 s0_46 = some (r, S') → ps_V G 11 0 0 w S 46 [(0, .ref (w.2.1 80)), (1, .int p1), (2, .int p2), (3, .int p3), (4, .int p4), (5, .int r2)] [.int s0_46] := by
    intro s0_46 h
    unfold f_X11_tell_J46 at h
    refine ps_istore (lv' := [(6, .int s0_46), (0, .ref (w.2.1 80)), (1, .int p1), (2, .int p2), (3, .int p3), (4, .int p4), (5, .int r2)]) hG dX11_tell_46 (by decide) rfl ?_
    refine ps_iload hG dX11_tell_48 6 rfl ?_
    have hJ92 : ∀ (s0_92 : Int32), f_X11_tell_J92 S p1 p2 p3 p4 r2 s0_46 s0_92 = some (r, S') → ps_V G 11 0 0 w S 92 [(0, .ref (w.2.1 80)), (1, .int p1), (2, .int p2), (3, .int p3), (4, .int p4), (5, .int r2), (6, .int s0_46)] [.int s0_92] := by
      intro s0_92 h
      unfold f_X11_tell_J92 at h
      refine ps_istore (lv' := [(7, .int s0_92), (0, .ref (w.2.1 80)), (1, .int p1), (2, .int p2), (3, .int p3), (4, .int p4), (5, .int r2), (6, .int s0_46)]) hG dX11_tell_92 (by decide) rfl ?_
      refine ps_aload_n hG dX11_tell_94 rfl 1 rfl ?_
      refine ps_iload hG dX11_tell_95 6 rfl ?_
      have hJ123 : ∀ (s1_123 : Int32), f_X11_tell_J123 S p1 p2 p3 p4 s1_123 = some (r, S') → ps_V G 11 0 0 w S 123 [(0, .ref (w.2.1 80)), (1, .int p1), (2, .int p2), (3, .int p3), (4, .int p4)] [.int s1_123, .ref (w.2.1 80)] := by
        intro s1_123 h
        unfold f_X11_tell_J123 at h
        obtain ⟨r123, S123, hr123, h⟩ := ps_d2 h
        refine ps_callVI (As := [.int s1_123]) (rest := []) (nA := 1) hG (c_X11_holds _ hw hr123) gX11_tell_X11_holds rfl (by decide +kernel) rfl ⟨Nat.le_of_ble_eq_true rfl, Nat.le_of_ble_eq_true rfl⟩ ⟨rfl, rfl⟩ ⟨Nat.le_of_ble_eq_true rfl, Nat.le_of_ble_eq_true rfl⟩ (ps_lt hw ps_q80.2.2.1) (ps_cel_20 ps_q80.1 _) rfl rfl (Nat.le_of_ble_eq_true rfl) dX11_tell_123 ?_
        refine ps_if_ne (tgt := 131) hG dX11_tell_126 (by decide) (fun c126 => ?_) (fun c126 => ?_)
        · replace h := ps_in c126 h
          refine ps_aload_n hG dX11_tell_131 rfl 0 rfl ?_
          refine ps_get20_22 hG hw inX11_tell_X11 ps_q80.1 (ps_lt hw ps_q80.2.2.1) mX11_tell_59 dX11_tell_132 ?_
          refine ps_iload_n hG dX11_tell_135 rfl 2 rfl ?_
          refine ps_iload_n hG dX11_tell_136 rfl 1 rfl ?_
          obtain ⟨hb137, h⟩ := ps_ig h
          refine ps_iast hG ps_q97.1 ps_q97.2.1 (ps_lt hw ps_q97.2.2.1) hb137 dX11_tell_137 ?_
          refine ps_aload_n hG dX11_tell_138 rfl 0 rfl ?_
          refine ps_iload_n hG dX11_tell_139 rfl 1 rfl ?_
          refine ps_iload_n hG dX11_tell_140 rfl 2 rfl ?_
          refine ps_iconst (v := 2) hG dX11_tell_141 (by decide) ?_
          obtain ⟨S142, hr142, h⟩ := ps_bd h
          refine ps_callVV (As := [.int p1, .int p2, .int 2]) (rest := []) (nA := 3) hG (c_X11_looksUp _ hw hr142) gX11_tell_X11_looksUp rfl (by decide +kernel) rfl ⟨Nat.le_of_ble_eq_true rfl, Nat.le_of_ble_eq_true rfl⟩ ⟨rfl, rfl⟩ ⟨Nat.le_of_ble_eq_true rfl, Nat.le_of_ble_eq_true rfl⟩ (ps_lt hw ps_q80.2.2.1) (ps_cel_20 ps_q80.1 _) rfl rfl (Nat.le_of_ble_eq_true rfl) dX11_tell_142 ?_
          refine ps_iconst (v := 0) hG dX11_tell_145 (by decide) ?_
          refine ps_istore (lv' := [(8, .int 0), (0, .ref (w.2.1 80)), (1, .int p1), (2, .int p2), (3, .int p3), (4, .int p4)]) hG dX11_tell_146 (by decide) rfl ?_
          refine ps_iconst (v := 0) hG dX11_tell_148 (by decide) ?_
          refine ps_istore (lv' := [(9, .int 0), (8, .int 0), (0, .ref (w.2.1 80)), (1, .int p1), (2, .int p2), (3, .int p3), (4, .int p4)]) hG dX11_tell_149 (by decide) rfl ?_
          obtain ⟨S151, e8_151, hq151, h⟩ := ps_d2 h
          refine (ps_sub [2, 4, 5, 6, 1, 0] rfl (ps_itV (fun (a : ps_S × Int32 × Int32) => ps_V G 11 0 0 w a.1 151 [(0, .ref (w.2.1 80)), (2, .int p2), (3, .int p3), (4, .int p4), (8, .int a.2.1), (9, .int a.2.2)] []) (fun (b : ps_S × Int32) => ps_V G 11 0 0 w b.1 227 [(8, .int b.2)] []) ?_ _ _ _ hq151 ?_))
          · intro a r9 h kc ke
            obtain ⟨T151, v8_151, v9_151⟩ := a
            replace h : f_X11_tell_L151 p2 p3 p4 T151 v8_151 v9_151 = some r9 := h
            show ps_V G 11 0 0 w T151 151 [(0, .ref (w.2.1 80)), (2, .int p2), (3, .int p3), (4, .int p4), (8, .int v8_151), (9, .int v9_151)] []
            unfold f_X11_tell_L151 at h
            refine ps_iload hG dX11_tell_151 5 rfl ?_
            refine ps_aload_n hG dX11_tell_153 rfl 0 rfl ?_
            refine ps_get20_13 hG inX11_tell_X11 ps_q80.1 (ps_lt hw ps_q80.2.2.1) mX11_tell_114 dX11_tell_154 ?_
            refine ps_icmp_ge (tgt := 227) hG dX11_tell_157 (by decide) (fun c157 => ?_) (fun c157 => ?_)
            · replace h := ps_ip c157 h
              cases h
              exact (ps_sub [4] rfl (ke _ rfl))
            · replace h := ps_in c157 h
              refine ps_sipush (v := 256) hG dX11_tell_160 (by decide) ?_
              refine ps_aload_n hG dX11_tell_163 rfl 0 rfl ?_
              refine ps_get20_12 hG hw inX11_tell_X11 ps_q80.1 (ps_lt hw ps_q80.2.2.1) mX11_tell_38 dX11_tell_164 ?_
              refine ps_iload hG dX11_tell_167 5 rfl ?_
              obtain ⟨hb169, h⟩ := ps_ig h
              refine ps_iald hG ps_q90.1 ps_q90.2.1 (ps_lt hw ps_q90.2.2.1) hb169 dX11_tell_169 ?_
              refine ps_imul hG dX11_tell_170 ?_
              refine ps_iload_n hG dX11_tell_171 rfl 1 rfl ?_
              refine ps_iadd hG dX11_tell_172 ?_
              refine ps_istore (lv' := [(10, .int ((256 * (T151 90 v9_151.toNatClampNeg)) + p2)), (0, .ref (w.2.1 80)), (2, .int p2), (3, .int p3), (4, .int p4), (8, .int v8_151), (9, .int v9_151)]) hG dX11_tell_173 (by decide) rfl ?_
              refine ps_aload_n hG dX11_tell_175 rfl 1 rfl ?_
              refine ps_get20_4 hG hw inX11_tell_X11 ps_q80.1 (ps_lt hw ps_q80.2.2.1) mX11_tell_13 dX11_tell_176 ?_
              refine ps_aload_n hG dX11_tell_179 rfl 1 rfl ?_
              refine ps_get20_12 hG hw inX11_tell_X11 ps_q80.1 (ps_lt hw ps_q80.2.2.1) mX11_tell_38 dX11_tell_180 ?_
              refine ps_iload hG dX11_tell_183 6 rfl ?_
              obtain ⟨hb185, h⟩ := ps_ig h
              refine ps_iald hG ps_q90.1 ps_q90.2.1 (ps_lt hw ps_q90.2.2.1) hb185 dX11_tell_185 ?_
              obtain ⟨hb186, h⟩ := ps_ig h
              refine ps_iald hG ps_q82.1 ps_q82.2.1 (ps_lt hw ps_q82.2.2.1) hb186 dX11_tell_186 ?_
              have hJ221 : ∀ (T221 : ps_S) (v8_221 : Int32), f_X11_tell_J221 v9_151 T221 v8_221 = some r9 → ps_V G 11 0 0 w T221 221 [(0, .ref (w.2.1 80)), (2, .int p2), (3, .int p3), (4, .int p4), (8, .int v8_221), (9, .int v9_151)] [] := by
                intro T221 v8_221 h
                unfold f_X11_tell_J221 at h
                refine ps_iinc (lv' := [(9, .int (v9_151 + 1)), (0, .ref (w.2.1 80)), (2, .int p2), (3, .int p3), (4, .int p4), (8, .int v8_221)]) hG dX11_tell_221 5 rfl (by rfl) (by decide) rfl ?_
                refine ps_goto (tgt := 151) hG dX11_tell_224 (by decide) ?_
                cases h
                exact (ps_sub [1, 2, 3, 4, 5, 0] rfl (kc _ rfl))
              refine ps_if_ne (tgt := 221) hG dX11_tell_187 (by decide) (fun c187 => ?_) (fun c187 => ?_)
              · replace h := ps_in c187 h
                exact (ps_sub [1, 2, 3, 4, 5, 6] rfl (hJ221 T151 v8_151 h))
              · replace h := ps_ip c187 h
                refine ps_aload_n hG dX11_tell_190 rfl 1 rfl ?_
                refine ps_get20_23 hG hw inX11_tell_X11 ps_q80.1 (ps_lt hw ps_q80.2.2.1) mX11_tell_62 dX11_tell_191 ?_
                refine ps_iload hG dX11_tell_194 0 rfl ?_
                obtain ⟨hb196, h⟩ := ps_ig h
                refine ps_iald hG ps_q98.1 ps_q98.2.1 (ps_lt hw ps_q98.2.2.1) hb196 dX11_tell_196 ?_
                refine ps_iload_n hG dX11_tell_197 rfl 3 rfl ?_
                refine ps_icmp_ge (tgt := 221) hG dX11_tell_198 (by decide) (fun c198 => ?_) (fun c198 => ?_)
                · replace h := ps_ip c198 h
                  exact (ps_sub [1, 2, 3, 4, 5, 6] rfl (hJ221 T151 v8_151 h))
                · replace h := ps_in c198 h
                  refine ps_aload_n hG dX11_tell_201 rfl 1 rfl ?_
                  refine ps_get20_23 hG hw inX11_tell_X11 ps_q80.1 (ps_lt hw ps_q80.2.2.1) mX11_tell_62 dX11_tell_202 ?_
                  refine ps_iload hG dX11_tell_205 0 rfl ?_
                  refine ps_iload_n hG dX11_tell_207 rfl 3 rfl ?_
                  obtain ⟨hb208, h⟩ := ps_ig h
                  refine ps_iast hG ps_q98.1 ps_q98.2.1 (ps_lt hw ps_q98.2.2.1) hb208 dX11_tell_208 ?_
                  refine ps_aload_n hG dX11_tell_209 rfl 1 rfl ?_
                  refine ps_get20_24 hG hw inX11_tell_X11 ps_q80.1 (ps_lt hw ps_q80.2.2.1) mX11_tell_65 dX11_tell_210 ?_
                  refine ps_iload hG dX11_tell_213 0 rfl ?_
                  refine ps_iload hG dX11_tell_215 4 rfl ?_
                  obtain ⟨hb217, h⟩ := ps_ig h
                  refine ps_iast hG ps_q99.1 ps_q99.2.1 (ps_lt hw ps_q99.2.2.1) hb217 dX11_tell_217 ?_
                  refine ps_iinc (lv' := [(8, .int (v8_151 + 1)), (10, .int ((256 * (T151 90 v9_151.toNatClampNeg)) + p2)), (0, .ref (w.2.1 80)), (2, .int p2), (3, .int p3), (4, .int p4), (9, .int v9_151)]) hG dX11_tell_218 5 rfl (by rfl) (by decide) rfl ?_
                  exact (ps_sub [2, 3, 4, 5, 0, 6] rfl (hJ221 (ps_up (ps_up T151 98 ((256 * (T151 90 v9_151.toNatClampNeg)) + p2).toNatClampNeg p3) 99 ((256 * (T151 90 v9_151.toNatClampNeg)) + p2).toNatClampNeg p4) (v8_151 + 1) h))
          · show ps_V G 11 0 0 w S151 227 [(8, .int e8_151)] []
            refine ps_iload hG dX11_tell_227 0 rfl ?_
            cases h
            exact hret _ _ dX11_tell_229
        · replace h := ps_ip c126 h
          refine ps_iconst (v := 0) hG dX11_tell_129 (by decide) ?_
          cases h
          exact hret _ _ dX11_tell_130
      refine ps_if_ne (tgt := 104) hG dX11_tell_97 (by decide) (fun c97 => ?_) (fun c97 => ?_)
      · replace h := ps_in c97 h
        refine ps_iload hG dX11_tell_104 7 rfl ?_
        refine ps_if_ne (tgt := 113) hG dX11_tell_106 (by decide) (fun c106 => ?_) (fun c106 => ?_)
        · replace h := ps_in c106 h
          refine ps_iload hG dX11_tell_113 0 rfl ?_
          refine ps_if_eq (tgt := 122) hG dX11_tell_115 (by decide) (fun c115 => ?_) (fun c115 => ?_)
          · replace h := ps_ip c115 h
            refine ps_iconst (v := 3) hG dX11_tell_122 (by decide) ?_
            exact (ps_sub [1, 2, 3, 4, 5] rfl (hJ123 3 h))
          · replace h := ps_in c115 h
            refine ps_iconst (v := 0) hG dX11_tell_118 (by decide) ?_
            refine ps_goto (tgt := 123) hG dX11_tell_119 (by decide) ?_
            exact (ps_sub [1, 2, 3, 4, 5] rfl (hJ123 0 h))
        · replace h := ps_ip c106 h
          refine ps_iconst (v := 2) hG dX11_tell_109 (by decide) ?_
          refine ps_goto (tgt := 123) hG dX11_tell_110 (by decide) ?_
          exact (ps_sub [1, 2, 3, 4, 5] rfl (hJ123 2 h))
      · replace h := ps_ip c97 h
        refine ps_iconst (v := 1) hG dX11_tell_100 (by decide) ?_
        refine ps_goto (tgt := 123) hG dX11_tell_101 (by decide) ?_
        exact (ps_sub [1, 2, 3, 4, 5] rfl (hJ123 1 h))
    refine ps_if_eq (tgt := 91) hG dX11_tell_50 (by decide) (fun c50 => ?_) (fun c50 => ?_)
    · replace h := ps_ip c50 h
      refine ps_iconst (v := 0) hG dX11_tell_91 (by decide) ?_
      exact (ps_sub [1, 2, 3, 4, 5, 6, 0] rfl (hJ92 0 h))
    · replace h := ps_in c50 h
      refine ps_iload hG dX11_tell_53 0 rfl ?_
      refine ps_if_eq (tgt := 91) hG dX11_tell_55 (by decide) (fun c55 => ?_) (fun c55 => ?_)
      · replace h := ps_ip c55 h
        refine ps_iconst (v := 0) hG dX11_tell_91 (by decide) ?_
        exact (ps_sub [1, 2, 3, 4, 5, 6, 0] rfl (hJ92 0 h))
      · replace h := ps_in c55 h
        refine ps_aload_n hG dX11_tell_58 rfl 1 rfl ?_
        refine ps_get20_5 hG hw inX11_tell_X11 ps_q80.1 (ps_lt hw ps_q80.2.2.1) mX11_tell_16 dX11_tell_59 ?_
        refine ps_iload_n hG dX11_tell_62 rfl 2 rfl ?_
        obtain ⟨hb63, h⟩ := ps_ig h
        refine ps_zald hG ps_q83.1 ps_q83.2.1 (ps_lt hw ps_q83.2.2.1) hb63 dX11_tell_63 ?_
        refine ps_if_eq (tgt := 91) hG dX11_tell_64 (by decide) (fun c64 => ?_) (fun c64 => ?_)
        · replace h := ps_ip c64 h
          refine ps_iconst (v := 0) hG dX11_tell_91 (by decide) ?_
          exact (ps_sub [1, 2, 3, 4, 5, 6, 0] rfl (hJ92 0 h))
        · replace h := ps_in c64 h
          refine ps_aload_n hG dX11_tell_67 rfl 1 rfl ?_
          refine ps_get20_22 hG hw inX11_tell_X11 ps_q80.1 (ps_lt hw ps_q80.2.2.1) mX11_tell_59 dX11_tell_68 ?_
          refine ps_iload_n hG dX11_tell_71 rfl 3 rfl ?_
          obtain ⟨hb72, h⟩ := ps_ig h
          refine ps_iald hG ps_q97.1 ps_q97.2.1 (ps_lt hw ps_q97.2.2.1) hb72 dX11_tell_72 ?_
          refine ps_iconst (v := (-1)) hG dX11_tell_73 (by decide) ?_
          refine ps_icmp_eq (tgt := 87) hG dX11_tell_74 (by decide) (fun c74 => ?_) (fun c74 => ?_)
          · replace h := ps_ip c74 h
            refine ps_iconst (v := 1) hG dX11_tell_87 (by decide) ?_
            refine ps_goto (tgt := 92) hG dX11_tell_88 (by decide) ?_
            exact (ps_sub [1, 2, 3, 4, 5, 6, 0] rfl (hJ92 1 h))
          · replace h := ps_in c74 h
            refine ps_aload_n hG dX11_tell_77 rfl 1 rfl ?_
            refine ps_get20_22 hG hw inX11_tell_X11 ps_q80.1 (ps_lt hw ps_q80.2.2.1) mX11_tell_59 dX11_tell_78 ?_
            refine ps_iload_n hG dX11_tell_81 rfl 3 rfl ?_
            obtain ⟨hb82, h⟩ := ps_ig h
            refine ps_iald hG ps_q97.1 ps_q97.2.1 (ps_lt hw ps_q97.2.2.1) hb82 dX11_tell_82 ?_
            refine ps_iload_n hG dX11_tell_83 rfl 2 rfl ?_
            refine ps_icmp_ne (tgt := 91) hG dX11_tell_84 (by decide) (fun c84 => ?_) (fun c84 => ?_)
            · replace h := ps_in c84 h
              refine ps_iconst (v := 0) hG dX11_tell_91 (by decide) ?_
              exact (ps_sub [1, 2, 3, 4, 5, 6, 0] rfl (hJ92 0 h))
            · replace h := ps_ip c84 h
              refine ps_iconst (v := 1) hG dX11_tell_87 (by decide) ?_
              refine ps_goto (tgt := 92) hG dX11_tell_88 (by decide) ?_
              exact (ps_sub [1, 2, 3, 4, 5, 6, 0] rfl (hJ92 1 h))
  refine ps_if_eq (tgt := 45) hG dX11_tell_15 (by decide) (fun c15 => ?_) (fun c15 => ?_)
  · replace h := ps_ip c15 h
    refine ps_iconst (v := 0) hG dX11_tell_45 (by decide) ?_
    exact (ps_sub [1, 2, 3, 4, 5, 0] rfl (hJ46 0 h))
  · replace h := ps_in c15 h
    refine ps_iload_n hG dX11_tell_18 rfl 4 rfl ?_
    refine ps_iconst (v := 0) hG dX11_tell_19 (by decide) ?_
    refine ps_sipush (v := 999) hG dX11_tell_20 (by decide) ?_
    obtain ⟨r23, hr23, h⟩ := ps_bd h
    refine ps_callSI (As := [.int p3, .int 0, .int 999]) (rest := []) (nA := 3) hG (c_X11_isIn _ hw hr23) gX11_tell_X11_isIn rfl (by decide +kernel) rfl ⟨Nat.le_of_ble_eq_true rfl, Nat.le_of_ble_eq_true rfl⟩ ⟨rfl, rfl⟩ ⟨Nat.le_of_ble_eq_true rfl, Nat.le_of_ble_eq_true rfl⟩ rfl (Nat.le_of_ble_eq_true rfl) dX11_tell_23 ?_
    refine ps_if_eq (tgt := 45) hG dX11_tell_26 (by decide) (fun c26 => ?_) (fun c26 => ?_)
    · replace h := ps_ip c26 h
      refine ps_iconst (v := 0) hG dX11_tell_45 (by decide) ?_
      exact (ps_sub [1, 2, 3, 4, 5, 0] rfl (hJ46 0 h))
    · replace h := ps_in c26 h
      refine ps_iload hG dX11_tell_29 5 rfl ?_
      refine ps_iconst (v := 0) hG dX11_tell_31 (by decide) ?_
      refine ps_sipush (v := 999) hG dX11_tell_32 (by decide) ?_
      obtain ⟨r35, hr35, h⟩ := ps_bd h
      refine ps_callSI (As := [.int p4, .int 0, .int 999]) (rest := []) (nA := 3) hG (c_X11_isIn _ hw hr35) gX11_tell_X11_isIn rfl (by decide +kernel) rfl ⟨Nat.le_of_ble_eq_true rfl, Nat.le_of_ble_eq_true rfl⟩ ⟨rfl, rfl⟩ ⟨Nat.le_of_ble_eq_true rfl, Nat.le_of_ble_eq_true rfl⟩ rfl (Nat.le_of_ble_eq_true rfl) dX11_tell_35 ?_
      refine ps_if_eq (tgt := 45) hG dX11_tell_38 (by decide) (fun c38 => ?_) (fun c38 => ?_)
      · replace h := ps_ip c38 h
        refine ps_iconst (v := 0) hG dX11_tell_45 (by decide) ?_
        exact (ps_sub [1, 2, 3, 4, 5, 0] rfl (hJ46 0 h))
      · replace h := ps_in c38 h
        refine ps_iconst (v := 1) hG dX11_tell_41 (by decide) ?_
        refine ps_goto (tgt := 46) hG dX11_tell_42 (by decide) ?_
        exact (ps_sub [1, 2, 3, 4, 5, 0] rfl (hJ46 1 h))
def f_X11_name_J161 (v6_69 : Int32) (s0_161 : Int32) : Option ((Int32 × Int32) ⊕ (Int32)) :=
  some (.inl (s0_161, v6_69 + 1))
def f_X11_name_J159 (v5_69 : Int32) (v6_69 : Int32)  : Option ((Int32 × Int32) ⊕ (Int32)) :=
  f_X11_name_J161 v6_69 v5_69
def f_X11_name_J154 (p2 : Int32) (S60 : ps_S) (v6_69 : Int32)  : Option ((Int32 × Int32) ⊕ (Int32)) :=
  f_X11_name_J161 v6_69 ((256 * (S60 90 v6_69.toNatClampNeg)) + p2)
def f_X11_name_J124 (p2 : Int32) (S60 : ps_S) (v5_69 : Int32) (v6_69 : Int32) (s0_124 : Int32) : Option ((Int32 × Int32) ⊕ (Int32)) :=
  (if s0_124 = 0 then
                f_X11_name_J159 v5_69 v6_69
              else
                (if v5_69 = (-1) then
                  f_X11_name_J154 p2 S60 v6_69
                else
                  (if ps_ib ((256 * (S60 90 v6_69.toNatClampNeg)) + p2) 4096 = true then
                  (if ps_ib v5_69 4096 = true then
                  (if (S60 98 ((256 * (S60 90 v6_69.toNatClampNeg)) + p2).toNatClampNeg) ≤ (S60 98 v5_69.toNatClampNeg) then
                    f_X11_name_J159 v5_69 v6_69
                  else
                    f_X11_name_J154 p2 S60 v6_69) else none) else none)))
def f_X11_name_L69 (p2 : Int32) (S60 : ps_S) (v5_69 : Int32) (v6_69 : Int32) : Option ((Int32 × Int32) ⊕ (Int32)) :=
  (if (S60 80 13) ≤ v6_69 then
            some (.inr v5_69)
          else
            (if ps_ib v6_69 3 = true then
            (if ps_ib v6_69 3 = true then
            (if ps_ib (S60 90 v6_69.toNatClampNeg) 16 = true then
            (if (S60 82 (S60 90 v6_69.toNatClampNeg).toNatClampNeg) = 0 then
              (if ps_ib ((256 * (S60 90 v6_69.toNatClampNeg)) + p2) 4096 = true then
              (if (S60 98 ((256 * (S60 90 v6_69.toNatClampNeg)) + p2).toNatClampNeg) = (-1) then
                f_X11_name_J124 p2 S60 v5_69 v6_69 0
              else
                f_X11_name_J124 p2 S60 v5_69 v6_69 1) else none)
            else
              f_X11_name_J124 p2 S60 v5_69 v6_69 0) else none) else none) else none))
def f_X11_name_J48 (S : ps_S) (p1 : Int32) (p2 : Int32) (s1_48 : Int32) : Option (Int32 × ps_S) :=
  (ps_b2 (f_X11_holds S s1_48) fun r48 S48 =>
    (if r48 = 0 then
      some (0, S48)
    else
      ((f_X11_looksUp S48 p1 p2 2).bind fun S60 =>
      ((ps_it (fun (a : Int32 × Int32) => f_X11_name_L69 p2 S60 a.1 a.2) ps_fu ((-1), 0)).bind (fun e5_69 => (if e5_69 = (-1) then
        some ((-1), S60)
      else
        (if ps_ib e5_69 4096 = true then
        (if ps_ib e5_69 4096 = true then
        some ((1000 * (S60 98 e5_69.toNatClampNeg)) + (S60 99 e5_69.toNatClampNeg), S60) else none) else none)))))))
def f_X11_name (S : ps_S) (p1 : Int32) (p2 : Int32) : Option (Int32 × ps_S) :=
  ((f_X11_isPeer S p1).bind fun r2 =>
  ((f_X11_isIn p2 0 255).bind fun r11 =>
  (if r2 = 0 then
    f_X11_name_J48 S p1 p2 1
  else
    (if r11 = 0 then
      f_X11_name_J48 S p1 p2 2
    else
      (if ps_ib p1 16 = true then
      (if (S 83 p1.toNatClampNeg) = 0 then
        f_X11_name_J48 S p1 p2 3
      else
        f_X11_name_J48 S p1 p2 0) else none)))))
theorem inX11_name_X11 : ∀ q ∈ wsX110, q ∈ wsX11_name := fun _ h => List.mem_cons_of_mem _ (List.mem_append_right _ h)
theorem mX11_name_114 : Cond.fieldLink RX11 114 (TX11 13).1 (TX11 13).2.1 (TX11 13).2.2.1 ∈ wsX11_name := List.mem_of_getElem? (i := 2) rfl
theorem mX11_name_13 : Cond.fieldLink RX11 13 (TX11 4).1 (TX11 4).2.1 (TX11 4).2.2.1 ∈ wsX11_name := List.mem_of_getElem? (i := 4) rfl
theorem mX11_name_16 : Cond.fieldLink RX11 16 (TX11 5).1 (TX11 5).2.1 (TX11 5).2.2.1 ∈ wsX11_name := List.mem_of_getElem? (i := 1) rfl
theorem mX11_name_38 : Cond.fieldLink RX11 38 (TX11 12).1 (TX11 12).2.1 (TX11 12).2.2.1 ∈ wsX11_name := List.mem_of_getElem? (i := 3) rfl
theorem mX11_name_62 : Cond.fieldLink RX11 62 (TX11 23).1 (TX11 23).2.1 (TX11 23).2.2.1 ∈ wsX11_name := List.mem_of_getElem? (i := 5) rfl
theorem mX11_name_65 : Cond.fieldLink RX11 65 (TX11 24).1 (TX11 24).2.1 (TX11 24).2.2.1 ∈ wsX11_name := List.mem_of_getElem? (i := 6) rfl
set_option maxHeartbeats 4000000 in
set_option maxRecDepth 100000 in
theorem c_X11_name (l : Launch) {w : ps_X} (hw : ps_ww w) {S S' : ps_S} {p1 p2 : Int32} {r : Int32} (h : f_X11_name S p1 p2 = some (r, S')) : ps_MetI l yX11_name wsX11_name (ps_rm 4 109) w [.ref (w.2.1 80), .int p1, .int p2] S S' r := by
  refine ps_mkI (cc := cX11_name) (maxL := 9) (own := RX11) (by decide +kernel) rfl (Or.inl rfl) rfl (Nat.le_of_ble_eq_true rfl) rfl (fun G hl hG hret => ?_)
  unfold f_X11_name at h
  refine ps_aload_n hG dX11_name_0 rfl 0 rfl ?_
  refine ps_iload_n hG dX11_name_1 rfl 1 rfl ?_
  obtain ⟨r2, hr2, h⟩ := ps_bd h
  refine ps_callVI (As := [.int p1]) (rest := []) (nA := 1) hG (c_X11_isPeer _ hw hr2) gX11_name_X11_isPeer rfl (by decide +kernel) rfl ⟨Nat.le_of_ble_eq_true rfl, Nat.le_of_ble_eq_true rfl⟩ ⟨rfl, rfl⟩ ⟨Nat.le_of_ble_eq_true rfl, Nat.le_of_ble_eq_true rfl⟩ (ps_lt hw ps_q80.2.2.1) (ps_cel_20 ps_q80.1 _) rfl rfl (Nat.le_of_ble_eq_true rfl) dX11_name_2 ?_
  refine ps_istore_n (lv' := [(3, .int r2), (0, .ref (w.2.1 80)), (1, .int p1), (2, .int p2)]) hG dX11_name_5 rfl (by decide) rfl ?_
  refine ps_iload_n hG dX11_name_6 rfl 3 rfl ?_
  refine ps_iconst (v := 0) hG dX11_name_7 (by decide) ?_
  refine ps_sipush (v := 255) hG dX11_name_8 (by decide) ?_
  obtain ⟨r11, hr11, h⟩ := ps_bd h
  refine ps_callSI (As := [.int p2, .int 0, .int 255]) (rest := []) (nA := 3) hG (c_X11_isIn _ hw hr11) gX11_name_X11_isIn rfl (by decide +kernel) rfl ⟨Nat.le_of_ble_eq_true rfl, Nat.le_of_ble_eq_true rfl⟩ ⟨rfl, rfl⟩ ⟨Nat.le_of_ble_eq_true rfl, Nat.le_of_ble_eq_true rfl⟩ rfl (Nat.le_of_ble_eq_true rfl) dX11_name_11 ?_
  refine ps_istore (lv' := [(4, .int r11), (3, .int r2), (0, .ref (w.2.1 80)), (1, .int p1), (2, .int p2)]) hG dX11_name_14 (by decide) rfl ?_
  refine ps_aload_n hG dX11_name_16 rfl 2 rfl ?_
  refine ps_iload_n hG dX11_name_17 rfl 1 rfl ?_
  have hJ48 : ∀ (s1_48 : Int32), f_X11_name_J48 S p1 p2 s1_48 = some (r, S') → ps_V G 9 0 0 w S 48 [(0, .ref (w.2.1 80)), (1, .int p1), (2, .int p2)] [.int s1_48, .ref (w.2.1 80)] := by
    intro s1_48 h
    unfold f_X11_name_J48 at h
    obtain ⟨r48, S48, hr48, h⟩ := ps_d2 h
    refine ps_callVI (As := [.int s1_48]) (rest := []) (nA := 1) hG (c_X11_holds _ hw hr48) gX11_name_X11_holds rfl (by decide +kernel) rfl ⟨Nat.le_of_ble_eq_true rfl, Nat.le_of_ble_eq_true rfl⟩ ⟨rfl, rfl⟩ ⟨Nat.le_of_ble_eq_true rfl, Nat.le_of_ble_eq_true rfl⟩ (ps_lt hw ps_q80.2.2.1) (ps_cel_20 ps_q80.1 _) rfl rfl (Nat.le_of_ble_eq_true rfl) dX11_name_48 ?_
    refine ps_if_ne (tgt := 56) hG dX11_name_51 (by decide) (fun c51 => ?_) (fun c51 => ?_)
    · replace h := ps_in c51 h
      refine ps_aload_n hG dX11_name_56 rfl 0 rfl ?_
      refine ps_iload_n hG dX11_name_57 rfl 1 rfl ?_
      refine ps_iload_n hG dX11_name_58 rfl 2 rfl ?_
      refine ps_iconst (v := 2) hG dX11_name_59 (by decide) ?_
      obtain ⟨S60, hr60, h⟩ := ps_bd h
      refine ps_callVV (As := [.int p1, .int p2, .int 2]) (rest := []) (nA := 3) hG (c_X11_looksUp _ hw hr60) gX11_name_X11_looksUp rfl (by decide +kernel) rfl ⟨Nat.le_of_ble_eq_true rfl, Nat.le_of_ble_eq_true rfl⟩ ⟨rfl, rfl⟩ ⟨Nat.le_of_ble_eq_true rfl, Nat.le_of_ble_eq_true rfl⟩ (ps_lt hw ps_q80.2.2.1) (ps_cel_20 ps_q80.1 _) rfl rfl (Nat.le_of_ble_eq_true rfl) dX11_name_60 ?_
      refine ps_iconst (v := (-1)) hG dX11_name_63 (by decide) ?_
      refine ps_istore (lv' := [(5, .int (-1)), (0, .ref (w.2.1 80)), (1, .int p1), (2, .int p2)]) hG dX11_name_64 (by decide) rfl ?_
      refine ps_iconst (v := 0) hG dX11_name_66 (by decide) ?_
      refine ps_istore (lv' := [(6, .int 0), (5, .int (-1)), (0, .ref (w.2.1 80)), (1, .int p1), (2, .int p2)]) hG dX11_name_67 (by decide) rfl ?_
      obtain ⟨e5_69, hq69, h⟩ := ps_bd h
      refine (ps_sub [2, 4, 1, 0] rfl (ps_itV (fun (a : Int32 × Int32) => ps_V G 9 0 0 w S60 69 [(0, .ref (w.2.1 80)), (2, .int p2), (5, .int a.1), (6, .int a.2)] []) (fun (b : Int32) => ps_V G 9 0 0 w S60 169 [(0, .ref (w.2.1 80)), (5, .int b)] []) ?_ _ _ _ hq69 ?_))
      · intro a r9 h kc ke
        obtain ⟨v5_69, v6_69⟩ := a
        replace h : f_X11_name_L69 p2 S60 v5_69 v6_69 = some r9 := h
        show ps_V G 9 0 0 w S60 69 [(0, .ref (w.2.1 80)), (2, .int p2), (5, .int v5_69), (6, .int v6_69)] []
        unfold f_X11_name_L69 at h
        refine ps_iload hG dX11_name_69 3 rfl ?_
        refine ps_aload_n hG dX11_name_71 rfl 0 rfl ?_
        refine ps_get20_13 hG inX11_name_X11 ps_q80.1 (ps_lt hw ps_q80.2.2.1) mX11_name_114 dX11_name_72 ?_
        refine ps_icmp_ge (tgt := 169) hG dX11_name_75 (by decide) (fun c75 => ?_) (fun c75 => ?_)
        · replace h := ps_ip c75 h
          cases h
          exact (ps_sub [0, 2] rfl (ke _ rfl))
        · replace h := ps_in c75 h
          refine ps_sipush (v := 256) hG dX11_name_78 (by decide) ?_
          refine ps_aload_n hG dX11_name_81 rfl 0 rfl ?_
          refine ps_get20_12 hG hw inX11_name_X11 ps_q80.1 (ps_lt hw ps_q80.2.2.1) mX11_name_38 dX11_name_82 ?_
          refine ps_iload hG dX11_name_85 3 rfl ?_
          obtain ⟨hb87, h⟩ := ps_ig h
          refine ps_iald hG ps_q90.1 ps_q90.2.1 (ps_lt hw ps_q90.2.2.1) hb87 dX11_name_87 ?_
          refine ps_imul hG dX11_name_88 ?_
          refine ps_iload_n hG dX11_name_89 rfl 1 rfl ?_
          refine ps_iadd hG dX11_name_90 ?_
          refine ps_istore (lv' := [(7, .int ((256 * (S60 90 v6_69.toNatClampNeg)) + p2)), (0, .ref (w.2.1 80)), (2, .int p2), (5, .int v5_69), (6, .int v6_69)]) hG dX11_name_91 (by decide) rfl ?_
          refine ps_aload_n hG dX11_name_93 rfl 1 rfl ?_
          refine ps_get20_4 hG hw inX11_name_X11 ps_q80.1 (ps_lt hw ps_q80.2.2.1) mX11_name_13 dX11_name_94 ?_
          refine ps_aload_n hG dX11_name_97 rfl 1 rfl ?_
          refine ps_get20_12 hG hw inX11_name_X11 ps_q80.1 (ps_lt hw ps_q80.2.2.1) mX11_name_38 dX11_name_98 ?_
          refine ps_iload hG dX11_name_101 4 rfl ?_
          obtain ⟨hb103, h⟩ := ps_ig h
          refine ps_iald hG ps_q90.1 ps_q90.2.1 (ps_lt hw ps_q90.2.2.1) hb103 dX11_name_103 ?_
          obtain ⟨hb104, h⟩ := ps_ig h
          refine ps_iald hG ps_q82.1 ps_q82.2.1 (ps_lt hw ps_q82.2.2.1) hb104 dX11_name_104 ?_
          have hJ124 : ∀ (s0_124 : Int32), f_X11_name_J124 p2 S60 v5_69 v6_69 s0_124 = some r9 → ps_V G 9 0 0 w S60 124 [(0, .ref (w.2.1 80)), (2, .int p2), (5, .int v5_69), (6, .int v6_69), (7, .int ((256 * (S60 90 v6_69.toNatClampNeg)) + p2))] [.int s0_124] := by
            intro s0_124 h
            unfold f_X11_name_J124 at h
            refine ps_istore (lv' := [(8, .int s0_124), (0, .ref (w.2.1 80)), (2, .int p2), (5, .int v5_69), (6, .int v6_69), (7, .int ((256 * (S60 90 v6_69.toNatClampNeg)) + p2))]) hG dX11_name_124 (by decide) rfl ?_
            refine ps_iload hG dX11_name_126 0 rfl ?_
            have hJ161 : ∀ (s0_161 : Int32), f_X11_name_J161 v6_69 s0_161 = some r9 → ps_V G 9 0 0 w S60 161 [(0, .ref (w.2.1 80)), (2, .int p2), (6, .int v6_69)] [.int s0_161] := by
              intro s0_161 h
              unfold f_X11_name_J161 at h
              refine ps_istore (lv' := [(5, .int s0_161), (0, .ref (w.2.1 80)), (2, .int p2), (6, .int v6_69)]) hG dX11_name_161 (by decide) rfl ?_
              refine ps_iinc (lv' := [(6, .int (v6_69 + 1)), (5, .int s0_161), (0, .ref (w.2.1 80)), (2, .int p2)]) hG dX11_name_163 3 rfl (by rfl) (by decide) rfl ?_
              refine ps_goto (tgt := 69) hG dX11_name_166 (by decide) ?_
              cases h
              exact (ps_sub [2, 3, 1, 0] rfl (kc _ rfl))
            have hJ159 : f_X11_name_J159 v5_69 v6_69 = some r9 → ps_V G 9 0 0 w S60 159 [(0, .ref (w.2.1 80)), (2, .int p2), (5, .int v5_69), (6, .int v6_69)] [] := by
              intro h
              unfold f_X11_name_J159 at h
              refine ps_iload hG dX11_name_159 2 rfl ?_
              exact (ps_sub [0, 1, 3] rfl (hJ161 v5_69 h))
            refine ps_if_eq (tgt := 159) hG dX11_name_128 (by decide) (fun c128 => ?_) (fun c128 => ?_)
            · replace h := ps_ip c128 h
              exact (ps_sub [1, 2, 3, 4] rfl (hJ159  h))
            · replace h := ps_in c128 h
              refine ps_iload hG dX11_name_131 3 rfl ?_
              refine ps_iconst (v := (-1)) hG dX11_name_133 (by decide) ?_
              have hJ154 : f_X11_name_J154 p2 S60 v6_69 = some r9 → ps_V G 9 0 0 w S60 154 [(0, .ref (w.2.1 80)), (2, .int p2), (6, .int v6_69), (7, .int ((256 * (S60 90 v6_69.toNatClampNeg)) + p2))] [] := by
                intro h
                unfold f_X11_name_J154 at h
                refine ps_iload hG dX11_name_154 3 rfl ?_
                refine ps_goto (tgt := 161) hG dX11_name_156 (by decide) ?_
                exact (ps_sub [0, 1, 2] rfl (hJ161 ((256 * (S60 90 v6_69.toNatClampNeg)) + p2) h))
              refine ps_icmp_eq (tgt := 154) hG dX11_name_134 (by decide) (fun c134 => ?_) (fun c134 => ?_)
              · replace h := ps_ip c134 h
                exact (ps_sub [1, 2, 4, 5] rfl (hJ154  h))
              · replace h := ps_in c134 h
                refine ps_aload_n hG dX11_name_137 rfl 1 rfl ?_
                refine ps_get20_23 hG hw inX11_name_X11 ps_q80.1 (ps_lt hw ps_q80.2.2.1) mX11_name_62 dX11_name_138 ?_
                refine ps_iload hG dX11_name_141 5 rfl ?_
                obtain ⟨hb143, h⟩ := ps_ig h
                refine ps_iald hG ps_q98.1 ps_q98.2.1 (ps_lt hw ps_q98.2.2.1) hb143 dX11_name_143 ?_
                refine ps_aload_n hG dX11_name_144 rfl 1 rfl ?_
                refine ps_get20_23 hG hw inX11_name_X11 ps_q80.1 (ps_lt hw ps_q80.2.2.1) mX11_name_62 dX11_name_145 ?_
                refine ps_iload hG dX11_name_148 3 rfl ?_
                obtain ⟨hb150, h⟩ := ps_ig h
                refine ps_iald hG ps_q98.1 ps_q98.2.1 (ps_lt hw ps_q98.2.2.1) hb150 dX11_name_150 ?_
                refine ps_icmp_le (tgt := 159) hG dX11_name_151 (by decide) (fun c151 => ?_) (fun c151 => ?_)
                · replace h := ps_ip c151 h
                  exact (ps_sub [1, 2, 3, 4] rfl (hJ159  h))
                · replace h := ps_in c151 h
                  exact (ps_sub [1, 2, 4, 5] rfl (hJ154  h))
          refine ps_if_ne (tgt := 123) hG dX11_name_105 (by decide) (fun c105 => ?_) (fun c105 => ?_)
          · replace h := ps_in c105 h
            refine ps_iconst (v := 0) hG dX11_name_123 (by decide) ?_
            exact (ps_sub [1, 2, 3, 4, 0] rfl (hJ124 0 h))
          · replace h := ps_ip c105 h
            refine ps_aload_n hG dX11_name_108 rfl 1 rfl ?_
            refine ps_get20_23 hG hw inX11_name_X11 ps_q80.1 (ps_lt hw ps_q80.2.2.1) mX11_name_62 dX11_name_109 ?_
            refine ps_iload hG dX11_name_112 0 rfl ?_
            obtain ⟨hb114, h⟩ := ps_ig h
            refine ps_iald hG ps_q98.1 ps_q98.2.1 (ps_lt hw ps_q98.2.2.1) hb114 dX11_name_114 ?_
            refine ps_iconst (v := (-1)) hG dX11_name_115 (by decide) ?_
            refine ps_icmp_eq (tgt := 123) hG dX11_name_116 (by decide) (fun c116 => ?_) (fun c116 => ?_)
            · replace h := ps_ip c116 h
              refine ps_iconst (v := 0) hG dX11_name_123 (by decide) ?_
              exact (ps_sub [1, 2, 3, 4, 0] rfl (hJ124 0 h))
            · replace h := ps_in c116 h
              refine ps_iconst (v := 1) hG dX11_name_119 (by decide) ?_
              refine ps_goto (tgt := 124) hG dX11_name_120 (by decide) ?_
              exact (ps_sub [1, 2, 3, 4, 0] rfl (hJ124 1 h))
      · show ps_V G 9 0 0 w S60 169 [(0, .ref (w.2.1 80)), (5, .int e5_69)] []
        refine ps_iload hG dX11_name_169 1 rfl ?_
        refine ps_iconst (v := (-1)) hG dX11_name_171 (by decide) ?_
        refine ps_icmp_ne (tgt := 179) hG dX11_name_172 (by decide) (fun c172 => ?_) (fun c172 => ?_)
        · replace h := ps_in c172 h
          refine ps_sipush (v := 1000) hG dX11_name_179 (by decide) ?_
          refine ps_aload_n hG dX11_name_182 rfl 0 rfl ?_
          refine ps_get20_23 hG hw inX11_name_X11 ps_q80.1 (ps_lt hw ps_q80.2.2.1) mX11_name_62 dX11_name_183 ?_
          refine ps_iload hG dX11_name_186 1 rfl ?_
          obtain ⟨hb188, h⟩ := ps_ig h
          refine ps_iald hG ps_q98.1 ps_q98.2.1 (ps_lt hw ps_q98.2.2.1) hb188 dX11_name_188 ?_
          refine ps_imul hG dX11_name_189 ?_
          refine ps_aload_n hG dX11_name_190 rfl 0 rfl ?_
          refine ps_get20_24 hG hw inX11_name_X11 ps_q80.1 (ps_lt hw ps_q80.2.2.1) mX11_name_65 dX11_name_191 ?_
          refine ps_iload hG dX11_name_194 1 rfl ?_
          obtain ⟨hb196, h⟩ := ps_ig h
          refine ps_iald hG ps_q99.1 ps_q99.2.1 (ps_lt hw ps_q99.2.2.1) hb196 dX11_name_196 ?_
          refine ps_iadd hG dX11_name_197 ?_
          cases h
          exact hret _ _ dX11_name_198
        · replace h := ps_ip c172 h
          refine ps_iconst (v := (-1)) hG dX11_name_175 (by decide) ?_
          refine ps_goto (tgt := 198) hG dX11_name_176 (by decide) ?_
          cases h
          exact hret _ _ dX11_name_198
    · replace h := ps_ip c51 h
      refine ps_iconst (v := 0) hG dX11_name_54 (by decide) ?_
      cases h
      exact hret _ _ dX11_name_55
  refine ps_if_ne (tgt := 25) hG dX11_name_18 (by decide) (fun c18 => ?_) (fun c18 => ?_)
  · replace h := ps_in c18 h
    refine ps_iload hG dX11_name_25 0 rfl ?_
    refine ps_if_ne (tgt := 34) hG dX11_name_27 (by decide) (fun c27 => ?_) (fun c27 => ?_)
    · replace h := ps_in c27 h
      refine ps_aload_n hG dX11_name_34 rfl 2 rfl ?_
      refine ps_get20_5 hG hw inX11_name_X11 ps_q80.1 (ps_lt hw ps_q80.2.2.1) mX11_name_16 dX11_name_35 ?_
      refine ps_iload_n hG dX11_name_38 rfl 3 rfl ?_
      obtain ⟨hb39, h⟩ := ps_ig h
      refine ps_zald hG ps_q83.1 ps_q83.2.1 (ps_lt hw ps_q83.2.2.1) hb39 dX11_name_39 ?_
      refine ps_if_eq (tgt := 47) hG dX11_name_40 (by decide) (fun c40 => ?_) (fun c40 => ?_)
      · replace h := ps_ip c40 h
        refine ps_iconst (v := 3) hG dX11_name_47 (by decide) ?_
        exact (ps_sub [2, 3, 4] rfl (hJ48 3 h))
      · replace h := ps_in c40 h
        refine ps_iconst (v := 0) hG dX11_name_43 (by decide) ?_
        refine ps_goto (tgt := 48) hG dX11_name_44 (by decide) ?_
        exact (ps_sub [2, 3, 4] rfl (hJ48 0 h))
    · replace h := ps_ip c27 h
      refine ps_iconst (v := 2) hG dX11_name_30 (by decide) ?_
      refine ps_goto (tgt := 48) hG dX11_name_31 (by decide) ?_
      exact (ps_sub [2, 3, 4] rfl (hJ48 2 h))
  · replace h := ps_ip c18 h
    refine ps_iconst (v := 1) hG dX11_name_21 (by decide) ?_
    refine ps_goto (tgt := 48) hG dX11_name_22 (by decide) ?_
    exact (ps_sub [2, 3, 4] rfl (hJ48 1 h))
def f_X11_spread_L39  (T39 : ps_S) (v3_39 : Int32) : Option ((ps_S × Int32) ⊕ (ps_S)) :=
  (if 16 ≤ v3_39 then
            some (.inr T39)
          else
            (if ps_ib v3_39 16 = true then
            some (.inl (ps_up T39 100 v3_39.toNatClampNeg (-1), v3_39 + 1)) else none))
def f_X11_spread_J216 (v8_138 : Int32) (T216 : ps_S) (v3_216 : Int32) (v4_216 : Int32) : Option ((ps_S × Int32 × Int32 × Int32) ⊕ (ps_S × Int32 × Int32)) :=
  some (.inl (T216, v3_216, v4_216, v8_138 + 1))
def f_X11_spread_L138 (v5_78 : Int32) (v6_89 : Int32) (s0_133 : Int32) (T138 : ps_S) (v3_138 : Int32) (v4_138 : Int32) (v8_138 : Int32) : Option ((ps_S × Int32 × Int32 × Int32) ⊕ (ps_S × Int32 × Int32)) :=
  (if (T138 80 2) ≤ v8_138 then
                          some (.inr (T138, v3_138, v4_138))
                        else
                          (if s0_133 = 0 then
                            some (.inr (T138, v3_138, v4_138))
                          else
                            (if ps_ib v8_138 16 = true then
                            (if (T138 100 v8_138.toNatClampNeg) = (-1) then
                              (if ps_ib v8_138 16 = true then
                              (if (T138 83 v8_138.toNatClampNeg) = 0 then
                                f_X11_spread_J216 v8_138 T138 v3_138 v4_138
                              else
                                (if ps_ib v8_138 16 = true then
                                (if (T138 82 v8_138.toNatClampNeg) = 1 then
                                  f_X11_spread_J216 v8_138 T138 v3_138 v4_138
                                else
                                  ((f_X11_keepsPeer T138 v6_89 v8_138).bind fun r189 =>
                                  (if r189 = 0 then
                                    f_X11_spread_J216 v8_138 T138 v3_138 v4_138
                                  else
                                    (if ps_ib v8_138 16 = true then
                                    f_X11_spread_J216 v8_138 (ps_up (ps_up T138 100 v8_138.toNatClampNeg v5_78) 80 26 v5_78) (v3_138 + 1) 1 else none)))) else none)) else none)
                            else
                              f_X11_spread_J216 v8_138 T138 v3_138 v4_138) else none)))
def f_X11_spread_J133 (v5_78 : Int32) (T89 : ps_S) (v3_89 : Int32) (v4_89 : Int32) (v6_89 : Int32) (s0_133 : Int32) : Option ((ps_S × Int32 × Int32 × Int32) ⊕ (ps_S × Int32 × Int32)) :=
  (ps_b3 (ps_it (fun (a : ps_S × Int32 × Int32 × Int32) => f_X11_spread_L138 v5_78 v6_89 s0_133 a.1 a.2.1 a.2.2.1 a.2.2.2) ps_fu (T89, v3_89, v4_89, 0)) (fun S138 e3_138 e4_138 => some (.inl (S138, e3_138, e4_138, v6_89 + 1))))
def f_X11_spread_L89 (v5_78 : Int32) (T89 : ps_S) (v3_89 : Int32) (v4_89 : Int32) (v6_89 : Int32) : Option ((ps_S × Int32 × Int32 × Int32) ⊕ (ps_S × Int32 × Int32)) :=
  (if (T89 80 2) ≤ v6_89 then
                  some (.inr (T89, v3_89, v4_89))
                else
                  (if ps_ib v6_89 16 = true then
                  (if (T89 100 v6_89.toNatClampNeg) = (v5_78 - 1) then
                    (if v5_78 = 1 then
                      f_X11_spread_J133 v5_78 T89 v3_89 v4_89 v6_89 1
                    else
                      (if ps_ib v6_89 16 = true then
                      (if (T89 82 v6_89.toNatClampNeg) = 0 then
                        f_X11_spread_J133 v5_78 T89 v3_89 v4_89 v6_89 1
                      else
                        f_X11_spread_J133 v5_78 T89 v3_89 v4_89 v6_89 0) else none))
                  else
                    f_X11_spread_J133 v5_78 T89 v3_89 v4_89 v6_89 0) else none))
def f_X11_spread_L78  (T78 : ps_S) (v3_78 : Int32) (v4_78 : Int32) (v5_78 : Int32) : Option ((ps_S × Int32 × Int32 × Int32) ⊕ (ps_S × Int32)) :=
  (if v4_78 = 0 then
            some (.inr (T78, v3_78))
          else
            (ps_b3 (ps_it (fun (a : ps_S × Int32 × Int32 × Int32) => f_X11_spread_L89 v5_78 a.1 a.2.1 a.2.2.1 a.2.2.2) ps_fu (T78, v3_78, 0, 0)) (fun S89 e3_89 e4_89 => some (.inl (S89, e3_89, e4_89, v5_78 + 1)))))
def f_X11_spread_J29 (S : ps_S) (p1 : Int32) (s1_29 : Int32) : Option (Int32 × ps_S) :=
  (ps_b2 (f_X11_holds S s1_29) fun r29 S29 =>
    (if r29 = 0 then
      some (0, S29)
    else
      ((ps_it (fun (a : ps_S × Int32) => f_X11_spread_L39 a.1 a.2) ps_fu (S29, 0)).bind (fun S39 => (if ps_ib p1 16 = true then
      (ps_b2 (ps_it (fun (a : ps_S × Int32 × Int32 × Int32) => f_X11_spread_L78 a.1 a.2.1 a.2.2.1 a.2.2.2) ps_fu (ps_up (ps_up S39 100 p1.toNatClampNeg 0) 80 26 0, 0, 1, 1)) (fun S78 e3_78 => some (e3_78, S78))) else none)))))
def f_X11_spread (S : ps_S) (p1 : Int32) : Option (Int32 × ps_S) :=
  ((f_X11_isPeer S p1).bind fun r2 =>
  (if r2 = 0 then
    f_X11_spread_J29 S p1 1
  else
    (if ps_ib p1 16 = true then
    (if (S 83 p1.toNatClampNeg) = 0 then
      f_X11_spread_J29 S p1 2
    else
      f_X11_spread_J29 S p1 0) else none)))
theorem inX11_spread_X11 : ∀ q ∈ wsX110, q ∈ wsX11_spread := fun _ h => List.mem_cons_of_mem _ (List.mem_append_right _ h)
theorem mX11_spread_13 : Cond.fieldLink RX11 13 (TX11 4).1 (TX11 4).2.1 (TX11 4).2.2.1 ∈ wsX11_spread := List.mem_of_getElem? (i := 5) rfl
theorem mX11_spread_16 : Cond.fieldLink RX11 16 (TX11 5).1 (TX11 5).2.1 (TX11 5).2.2.1 ∈ wsX11_spread := List.mem_of_getElem? (i := 1) rfl
theorem mX11_spread_173 : Cond.fieldLink RX11 173 (TX11 26).1 (TX11 26).2.1 (TX11 26).2.2.1 ∈ wsX11_spread := List.mem_of_getElem? (i := 3) rfl
theorem mX11_spread_68 : Cond.fieldLink RX11 68 (TX11 25).1 (TX11 25).2.1 (TX11 25).2.2.1 ∈ wsX11_spread := List.mem_of_getElem? (i := 2) rfl
theorem mX11_spread_78 : Cond.fieldLink RX11 78 (TX11 2).1 (TX11 2).2.1 (TX11 2).2.2.1 ∈ wsX11_spread := List.mem_of_getElem? (i := 4) rfl
set_option maxHeartbeats 4000000 in
set_option maxRecDepth 100000 in
theorem c_X11_spread (l : Launch) {w : ps_X} (hw : ps_ww w) {S S' : ps_S} {p1 : Int32} {r : Int32} (h : f_X11_spread S p1 = some (r, S')) : ps_MetI l yX11_spread wsX11_spread (ps_rm 2 43) w [.ref (w.2.1 80), .int p1] S S' r := by
  refine ps_mkI (cc := cX11_spread) (maxL := 9) (own := RX11) (by decide +kernel) rfl (Or.inl rfl) rfl (Nat.le_of_ble_eq_true rfl) rfl (fun G hl hG hret => ?_)
  unfold f_X11_spread at h
  refine ps_aload_n hG dX11_spread_0 rfl 0 rfl ?_
  refine ps_iload_n hG dX11_spread_1 rfl 1 rfl ?_
  obtain ⟨r2, hr2, h⟩ := ps_bd h
  refine ps_callVI (As := [.int p1]) (rest := []) (nA := 1) hG (c_X11_isPeer _ hw hr2) gX11_spread_X11_isPeer rfl (by decide +kernel) rfl ⟨Nat.le_of_ble_eq_true rfl, Nat.le_of_ble_eq_true rfl⟩ ⟨rfl, rfl⟩ ⟨Nat.le_of_ble_eq_true rfl, Nat.le_of_ble_eq_true rfl⟩ (ps_lt hw ps_q80.2.2.1) (ps_cel_20 ps_q80.1 _) rfl rfl (Nat.le_of_ble_eq_true rfl) dX11_spread_2 ?_
  refine ps_istore_n (lv' := [(2, .int r2), (0, .ref (w.2.1 80)), (1, .int p1)]) hG dX11_spread_5 rfl (by decide) rfl ?_
  refine ps_aload_n hG dX11_spread_6 rfl 1 rfl ?_
  refine ps_iload_n hG dX11_spread_7 rfl 0 rfl ?_
  have hJ29 : ∀ (s1_29 : Int32), f_X11_spread_J29 S p1 s1_29 = some (r, S') → ps_V G 9 0 0 w S 29 [(0, .ref (w.2.1 80)), (1, .int p1)] [.int s1_29, .ref (w.2.1 80)] := by
    intro s1_29 h
    unfold f_X11_spread_J29 at h
    obtain ⟨r29, S29, hr29, h⟩ := ps_d2 h
    refine ps_callVI (As := [.int s1_29]) (rest := []) (nA := 1) hG (c_X11_holds _ hw hr29) gX11_spread_X11_holds rfl (by decide +kernel) rfl ⟨Nat.le_of_ble_eq_true rfl, Nat.le_of_ble_eq_true rfl⟩ ⟨rfl, rfl⟩ ⟨Nat.le_of_ble_eq_true rfl, Nat.le_of_ble_eq_true rfl⟩ (ps_lt hw ps_q80.2.2.1) (ps_cel_20 ps_q80.1 _) rfl rfl (Nat.le_of_ble_eq_true rfl) dX11_spread_29 ?_
    refine ps_if_ne (tgt := 37) hG dX11_spread_32 (by decide) (fun c32 => ?_) (fun c32 => ?_)
    · replace h := ps_in c32 h
      refine ps_iconst (v := 0) hG dX11_spread_37 (by decide) ?_
      refine ps_istore_n (lv' := [(3, .int 0), (0, .ref (w.2.1 80)), (1, .int p1)]) hG dX11_spread_38 rfl (by decide) rfl ?_
      obtain ⟨S39, hq39, h⟩ := ps_bd h
      refine (ps_sub [1, 2, 0] rfl (ps_itV (fun (a : ps_S × Int32) => ps_V G 9 0 0 w a.1 39 [(0, .ref (w.2.1 80)), (1, .int p1), (3, .int a.2)] []) (fun (b : ps_S) => ps_V G 9 0 0 w b 58 [(0, .ref (w.2.1 80)), (1, .int p1)] []) ?_ _ _ _ hq39 ?_))
      · intro a r9 h kc ke
        obtain ⟨T39, v3_39⟩ := a
        replace h : f_X11_spread_L39 T39 v3_39 = some r9 := h
        show ps_V G 9 0 0 w T39 39 [(0, .ref (w.2.1 80)), (1, .int p1), (3, .int v3_39)] []
        unfold f_X11_spread_L39 at h
        refine ps_iload_n hG dX11_spread_39 rfl 2 rfl ?_
        refine ps_bipush (v := 16) hG dX11_spread_40 (by decide) ?_
        refine ps_icmp_ge (tgt := 58) hG dX11_spread_42 (by decide) (fun c42 => ?_) (fun c42 => ?_)
        · replace h := ps_ip c42 h
          cases h
          exact (ps_sub [0, 1] rfl (ke _ rfl))
        · replace h := ps_in c42 h
          refine ps_aload_n hG dX11_spread_45 rfl 0 rfl ?_
          refine ps_get20_25 hG hw inX11_spread_X11 ps_q80.1 (ps_lt hw ps_q80.2.2.1) mX11_spread_68 dX11_spread_46 ?_
          refine ps_iload_n hG dX11_spread_49 rfl 2 rfl ?_
          refine ps_iconst (v := (-1)) hG dX11_spread_50 (by decide) ?_
          obtain ⟨hb51, h⟩ := ps_ig h
          refine ps_iast hG ps_q100.1 ps_q100.2.1 (ps_lt hw ps_q100.2.2.1) hb51 dX11_spread_51 ?_
          refine ps_iinc (lv' := [(3, .int (v3_39 + 1)), (0, .ref (w.2.1 80)), (1, .int p1)]) hG dX11_spread_52 2 rfl (by rfl) (by decide) rfl ?_
          refine ps_goto (tgt := 39) hG dX11_spread_55 (by decide) ?_
          cases h
          exact (ps_sub [1, 2, 0] rfl (kc _ rfl))
      · show ps_V G 9 0 0 w S39 58 [(0, .ref (w.2.1 80)), (1, .int p1)] []
        refine ps_aload_n hG dX11_spread_58 rfl 0 rfl ?_
        refine ps_get20_25 hG hw inX11_spread_X11 ps_q80.1 (ps_lt hw ps_q80.2.2.1) mX11_spread_68 dX11_spread_59 ?_
        refine ps_iload_n hG dX11_spread_62 rfl 1 rfl ?_
        refine ps_iconst (v := 0) hG dX11_spread_63 (by decide) ?_
        obtain ⟨hb64, h⟩ := ps_ig h
        refine ps_iast hG ps_q100.1 ps_q100.2.1 (ps_lt hw ps_q100.2.2.1) hb64 dX11_spread_64 ?_
        refine ps_aload_n hG dX11_spread_65 rfl 0 rfl ?_
        refine ps_iconst (v := 0) hG dX11_spread_66 (by decide) ?_
        refine ps_put20_26 hG inX11_spread_X11 ps_q80.1 (ps_lt hw ps_q80.2.2.1) ps_q80.2.2.2 mX11_spread_173 dX11_spread_67 ?_
        refine ps_iconst (v := 0) hG dX11_spread_70 (by decide) ?_
        refine ps_istore_n (lv' := [(3, .int 0), (0, .ref (w.2.1 80)), (1, .int p1)]) hG dX11_spread_71 rfl (by decide) rfl ?_
        refine ps_iconst (v := 1) hG dX11_spread_72 (by decide) ?_
        refine ps_istore (lv' := [(4, .int 1), (3, .int 0), (0, .ref (w.2.1 80)), (1, .int p1)]) hG dX11_spread_73 (by decide) rfl ?_
        refine ps_iconst (v := 1) hG dX11_spread_75 (by decide) ?_
        refine ps_istore (lv' := [(5, .int 1), (4, .int 1), (3, .int 0), (0, .ref (w.2.1 80)), (1, .int p1)]) hG dX11_spread_76 (by decide) rfl ?_
        obtain ⟨S78, e3_78, hq78, h⟩ := ps_d2 h
        refine (ps_sub [3, 2, 1, 0] rfl (ps_itV (fun (a : ps_S × Int32 × Int32 × Int32) => ps_V G 9 0 0 w a.1 78 [(0, .ref (w.2.1 80)), (3, .int a.2.1), (4, .int a.2.2.1), (5, .int a.2.2.2)] []) (fun (b : ps_S × Int32) => ps_V G 9 0 0 w b.1 234 [(3, .int b.2)] []) ?_ _ _ _ hq78 ?_))
        · intro a r9 h kc ke
          obtain ⟨T78, v3_78, v4_78, v5_78⟩ := a
          replace h : f_X11_spread_L78 T78 v3_78 v4_78 v5_78 = some r9 := h
          show ps_V G 9 0 0 w T78 78 [(0, .ref (w.2.1 80)), (3, .int v3_78), (4, .int v4_78), (5, .int v5_78)] []
          unfold f_X11_spread_L78 at h
          refine ps_iload hG dX11_spread_78 2 rfl ?_
          refine ps_if_eq (tgt := 234) hG dX11_spread_80 (by decide) (fun c80 => ?_) (fun c80 => ?_)
          · replace h := ps_ip c80 h
            cases h
            exact (ps_sub [1] rfl (ke _ rfl))
          · replace h := ps_in c80 h
            refine ps_iconst (v := 0) hG dX11_spread_83 (by decide) ?_
            refine ps_istore (lv' := [(4, .int 0), (0, .ref (w.2.1 80)), (3, .int v3_78), (5, .int v5_78)]) hG dX11_spread_84 (by decide) rfl ?_
            refine ps_iconst (v := 0) hG dX11_spread_86 (by decide) ?_
            refine ps_istore (lv' := [(6, .int 0), (4, .int 0), (0, .ref (w.2.1 80)), (3, .int v3_78), (5, .int v5_78)]) hG dX11_spread_87 (by decide) rfl ?_
            obtain ⟨S89, e3_89, e4_89, hq89, h⟩ := ps_d3 h
            refine (ps_sub [2, 3, 1, 4, 0] rfl (ps_itV (fun (a : ps_S × Int32 × Int32 × Int32) => ps_V G 9 0 0 w a.1 89 [(0, .ref (w.2.1 80)), (3, .int a.2.1), (4, .int a.2.2.1), (5, .int v5_78), (6, .int a.2.2.2)] []) (fun (b : ps_S × Int32 × Int32) => ps_V G 9 0 0 w b.1 228 [(0, .ref (w.2.1 80)), (3, .int b.2.1), (4, .int b.2.2), (5, .int v5_78)] []) ?_ _ _ _ hq89 ?_))
            · intro a r9 h kc ke
              obtain ⟨T89, v3_89, v4_89, v6_89⟩ := a
              replace h : f_X11_spread_L89 v5_78 T89 v3_89 v4_89 v6_89 = some r9 := h
              show ps_V G 9 0 0 w T89 89 [(0, .ref (w.2.1 80)), (3, .int v3_89), (4, .int v4_89), (5, .int v5_78), (6, .int v6_89)] []
              unfold f_X11_spread_L89 at h
              refine ps_iload hG dX11_spread_89 4 rfl ?_
              refine ps_aload_n hG dX11_spread_91 rfl 0 rfl ?_
              refine ps_get20_2 hG inX11_spread_X11 ps_q80.1 (ps_lt hw ps_q80.2.2.1) mX11_spread_78 dX11_spread_92 ?_
              refine ps_icmp_ge (tgt := 228) hG dX11_spread_95 (by decide) (fun c95 => ?_) (fun c95 => ?_)
              · replace h := ps_ip c95 h
                cases h
                exact (ps_sub [0, 1, 2, 3] rfl (ke _ rfl))
              · replace h := ps_in c95 h
                refine ps_aload_n hG dX11_spread_98 rfl 0 rfl ?_
                refine ps_get20_25 hG hw inX11_spread_X11 ps_q80.1 (ps_lt hw ps_q80.2.2.1) mX11_spread_68 dX11_spread_99 ?_
                refine ps_iload hG dX11_spread_102 4 rfl ?_
                obtain ⟨hb104, h⟩ := ps_ig h
                refine ps_iald hG ps_q100.1 ps_q100.2.1 (ps_lt hw ps_q100.2.2.1) hb104 dX11_spread_104 ?_
                refine ps_iload hG dX11_spread_105 3 rfl ?_
                refine ps_iconst (v := 1) hG dX11_spread_107 (by decide) ?_
                refine ps_isub hG dX11_spread_108 ?_
                have hJ133 : ∀ (s0_133 : Int32), f_X11_spread_J133 v5_78 T89 v3_89 v4_89 v6_89 s0_133 = some r9 → ps_V G 9 0 0 w T89 133 [(0, .ref (w.2.1 80)), (3, .int v3_89), (4, .int v4_89), (5, .int v5_78), (6, .int v6_89)] [.int s0_133] := by
                  intro s0_133 h
                  unfold f_X11_spread_J133 at h
                  refine ps_istore (lv' := [(7, .int s0_133), (0, .ref (w.2.1 80)), (3, .int v3_89), (4, .int v4_89), (5, .int v5_78), (6, .int v6_89)]) hG dX11_spread_133 (by decide) rfl ?_
                  refine ps_iconst (v := 0) hG dX11_spread_135 (by decide) ?_
                  refine ps_istore (lv' := [(8, .int 0), (7, .int s0_133), (0, .ref (w.2.1 80)), (3, .int v3_89), (4, .int v4_89), (5, .int v5_78), (6, .int v6_89)]) hG dX11_spread_136 (by decide) rfl ?_
                  obtain ⟨S138, e3_138, e4_138, hq138, h⟩ := ps_d3 h
                  refine (ps_sub [2, 3, 4, 5, 6, 1, 0] rfl (ps_itV (fun (a : ps_S × Int32 × Int32 × Int32) => ps_V G 9 0 0 w a.1 138 [(0, .ref (w.2.1 80)), (3, .int a.2.1), (4, .int a.2.2.1), (5, .int v5_78), (6, .int v6_89), (7, .int s0_133), (8, .int a.2.2.2)] []) (fun (b : ps_S × Int32 × Int32) => ps_V G 9 0 0 w b.1 222 [(0, .ref (w.2.1 80)), (3, .int b.2.1), (4, .int b.2.2), (5, .int v5_78), (6, .int v6_89)] []) ?_ _ _ _ hq138 ?_))
                  · intro a r9 h kc ke
                    obtain ⟨T138, v3_138, v4_138, v8_138⟩ := a
                    replace h : f_X11_spread_L138 v5_78 v6_89 s0_133 T138 v3_138 v4_138 v8_138 = some r9 := h
                    show ps_V G 9 0 0 w T138 138 [(0, .ref (w.2.1 80)), (3, .int v3_138), (4, .int v4_138), (5, .int v5_78), (6, .int v6_89), (7, .int s0_133), (8, .int v8_138)] []
                    unfold f_X11_spread_L138 at h
                    refine ps_iload hG dX11_spread_138 6 rfl ?_
                    refine ps_aload_n hG dX11_spread_140 rfl 0 rfl ?_
                    refine ps_get20_2 hG inX11_spread_X11 ps_q80.1 (ps_lt hw ps_q80.2.2.1) mX11_spread_78 dX11_spread_141 ?_
                    refine ps_icmp_ge (tgt := 222) hG dX11_spread_144 (by decide) (fun c144 => ?_) (fun c144 => ?_)
                    · replace h := ps_ip c144 h
                      cases h
                      exact (ps_sub [0, 1, 2, 3, 4] rfl (ke _ rfl))
                    · replace h := ps_in c144 h
                      refine ps_iload hG dX11_spread_147 5 rfl ?_
                      refine ps_if_eq (tgt := 222) hG dX11_spread_149 (by decide) (fun c149 => ?_) (fun c149 => ?_)
                      · replace h := ps_ip c149 h
                        cases h
                        exact (ps_sub [0, 1, 2, 3, 4] rfl (ke _ rfl))
                      · replace h := ps_in c149 h
                        refine ps_aload_n hG dX11_spread_152 rfl 0 rfl ?_
                        refine ps_get20_25 hG hw inX11_spread_X11 ps_q80.1 (ps_lt hw ps_q80.2.2.1) mX11_spread_68 dX11_spread_153 ?_
                        refine ps_iload hG dX11_spread_156 6 rfl ?_
                        obtain ⟨hb158, h⟩ := ps_ig h
                        refine ps_iald hG ps_q100.1 ps_q100.2.1 (ps_lt hw ps_q100.2.2.1) hb158 dX11_spread_158 ?_
                        refine ps_iconst (v := (-1)) hG dX11_spread_159 (by decide) ?_
                        have hJ216 : ∀ (T216 : ps_S) (v3_216 : Int32) (v4_216 : Int32), f_X11_spread_J216 v8_138 T216 v3_216 v4_216 = some r9 → ps_V G 9 0 0 w T216 216 [(0, .ref (w.2.1 80)), (3, .int v3_216), (4, .int v4_216), (5, .int v5_78), (6, .int v6_89), (7, .int s0_133), (8, .int v8_138)] [] := by
                          intro T216 v3_216 v4_216 h
                          unfold f_X11_spread_J216 at h
                          refine ps_iinc (lv' := [(8, .int (v8_138 + 1)), (0, .ref (w.2.1 80)), (3, .int v3_216), (4, .int v4_216), (5, .int v5_78), (6, .int v6_89), (7, .int s0_133)]) hG dX11_spread_216 6 rfl (by rfl) (by decide) rfl ?_
                          refine ps_goto (tgt := 138) hG dX11_spread_219 (by decide) ?_
                          cases h
                          exact (ps_sub [1, 2, 3, 4, 5, 6, 0] rfl (kc _ rfl))
                        refine ps_icmp_ne (tgt := 216) hG dX11_spread_160 (by decide) (fun c160 => ?_) (fun c160 => ?_)
                        · replace h := ps_in c160 h
                          exact (ps_sub [0, 1, 2, 3, 4, 5, 6] rfl (hJ216 T138 v3_138 v4_138 h))
                        · replace h := ps_ip c160 h
                          refine ps_aload_n hG dX11_spread_163 rfl 0 rfl ?_
                          refine ps_get20_5 hG hw inX11_spread_X11 ps_q80.1 (ps_lt hw ps_q80.2.2.1) mX11_spread_16 dX11_spread_164 ?_
                          refine ps_iload hG dX11_spread_167 6 rfl ?_
                          obtain ⟨hb169, h⟩ := ps_ig h
                          refine ps_zald hG ps_q83.1 ps_q83.2.1 (ps_lt hw ps_q83.2.2.1) hb169 dX11_spread_169 ?_
                          refine ps_if_eq (tgt := 216) hG dX11_spread_170 (by decide) (fun c170 => ?_) (fun c170 => ?_)
                          · replace h := ps_ip c170 h
                            exact (ps_sub [0, 1, 2, 3, 4, 5, 6] rfl (hJ216 T138 v3_138 v4_138 h))
                          · replace h := ps_in c170 h
                            refine ps_aload_n hG dX11_spread_173 rfl 0 rfl ?_
                            refine ps_get20_4 hG hw inX11_spread_X11 ps_q80.1 (ps_lt hw ps_q80.2.2.1) mX11_spread_13 dX11_spread_174 ?_
                            refine ps_iload hG dX11_spread_177 6 rfl ?_
                            obtain ⟨hb179, h⟩ := ps_ig h
                            refine ps_iald hG ps_q82.1 ps_q82.2.1 (ps_lt hw ps_q82.2.2.1) hb179 dX11_spread_179 ?_
                            refine ps_iconst (v := 1) hG dX11_spread_180 (by decide) ?_
                            refine ps_icmp_eq (tgt := 216) hG dX11_spread_181 (by decide) (fun c181 => ?_) (fun c181 => ?_)
                            · replace h := ps_ip c181 h
                              exact (ps_sub [0, 1, 2, 3, 4, 5, 6] rfl (hJ216 T138 v3_138 v4_138 h))
                            · replace h := ps_in c181 h
                              refine ps_aload_n hG dX11_spread_184 rfl 0 rfl ?_
                              refine ps_iload hG dX11_spread_185 4 rfl ?_
                              refine ps_iload hG dX11_spread_187 6 rfl ?_
                              obtain ⟨r189, hr189, h⟩ := ps_bd h
                              refine ps_callVI (As := [.int v6_89, .int v8_138]) (rest := []) (nA := 2) hG (c_X11_keepsPeer _ hw hr189) gX11_spread_X11_keepsPeer rfl (by decide +kernel) rfl ⟨Nat.le_of_ble_eq_true rfl, Nat.le_of_ble_eq_true rfl⟩ ⟨rfl, rfl⟩ ⟨Nat.le_of_ble_eq_true rfl, Nat.le_of_ble_eq_true rfl⟩ (ps_lt hw ps_q80.2.2.1) (ps_cel_20 ps_q80.1 _) rfl rfl (Nat.le_of_ble_eq_true rfl) dX11_spread_189 ?_
                              refine ps_if_eq (tgt := 216) hG dX11_spread_192 (by decide) (fun c192 => ?_) (fun c192 => ?_)
                              · replace h := ps_ip c192 h
                                exact (ps_sub [0, 1, 2, 3, 4, 5, 6] rfl (hJ216 T138 v3_138 v4_138 h))
                              · replace h := ps_in c192 h
                                refine ps_aload_n hG dX11_spread_195 rfl 0 rfl ?_
                                refine ps_get20_25 hG hw inX11_spread_X11 ps_q80.1 (ps_lt hw ps_q80.2.2.1) mX11_spread_68 dX11_spread_196 ?_
                                refine ps_iload hG dX11_spread_199 6 rfl ?_
                                refine ps_iload hG dX11_spread_201 3 rfl ?_
                                obtain ⟨hb203, h⟩ := ps_ig h
                                refine ps_iast hG ps_q100.1 ps_q100.2.1 (ps_lt hw ps_q100.2.2.1) hb203 dX11_spread_203 ?_
                                refine ps_aload_n hG dX11_spread_204 rfl 0 rfl ?_
                                refine ps_iload hG dX11_spread_205 3 rfl ?_
                                refine ps_put20_26 hG inX11_spread_X11 ps_q80.1 (ps_lt hw ps_q80.2.2.1) ps_q80.2.2.2 mX11_spread_173 dX11_spread_207 ?_
                                refine ps_iconst (v := 1) hG dX11_spread_210 (by decide) ?_
                                refine ps_istore (lv' := [(4, .int 1), (0, .ref (w.2.1 80)), (3, .int v3_138), (5, .int v5_78), (6, .int v6_89), (7, .int s0_133), (8, .int v8_138)]) hG dX11_spread_211 (by decide) rfl ?_
                                refine ps_iinc (lv' := [(3, .int (v3_138 + 1)), (4, .int 1), (0, .ref (w.2.1 80)), (5, .int v5_78), (6, .int v6_89), (7, .int s0_133), (8, .int v8_138)]) hG dX11_spread_213 2 rfl (by rfl) (by decide) rfl ?_
                                exact (ps_sub [2, 0, 1, 3, 4, 5, 6] rfl (hJ216 (ps_up (ps_up T138 100 v8_138.toNatClampNeg v5_78) 80 26 v5_78) (v3_138 + 1) 1 h))
                  · show ps_V G 9 0 0 w S138 222 [(0, .ref (w.2.1 80)), (3, .int e3_138), (4, .int e4_138), (5, .int v5_78), (6, .int v6_89)] []
                    refine ps_iinc (lv' := [(6, .int (v6_89 + 1)), (0, .ref (w.2.1 80)), (3, .int e3_138), (4, .int e4_138), (5, .int v5_78)]) hG dX11_spread_222 4 rfl (by rfl) (by decide) rfl ?_
                    refine ps_goto (tgt := 89) hG dX11_spread_225 (by decide) ?_
                    cases h
                    exact (ps_sub [1, 2, 3, 4, 0] rfl (kc _ rfl))
                refine ps_icmp_ne (tgt := 132) hG dX11_spread_109 (by decide) (fun c109 => ?_) (fun c109 => ?_)
                · replace h := ps_in c109 h
                  refine ps_iconst (v := 0) hG dX11_spread_132 (by decide) ?_
                  exact (ps_sub [0, 1, 2, 3, 4] rfl (hJ133 0 h))
                · replace h := ps_ip c109 h
                  refine ps_iload hG dX11_spread_112 3 rfl ?_
                  refine ps_iconst (v := 1) hG dX11_spread_114 (by decide) ?_
                  refine ps_icmp_eq (tgt := 128) hG dX11_spread_115 (by decide) (fun c115 => ?_) (fun c115 => ?_)
                  · replace h := ps_ip c115 h
                    refine ps_iconst (v := 1) hG dX11_spread_128 (by decide) ?_
                    refine ps_goto (tgt := 133) hG dX11_spread_129 (by decide) ?_
                    exact (ps_sub [0, 1, 2, 3, 4] rfl (hJ133 1 h))
                  · replace h := ps_in c115 h
                    refine ps_aload_n hG dX11_spread_118 rfl 0 rfl ?_
                    refine ps_get20_4 hG hw inX11_spread_X11 ps_q80.1 (ps_lt hw ps_q80.2.2.1) mX11_spread_13 dX11_spread_119 ?_
                    refine ps_iload hG dX11_spread_122 4 rfl ?_
                    obtain ⟨hb124, h⟩ := ps_ig h
                    refine ps_iald hG ps_q82.1 ps_q82.2.1 (ps_lt hw ps_q82.2.2.1) hb124 dX11_spread_124 ?_
                    refine ps_if_ne (tgt := 132) hG dX11_spread_125 (by decide) (fun c125 => ?_) (fun c125 => ?_)
                    · replace h := ps_in c125 h
                      refine ps_iconst (v := 0) hG dX11_spread_132 (by decide) ?_
                      exact (ps_sub [0, 1, 2, 3, 4] rfl (hJ133 0 h))
                    · replace h := ps_ip c125 h
                      refine ps_iconst (v := 1) hG dX11_spread_128 (by decide) ?_
                      refine ps_goto (tgt := 133) hG dX11_spread_129 (by decide) ?_
                      exact (ps_sub [0, 1, 2, 3, 4] rfl (hJ133 1 h))
            · show ps_V G 9 0 0 w S89 228 [(0, .ref (w.2.1 80)), (3, .int e3_89), (4, .int e4_89), (5, .int v5_78)] []
              refine ps_iinc (lv' := [(5, .int (v5_78 + 1)), (0, .ref (w.2.1 80)), (3, .int e3_89), (4, .int e4_89)]) hG dX11_spread_228 3 rfl (by rfl) (by decide) rfl ?_
              refine ps_goto (tgt := 78) hG dX11_spread_231 (by decide) ?_
              cases h
              exact (ps_sub [1, 2, 3, 0] rfl (kc _ rfl))
        · show ps_V G 9 0 0 w S78 234 [(3, .int e3_78)] []
          refine ps_iload_n hG dX11_spread_234 rfl 0 rfl ?_
          cases h
          exact hret _ _ dX11_spread_235
    · replace h := ps_ip c32 h
      refine ps_iconst (v := 0) hG dX11_spread_35 (by decide) ?_
      cases h
      exact hret _ _ dX11_spread_36
  refine ps_if_ne (tgt := 15) hG dX11_spread_8 (by decide) (fun c8 => ?_) (fun c8 => ?_)
  · replace h := ps_in c8 h
    refine ps_aload_n hG dX11_spread_15 rfl 1 rfl ?_
    refine ps_get20_5 hG hw inX11_spread_X11 ps_q80.1 (ps_lt hw ps_q80.2.2.1) mX11_spread_16 dX11_spread_16 ?_
    refine ps_iload_n hG dX11_spread_19 rfl 2 rfl ?_
    obtain ⟨hb20, h⟩ := ps_ig h
    refine ps_zald hG ps_q83.1 ps_q83.2.1 (ps_lt hw ps_q83.2.2.1) hb20 dX11_spread_20 ?_
    refine ps_if_eq (tgt := 28) hG dX11_spread_21 (by decide) (fun c21 => ?_) (fun c21 => ?_)
    · replace h := ps_ip c21 h
      refine ps_iconst (v := 2) hG dX11_spread_28 (by decide) ?_
      exact (ps_sub [1, 2] rfl (hJ29 2 h))
    · replace h := ps_in c21 h
      refine ps_iconst (v := 0) hG dX11_spread_24 (by decide) ?_
      refine ps_goto (tgt := 29) hG dX11_spread_25 (by decide) ?_
      exact (ps_sub [1, 2] rfl (hJ29 0 h))
  · replace h := ps_ip c8 h
    refine ps_iconst (v := 1) hG dX11_spread_11 (by decide) ?_
    refine ps_goto (tgt := 29) hG dX11_spread_12 (by decide) ?_
    exact (ps_sub [1, 2] rfl (hJ29 1 h))
def f_X11_rounds (S : ps_S) : Option (Int32 × ps_S) :=
  some ((ps_up S 80 0 0) 80 26, ps_up S 80 0 0)
theorem inX11_rounds_X11 : ∀ q ∈ wsX110, q ∈ wsX11_rounds := fun _ h => List.mem_cons_of_mem _ (List.mem_append_right _ h)
theorem mX11_rounds_173 : Cond.fieldLink RX11 173 (TX11 26).1 (TX11 26).2.1 (TX11 26).2.2.1 ∈ wsX11_rounds := List.mem_of_getElem? (i := 2) rfl
theorem mX11_rounds_74 : Cond.fieldLink RX11 74 (TX11 0).1 (TX11 0).2.1 (TX11 0).2.2.1 ∈ wsX11_rounds := List.mem_of_getElem? (i := 1) rfl
set_option maxHeartbeats 4000000 in
set_option maxRecDepth 100000 in
theorem c_X11_rounds (l : Launch) {w : ps_X} (hw : ps_ww w) {S S' : ps_S} {r : Int32} (h : f_X11_rounds S = some (r, S')) : ps_MetI l yX11_rounds wsX11_rounds (ps_rm 0 0) w [.ref (w.2.1 80)] S S' r := by
  refine ps_mkI (cc := cX11_rounds) (maxL := 1) (own := RX11) (by decide +kernel) rfl (Or.inl rfl) rfl (Nat.le_of_ble_eq_true rfl) rfl (fun G hl hG hret => ?_)
  unfold f_X11_rounds at h
  refine ps_aload_n hG dX11_rounds_0 rfl 0 rfl ?_
  refine ps_iconst (v := 0) hG dX11_rounds_1 (by decide) ?_
  refine ps_put20_0 hG inX11_rounds_X11 ps_q80.1 (ps_lt hw ps_q80.2.2.1) ps_q80.2.2.2 mX11_rounds_74 dX11_rounds_2 ?_
  refine ps_aload_n hG dX11_rounds_5 rfl 0 rfl ?_
  refine ps_get20_26 hG inX11_rounds_X11 ps_q80.1 (ps_lt hw ps_q80.2.2.1) mX11_rounds_173 dX11_rounds_6 ?_
  cases h
  exact hret _ _ dX11_rounds_9
def f_X11_owes_J22 (S : ps_S) (p1 : Int32) (p2 : Int32) (s1_22 : Int32) : Option (Int32 × ps_S) :=
  (ps_b2 (f_X11_holds S s1_22) fun r22 S22 =>
    (if r22 = 0 then
      some (0, S22)
    else
      (if ps_ib ((16 * p1) + p2) 256 = true then
      some (S22 101 ((16 * p1) + p2).toNatClampNeg, S22) else none)))
def f_X11_owes (S : ps_S) (p1 : Int32) (p2 : Int32) : Option (Int32 × ps_S) :=
  ((f_X11_isPeer S p1).bind fun r3 =>
  (if r3 = 0 then
    f_X11_owes_J22 S p1 p2 1
  else
    ((f_X11_isPeer S p2).bind fun r11 =>
    (if r11 = 0 then
      f_X11_owes_J22 S p1 p2 1
    else
      f_X11_owes_J22 S p1 p2 0))))
theorem inX11_owes_X11 : ∀ q ∈ wsX110, q ∈ wsX11_owes := fun _ h => List.mem_cons_of_mem _ (List.mem_append_right _ h)
theorem mX11_owes_71 : Cond.fieldLink RX11 71 (TX11 27).1 (TX11 27).2.1 (TX11 27).2.2.1 ∈ wsX11_owes := List.mem_of_getElem? (i := 1) rfl
set_option maxHeartbeats 4000000 in
set_option maxRecDepth 100000 in
theorem c_X11_owes (l : Launch) {w : ps_X} (hw : ps_ww w) {S S' : ps_S} {p1 p2 : Int32} {r : Int32} (h : f_X11_owes S p1 p2 = some (r, S')) : ps_MetI l yX11_owes wsX11_owes (ps_rm 2 43) w [.ref (w.2.1 80), .int p1, .int p2] S S' r := by
  refine ps_mkI (cc := cX11_owes) (maxL := 3) (own := RX11) (by decide +kernel) rfl (Or.inl rfl) rfl (Nat.le_of_ble_eq_true rfl) rfl (fun G hl hG hret => ?_)
  unfold f_X11_owes at h
  refine ps_aload_n hG dX11_owes_0 rfl 0 rfl ?_
  refine ps_aload_n hG dX11_owes_1 rfl 0 rfl ?_
  refine ps_iload_n hG dX11_owes_2 rfl 1 rfl ?_
  obtain ⟨r3, hr3, h⟩ := ps_bd h
  refine ps_callVI (As := [.int p1]) (rest := [.ref (w.2.1 80)]) (nA := 1) hG (c_X11_isPeer _ hw hr3) gX11_owes_X11_isPeer rfl (by decide +kernel) rfl ⟨Nat.le_of_ble_eq_true rfl, Nat.le_of_ble_eq_true rfl⟩ ⟨rfl, rfl⟩ ⟨Nat.le_of_ble_eq_true rfl, Nat.le_of_ble_eq_true rfl⟩ (ps_lt hw ps_q80.2.2.1) (ps_cel_20 ps_q80.1 _) rfl rfl (Nat.le_of_ble_eq_true rfl) dX11_owes_3 ?_
  have hJ22 : ∀ (s1_22 : Int32), f_X11_owes_J22 S p1 p2 s1_22 = some (r, S') → ps_V G 3 0 0 w S 22 [(0, .ref (w.2.1 80)), (1, .int p1), (2, .int p2)] [.int s1_22, .ref (w.2.1 80)] := by
    intro s1_22 h
    unfold f_X11_owes_J22 at h
    obtain ⟨r22, S22, hr22, h⟩ := ps_d2 h
    refine ps_callVI (As := [.int s1_22]) (rest := []) (nA := 1) hG (c_X11_holds _ hw hr22) gX11_owes_X11_holds rfl (by decide +kernel) rfl ⟨Nat.le_of_ble_eq_true rfl, Nat.le_of_ble_eq_true rfl⟩ ⟨rfl, rfl⟩ ⟨Nat.le_of_ble_eq_true rfl, Nat.le_of_ble_eq_true rfl⟩ (ps_lt hw ps_q80.2.2.1) (ps_cel_20 ps_q80.1 _) rfl rfl (Nat.le_of_ble_eq_true rfl) dX11_owes_22 ?_
    refine ps_if_eq (tgt := 42) hG dX11_owes_25 (by decide) (fun c25 => ?_) (fun c25 => ?_)
    · replace h := ps_ip c25 h
      refine ps_iconst (v := 0) hG dX11_owes_42 (by decide) ?_
      cases h
      exact hret _ _ dX11_owes_43
    · replace h := ps_in c25 h
      refine ps_aload_n hG dX11_owes_28 rfl 0 rfl ?_
      refine ps_get20_27 hG hw inX11_owes_X11 ps_q80.1 (ps_lt hw ps_q80.2.2.1) mX11_owes_71 dX11_owes_29 ?_
      refine ps_bipush (v := 16) hG dX11_owes_32 (by decide) ?_
      refine ps_iload_n hG dX11_owes_34 rfl 1 rfl ?_
      refine ps_imul hG dX11_owes_35 ?_
      refine ps_iload_n hG dX11_owes_36 rfl 2 rfl ?_
      refine ps_iadd hG dX11_owes_37 ?_
      obtain ⟨hb38, h⟩ := ps_ig h
      refine ps_iald hG ps_q101.1 ps_q101.2.1 (ps_lt hw ps_q101.2.2.1) hb38 dX11_owes_38 ?_
      refine ps_goto (tgt := 43) hG dX11_owes_39 (by decide) ?_
      cases h
      exact hret _ _ dX11_owes_43
  refine ps_if_eq (tgt := 21) hG dX11_owes_6 (by decide) (fun c6 => ?_) (fun c6 => ?_)
  · replace h := ps_ip c6 h
    refine ps_iconst (v := 1) hG dX11_owes_21 (by decide) ?_
    exact (ps_sub [0, 1, 2] rfl (hJ22 1 h))
  · replace h := ps_in c6 h
    refine ps_aload_n hG dX11_owes_9 rfl 0 rfl ?_
    refine ps_iload_n hG dX11_owes_10 rfl 2 rfl ?_
    obtain ⟨r11, hr11, h⟩ := ps_bd h
    refine ps_callVI (As := [.int p2]) (rest := [.ref (w.2.1 80)]) (nA := 1) hG (c_X11_isPeer _ hw hr11) gX11_owes_X11_isPeer rfl (by decide +kernel) rfl ⟨Nat.le_of_ble_eq_true rfl, Nat.le_of_ble_eq_true rfl⟩ ⟨rfl, rfl⟩ ⟨Nat.le_of_ble_eq_true rfl, Nat.le_of_ble_eq_true rfl⟩ (ps_lt hw ps_q80.2.2.1) (ps_cel_20 ps_q80.1 _) rfl rfl (Nat.le_of_ble_eq_true rfl) dX11_owes_11 ?_
    refine ps_if_eq (tgt := 21) hG dX11_owes_14 (by decide) (fun c14 => ?_) (fun c14 => ?_)
    · replace h := ps_ip c14 h
      refine ps_iconst (v := 1) hG dX11_owes_21 (by decide) ?_
      exact (ps_sub [0, 1, 2] rfl (hJ22 1 h))
    · replace h := ps_in c14 h
      refine ps_iconst (v := 0) hG dX11_owes_17 (by decide) ?_
      refine ps_goto (tgt := 22) hG dX11_owes_18 (by decide) ?_
      exact (ps_sub [0, 1, 2] rfl (hJ22 0 h))
def f_X11_lessens_J162 (S : ps_S) (p1 : Int32) (p2 : Int32) (s1_22 : Int32) (s0_41 : Int32) (s0_103 : Int32) (s3_148 : Int32) (s1_162 : Int32) : Option (Int32 × ps_S) :=
  some (s0_103 * s1_162, ps_up (ps_up (ps_up S 101 ((16 * p1) + p2).toNatClampNeg ((S 101 ((16 * p1) + p2).toNatClampNeg) - s0_103)) 101 ((16 * p2) + s1_22).toNatClampNeg (((ps_up S 101 ((16 * p1) + p2).toNatClampNeg ((S 101 ((16 * p1) + p2).toNatClampNeg) - s0_103)) 101 ((16 * p2) + s1_22).toNatClampNeg) - s0_103)) 101 s0_41.toNatClampNeg (((ps_up (ps_up S 101 ((16 * p1) + p2).toNatClampNeg ((S 101 ((16 * p1) + p2).toNatClampNeg) - s0_103)) 101 ((16 * p2) + s1_22).toNatClampNeg (((ps_up S 101 ((16 * p1) + p2).toNatClampNeg ((S 101 ((16 * p1) + p2).toNatClampNeg) - s0_103)) 101 ((16 * p2) + s1_22).toNatClampNeg) - s0_103)) 101 s0_41.toNatClampNeg) - s3_148))
def f_X11_lessens_J148 (S : ps_S) (p1 : Int32) (p2 : Int32) (p3 : Int32) (s1_22 : Int32) (s0_41 : Int32) (s0_103 : Int32) (s3_148 : Int32) : Option (Int32 × ps_S) :=
  (if ps_ib s0_41 256 = true then
            (if p3 = p1 then
              f_X11_lessens_J162 S p1 p2 s1_22 s0_41 s0_103 s3_148 2
            else
              f_X11_lessens_J162 S p1 p2 s1_22 s0_41 s0_103 s3_148 3) else none)
def f_X11_lessens_J103 (S : ps_S) (p1 : Int32) (p2 : Int32) (p3 : Int32) (s1_22 : Int32) (s0_41 : Int32) (s0_103 : Int32) : Option (Int32 × ps_S) :=
  (if ps_ib ((16 * p1) + p2) 256 = true then
          (if ps_ib ((16 * p1) + p2) 256 = true then
          (if ps_ib ((16 * p2) + s1_22) 256 = true then
          (if ps_ib ((16 * p2) + s1_22) 256 = true then
          (if ps_ib s0_41 256 = true then
          (if p3 = p1 then
            f_X11_lessens_J148 S p1 p2 p3 s1_22 s0_41 s0_103 0
          else
            f_X11_lessens_J148 S p1 p2 p3 s1_22 s0_41 s0_103 s0_103) else none) else none) else none) else none) else none)
def f_X11_lessens_J77 (S : ps_S) (p1 : Int32) (p2 : Int32) (p3 : Int32) (s1_22 : Int32) (s0_41 : Int32) (s0_77 : Int32) : Option (Int32 × ps_S) :=
  (if ps_ib s0_41 256 = true then
        (if s0_77 ≤ (S 101 s0_41.toNatClampNeg) then
          f_X11_lessens_J103 S p1 p2 p3 s1_22 s0_41 s0_77
        else
          (if ps_ib s0_41 256 = true then
          f_X11_lessens_J103 S p1 p2 p3 s1_22 s0_41 (S 101 s0_41.toNatClampNeg) else none)) else none)
def f_X11_lessens_J41 (S : ps_S) (p1 : Int32) (p2 : Int32) (p3 : Int32) (s1_22 : Int32) (s0_41 : Int32) : Option (Int32 × ps_S) :=
  (if ps_ib ((16 * p1) + p2) 256 = true then
      (if ps_ib ((16 * p2) + s1_22) 256 = true then
      (if (S 101 ((16 * p2) + s1_22).toNatClampNeg) ≤ (S 101 ((16 * p1) + p2).toNatClampNeg) then
        (if ps_ib ((16 * p2) + s1_22) 256 = true then
        f_X11_lessens_J77 S p1 p2 p3 s1_22 s0_41 (S 101 ((16 * p2) + s1_22).toNatClampNeg) else none)
      else
        (if ps_ib ((16 * p1) + p2) 256 = true then
        f_X11_lessens_J77 S p1 p2 p3 s1_22 s0_41 (S 101 ((16 * p1) + p2).toNatClampNeg) else none)) else none) else none)
def f_X11_lessens_J22 (S : ps_S) (p1 : Int32) (p2 : Int32) (p3 : Int32) (s1_22 : Int32) : Option (Int32 × ps_S) :=
  (if p3 = p1 then
      f_X11_lessens_J41 S p1 p2 p3 s1_22 ((16 * p2) + s1_22)
    else
      f_X11_lessens_J41 S p1 p2 p3 s1_22 ((16 * p3) + p1))
def f_X11_lessens (S : ps_S) (p1 : Int32) (p2 : Int32) (p3 : Int32) : Option (Int32 × ps_S) :=
  (if p3 = p1 then
    f_X11_lessens_J22 S p1 p2 p3 p1
  else
    f_X11_lessens_J22 S p1 p2 p3 p3)
theorem inX11_lessens_X11 : ∀ q ∈ wsX110, q ∈ wsX11_lessens := fun _ h => List.mem_cons_of_mem _ (List.mem_append_right _ h)
theorem mX11_lessens_71 : Cond.fieldLink RX11 71 (TX11 27).1 (TX11 27).2.1 (TX11 27).2.2.1 ∈ wsX11_lessens := List.mem_of_getElem? (i := 1) rfl
set_option maxHeartbeats 4000000 in
set_option maxRecDepth 100000 in
theorem c_X11_lessens (l : Launch) {w : ps_X} (hw : ps_ww w) {S S' : ps_S} {p1 p2 p3 : Int32} {r : Int32} (h : f_X11_lessens S p1 p2 p3 = some (r, S')) : ps_MetI l yX11_lessens wsX11_lessens (ps_rm 0 0) w [.ref (w.2.1 80), .int p1, .int p2, .int p3] S S' r := by
  refine ps_mkI (cc := cX11_lessens) (maxL := 8) (own := RX11) (by decide +kernel) rfl (Or.inl rfl) rfl (Nat.le_of_ble_eq_true rfl) rfl (fun G hl hG hret => ?_)
  unfold f_X11_lessens at h
  refine ps_bipush (v := 16) hG dX11_lessens_0 (by decide) ?_
  refine ps_iload_n hG dX11_lessens_2 rfl 1 rfl ?_
  refine ps_imul hG dX11_lessens_3 ?_
  refine ps_iload_n hG dX11_lessens_4 rfl 2 rfl ?_
  refine ps_iadd hG dX11_lessens_5 ?_
  refine ps_istore (lv' := [(4, .int ((16 * p1) + p2)), (0, .ref (w.2.1 80)), (1, .int p1), (2, .int p2), (3, .int p3)]) hG dX11_lessens_6 (by decide) rfl ?_
  refine ps_bipush (v := 16) hG dX11_lessens_8 (by decide) ?_
  refine ps_iload_n hG dX11_lessens_10 rfl 3 rfl ?_
  refine ps_imul hG dX11_lessens_11 ?_
  refine ps_iload_n hG dX11_lessens_12 rfl 4 rfl ?_
  refine ps_iload_n hG dX11_lessens_13 rfl 2 rfl ?_
  have hJ22 : ∀ (s1_22 : Int32), f_X11_lessens_J22 S p1 p2 p3 s1_22 = some (r, S') → ps_V G 8 0 0 w S 22 [(0, .ref (w.2.1 80)), (1, .int p1), (3, .int p3), (4, .int ((16 * p1) + p2))] [.int s1_22, .int (16 * p2)] := by
    intro s1_22 h
    unfold f_X11_lessens_J22 at h
    refine ps_iadd hG dX11_lessens_22 ?_
    refine ps_istore (lv' := [(5, .int ((16 * p2) + s1_22)), (0, .ref (w.2.1 80)), (1, .int p1), (3, .int p3), (4, .int ((16 * p1) + p2))]) hG dX11_lessens_23 (by decide) rfl ?_
    refine ps_iload_n hG dX11_lessens_25 rfl 3 rfl ?_
    refine ps_iload_n hG dX11_lessens_26 rfl 2 rfl ?_
    have hJ41 : ∀ (s0_41 : Int32), f_X11_lessens_J41 S p1 p2 p3 s1_22 s0_41 = some (r, S') → ps_V G 8 0 0 w S 41 [(0, .ref (w.2.1 80)), (1, .int p1), (3, .int p3), (4, .int ((16 * p1) + p2)), (5, .int ((16 * p2) + s1_22))] [.int s0_41] := by
      intro s0_41 h
      unfold f_X11_lessens_J41 at h
      refine ps_istore (lv' := [(6, .int s0_41), (0, .ref (w.2.1 80)), (1, .int p1), (3, .int p3), (4, .int ((16 * p1) + p2)), (5, .int ((16 * p2) + s1_22))]) hG dX11_lessens_41 (by decide) rfl ?_
      refine ps_aload_n hG dX11_lessens_43 rfl 1 rfl ?_
      refine ps_get20_27 hG hw inX11_lessens_X11 ps_q80.1 (ps_lt hw ps_q80.2.2.1) mX11_lessens_71 dX11_lessens_44 ?_
      refine ps_iload hG dX11_lessens_47 4 rfl ?_
      obtain ⟨hb49, h⟩ := ps_ig h
      refine ps_iald hG ps_q101.1 ps_q101.2.1 (ps_lt hw ps_q101.2.2.1) hb49 dX11_lessens_49 ?_
      refine ps_aload_n hG dX11_lessens_50 rfl 1 rfl ?_
      refine ps_get20_27 hG hw inX11_lessens_X11 ps_q80.1 (ps_lt hw ps_q80.2.2.1) mX11_lessens_71 dX11_lessens_51 ?_
      refine ps_iload hG dX11_lessens_54 5 rfl ?_
      obtain ⟨hb56, h⟩ := ps_ig h
      refine ps_iald hG ps_q101.1 ps_q101.2.1 (ps_lt hw ps_q101.2.2.1) hb56 dX11_lessens_56 ?_
      have hJ77 : ∀ (s0_77 : Int32), f_X11_lessens_J77 S p1 p2 p3 s1_22 s0_41 s0_77 = some (r, S') → ps_V G 8 0 0 w S 77 [(0, .ref (w.2.1 80)), (1, .int p1), (3, .int p3), (4, .int ((16 * p1) + p2)), (5, .int ((16 * p2) + s1_22)), (6, .int s0_41)] [.int s0_77] := by
        intro s0_77 h
        unfold f_X11_lessens_J77 at h
        refine ps_istore (lv' := [(7, .int s0_77), (0, .ref (w.2.1 80)), (1, .int p1), (3, .int p3), (4, .int ((16 * p1) + p2)), (5, .int ((16 * p2) + s1_22)), (6, .int s0_41)]) hG dX11_lessens_77 (by decide) rfl ?_
        refine ps_aload_n hG dX11_lessens_79 rfl 1 rfl ?_
        refine ps_get20_27 hG hw inX11_lessens_X11 ps_q80.1 (ps_lt hw ps_q80.2.2.1) mX11_lessens_71 dX11_lessens_80 ?_
        refine ps_iload hG dX11_lessens_83 6 rfl ?_
        obtain ⟨hb85, h⟩ := ps_ig h
        refine ps_iald hG ps_q101.1 ps_q101.2.1 (ps_lt hw ps_q101.2.2.1) hb85 dX11_lessens_85 ?_
        refine ps_iload hG dX11_lessens_86 0 rfl ?_
        have hJ103 : ∀ (s0_103 : Int32), f_X11_lessens_J103 S p1 p2 p3 s1_22 s0_41 s0_103 = some (r, S') → ps_V G 8 0 0 w S 103 [(0, .ref (w.2.1 80)), (1, .int p1), (3, .int p3), (4, .int ((16 * p1) + p2)), (5, .int ((16 * p2) + s1_22)), (6, .int s0_41)] [.int s0_103] := by
          intro s0_103 h
          unfold f_X11_lessens_J103 at h
          refine ps_istore (lv' := [(7, .int s0_103), (0, .ref (w.2.1 80)), (1, .int p1), (3, .int p3), (4, .int ((16 * p1) + p2)), (5, .int ((16 * p2) + s1_22)), (6, .int s0_41)]) hG dX11_lessens_103 (by decide) rfl ?_
          refine ps_aload_n hG dX11_lessens_105 rfl 1 rfl ?_
          refine ps_get20_27 hG hw inX11_lessens_X11 ps_q80.1 (ps_lt hw ps_q80.2.2.1) mX11_lessens_71 dX11_lessens_106 ?_
          refine ps_iload hG dX11_lessens_109 4 rfl ?_
          refine ps_dup2 hG dX11_lessens_111 rfl rfl ?_
          obtain ⟨hb112, h⟩ := ps_ig h
          refine ps_iald hG ps_q101.1 ps_q101.2.1 (ps_lt hw ps_q101.2.2.1) hb112 dX11_lessens_112 ?_
          refine ps_iload hG dX11_lessens_113 0 rfl ?_
          refine ps_isub hG dX11_lessens_115 ?_
          obtain ⟨hb116, h⟩ := ps_ig h
          refine ps_iast hG ps_q101.1 ps_q101.2.1 (ps_lt hw ps_q101.2.2.1) hb116 dX11_lessens_116 ?_
          refine ps_aload_n hG dX11_lessens_117 rfl 1 rfl ?_
          refine ps_get20_27 hG hw inX11_lessens_X11 ps_q80.1 (ps_lt hw ps_q80.2.2.1) mX11_lessens_71 dX11_lessens_118 ?_
          refine ps_iload hG dX11_lessens_121 5 rfl ?_
          refine ps_dup2 hG dX11_lessens_123 rfl rfl ?_
          obtain ⟨hb124, h⟩ := ps_ig h
          refine ps_iald hG ps_q101.1 ps_q101.2.1 (ps_lt hw ps_q101.2.2.1) hb124 dX11_lessens_124 ?_
          refine ps_iload hG dX11_lessens_125 0 rfl ?_
          refine ps_isub hG dX11_lessens_127 ?_
          obtain ⟨hb128, h⟩ := ps_ig h
          refine ps_iast hG ps_q101.1 ps_q101.2.1 (ps_lt hw ps_q101.2.2.1) hb128 dX11_lessens_128 ?_
          refine ps_aload_n hG dX11_lessens_129 rfl 1 rfl ?_
          refine ps_get20_27 hG hw inX11_lessens_X11 ps_q80.1 (ps_lt hw ps_q80.2.2.1) mX11_lessens_71 dX11_lessens_130 ?_
          refine ps_iload hG dX11_lessens_133 6 rfl ?_
          refine ps_dup2 hG dX11_lessens_135 rfl rfl ?_
          obtain ⟨hb136, h⟩ := ps_ig h
          refine ps_iald hG ps_q101.1 ps_q101.2.1 (ps_lt hw ps_q101.2.2.1) hb136 dX11_lessens_136 ?_
          refine ps_iload_n hG dX11_lessens_137 rfl 3 rfl ?_
          refine ps_iload_n hG dX11_lessens_138 rfl 2 rfl ?_
          have hJ148 : ∀ (s3_148 : Int32), f_X11_lessens_J148 S p1 p2 p3 s1_22 s0_41 s0_103 s3_148 = some (r, S') → ps_V G 8 0 0 w (ps_up (ps_up S 101 ((16 * p1) + p2).toNatClampNeg ((S 101 ((16 * p1) + p2).toNatClampNeg) - s0_103)) 101 ((16 * p2) + s1_22).toNatClampNeg (((ps_up S 101 ((16 * p1) + p2).toNatClampNeg ((S 101 ((16 * p1) + p2).toNatClampNeg) - s0_103)) 101 ((16 * p2) + s1_22).toNatClampNeg) - s0_103)) 148 [(1, .int p1), (3, .int p3), (7, .int s0_103)] [.int s3_148, .int ((ps_up (ps_up S 101 ((16 * p1) + p2).toNatClampNeg ((S 101 ((16 * p1) + p2).toNatClampNeg) - s0_103)) 101 ((16 * p2) + s1_22).toNatClampNeg (((ps_up S 101 ((16 * p1) + p2).toNatClampNeg ((S 101 ((16 * p1) + p2).toNatClampNeg) - s0_103)) 101 ((16 * p2) + s1_22).toNatClampNeg) - s0_103)) 101 s0_41.toNatClampNeg), .int s0_41, .ref (w.2.1 101)] := by
            intro s3_148 h
            unfold f_X11_lessens_J148 at h
            refine ps_isub hG dX11_lessens_148 ?_
            obtain ⟨hb149, h⟩ := ps_ig h
            refine ps_iast hG ps_q101.1 ps_q101.2.1 (ps_lt hw ps_q101.2.2.1) hb149 dX11_lessens_149 ?_
            refine ps_iload hG dX11_lessens_150 2 rfl ?_
            refine ps_iload_n hG dX11_lessens_152 rfl 1 rfl ?_
            refine ps_iload_n hG dX11_lessens_153 rfl 0 rfl ?_
            have hJ162 : ∀ (s1_162 : Int32), f_X11_lessens_J162 S p1 p2 s1_22 s0_41 s0_103 s3_148 s1_162 = some (r, S') → ps_V G 8 0 0 w (ps_up (ps_up (ps_up S 101 ((16 * p1) + p2).toNatClampNeg ((S 101 ((16 * p1) + p2).toNatClampNeg) - s0_103)) 101 ((16 * p2) + s1_22).toNatClampNeg (((ps_up S 101 ((16 * p1) + p2).toNatClampNeg ((S 101 ((16 * p1) + p2).toNatClampNeg) - s0_103)) 101 ((16 * p2) + s1_22).toNatClampNeg) - s0_103)) 101 s0_41.toNatClampNeg (((ps_up (ps_up S 101 ((16 * p1) + p2).toNatClampNeg ((S 101 ((16 * p1) + p2).toNatClampNeg) - s0_103)) 101 ((16 * p2) + s1_22).toNatClampNeg (((ps_up S 101 ((16 * p1) + p2).toNatClampNeg ((S 101 ((16 * p1) + p2).toNatClampNeg) - s0_103)) 101 ((16 * p2) + s1_22).toNatClampNeg) - s0_103)) 101 s0_41.toNatClampNeg) - s3_148)) 162 [] [.int s1_162, .int s0_103] := by
              intro s1_162 h
              unfold f_X11_lessens_J162 at h
              refine ps_imul hG dX11_lessens_162 ?_
              cases h
              exact hret _ _ dX11_lessens_163
            refine ps_icmp_ne (tgt := 161) hG dX11_lessens_154 (by decide) (fun c154 => ?_) (fun c154 => ?_)
            · replace h := ps_in c154 h
              refine ps_iconst (v := 3) hG dX11_lessens_161 (by decide) ?_
              exact (ps_sub [] rfl (hJ162 3 h))
            · replace h := ps_ip c154 h
              refine ps_iconst (v := 2) hG dX11_lessens_157 (by decide) ?_
              refine ps_goto (tgt := 162) hG dX11_lessens_158 (by decide) ?_
              exact (ps_sub [] rfl (hJ162 2 h))
          refine ps_icmp_ne (tgt := 146) hG dX11_lessens_139 (by decide) (fun c139 => ?_) (fun c139 => ?_)
          · replace h := ps_in c139 h
            refine ps_iload hG dX11_lessens_146 0 rfl ?_
            exact (ps_sub [2, 3, 0] rfl (hJ148 s0_103 h))
          · replace h := ps_ip c139 h
            refine ps_iconst (v := 0) hG dX11_lessens_142 (by decide) ?_
            refine ps_goto (tgt := 148) hG dX11_lessens_143 (by decide) ?_
            exact (ps_sub [2, 3, 0] rfl (hJ148 0 h))
        refine ps_icmp_ge (tgt := 101) hG dX11_lessens_88 (by decide) (fun c88 => ?_) (fun c88 => ?_)
        · replace h := ps_ip c88 h
          refine ps_iload hG dX11_lessens_101 0 rfl ?_
          exact (ps_sub [1, 2, 3, 4, 5, 6] rfl (hJ103 s0_77 h))
        · replace h := ps_in c88 h
          refine ps_aload_n hG dX11_lessens_91 rfl 1 rfl ?_
          refine ps_get20_27 hG hw inX11_lessens_X11 ps_q80.1 (ps_lt hw ps_q80.2.2.1) mX11_lessens_71 dX11_lessens_92 ?_
          refine ps_iload hG dX11_lessens_95 6 rfl ?_
          obtain ⟨hb97, h⟩ := ps_ig h
          refine ps_iald hG ps_q101.1 ps_q101.2.1 (ps_lt hw ps_q101.2.2.1) hb97 dX11_lessens_97 ?_
          refine ps_goto (tgt := 103) hG dX11_lessens_98 (by decide) ?_
          exact (ps_sub [1, 2, 3, 4, 5, 6] rfl (hJ103 (S 101 s0_41.toNatClampNeg) h))
      refine ps_icmp_ge (tgt := 70) hG dX11_lessens_57 (by decide) (fun c57 => ?_) (fun c57 => ?_)
      · replace h := ps_ip c57 h
        refine ps_aload_n hG dX11_lessens_70 rfl 1 rfl ?_
        refine ps_get20_27 hG hw inX11_lessens_X11 ps_q80.1 (ps_lt hw ps_q80.2.2.1) mX11_lessens_71 dX11_lessens_71 ?_
        refine ps_iload hG dX11_lessens_74 5 rfl ?_
        obtain ⟨hb76, h⟩ := ps_ig h
        refine ps_iald hG ps_q101.1 ps_q101.2.1 (ps_lt hw ps_q101.2.2.1) hb76 dX11_lessens_76 ?_
        exact (ps_sub [1, 2, 3, 4, 5, 0] rfl (hJ77 (S 101 ((16 * p2) + s1_22).toNatClampNeg) h))
      · replace h := ps_in c57 h
        refine ps_aload_n hG dX11_lessens_60 rfl 1 rfl ?_
        refine ps_get20_27 hG hw inX11_lessens_X11 ps_q80.1 (ps_lt hw ps_q80.2.2.1) mX11_lessens_71 dX11_lessens_61 ?_
        refine ps_iload hG dX11_lessens_64 4 rfl ?_
        obtain ⟨hb66, h⟩ := ps_ig h
        refine ps_iald hG ps_q101.1 ps_q101.2.1 (ps_lt hw ps_q101.2.2.1) hb66 dX11_lessens_66 ?_
        refine ps_goto (tgt := 77) hG dX11_lessens_67 (by decide) ?_
        exact (ps_sub [1, 2, 3, 4, 5, 0] rfl (hJ77 (S 101 ((16 * p1) + p2).toNatClampNeg) h))
    refine ps_icmp_ne (tgt := 35) hG dX11_lessens_27 (by decide) (fun c27 => ?_) (fun c27 => ?_)
    · replace h := ps_in c27 h
      refine ps_bipush (v := 16) hG dX11_lessens_35 (by decide) ?_
      refine ps_iload_n hG dX11_lessens_37 rfl 3 rfl ?_
      refine ps_imul hG dX11_lessens_38 ?_
      refine ps_iload_n hG dX11_lessens_39 rfl 2 rfl ?_
      refine ps_iadd hG dX11_lessens_40 ?_
      exact (ps_sub [1, 2, 3, 4, 0] rfl (hJ41 ((16 * p3) + p1) h))
    · replace h := ps_ip c27 h
      refine ps_iload hG dX11_lessens_30 0 rfl ?_
      refine ps_goto (tgt := 41) hG dX11_lessens_32 (by decide) ?_
      exact (ps_sub [1, 2, 3, 4, 0] rfl (hJ41 ((16 * p2) + s1_22) h))
  refine ps_icmp_ne (tgt := 21) hG dX11_lessens_14 (by decide) (fun c14 => ?_) (fun c14 => ?_)
  · replace h := ps_in c14 h
    refine ps_iload_n hG dX11_lessens_21 rfl 4 rfl ?_
    exact (ps_sub [1, 2, 4, 0] rfl (hJ22 p3 h))
  · replace h := ps_ip c14 h
    refine ps_iload_n hG dX11_lessens_17 rfl 2 rfl ?_
    refine ps_goto (tgt := 22) hG dX11_lessens_18 (by decide) ?_
    exact (ps_sub [1, 2, 4, 0] rfl (hJ22 p1 h))
def f_X11_nets_L14 (v1_2 : Int32) (T14 : ps_S) (v2_14 : Int32) : Option ((ps_S × Int32) ⊕ ((ps_S) ⊕ (Int32 × ps_S))) :=
  (if (T14 80 2) ≤ v2_14 then
              some (.inr (.inl T14))
            else
              (ps_b2 (f_X11_lessens T14 v1_2 v2_14 v1_2) fun r26 S26 =>
              (if r26 ≤ 0 then
                some (.inl (S26, v2_14 + 1))
              else
                some (.inr (.inr (r26, S26))))))
def f_X11_nets_L2  (T2 : ps_S) (v1_2 : Int32) : Option ((ps_S × Int32) ⊕ ((ps_S) ⊕ (Int32 × ps_S))) :=
  (if (T2 80 2) ≤ v1_2 then
        some (.inr (.inl T2))
      else
        ps_lts (v1_2 + 1) (fun x2_13 => ps_bs (ps_it (fun (a : ps_S × Int32) => f_X11_nets_L14 v1_2 a.1 a.2) ps_fu (T2, x2_13))
        (fun q => (fun S14 => some (.inl (S14, v1_2 + 1))) q)
        (fun q => some (.inr (.inr q)))))
def f_X11_nets_J98 (v3_74 : Int32) (T98 : ps_S) (s0_98 : Int32) : Option ((ps_S × Int32) ⊕ ((ps_S) ⊕ (Int32 × ps_S))) :=
  (if s0_98 ≤ 0 then
                        some (.inl (T98, v3_74 + 1))
                      else
                        some (.inr (.inr (s0_98, T98))))
def f_X11_nets_L74 (v1_50 : Int32) (v2_62 : Int32) (T74 : ps_S) (v3_74 : Int32) : Option ((ps_S × Int32) ⊕ ((ps_S) ⊕ (Int32 × ps_S))) :=
  (if (T74 80 2) ≤ v3_74 then
                    some (.inr (.inl T74))
                  else
                    (if v3_74 = v2_62 then
                      f_X11_nets_J98 v3_74 T74 0
                    else
                      (ps_b2 (f_X11_lessens T74 v1_50 v2_62 v3_74) fun r95 S95 =>
                      f_X11_nets_J98 v3_74 S95 r95)))
def f_X11_nets_L62 (v1_50 : Int32) (T62 : ps_S) (v2_62 : Int32) : Option ((ps_S × Int32) ⊕ ((ps_S) ⊕ (Int32 × ps_S))) :=
  (if (T62 80 2) ≤ v2_62 then
              some (.inr (.inl T62))
            else
              ps_bs (ps_it (fun (a : ps_S × Int32) => f_X11_nets_L74 v1_50 v2_62 a.1 a.2) ps_fu (T62, v1_50 + 1))
              (fun q => (fun S74 => some (.inl (S74, v2_62 + 1))) q)
              (fun q => some (.inr (.inr q))))
def f_X11_nets_L50  (T50 : ps_S) (v1_50 : Int32) : Option ((ps_S × Int32) ⊕ ((ps_S) ⊕ (Int32 × ps_S))) :=
  (if (T50 80 2) ≤ v1_50 then
        some (.inr (.inl T50))
      else
        ps_lts (v1_50 + 1) (fun x2_61 => ps_bs (ps_it (fun (a : ps_S × Int32) => f_X11_nets_L62 v1_50 a.1 a.2) ps_fu (T50, x2_61))
        (fun q => (fun S62 => some (.inl (S62, v1_50 + 1))) q)
        (fun q => some (.inr (.inr q)))))
def f_X11_nets (S : ps_S) : Option (Int32 × ps_S) :=
  ps_bs (ps_it (fun (a : ps_S × Int32) => f_X11_nets_L2 a.1 a.2) ps_fu (S, 0))
  (fun q => (fun S2 => ps_bs (ps_it (fun (a : ps_S × Int32) => f_X11_nets_L50 a.1 a.2) ps_fu (S2, 0))
  (fun q => (fun S50 => some (0, S50)) q)
  (fun q => some q)) q)
  (fun q => some q)
theorem inX11_nets_X11 : ∀ q ∈ wsX110, q ∈ wsX11_nets := fun _ h => List.mem_cons_of_mem _ (List.mem_append_right _ h)
theorem mX11_nets_78 : Cond.fieldLink RX11 78 (TX11 2).1 (TX11 2).2.1 (TX11 2).2.2.1 ∈ wsX11_nets := List.mem_of_getElem? (i := 1) rfl
set_option maxHeartbeats 4000000 in
set_option maxRecDepth 100000 in
theorem c_X11_nets (l : Launch) {w : ps_X} (hw : ps_ww w) {S S' : ps_S} {r : Int32} (h : f_X11_nets S = some (r, S')) : ps_MetI l yX11_nets wsX11_nets (ps_rm 1 27) w [.ref (w.2.1 80)] S S' r := by
  refine ps_mkI (cc := cX11_nets) (maxL := 5) (own := RX11) (by decide +kernel) rfl (Or.inl rfl) rfl (Nat.le_of_ble_eq_true rfl) rfl (fun G hl hG hret => ?_)
  unfold f_X11_nets at h
  refine ps_iconst (v := 0) hG dX11_nets_0 (by decide) ?_
  refine ps_istore_n (lv' := [(1, .int 0), (0, .ref (w.2.1 80))]) hG dX11_nets_1 rfl (by decide) rfl ?_
  have h0 := ps_bd h
  obtain ⟨q2, hq2, h⟩ := h0
  refine (ps_sub [1, 0] rfl (ps_itV (fun (a : ps_S × Int32) => ps_V G 5 0 0 w a.1 2 [(0, .ref (w.2.1 80)), (1, .int a.2)] []) (Sum.elim (fun (b : ps_S) => ps_V G 5 0 0 w b 48 [(0, .ref (w.2.1 80))] []) (fun (q : (Int32 × ps_S)) => ∀ pc lv, decode cX11_nets pc = .ok (.ireturn, 1) → ps_V G 5 0 0 w q.2 pc lv [.int q.1])) ?_ _ _ _ hq2 ?_))
  · intro a r9 h kc ke
    obtain ⟨T2, v1_2⟩ := a
    replace h : f_X11_nets_L2 T2 v1_2 = some r9 := h
    show ps_V G 5 0 0 w T2 2 [(0, .ref (w.2.1 80)), (1, .int v1_2)] []
    unfold f_X11_nets_L2 at h
    refine ps_iload_n hG dX11_nets_2 rfl 1 rfl ?_
    refine ps_aload_n hG dX11_nets_3 rfl 0 rfl ?_
    refine ps_get20_2 hG inX11_nets_X11 ps_q80.1 (ps_lt hw ps_q80.2.2.1) mX11_nets_78 dX11_nets_4 ?_
    refine ps_icmp_ge (tgt := 48) hG dX11_nets_7 (by decide) (fun c7 => ?_) (fun c7 => ?_)
    · replace h := ps_ip c7 h
      cases h
      exact (ps_sub [0] rfl (ke _ rfl))
    · replace h := ps_in c7 h
      refine ps_iload_n hG dX11_nets_10 rfl 1 rfl ?_
      refine ps_iconst (v := 1) hG dX11_nets_11 (by decide) ?_
      refine ps_iadd hG dX11_nets_12 ?_
      refine ps_let h (fun x2_13 h => ?_)
      refine ps_istore_n (lv' := [(2, .int x2_13), (0, .ref (w.2.1 80)), (1, .int v1_2)]) hG dX11_nets_13 rfl (by decide) rfl ?_
      have h0 := ps_bd h
      obtain ⟨q14, hq14, h⟩ := h0
      refine (ps_sub [1, 2, 0] rfl (ps_itV (fun (a : ps_S × Int32) => ps_V G 5 0 0 w a.1 14 [(0, .ref (w.2.1 80)), (1, .int v1_2), (2, .int a.2)] []) (Sum.elim (fun (b : ps_S) => ps_V G 5 0 0 w b 42 [(0, .ref (w.2.1 80)), (1, .int v1_2)] []) (fun (q : (Int32 × ps_S)) => ∀ pc lv, decode cX11_nets pc = .ok (.ireturn, 1) → ps_V G 5 0 0 w q.2 pc lv [.int q.1])) ?_ _ _ _ hq14 ?_))
      · intro a r9 h kc ke
        obtain ⟨T14, v2_14⟩ := a
        replace h : f_X11_nets_L14 v1_2 T14 v2_14 = some r9 := h
        show ps_V G 5 0 0 w T14 14 [(0, .ref (w.2.1 80)), (1, .int v1_2), (2, .int v2_14)] []
        unfold f_X11_nets_L14 at h
        refine ps_iload_n hG dX11_nets_14 rfl 2 rfl ?_
        refine ps_aload_n hG dX11_nets_15 rfl 0 rfl ?_
        refine ps_get20_2 hG inX11_nets_X11 ps_q80.1 (ps_lt hw ps_q80.2.2.1) mX11_nets_78 dX11_nets_16 ?_
        refine ps_icmp_ge (tgt := 42) hG dX11_nets_19 (by decide) (fun c19 => ?_) (fun c19 => ?_)
        · replace h := ps_ip c19 h
          cases h
          exact (ps_sub [0, 1] rfl (ke _ rfl))
        · replace h := ps_in c19 h
          refine ps_aload_n hG dX11_nets_22 rfl 0 rfl ?_
          refine ps_iload_n hG dX11_nets_23 rfl 1 rfl ?_
          refine ps_iload_n hG dX11_nets_24 rfl 2 rfl ?_
          refine ps_iload_n hG dX11_nets_25 rfl 1 rfl ?_
          obtain ⟨r26, S26, hr26, h⟩ := ps_d2 h
          refine ps_callVI (As := [.int v1_2, .int v2_14, .int v1_2]) (rest := []) (nA := 3) hG (c_X11_lessens _ hw hr26) gX11_nets_X11_lessens rfl (by decide +kernel) rfl ⟨Nat.le_of_ble_eq_true rfl, Nat.le_of_ble_eq_true rfl⟩ ⟨rfl, rfl⟩ ⟨Nat.le_of_ble_eq_true rfl, Nat.le_of_ble_eq_true rfl⟩ (ps_lt hw ps_q80.2.2.1) (ps_cel_20 ps_q80.1 _) rfl rfl (Nat.le_of_ble_eq_true rfl) dX11_nets_26 ?_
          refine ps_istore_n (lv' := [(3, .int r26), (0, .ref (w.2.1 80)), (1, .int v1_2), (2, .int v2_14)]) hG dX11_nets_29 rfl (by decide) rfl ?_
          refine ps_iload_n hG dX11_nets_30 rfl 0 rfl ?_
          refine ps_if_le (tgt := 36) hG dX11_nets_31 (by decide) (fun c31 => ?_) (fun c31 => ?_)
          · replace h := ps_ip c31 h
            refine ps_iinc (lv' := [(2, .int (v2_14 + 1)), (3, .int r26), (0, .ref (w.2.1 80)), (1, .int v1_2)]) hG dX11_nets_36 3 rfl (by rfl) (by decide) rfl ?_
            refine ps_goto (tgt := 14) hG dX11_nets_39 (by decide) ?_
            cases h
            exact (ps_sub [2, 3, 0] rfl (kc _ rfl))
          · replace h := ps_in c31 h
            refine ps_iload_n hG dX11_nets_34 rfl 0 rfl ?_
            cases h
            exact ke _ rfl _ _ dX11_nets_35
      · rcases q14 with S14 | q
        · skip
          show ps_V G 5 0 0 w S14 42 [(0, .ref (w.2.1 80)), (1, .int v1_2)] []
          replace h : (some (.inl (S14, v1_2 + 1))) = some r9 := h
          refine ps_iinc (lv' := [(1, .int (v1_2 + 1)), (0, .ref (w.2.1 80))]) hG dX11_nets_42 1 rfl (by rfl) (by decide) rfl ?_
          refine ps_goto (tgt := 2) hG dX11_nets_45 (by decide) ?_
          cases h
          exact (ps_sub [1, 0] rfl (kc _ rfl))
        · cases h
          exact ke _ rfl
  · rcases q2 with S2 | q
    · skip
      show ps_V G 5 0 0 w S2 48 [(0, .ref (w.2.1 80))] []
      replace h : (ps_bs (ps_it (fun (a : ps_S × Int32) => f_X11_nets_L50 a.1 a.2) ps_fu (S2, 0)) (fun q => (fun S50 => some (0, S50)) q) (fun q => some q)) = some (r, S') := h
      refine ps_iconst (v := 0) hG dX11_nets_48 (by decide) ?_
      refine ps_istore_n (lv' := [(1, .int 0), (0, .ref (w.2.1 80))]) hG dX11_nets_49 rfl (by decide) rfl ?_
      have h0 := ps_bd h
      obtain ⟨q50, hq50, h⟩ := h0
      refine (ps_sub [1, 0] rfl (ps_itV (fun (a : ps_S × Int32) => ps_V G 5 0 0 w a.1 50 [(0, .ref (w.2.1 80)), (1, .int a.2)] []) (Sum.elim (fun (b : ps_S) => ps_V G 5 0 0 w b 126 [] []) (fun (q : (Int32 × ps_S)) => ∀ pc lv, decode cX11_nets pc = .ok (.ireturn, 1) → ps_V G 5 0 0 w q.2 pc lv [.int q.1])) ?_ _ _ _ hq50 ?_))
      · intro a r9 h kc ke
        obtain ⟨T50, v1_50⟩ := a
        replace h : f_X11_nets_L50 T50 v1_50 = some r9 := h
        show ps_V G 5 0 0 w T50 50 [(0, .ref (w.2.1 80)), (1, .int v1_50)] []
        unfold f_X11_nets_L50 at h
        refine ps_iload_n hG dX11_nets_50 rfl 1 rfl ?_
        refine ps_aload_n hG dX11_nets_51 rfl 0 rfl ?_
        refine ps_get20_2 hG inX11_nets_X11 ps_q80.1 (ps_lt hw ps_q80.2.2.1) mX11_nets_78 dX11_nets_52 ?_
        refine ps_icmp_ge (tgt := 126) hG dX11_nets_55 (by decide) (fun c55 => ?_) (fun c55 => ?_)
        · replace h := ps_ip c55 h
          cases h
          exact (ps_sub [] rfl (ke _ rfl))
        · replace h := ps_in c55 h
          refine ps_iload_n hG dX11_nets_58 rfl 1 rfl ?_
          refine ps_iconst (v := 1) hG dX11_nets_59 (by decide) ?_
          refine ps_iadd hG dX11_nets_60 ?_
          refine ps_let h (fun x2_61 h => ?_)
          refine ps_istore_n (lv' := [(2, .int x2_61), (0, .ref (w.2.1 80)), (1, .int v1_50)]) hG dX11_nets_61 rfl (by decide) rfl ?_
          have h0 := ps_bd h
          obtain ⟨q62, hq62, h⟩ := h0
          refine (ps_sub [1, 2, 0] rfl (ps_itV (fun (a : ps_S × Int32) => ps_V G 5 0 0 w a.1 62 [(0, .ref (w.2.1 80)), (1, .int v1_50), (2, .int a.2)] []) (Sum.elim (fun (b : ps_S) => ps_V G 5 0 0 w b 120 [(0, .ref (w.2.1 80)), (1, .int v1_50)] []) (fun (q : (Int32 × ps_S)) => ∀ pc lv, decode cX11_nets pc = .ok (.ireturn, 1) → ps_V G 5 0 0 w q.2 pc lv [.int q.1])) ?_ _ _ _ hq62 ?_))
          · intro a r9 h kc ke
            obtain ⟨T62, v2_62⟩ := a
            replace h : f_X11_nets_L62 v1_50 T62 v2_62 = some r9 := h
            show ps_V G 5 0 0 w T62 62 [(0, .ref (w.2.1 80)), (1, .int v1_50), (2, .int v2_62)] []
            unfold f_X11_nets_L62 at h
            refine ps_iload_n hG dX11_nets_62 rfl 2 rfl ?_
            refine ps_aload_n hG dX11_nets_63 rfl 0 rfl ?_
            refine ps_get20_2 hG inX11_nets_X11 ps_q80.1 (ps_lt hw ps_q80.2.2.1) mX11_nets_78 dX11_nets_64 ?_
            refine ps_icmp_ge (tgt := 120) hG dX11_nets_67 (by decide) (fun c67 => ?_) (fun c67 => ?_)
            · replace h := ps_ip c67 h
              cases h
              exact (ps_sub [0, 1] rfl (ke _ rfl))
            · replace h := ps_in c67 h
              refine ps_iload_n hG dX11_nets_70 rfl 1 rfl ?_
              refine ps_iconst (v := 1) hG dX11_nets_71 (by decide) ?_
              refine ps_iadd hG dX11_nets_72 ?_
              refine ps_istore_n (lv' := [(3, .int (v1_50 + 1)), (0, .ref (w.2.1 80)), (1, .int v1_50), (2, .int v2_62)]) hG dX11_nets_73 rfl (by decide) rfl ?_
              have h0 := ps_bd h
              obtain ⟨q74, hq74, h⟩ := h0
              refine (ps_sub [1, 2, 3, 0] rfl (ps_itV (fun (a : ps_S × Int32) => ps_V G 5 0 0 w a.1 74 [(0, .ref (w.2.1 80)), (1, .int v1_50), (2, .int v2_62), (3, .int a.2)] []) (Sum.elim (fun (b : ps_S) => ps_V G 5 0 0 w b 114 [(0, .ref (w.2.1 80)), (1, .int v1_50), (2, .int v2_62)] []) (fun (q : (Int32 × ps_S)) => ∀ pc lv, decode cX11_nets pc = .ok (.ireturn, 1) → ps_V G 5 0 0 w q.2 pc lv [.int q.1])) ?_ _ _ _ hq74 ?_))
              · intro a r9 h kc ke
                obtain ⟨T74, v3_74⟩ := a
                replace h : f_X11_nets_L74 v1_50 v2_62 T74 v3_74 = some r9 := h
                show ps_V G 5 0 0 w T74 74 [(0, .ref (w.2.1 80)), (1, .int v1_50), (2, .int v2_62), (3, .int v3_74)] []
                unfold f_X11_nets_L74 at h
                refine ps_iload_n hG dX11_nets_74 rfl 3 rfl ?_
                refine ps_aload_n hG dX11_nets_75 rfl 0 rfl ?_
                refine ps_get20_2 hG inX11_nets_X11 ps_q80.1 (ps_lt hw ps_q80.2.2.1) mX11_nets_78 dX11_nets_76 ?_
                refine ps_icmp_ge (tgt := 114) hG dX11_nets_79 (by decide) (fun c79 => ?_) (fun c79 => ?_)
                · replace h := ps_ip c79 h
                  cases h
                  exact (ps_sub [0, 1, 2] rfl (ke _ rfl))
                · replace h := ps_in c79 h
                  refine ps_iload_n hG dX11_nets_82 rfl 3 rfl ?_
                  refine ps_iload_n hG dX11_nets_83 rfl 2 rfl ?_
                  have hJ98 : ∀ (T98 : ps_S) (s0_98 : Int32), f_X11_nets_J98 v3_74 T98 s0_98 = some r9 → ps_V G 5 0 0 w T98 98 [(0, .ref (w.2.1 80)), (1, .int v1_50), (2, .int v2_62), (3, .int v3_74)] [.int s0_98] := by
                    intro T98 s0_98 h
                    unfold f_X11_nets_J98 at h
                    refine ps_istore (lv' := [(4, .int s0_98), (0, .ref (w.2.1 80)), (1, .int v1_50), (2, .int v2_62), (3, .int v3_74)]) hG dX11_nets_98 (by decide) rfl ?_
                    refine ps_iload hG dX11_nets_100 0 rfl ?_
                    refine ps_if_le (tgt := 108) hG dX11_nets_102 (by decide) (fun c102 => ?_) (fun c102 => ?_)
                    · replace h := ps_ip c102 h
                      refine ps_iinc (lv' := [(3, .int (v3_74 + 1)), (4, .int s0_98), (0, .ref (w.2.1 80)), (1, .int v1_50), (2, .int v2_62)]) hG dX11_nets_108 4 rfl (by rfl) (by decide) rfl ?_
                      refine ps_goto (tgt := 74) hG dX11_nets_111 (by decide) ?_
                      cases h
                      exact (ps_sub [2, 3, 4, 0] rfl (kc _ rfl))
                    · replace h := ps_in c102 h
                      refine ps_iload hG dX11_nets_105 0 rfl ?_
                      cases h
                      exact ke _ rfl _ _ dX11_nets_107
                  refine ps_icmp_ne (tgt := 91) hG dX11_nets_84 (by decide) (fun c84 => ?_) (fun c84 => ?_)
                  · replace h := ps_in c84 h
                    refine ps_aload_n hG dX11_nets_91 rfl 0 rfl ?_
                    refine ps_iload_n hG dX11_nets_92 rfl 1 rfl ?_
                    refine ps_iload_n hG dX11_nets_93 rfl 2 rfl ?_
                    refine ps_iload_n hG dX11_nets_94 rfl 3 rfl ?_
                    obtain ⟨r95, S95, hr95, h⟩ := ps_d2 h
                    refine ps_callVI (As := [.int v1_50, .int v2_62, .int v3_74]) (rest := []) (nA := 3) hG (c_X11_lessens _ hw hr95) gX11_nets_X11_lessens rfl (by decide +kernel) rfl ⟨Nat.le_of_ble_eq_true rfl, Nat.le_of_ble_eq_true rfl⟩ ⟨rfl, rfl⟩ ⟨Nat.le_of_ble_eq_true rfl, Nat.le_of_ble_eq_true rfl⟩ (ps_lt hw ps_q80.2.2.1) (ps_cel_20 ps_q80.1 _) rfl rfl (Nat.le_of_ble_eq_true rfl) dX11_nets_95 ?_
                    exact (ps_sub [0, 1, 2, 3] rfl (hJ98 S95 r95 h))
                  · replace h := ps_ip c84 h
                    refine ps_iconst (v := 0) hG dX11_nets_87 (by decide) ?_
                    refine ps_goto (tgt := 98) hG dX11_nets_88 (by decide) ?_
                    exact (ps_sub [0, 1, 2, 3] rfl (hJ98 T74 0 h))
              · rcases q74 with S74 | q
                · skip
                  show ps_V G 5 0 0 w S74 114 [(0, .ref (w.2.1 80)), (1, .int v1_50), (2, .int v2_62)] []
                  replace h : (some (.inl (S74, v2_62 + 1))) = some r9 := h
                  refine ps_iinc (lv' := [(2, .int (v2_62 + 1)), (0, .ref (w.2.1 80)), (1, .int v1_50)]) hG dX11_nets_114 2 rfl (by rfl) (by decide) rfl ?_
                  refine ps_goto (tgt := 62) hG dX11_nets_117 (by decide) ?_
                  cases h
                  exact (ps_sub [1, 2, 0] rfl (kc _ rfl))
                · cases h
                  exact ke _ rfl
          · rcases q62 with S62 | q
            · skip
              show ps_V G 5 0 0 w S62 120 [(0, .ref (w.2.1 80)), (1, .int v1_50)] []
              replace h : (some (.inl (S62, v1_50 + 1))) = some r9 := h
              refine ps_iinc (lv' := [(1, .int (v1_50 + 1)), (0, .ref (w.2.1 80))]) hG dX11_nets_120 1 rfl (by rfl) (by decide) rfl ?_
              refine ps_goto (tgt := 50) hG dX11_nets_123 (by decide) ?_
              cases h
              exact (ps_sub [1, 0] rfl (kc _ rfl))
            · cases h
              exact ke _ rfl
      · rcases q50 with S50 | q
        · skip
          show ps_V G 5 0 0 w S50 126 [] []
          replace h : (some (0, S50)) = some (r, S') := h
          refine ps_iconst (v := 0) hG dX11_nets_126 (by decide) ?_
          cases h
          exact hret _ _ dX11_nets_127
        · cases h
          exact hret
    · cases h
      exact hret
def f_X11_net_L12  (T12 : ps_S) (v1_12 : Int32) (v2_12 : Int32) : Option ((ps_S × Int32 × Int32) ⊕ (ps_S × Int32)) :=
  (if v2_12 ≤ 0 then
        some (.inr (T12, v1_12))
      else
        (ps_b2 (f_X11_nets T12) fun r21 S21 =>
        some (.inl (S21, v1_12 + v2_12, r21))))
def f_X11_net (S : ps_S) : Option (Int32 × ps_S) :=
  (ps_b2 (f_X11_nets (ps_up S 80 0 0)) fun r8 S8 =>
  (ps_b2 (ps_it (fun (a : ps_S × Int32 × Int32) => f_X11_net_L12 a.1 a.2.1 a.2.2) ps_fu (S8, 0, r8)) (fun S12 e1_12 => some (e1_12, S12))))
theorem inX11_net_X11 : ∀ q ∈ wsX110, q ∈ wsX11_net := fun _ h => List.mem_cons_of_mem _ (List.mem_append_right _ h)
theorem mX11_net_74 : Cond.fieldLink RX11 74 (TX11 0).1 (TX11 0).2.1 (TX11 0).2.2.1 ∈ wsX11_net := List.mem_of_getElem? (i := 1) rfl
set_option maxHeartbeats 4000000 in
set_option maxRecDepth 100000 in
theorem c_X11_net (l : Launch) {w : ps_X} (hw : ps_ww w) {S S' : ps_S} {r : Int32} (h : f_X11_net S = some (r, S')) : ps_MetI l yX11_net wsX11_net (ps_rm 2 51) w [.ref (w.2.1 80)] S S' r := by
  refine ps_mkI (cc := cX11_net) (maxL := 3) (own := RX11) (by decide +kernel) rfl (Or.inl rfl) rfl (Nat.le_of_ble_eq_true rfl) rfl (fun G hl hG hret => ?_)
  unfold f_X11_net at h
  refine ps_aload_n hG dX11_net_0 rfl 0 rfl ?_
  refine ps_iconst (v := 0) hG dX11_net_1 (by decide) ?_
  refine ps_put20_0 hG inX11_net_X11 ps_q80.1 (ps_lt hw ps_q80.2.2.1) ps_q80.2.2.2 mX11_net_74 dX11_net_2 ?_
  refine ps_iconst (v := 0) hG dX11_net_5 (by decide) ?_
  refine ps_istore_n (lv' := [(1, .int 0), (0, .ref (w.2.1 80))]) hG dX11_net_6 rfl (by decide) rfl ?_
  refine ps_aload_n hG dX11_net_7 rfl 1 rfl ?_
  obtain ⟨r8, S8, hr8, h⟩ := ps_d2 h
  refine ps_callVI (As := []) (rest := []) (nA := 0) hG (c_X11_nets _ hw hr8) gX11_net_X11_nets rfl (by decide +kernel) rfl ⟨Nat.le_of_ble_eq_true rfl, Nat.le_of_ble_eq_true rfl⟩ ⟨rfl, rfl⟩ ⟨Nat.le_of_ble_eq_true rfl, Nat.le_of_ble_eq_true rfl⟩ (ps_lt hw ps_q80.2.2.1) (ps_cel_20 ps_q80.1 _) rfl rfl (Nat.le_of_ble_eq_true rfl) dX11_net_8 ?_
  refine ps_istore_n (lv' := [(2, .int r8), (1, .int 0), (0, .ref (w.2.1 80))]) hG dX11_net_11 rfl (by decide) rfl ?_
  obtain ⟨S12, e1_12, hq12, h⟩ := ps_d2 h
  refine (ps_sub [2, 1, 0] rfl (ps_itV (fun (a : ps_S × Int32 × Int32) => ps_V G 3 0 0 w a.1 12 [(0, .ref (w.2.1 80)), (1, .int a.2.1), (2, .int a.2.2)] []) (fun (b : ps_S × Int32) => ps_V G 3 0 0 w b.1 28 [(1, .int b.2)] []) ?_ _ _ _ hq12 ?_))
  · intro a r9 h kc ke
    obtain ⟨T12, v1_12, v2_12⟩ := a
    replace h : f_X11_net_L12 T12 v1_12 v2_12 = some r9 := h
    show ps_V G 3 0 0 w T12 12 [(0, .ref (w.2.1 80)), (1, .int v1_12), (2, .int v2_12)] []
    unfold f_X11_net_L12 at h
    refine ps_iload_n hG dX11_net_12 rfl 2 rfl ?_
    refine ps_if_le (tgt := 28) hG dX11_net_13 (by decide) (fun c13 => ?_) (fun c13 => ?_)
    · replace h := ps_ip c13 h
      cases h
      exact (ps_sub [1] rfl (ke _ rfl))
    · replace h := ps_in c13 h
      refine ps_iload_n hG dX11_net_16 rfl 1 rfl ?_
      refine ps_iload_n hG dX11_net_17 rfl 2 rfl ?_
      refine ps_iadd hG dX11_net_18 ?_
      refine ps_istore_n (lv' := [(1, .int (v1_12 + v2_12)), (0, .ref (w.2.1 80)), (2, .int v2_12)]) hG dX11_net_19 rfl (by decide) rfl ?_
      refine ps_aload_n hG dX11_net_20 rfl 1 rfl ?_
      obtain ⟨r21, S21, hr21, h⟩ := ps_d2 h
      refine ps_callVI (As := []) (rest := []) (nA := 0) hG (c_X11_nets _ hw hr21) gX11_net_X11_nets rfl (by decide +kernel) rfl ⟨Nat.le_of_ble_eq_true rfl, Nat.le_of_ble_eq_true rfl⟩ ⟨rfl, rfl⟩ ⟨Nat.le_of_ble_eq_true rfl, Nat.le_of_ble_eq_true rfl⟩ (ps_lt hw ps_q80.2.2.1) (ps_cel_20 ps_q80.1 _) rfl rfl (Nat.le_of_ble_eq_true rfl) dX11_net_21 ?_
      refine ps_istore_n (lv' := [(2, .int r21), (1, .int (v1_12 + v2_12)), (0, .ref (w.2.1 80))]) hG dX11_net_24 rfl (by decide) rfl ?_
      refine ps_goto (tgt := 12) hG dX11_net_25 (by decide) ?_
      cases h
      exact (ps_sub [2, 1, 0] rfl (kc _ rfl))
  · show ps_V G 3 0 0 w S12 28 [(1, .int e1_12)] []
    refine ps_iload_n hG dX11_net_28 rfl 0 rfl ?_
    cases h
    exact hret _ _ dX11_net_29
def f_X11_worth_L26 (p1 : Int32) (S14 : ps_S) (v2_26 : Int32) (v3_26 : Int32) : Option ((Int32 × Int32) ⊕ (Int32)) :=
  (if (S14 80 2) ≤ v3_26 then
            some (.inr v2_26)
          else
            (if ps_ib ((16 * v3_26) + p1) 256 = true then
            (if ps_ib ((16 * p1) + v3_26) 256 = true then
            some (.inl (v2_26 + ((S14 101 ((16 * v3_26) + p1).toNatClampNeg) - (S14 101 ((16 * p1) + v3_26).toNatClampNeg)), v3_26 + 1)) else none) else none))
def f_X11_worth_J14 (S : ps_S) (p1 : Int32) (s1_14 : Int32) : Option (Int32 × ps_S) :=
  (ps_b2 (f_X11_holds S s1_14) fun r14 S14 =>
    (if r14 = 0 then
      some (0, S14)
    else
      ((ps_it (fun (a : Int32 × Int32) => f_X11_worth_L26 p1 S14 a.1 a.2) ps_fu (0, 0)).bind (fun e2_26 => some (e2_26, S14)))))
def f_X11_worth (S : ps_S) (p1 : Int32) : Option (Int32 × ps_S) :=
  ((f_X11_isPeer S p1).bind fun r3 =>
  (if r3 = 0 then
    f_X11_worth_J14 S p1 1
  else
    f_X11_worth_J14 S p1 0))
theorem inX11_worth_X11 : ∀ q ∈ wsX110, q ∈ wsX11_worth := fun _ h => List.mem_cons_of_mem _ (List.mem_append_right _ h)
theorem mX11_worth_71 : Cond.fieldLink RX11 71 (TX11 27).1 (TX11 27).2.1 (TX11 27).2.2.1 ∈ wsX11_worth := List.mem_of_getElem? (i := 2) rfl
theorem mX11_worth_78 : Cond.fieldLink RX11 78 (TX11 2).1 (TX11 2).2.1 (TX11 2).2.2.1 ∈ wsX11_worth := List.mem_of_getElem? (i := 1) rfl
set_option maxHeartbeats 4000000 in
set_option maxRecDepth 100000 in
theorem c_X11_worth (l : Launch) {w : ps_X} (hw : ps_ww w) {S S' : ps_S} {p1 : Int32} {r : Int32} (h : f_X11_worth S p1 = some (r, S')) : ps_MetI l yX11_worth wsX11_worth (ps_rm 2 43) w [.ref (w.2.1 80), .int p1] S S' r := by
  refine ps_mkI (cc := cX11_worth) (maxL := 4) (own := RX11) (by decide +kernel) rfl (Or.inl rfl) rfl (Nat.le_of_ble_eq_true rfl) rfl (fun G hl hG hret => ?_)
  unfold f_X11_worth at h
  refine ps_aload_n hG dX11_worth_0 rfl 0 rfl ?_
  refine ps_aload_n hG dX11_worth_1 rfl 0 rfl ?_
  refine ps_iload_n hG dX11_worth_2 rfl 1 rfl ?_
  obtain ⟨r3, hr3, h⟩ := ps_bd h
  refine ps_callVI (As := [.int p1]) (rest := [.ref (w.2.1 80)]) (nA := 1) hG (c_X11_isPeer _ hw hr3) gX11_worth_X11_isPeer rfl (by decide +kernel) rfl ⟨Nat.le_of_ble_eq_true rfl, Nat.le_of_ble_eq_true rfl⟩ ⟨rfl, rfl⟩ ⟨Nat.le_of_ble_eq_true rfl, Nat.le_of_ble_eq_true rfl⟩ (ps_lt hw ps_q80.2.2.1) (ps_cel_20 ps_q80.1 _) rfl rfl (Nat.le_of_ble_eq_true rfl) dX11_worth_3 ?_
  have hJ14 : ∀ (s1_14 : Int32), f_X11_worth_J14 S p1 s1_14 = some (r, S') → ps_V G 4 0 0 w S 14 [(0, .ref (w.2.1 80)), (1, .int p1)] [.int s1_14, .ref (w.2.1 80)] := by
    intro s1_14 h
    unfold f_X11_worth_J14 at h
    obtain ⟨r14, S14, hr14, h⟩ := ps_d2 h
    refine ps_callVI (As := [.int s1_14]) (rest := []) (nA := 1) hG (c_X11_holds _ hw hr14) gX11_worth_X11_holds rfl (by decide +kernel) rfl ⟨Nat.le_of_ble_eq_true rfl, Nat.le_of_ble_eq_true rfl⟩ ⟨rfl, rfl⟩ ⟨Nat.le_of_ble_eq_true rfl, Nat.le_of_ble_eq_true rfl⟩ (ps_lt hw ps_q80.2.2.1) (ps_cel_20 ps_q80.1 _) rfl rfl (Nat.le_of_ble_eq_true rfl) dX11_worth_14 ?_
    refine ps_if_ne (tgt := 22) hG dX11_worth_17 (by decide) (fun c17 => ?_) (fun c17 => ?_)
    · replace h := ps_in c17 h
      refine ps_iconst (v := 0) hG dX11_worth_22 (by decide) ?_
      refine ps_istore_n (lv' := [(2, .int 0), (0, .ref (w.2.1 80)), (1, .int p1)]) hG dX11_worth_23 rfl (by decide) rfl ?_
      refine ps_iconst (v := 0) hG dX11_worth_24 (by decide) ?_
      refine ps_istore_n (lv' := [(3, .int 0), (2, .int 0), (0, .ref (w.2.1 80)), (1, .int p1)]) hG dX11_worth_25 rfl (by decide) rfl ?_
      obtain ⟨e2_26, hq26, h⟩ := ps_bd h
      refine (ps_sub [2, 3, 1, 0] rfl (ps_itV (fun (a : Int32 × Int32) => ps_V G 4 0 0 w S14 26 [(0, .ref (w.2.1 80)), (1, .int p1), (2, .int a.1), (3, .int a.2)] []) (fun (b : Int32) => ps_V G 4 0 0 w S14 66 [(2, .int b)] []) ?_ _ _ _ hq26 ?_))
      · intro a r9 h kc ke
        obtain ⟨v2_26, v3_26⟩ := a
        replace h : f_X11_worth_L26 p1 S14 v2_26 v3_26 = some r9 := h
        show ps_V G 4 0 0 w S14 26 [(0, .ref (w.2.1 80)), (1, .int p1), (2, .int v2_26), (3, .int v3_26)] []
        unfold f_X11_worth_L26 at h
        refine ps_iload_n hG dX11_worth_26 rfl 3 rfl ?_
        refine ps_aload_n hG dX11_worth_27 rfl 0 rfl ?_
        refine ps_get20_2 hG inX11_worth_X11 ps_q80.1 (ps_lt hw ps_q80.2.2.1) mX11_worth_78 dX11_worth_28 ?_
        refine ps_icmp_ge (tgt := 66) hG dX11_worth_31 (by decide) (fun c31 => ?_) (fun c31 => ?_)
        · replace h := ps_ip c31 h
          cases h
          exact (ps_sub [2] rfl (ke _ rfl))
        · replace h := ps_in c31 h
          refine ps_iload_n hG dX11_worth_34 rfl 2 rfl ?_
          refine ps_aload_n hG dX11_worth_35 rfl 0 rfl ?_
          refine ps_get20_27 hG hw inX11_worth_X11 ps_q80.1 (ps_lt hw ps_q80.2.2.1) mX11_worth_71 dX11_worth_36 ?_
          refine ps_bipush (v := 16) hG dX11_worth_39 (by decide) ?_
          refine ps_iload_n hG dX11_worth_41 rfl 3 rfl ?_
          refine ps_imul hG dX11_worth_42 ?_
          refine ps_iload_n hG dX11_worth_43 rfl 1 rfl ?_
          refine ps_iadd hG dX11_worth_44 ?_
          obtain ⟨hb45, h⟩ := ps_ig h
          refine ps_iald hG ps_q101.1 ps_q101.2.1 (ps_lt hw ps_q101.2.2.1) hb45 dX11_worth_45 ?_
          refine ps_aload_n hG dX11_worth_46 rfl 0 rfl ?_
          refine ps_get20_27 hG hw inX11_worth_X11 ps_q80.1 (ps_lt hw ps_q80.2.2.1) mX11_worth_71 dX11_worth_47 ?_
          refine ps_bipush (v := 16) hG dX11_worth_50 (by decide) ?_
          refine ps_iload_n hG dX11_worth_52 rfl 1 rfl ?_
          refine ps_imul hG dX11_worth_53 ?_
          refine ps_iload_n hG dX11_worth_54 rfl 3 rfl ?_
          refine ps_iadd hG dX11_worth_55 ?_
          obtain ⟨hb56, h⟩ := ps_ig h
          refine ps_iald hG ps_q101.1 ps_q101.2.1 (ps_lt hw ps_q101.2.2.1) hb56 dX11_worth_56 ?_
          refine ps_isub hG dX11_worth_57 ?_
          refine ps_iadd hG dX11_worth_58 ?_
          refine ps_istore_n (lv' := [(2, .int (v2_26 + ((S14 101 ((16 * v3_26) + p1).toNatClampNeg) - (S14 101 ((16 * p1) + v3_26).toNatClampNeg)))), (0, .ref (w.2.1 80)), (1, .int p1), (3, .int v3_26)]) hG dX11_worth_59 rfl (by decide) rfl ?_
          refine ps_iinc (lv' := [(3, .int (v3_26 + 1)), (2, .int (v2_26 + ((S14 101 ((16 * v3_26) + p1).toNatClampNeg) - (S14 101 ((16 * p1) + v3_26).toNatClampNeg)))), (0, .ref (w.2.1 80)), (1, .int p1)]) hG dX11_worth_60 3 rfl (by rfl) (by decide) rfl ?_
          refine ps_goto (tgt := 26) hG dX11_worth_63 (by decide) ?_
          cases h
          exact (ps_sub [2, 3, 1, 0] rfl (kc _ rfl))
      · show ps_V G 4 0 0 w S14 66 [(2, .int e2_26)] []
        refine ps_iload_n hG dX11_worth_66 rfl 0 rfl ?_
        cases h
        exact hret _ _ dX11_worth_67
    · replace h := ps_ip c17 h
      refine ps_iconst (v := 0) hG dX11_worth_20 (by decide) ?_
      cases h
      exact hret _ _ dX11_worth_21
  refine ps_if_eq (tgt := 13) hG dX11_worth_6 (by decide) (fun c6 => ?_) (fun c6 => ?_)
  · replace h := ps_ip c6 h
    refine ps_iconst (v := 1) hG dX11_worth_13 (by decide) ?_
    exact (ps_sub [0, 1] rfl (hJ14 1 h))
  · replace h := ps_in c6 h
    refine ps_iconst (v := 0) hG dX11_worth_9 (by decide) ?_
    refine ps_goto (tgt := 14) hG dX11_worth_10 (by decide) ?_
    exact (ps_sub [0, 1] rfl (hJ14 0 h))
