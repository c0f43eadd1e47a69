def f_X11_peer_J119 (S : ps_S) (p1 : Int32) (p2 : Int32) (p3 : Int32) (s1_119 : Int32) : Option (Int32 × ps_S) :=
  (ps_b2 (f_X11_holds S s1_119) fun r119 S119 =>
          (if r119 = 0 then
            some (0, S119)
          else
            (if ps_ib (S119 80 2) 16 = true then
            (if ps_ib (S119 80 2) 16 = true then
            (if ps_ib (S119 80 2) 16 = true then
            (if p3 = (-1) then
              some (S119 80 2, ps_up (ps_up (ps_up (ps_up S119 81 (S119 80 2).toNatClampNeg p1) 82 (S119 80 2).toNatClampNeg p2) 83 (S119 80 2).toNatClampNeg (vp_nar .boolean 1)) 80 2 (((ps_up (ps_up (ps_up S119 81 (S119 80 2).toNatClampNeg p1) 82 (S119 80 2).toNatClampNeg p2) 83 (S119 80 2).toNatClampNeg (vp_nar .boolean 1)) 80 2) + 1))
            else
              ((f_X11_hears (ps_up (ps_up (ps_up (ps_up S119 81 (S119 80 2).toNatClampNeg p1) 82 (S119 80 2).toNatClampNeg p2) 83 (S119 80 2).toNatClampNeg (vp_nar .boolean 1)) 80 2 (((ps_up (ps_up (ps_up S119 81 (S119 80 2).toNatClampNeg p1) 82 (S119 80 2).toNatClampNeg p2) 83 (S119 80 2).toNatClampNeg (vp_nar .boolean 1)) 80 2) + 1)) (S119 80 2) p3).bind fun S176 =>
              ((f_X11_hears S176 p3 (S119 80 2)).bind fun S183 =>
              ((f_X11_looksUp S183 (S119 80 2) p1 1).bind fun S191 =>
              some (S119 80 2, S191))))) else none) else none) else none)))
def f_X11_peer_J88 (S : ps_S) (p1 : Int32) (p2 : Int32) (p3 : Int32) (s0_25 : Int32) (s0_45 : Int32) (s0_88 : Int32) : Option (Int32 × ps_S) :=
  (if s0_25 = 0 then
          f_X11_peer_J119 S p1 p2 p3 1
        else
          (if s0_45 = 0 then
            f_X11_peer_J119 S p1 p2 p3 2
          else
            (if s0_88 = 0 then
              f_X11_peer_J119 S p1 p2 p3 3
            else
              f_X11_peer_J119 S p1 p2 p3 0)))
def f_X11_peer_J45 (S : ps_S) (p1 : Int32) (p2 : Int32) (p3 : Int32) (s0_25 : Int32) (s0_45 : Int32) : Option (Int32 × ps_S) :=
  (if s0_45 = 0 then
        f_X11_peer_J88 S p1 p2 p3 s0_25 s0_45 0
      else
        (if 16 ≤ (S 80 2) then
          f_X11_peer_J88 S p1 p2 p3 s0_25 s0_45 0
        else
          ((f_X11_isId S p1).bind fun r63 =>
          (if r63 = 0 then
            (if p3 = (-1) then
              f_X11_peer_J88 S p1 p2 p3 s0_25 s0_45 1
            else
              (if ps_ib p3 16 = true then
              (if (S 83 p3.toNatClampNeg) = 0 then
                f_X11_peer_J88 S p1 p2 p3 s0_25 s0_45 0
              else
                f_X11_peer_J88 S p1 p2 p3 s0_25 s0_45 1) else none))
          else
            f_X11_peer_J88 S p1 p2 p3 s0_25 s0_45 0))))
def f_X11_peer_J25 (S : ps_S) (p1 : Int32) (p2 : Int32) (p3 : Int32) (s0_25 : Int32) : Option (Int32 × ps_S) :=
  (if p3 = (-1) then
      f_X11_peer_J45 S p1 p2 p3 s0_25 1
    else
      ((f_X11_isPeer S p3).bind fun r34 =>
      (if r34 = 0 then
        f_X11_peer_J45 S p1 p2 p3 s0_25 0
      else
        f_X11_peer_J45 S p1 p2 p3 s0_25 1)))
def f_X11_peer (S : ps_S) (p1 : Int32) (p2 : Int32) (p3 : Int32) : Option (Int32 × ps_S) :=
  ((f_X11_isIn p1 0 255).bind fun r5 =>
  (if r5 = 0 then
    f_X11_peer_J25 S p1 p2 p3 0
  else
    ((f_X11_isIn p2 0 2).bind fun r14 =>
    (if r14 = 0 then
      f_X11_peer_J25 S p1 p2 p3 0
    else
      f_X11_peer_J25 S p1 p2 p3 1))))
theorem inX11_peer_X11 : ∀ q ∈ wsX110, q ∈ wsX11_peer := fun _ h => List.mem_cons_of_mem _ (List.mem_append_right _ h)
theorem mX11_peer_13 : Cond.fieldLink RX11 13 (TX11 4).1 (TX11 4).2.1 (TX11 4).2.2.1 ∈ wsX11_peer := List.mem_of_getElem? (i := 4) rfl
theorem mX11_peer_16 : Cond.fieldLink RX11 16 (TX11 5).1 (TX11 5).2.1 (TX11 5).2.2.1 ∈ wsX11_peer := List.mem_of_getElem? (i := 2) rfl
theorem mX11_peer_7 : Cond.fieldLink RX11 7 (TX11 3).1 (TX11 3).2.1 (TX11 3).2.2.1 ∈ wsX11_peer := List.mem_of_getElem? (i := 3) rfl
theorem mX11_peer_78 : Cond.fieldLink RX11 78 (TX11 2).1 (TX11 2).2.1 (TX11 2).2.2.1 ∈ wsX11_peer := List.mem_of_getElem? (i := 1) rfl
set_option maxHeartbeats 4000000 in
set_option maxRecDepth 100000 in
theorem c_X11_peer (l : Launch) {w : ps_X} (hw : ps_ww w) {S S' : ps_S} {p1 p2 p3 : Int32} {r : Int32} (h : f_X11_peer S p1 p2 p3 = some (r, S')) : ps_MetI l yX11_peer wsX11_peer (ps_rm 4 109) w [.ref (w.2.1 80), .int p1, .int p2, .int p3] S S' r := by
  refine ps_mkI (cc := cX11_peer) (maxL := 8) (own := RX11) (by decide +kernel) rfl (Or.inl rfl) rfl (Nat.le_of_ble_eq_true rfl) rfl (fun G hl hG hret => ?_)
  unfold f_X11_peer at h
  refine ps_iload_n hG dX11_peer_0 rfl 1 rfl ?_
  refine ps_iconst (v := 0) hG dX11_peer_1 (by decide) ?_
  refine ps_sipush (v := 255) hG dX11_peer_2 (by decide) ?_
  obtain ⟨r5, hr5, h⟩ := ps_bd h
  refine ps_callSI (As := [.int p1, .int 0, .int 255]) (rest := []) (nA := 3) hG (c_X11_isIn _ hw hr5) gX11_peer_X11_isIn rfl (by decide +kernel) rfl ⟨Nat.le_of_ble_eq_true rfl, Nat.le_of_ble_eq_true rfl⟩ ⟨rfl, rfl⟩ ⟨Nat.le_of_ble_eq_true rfl, Nat.le_of_ble_eq_true rfl⟩ rfl (Nat.le_of_ble_eq_true rfl) dX11_peer_5 ?_
  have hJ25 : ∀ (s0_25 : Int32), f_X11_peer_J25 S p1 p2 p3 s0_25 = some (r, S') → ps_V G 8 0 0 w S 25 [(0, .ref (w.2.1 80)), (1, .int p1), (2, .int p2), (3, .int p3)] [.int s0_25] := by
    intro s0_25 h
    unfold f_X11_peer_J25 at h
    refine ps_istore (lv' := [(4, .int s0_25), (0, .ref (w.2.1 80)), (1, .int p1), (2, .int p2), (3, .int p3)]) hG dX11_peer_25 (by decide) rfl ?_
    refine ps_iload_n hG dX11_peer_27 rfl 4 rfl ?_
    refine ps_iconst (v := (-1)) hG dX11_peer_28 (by decide) ?_
    have hJ45 : ∀ (s0_45 : Int32), f_X11_peer_J45 S p1 p2 p3 s0_25 s0_45 = some (r, S') → ps_V G 8 0 0 w S 45 [(0, .ref (w.2.1 80)), (1, .int p1), (2, .int p2), (3, .int p3), (4, .int s0_25)] [.int s0_45] := by
      intro s0_45 h
      unfold f_X11_peer_J45 at h
      refine ps_istore (lv' := [(5, .int s0_45), (0, .ref (w.2.1 80)), (1, .int p1), (2, .int p2), (3, .int p3), (4, .int s0_25)]) hG dX11_peer_45 (by decide) rfl ?_
      refine ps_iload hG dX11_peer_47 0 rfl ?_
      have hJ88 : ∀ (s0_88 : Int32), f_X11_peer_J88 S p1 p2 p3 s0_25 s0_45 s0_88 = some (r, S') → ps_V G 8 0 0 w S 88 [(0, .ref (w.2.1 80)), (1, .int p1), (2, .int p2), (3, .int p3), (4, .int s0_25), (5, .int s0_45)] [.int s0_88] := by
        intro s0_88 h
        unfold f_X11_peer_J88 at h
        refine ps_istore (lv' := [(6, .int s0_88), (0, .ref (w.2.1 80)), (1, .int p1), (2, .int p2), (3, .int p3), (4, .int s0_25), (5, .int s0_45)]) hG dX11_peer_88 (by decide) rfl ?_
        refine ps_aload_n hG dX11_peer_90 rfl 1 rfl ?_
        refine ps_iload hG dX11_peer_91 5 rfl ?_
        have hJ119 : ∀ (s1_119 : Int32), f_X11_peer_J119 S p1 p2 p3 s1_119 = some (r, S') → ps_V G 8 0 0 w S 119 [(0, .ref (w.2.1 80)), (1, .int p1), (2, .int p2), (3, .int p3)] [.int s1_119, .ref (w.2.1 80)] := by
          intro s1_119 h
          unfold f_X11_peer_J119 at h
          obtain ⟨r119, S119, hr119, h⟩ := ps_d2 h
          refine ps_callVI (As := [.int s1_119]) (rest := []) (nA := 1) hG (c_X11_holds _ hw hr119) gX11_peer_X11_holds rfl (by decide +kernel) rfl ⟨Nat.le_of_ble_eq_true rfl, Nat.le_of_ble_eq_true rfl⟩ ⟨rfl, rfl⟩ ⟨Nat.le_of_ble_eq_true rfl, Nat.le_of_ble_eq_true rfl⟩ (ps_lt hw ps_q80.2.2.1) (ps_cel_20 ps_q80.1 _) rfl rfl (Nat.le_of_ble_eq_true rfl) dX11_peer_119 ?_
          refine ps_if_ne (tgt := 127) hG dX11_peer_122 (by decide) (fun c122 => ?_) (fun c122 => ?_)
          · replace h := ps_in c122 h
            refine ps_aload_n hG dX11_peer_127 rfl 0 rfl ?_
            refine ps_get20_2 hG inX11_peer_X11 ps_q80.1 (ps_lt hw ps_q80.2.2.1) mX11_peer_78 dX11_peer_128 ?_
            refine ps_istore (lv' := [(7, .int (S119 80 2)), (0, .ref (w.2.1 80)), (1, .int p1), (2, .int p2), (3, .int p3)]) hG dX11_peer_131 (by decide) rfl ?_
            refine ps_aload_n hG dX11_peer_133 rfl 1 rfl ?_
            refine ps_get20_3 hG hw inX11_peer_X11 ps_q80.1 (ps_lt hw ps_q80.2.2.1) mX11_peer_7 dX11_peer_134 ?_
            refine ps_iload hG dX11_peer_137 0 rfl ?_
            refine ps_iload_n hG dX11_peer_139 rfl 2 rfl ?_
            obtain ⟨hb140, h⟩ := ps_ig h
            refine ps_iast hG ps_q81.1 ps_q81.2.1 (ps_lt hw ps_q81.2.2.1) hb140 dX11_peer_140 ?_
            refine ps_aload_n hG dX11_peer_141 rfl 1 rfl ?_
            refine ps_get20_4 hG hw inX11_peer_X11 ps_q80.1 (ps_lt hw ps_q80.2.2.1) mX11_peer_13 dX11_peer_142 ?_
            refine ps_iload hG dX11_peer_145 0 rfl ?_
            refine ps_iload_n hG dX11_peer_147 rfl 3 rfl ?_
            obtain ⟨hb148, h⟩ := ps_ig h
            refine ps_iast hG ps_q82.1 ps_q82.2.1 (ps_lt hw ps_q82.2.2.1) hb148 dX11_peer_148 ?_
            refine ps_aload_n hG dX11_peer_149 rfl 1 rfl ?_
            refine ps_get20_5 hG hw inX11_peer_X11 ps_q80.1 (ps_lt hw ps_q80.2.2.1) mX11_peer_16 dX11_peer_150 ?_
            refine ps_iload hG dX11_peer_153 0 rfl ?_
            refine ps_iconst (v := 1) hG dX11_peer_155 (by decide) ?_
            obtain ⟨hb156, h⟩ := ps_ig h
            refine ps_zast hG ps_q83.1 ps_q83.2.1 (ps_lt hw ps_q83.2.2.1) hb156 dX11_peer_156 ?_
            refine ps_aload_n hG dX11_peer_157 rfl 1 rfl ?_
            refine ps_dup hG dX11_peer_158 rfl ?_
            refine ps_get20_2 hG inX11_peer_X11 ps_q80.1 (ps_lt hw ps_q80.2.2.1) mX11_peer_78 dX11_peer_159 ?_
            refine ps_iconst (v := 1) hG dX11_peer_162 (by decide) ?_
            refine ps_iadd hG dX11_peer_163 ?_
            refine ps_put20_2 hG inX11_peer_X11 ps_q80.1 (ps_lt hw ps_q80.2.2.1) ps_q80.2.2.2 mX11_peer_78 dX11_peer_164 ?_
            refine ps_iload_n hG dX11_peer_167 rfl 4 rfl ?_
            refine ps_iconst (v := (-1)) hG dX11_peer_168 (by decide) ?_
            refine ps_icmp_eq (tgt := 194) hG dX11_peer_169 (by decide) (fun c169 => ?_) (fun c169 => ?_)
            · replace h := ps_ip c169 h
              refine ps_iload hG dX11_peer_194 0 rfl ?_
              cases h
              exact hret _ _ dX11_peer_196
            · replace h := ps_in c169 h
              refine ps_aload_n hG dX11_peer_172 rfl 1 rfl ?_
              refine ps_iload hG dX11_peer_173 0 rfl ?_
              refine ps_iload_n hG dX11_peer_175 rfl 4 rfl ?_
              obtain ⟨S176, hr176, h⟩ := ps_bd h
              refine ps_callVV (As := [.int (S119 80 2), .int p3]) (rest := []) (nA := 2) hG (c_X11_hears _ hw hr176) gX11_peer_X11_hears rfl (by decide +kernel) rfl ⟨Nat.le_of_ble_eq_true rfl, Nat.le_of_ble_eq_true rfl⟩ ⟨rfl, rfl⟩ ⟨Nat.le_of_ble_eq_true rfl, Nat.le_of_ble_eq_true rfl⟩ (ps_lt hw ps_q80.2.2.1) (ps_cel_20 ps_q80.1 _) rfl rfl (Nat.le_of_ble_eq_true rfl) dX11_peer_176 ?_
              refine ps_aload_n hG dX11_peer_179 rfl 1 rfl ?_
              refine ps_iload_n hG dX11_peer_180 rfl 4 rfl ?_
              refine ps_iload hG dX11_peer_181 0 rfl ?_
              obtain ⟨S183, hr183, h⟩ := ps_bd h
              refine ps_callVV (As := [.int p3, .int (S119 80 2)]) (rest := []) (nA := 2) hG (c_X11_hears _ hw hr183) gX11_peer_X11_hears rfl (by decide +kernel) rfl ⟨Nat.le_of_ble_eq_true rfl, Nat.le_of_ble_eq_true rfl⟩ ⟨rfl, rfl⟩ ⟨Nat.le_of_ble_eq_true rfl, Nat.le_of_ble_eq_true rfl⟩ (ps_lt hw ps_q80.2.2.1) (ps_cel_20 ps_q80.1 _) rfl rfl (Nat.le_of_ble_eq_true rfl) dX11_peer_183 ?_
              refine ps_aload_n hG dX11_peer_186 rfl 1 rfl ?_
              refine ps_iload hG dX11_peer_187 0 rfl ?_
              refine ps_iload_n hG dX11_peer_189 rfl 2 rfl ?_
              refine ps_iconst (v := 1) hG dX11_peer_190 (by decide) ?_
              obtain ⟨S191, hr191, h⟩ := ps_bd h
              refine ps_callVV (As := [.int (S119 80 2), .int p1, .int 1]) (rest := []) (nA := 3) hG (c_X11_looksUp _ hw hr191) gX11_peer_X11_looksUp rfl (by decide +kernel) rfl ⟨Nat.le_of_ble_eq_true rfl, Nat.le_of_ble_eq_true rfl⟩ ⟨rfl, rfl⟩ ⟨Nat.le_of_ble_eq_true rfl, Nat.le_of_ble_eq_true rfl⟩ (ps_lt hw ps_q80.2.2.1) (ps_cel_20 ps_q80.1 _) rfl rfl (Nat.le_of_ble_eq_true rfl) dX11_peer_191 ?_
              refine ps_iload hG dX11_peer_194 0 rfl ?_
              cases h
              exact hret _ _ dX11_peer_196
          · replace h := ps_ip c122 h
            refine ps_iconst (v := 0) hG dX11_peer_125 (by decide) ?_
            cases h
            exact hret _ _ dX11_peer_126
        refine ps_if_ne (tgt := 100) hG dX11_peer_93 (by decide) (fun c93 => ?_) (fun c93 => ?_)
        · replace h := ps_in c93 h
          refine ps_iload hG dX11_peer_100 6 rfl ?_
          refine ps_if_ne (tgt := 109) hG dX11_peer_102 (by decide) (fun c102 => ?_) (fun c102 => ?_)
          · replace h := ps_in c102 h
            refine ps_iload hG dX11_peer_109 0 rfl ?_
            refine ps_if_eq (tgt := 118) hG dX11_peer_111 (by decide) (fun c111 => ?_) (fun c111 => ?_)
            · replace h := ps_ip c111 h
              refine ps_iconst (v := 3) hG dX11_peer_118 (by decide) ?_
              exact (ps_sub [1, 2, 3, 4] rfl (hJ119 3 h))
            · replace h := ps_in c111 h
              refine ps_iconst (v := 0) hG dX11_peer_114 (by decide) ?_
              refine ps_goto (tgt := 119) hG dX11_peer_115 (by decide) ?_
              exact (ps_sub [1, 2, 3, 4] rfl (hJ119 0 h))
          · replace h := ps_ip c102 h
            refine ps_iconst (v := 2) hG dX11_peer_105 (by decide) ?_
            refine ps_goto (tgt := 119) hG dX11_peer_106 (by decide) ?_
            exact (ps_sub [1, 2, 3, 4] rfl (hJ119 2 h))
        · replace h := ps_ip c93 h
          refine ps_iconst (v := 1) hG dX11_peer_96 (by decide) ?_
          refine ps_goto (tgt := 119) hG dX11_peer_97 (by decide) ?_
          exact (ps_sub [1, 2, 3, 4] rfl (hJ119 1 h))
      refine ps_if_eq (tgt := 87) hG dX11_peer_49 (by decide) (fun c49 => ?_) (fun c49 => ?_)
      · replace h := ps_ip c49 h
        refine ps_iconst (v := 0) hG dX11_peer_87 (by decide) ?_
        exact (ps_sub [1, 2, 3, 4, 5, 0] rfl (hJ88 0 h))
      · replace h := ps_in c49 h
        refine ps_aload_n hG dX11_peer_52 rfl 1 rfl ?_
        refine ps_get20_2 hG inX11_peer_X11 ps_q80.1 (ps_lt hw ps_q80.2.2.1) mX11_peer_78 dX11_peer_53 ?_
        refine ps_bipush (v := 16) hG dX11_peer_56 (by decide) ?_
        refine ps_icmp_ge (tgt := 87) hG dX11_peer_58 (by decide) (fun c58 => ?_) (fun c58 => ?_)
        · replace h := ps_ip c58 h
          refine ps_iconst (v := 0) hG dX11_peer_87 (by decide) ?_
          exact (ps_sub [1, 2, 3, 4, 5, 0] rfl (hJ88 0 h))
        · replace h := ps_in c58 h
          refine ps_aload_n hG dX11_peer_61 rfl 1 rfl ?_
          refine ps_iload_n hG dX11_peer_62 rfl 2 rfl ?_
          obtain ⟨r63, hr63, h⟩ := ps_bd h
          refine ps_callVI (As := [.int p1]) (rest := []) (nA := 1) hG (c_X11_isId _ hw hr63) gX11_peer_X11_isId rfl (by decide +kernel) rfl ⟨Nat.le_of_ble_eq_true rfl, Nat.le_of_ble_eq_true rfl⟩ ⟨rfl, rfl⟩ ⟨Nat.le_of_ble_eq_true rfl, Nat.le_of_ble_eq_true rfl⟩ (ps_lt hw ps_q80.2.2.1) (ps_cel_20 ps_q80.1 _) rfl rfl (Nat.le_of_ble_eq_true rfl) dX11_peer_63 ?_
          refine ps_if_ne (tgt := 87) hG dX11_peer_66 (by decide) (fun c66 => ?_) (fun c66 => ?_)
          · replace h := ps_in c66 h
            refine ps_iconst (v := 0) hG dX11_peer_87 (by decide) ?_
            exact (ps_sub [1, 2, 3, 4, 5, 0] rfl (hJ88 0 h))
          · replace h := ps_ip c66 h
            refine ps_iload_n hG dX11_peer_69 rfl 4 rfl ?_
            refine ps_iconst (v := (-1)) hG dX11_peer_70 (by decide) ?_
            refine ps_icmp_eq (tgt := 83) hG dX11_peer_71 (by decide) (fun c71 => ?_) (fun c71 => ?_)
            · replace h := ps_ip c71 h
              refine ps_iconst (v := 1) hG dX11_peer_83 (by decide) ?_
              refine ps_goto (tgt := 88) hG dX11_peer_84 (by decide) ?_
              exact (ps_sub [1, 2, 3, 4, 5, 0] rfl (hJ88 1 h))
            · replace h := ps_in c71 h
              refine ps_aload_n hG dX11_peer_74 rfl 1 rfl ?_
              refine ps_get20_5 hG hw inX11_peer_X11 ps_q80.1 (ps_lt hw ps_q80.2.2.1) mX11_peer_16 dX11_peer_75 ?_
              refine ps_iload_n hG dX11_peer_78 rfl 4 rfl ?_
              obtain ⟨hb79, h⟩ := ps_ig h
              refine ps_zald hG ps_q83.1 ps_q83.2.1 (ps_lt hw ps_q83.2.2.1) hb79 dX11_peer_79 ?_
              refine ps_if_eq (tgt := 87) hG dX11_peer_80 (by decide) (fun c80 => ?_) (fun c80 => ?_)
              · replace h := ps_ip c80 h
                refine ps_iconst (v := 0) hG dX11_peer_87 (by decide) ?_
                exact (ps_sub [1, 2, 3, 4, 5, 0] rfl (hJ88 0 h))
              · replace h := ps_in c80 h
                refine ps_iconst (v := 1) hG dX11_peer_83 (by decide) ?_
                refine ps_goto (tgt := 88) hG dX11_peer_84 (by decide) ?_
                exact (ps_sub [1, 2, 3, 4, 5, 0] rfl (hJ88 1 h))
    refine ps_icmp_eq (tgt := 40) hG dX11_peer_29 (by decide) (fun c29 => ?_) (fun c29 => ?_)
    · replace h := ps_ip c29 h
      refine ps_iconst (v := 1) hG dX11_peer_40 (by decide) ?_
      refine ps_goto (tgt := 45) hG dX11_peer_41 (by decide) ?_
      exact (ps_sub [1, 2, 3, 4, 0] rfl (hJ45 1 h))
    · replace h := ps_in c29 h
      refine ps_aload_n hG dX11_peer_32 rfl 1 rfl ?_
      refine ps_iload_n hG dX11_peer_33 rfl 4 rfl ?_
      obtain ⟨r34, hr34, h⟩ := ps_bd h
      refine ps_callVI (As := [.int p3]) (rest := []) (nA := 1) hG (c_X11_isPeer _ hw hr34) gX11_peer_X11_isPeer rfl (by decide +kernel) rfl ⟨Nat.le_of_ble_eq_true rfl, Nat.le_of_ble_eq_true rfl⟩ ⟨rfl, rfl⟩ ⟨Nat.le_of_ble_eq_true rfl, Nat.le_of_ble_eq_true rfl⟩ (ps_lt hw ps_q80.2.2.1) (ps_cel_20 ps_q80.1 _) rfl rfl (Nat.le_of_ble_eq_true rfl) dX11_peer_34 ?_
      refine ps_if_eq (tgt := 44) hG dX11_peer_37 (by decide) (fun c37 => ?_) (fun c37 => ?_)
      · replace h := ps_ip c37 h
        refine ps_iconst (v := 0) hG dX11_peer_44 (by decide) ?_
        exact (ps_sub [1, 2, 3, 4, 0] rfl (hJ45 0 h))
      · replace h := ps_in c37 h
        refine ps_iconst (v := 1) hG dX11_peer_40 (by decide) ?_
        refine ps_goto (tgt := 45) hG dX11_peer_41 (by decide) ?_
        exact (ps_sub [1, 2, 3, 4, 0] rfl (hJ45 1 h))
  refine ps_if_eq (tgt := 24) hG dX11_peer_8 (by decide) (fun c8 => ?_) (fun c8 => ?_)
  · replace h := ps_ip c8 h
    refine ps_iconst (v := 0) hG dX11_peer_24 (by decide) ?_
    exact (ps_sub [0, 1, 2, 3] rfl (hJ25 0 h))
  · replace h := ps_in c8 h
    refine ps_iload_n hG dX11_peer_11 rfl 2 rfl ?_
    refine ps_iconst (v := 0) hG dX11_peer_12 (by decide) ?_
    refine ps_iconst (v := 2) hG dX11_peer_13 (by decide) ?_
    obtain ⟨r14, hr14, h⟩ := ps_bd h
    refine ps_callSI (As := [.int p2, .int 0, .int 2]) (rest := []) (nA := 3) hG (c_X11_isIn _ hw hr14) gX11_peer_X11_isIn rfl (by decide +kernel) rfl ⟨Nat.le_of_ble_eq_true rfl, Nat.le_of_ble_eq_true rfl⟩ ⟨rfl, rfl⟩ ⟨Nat.le_of_ble_eq_true rfl, Nat.le_of_ble_eq_true rfl⟩ rfl (Nat.le_of_ble_eq_true rfl) dX11_peer_14 ?_
    refine ps_if_eq (tgt := 24) hG dX11_peer_17 (by decide) (fun c17 => ?_) (fun c17 => ?_)
    · replace h := ps_ip c17 h
      refine ps_iconst (v := 0) hG dX11_peer_24 (by decide) ?_
      exact (ps_sub [0, 1, 2, 3] rfl (hJ25 0 h))
    · replace h := ps_in c17 h
      refine ps_iconst (v := 1) hG dX11_peer_20 (by decide) ?_
      refine ps_goto (tgt := 25) hG dX11_peer_21 (by decide) ?_
      exact (ps_sub [0, 1, 2, 3] rfl (hJ25 1 h))
def f_X11_turn_J14 (S : ps_S) (p1 : Int32) (p2 : Int32) (s1_14 : Int32) : Option (Int32 × ps_S) :=
  (ps_b2 (f_X11_holds S s1_14) fun r14 S14 =>
    (if r14 = 0 then
      some (0, S14)
    else
      (if ps_ib p1 16 = true then
      (if ps_ib p1 16 = true then
      (if (S14 83 p1.toNatClampNeg) = 0 ∨ (S14 83 p1.toNatClampNeg) = 1 then some (S14 83 p1.toNatClampNeg, ps_up S14 83 p1.toNatClampNeg (vp_nar .boolean p2)) else none) else none) else none)))
def f_X11_turn (S : ps_S) (p1 : Int32) (p2 : Int32) : Option (Int32 × ps_S) :=
  ((f_X11_isPeer S p1).bind fun r3 =>
  (if r3 = 0 then
    f_X11_turn_J14 S p1 p2 1
  else
    f_X11_turn_J14 S p1 p2 0))
theorem inX11_turn_X11 : ∀ q ∈ wsX110, q ∈ wsX11_turn := fun _ h => List.mem_cons_of_mem _ (List.mem_append_right _ h)
theorem mX11_turn_16 : Cond.fieldLink RX11 16 (TX11 5).1 (TX11 5).2.1 (TX11 5).2.2.1 ∈ wsX11_turn := List.mem_of_getElem? (i := 1) rfl
set_option maxHeartbeats 4000000 in
set_option maxRecDepth 100000 in
theorem c_X11_turn (l : Launch) {w : ps_X} (hw : ps_ww w) {S S' : ps_S} {p1 p2 : Int32} {r : Int32} (h : f_X11_turn S p1 p2 = some (r, S')) : ps_MetI l yX11_turn wsX11_turn (ps_rm 2 43) w [.ref (w.2.1 80), .int p1, .int p2] S S' r := by
  refine ps_mkZ (cc := cX11_turn) (maxL := 4) (own := RX11) (by decide +kernel) rfl rfl rfl (Nat.le_of_ble_eq_true rfl) rfl (fun G hl hG hret => ?_)
  unfold f_X11_turn at h
  refine ps_aload_n hG dX11_turn_0 rfl 0 rfl ?_
  refine ps_aload_n hG dX11_turn_1 rfl 0 rfl ?_
  refine ps_iload_n hG dX11_turn_2 rfl 1 rfl ?_
  obtain ⟨r3, hr3, h⟩ := ps_bd h
  refine ps_callVI (As := [.int p1]) (rest := [.ref (w.2.1 80)]) (nA := 1) hG (c_X11_isPeer _ hw hr3) gX11_turn_X11_isPeer rfl (by decide +kernel) rfl ⟨Nat.le_of_ble_eq_true rfl, Nat.le_of_ble_eq_true rfl⟩ ⟨rfl, rfl⟩ ⟨Nat.le_of_ble_eq_true rfl, Nat.le_of_ble_eq_true rfl⟩ (ps_lt hw ps_q80.2.2.1) (ps_cel_20 ps_q80.1 _) rfl rfl (Nat.le_of_ble_eq_true rfl) dX11_turn_3 ?_
  have hJ14 : ∀ (s1_14 : Int32), f_X11_turn_J14 S p1 p2 s1_14 = some (r, S') → ps_V G 4 0 0 w S 14 [(0, .ref (w.2.1 80)), (1, .int p1), (2, .int p2)] [.int s1_14, .ref (w.2.1 80)] := by
    intro s1_14 h
    unfold f_X11_turn_J14 at h
    obtain ⟨r14, S14, hr14, h⟩ := ps_d2 h
    refine ps_callVI (As := [.int s1_14]) (rest := []) (nA := 1) hG (c_X11_holds _ hw hr14) gX11_turn_X11_holds rfl (by decide +kernel) rfl ⟨Nat.le_of_ble_eq_true rfl, Nat.le_of_ble_eq_true rfl⟩ ⟨rfl, rfl⟩ ⟨Nat.le_of_ble_eq_true rfl, Nat.le_of_ble_eq_true rfl⟩ (ps_lt hw ps_q80.2.2.1) (ps_cel_20 ps_q80.1 _) rfl rfl (Nat.le_of_ble_eq_true rfl) dX11_turn_14 ?_
    refine ps_if_ne (tgt := 22) hG dX11_turn_17 (by decide) (fun c17 => ?_) (fun c17 => ?_)
    · replace h := ps_in c17 h
      refine ps_aload_n hG dX11_turn_22 rfl 0 rfl ?_
      refine ps_get20_5 hG hw inX11_turn_X11 ps_q80.1 (ps_lt hw ps_q80.2.2.1) mX11_turn_16 dX11_turn_23 ?_
      refine ps_iload_n hG dX11_turn_26 rfl 1 rfl ?_
      obtain ⟨hb27, h⟩ := ps_ig h
      refine ps_zald hG ps_q83.1 ps_q83.2.1 (ps_lt hw ps_q83.2.2.1) hb27 dX11_turn_27 ?_
      refine ps_istore_n (lv' := [(3, .int (S14 83 p1.toNatClampNeg)), (0, .ref (w.2.1 80)), (1, .int p1), (2, .int p2)]) hG dX11_turn_28 rfl (by decide) rfl ?_
      refine ps_aload_n hG dX11_turn_29 rfl 1 rfl ?_
      refine ps_get20_5 hG hw inX11_turn_X11 ps_q80.1 (ps_lt hw ps_q80.2.2.1) mX11_turn_16 dX11_turn_30 ?_
      refine ps_iload_n hG dX11_turn_33 rfl 2 rfl ?_
      refine ps_iload_n hG dX11_turn_34 rfl 3 rfl ?_
      obtain ⟨hb35, h⟩ := ps_ig h
      refine ps_zast hG ps_q83.1 ps_q83.2.1 (ps_lt hw ps_q83.2.2.1) hb35 dX11_turn_35 ?_
      refine ps_iload_n hG dX11_turn_36 rfl 0 rfl ?_
      obtain ⟨hz37, h⟩ := ps_ig h
      cases h
      exact hret _ _ dX11_turn_37 (ps_z01 hz37)
    · replace h := ps_ip c17 h
      refine ps_iconst (v := 0) hG dX11_turn_20 (by decide) ?_
      cases h
      exact hret _ _ dX11_turn_21 rfl
  refine ps_if_eq (tgt := 13) hG dX11_turn_6 (by decide) (fun c6 => ?_) (fun c6 => ?_)
  · replace h := ps_ip c6 h
    refine ps_iconst (v := 1) hG dX11_turn_13 (by decide) ?_
    exact (ps_sub [0, 1, 2] rfl (hJ14 1 h))
  · replace h := ps_in c6 h
    refine ps_iconst (v := 0) hG dX11_turn_9 (by decide) ?_
    refine ps_goto (tgt := 14) hG dX11_turn_10 (by decide) ?_
    exact (ps_sub [0, 1, 2] rfl (hJ14 0 h))
def f_X11_bucket_J32 (S : ps_S) (p1 : Int32) (p2 : Int32) (p3 : Int32) (s1_32 : Int32) : Option (Int32 × ps_S) :=
  (ps_b2 (f_X11_holds S s1_32) fun r32 S32 =>
    (if r32 = 0 then
      some (0, S32)
    else
      (if ps_ib ((8 * p1) + p2) 128 = true then
      (if (S32 85 ((8 * p1) + p2).toNatClampNeg) ≤ p3 then
        some ((-1), S32)
      else
        (if ps_ib ((2 * ((8 * p1) + p2)) + p3) 256 = true then
        some (S32 84 ((2 * ((8 * p1) + p2)) + p3).toNatClampNeg, S32) else none)) else none)))
def f_X11_bucket (S : ps_S) (p1 : Int32) (p2 : Int32) (p3 : Int32) : Option (Int32 × ps_S) :=
  ((f_X11_isPeer S p1).bind fun r3 =>
  (if r3 = 0 then
    f_X11_bucket_J32 S p1 p2 p3 1
  else
    (if 0 ≤ p3 then
      ((f_X11_isIn p2 0 7).bind fun r21 =>
      (if r21 = 0 then
        f_X11_bucket_J32 S p1 p2 p3 2
      else
        f_X11_bucket_J32 S p1 p2 p3 0))
    else
      f_X11_bucket_J32 S p1 p2 p3 1)))
theorem inX11_bucket_X11 : ∀ q ∈ wsX110, q ∈ wsX11_bucket := fun _ h => List.mem_cons_of_mem _ (List.mem_append_right _ h)
theorem mX11_bucket_20 : Cond.fieldLink RX11 20 (TX11 6).1 (TX11 6).2.1 (TX11 6).2.2.1 ∈ wsX11_bucket := List.mem_of_getElem? (i := 2) rfl
theorem mX11_bucket_23 : Cond.fieldLink RX11 23 (TX11 7).1 (TX11 7).2.1 (TX11 7).2.2.1 ∈ wsX11_bucket := List.mem_of_getElem? (i := 1) rfl
set_option maxHeartbeats 4000000 in
set_option maxRecDepth 100000 in
theorem c_X11_bucket (l : Launch) {w : ps_X} (hw : ps_ww w) {S S' : ps_S} {p1 p2 p3 : Int32} {r : Int32} (h : f_X11_bucket S p1 p2 p3 = some (r, S')) : ps_MetI l yX11_bucket wsX11_bucket (ps_rm 2 43) w [.ref (w.2.1 80), .int p1, .int p2, .int p3] S S' r := by
  refine ps_mkI (cc := cX11_bucket) (maxL := 5) (own := RX11) (by decide +kernel) rfl (Or.inl rfl) rfl (Nat.le_of_ble_eq_true rfl) rfl (fun G hl hG hret => ?_)
  unfold f_X11_bucket at h
  refine ps_aload_n hG dX11_bucket_0 rfl 0 rfl ?_
  refine ps_aload_n hG dX11_bucket_1 rfl 0 rfl ?_
  refine ps_iload_n hG dX11_bucket_2 rfl 1 rfl ?_
  obtain ⟨r3, hr3, h⟩ := ps_bd h
  refine ps_callVI (As := [.int p1]) (rest := [.ref (w.2.1 80)]) (nA := 1) hG (c_X11_isPeer _ hw hr3) gX11_bucket_X11_isPeer rfl (by decide +kernel) rfl ⟨Nat.le_of_ble_eq_true rfl, Nat.le_of_ble_eq_true rfl⟩ ⟨rfl, rfl⟩ ⟨Nat.le_of_ble_eq_true rfl, Nat.le_of_ble_eq_true rfl⟩ (ps_lt hw ps_q80.2.2.1) (ps_cel_20 ps_q80.1 _) rfl rfl (Nat.le_of_ble_eq_true rfl) dX11_bucket_3 ?_
  have hJ32 : ∀ (s1_32 : Int32), f_X11_bucket_J32 S p1 p2 p3 s1_32 = some (r, S') → ps_V G 5 0 0 w S 32 [(0, .ref (w.2.1 80)), (1, .int p1), (2, .int p2), (3, .int p3)] [.int s1_32, .ref (w.2.1 80)] := by
    intro s1_32 h
    unfold f_X11_bucket_J32 at h
    obtain ⟨r32, S32, hr32, h⟩ := ps_d2 h
    refine ps_callVI (As := [.int s1_32]) (rest := []) (nA := 1) hG (c_X11_holds _ hw hr32) gX11_bucket_X11_holds rfl (by decide +kernel) rfl ⟨Nat.le_of_ble_eq_true rfl, Nat.le_of_ble_eq_true rfl⟩ ⟨rfl, rfl⟩ ⟨Nat.le_of_ble_eq_true rfl, Nat.le_of_ble_eq_true rfl⟩ (ps_lt hw ps_q80.2.2.1) (ps_cel_20 ps_q80.1 _) rfl rfl (Nat.le_of_ble_eq_true rfl) dX11_bucket_32 ?_
    refine ps_if_ne (tgt := 40) hG dX11_bucket_35 (by decide) (fun c35 => ?_) (fun c35 => ?_)
    · replace h := ps_in c35 h
      refine ps_bipush (v := 8) hG dX11_bucket_40 (by decide) ?_
      refine ps_iload_n hG dX11_bucket_42 rfl 1 rfl ?_
      refine ps_imul hG dX11_bucket_43 ?_
      refine ps_iload_n hG dX11_bucket_44 rfl 2 rfl ?_
      refine ps_iadd hG dX11_bucket_45 ?_
      refine ps_istore (lv' := [(4, .int ((8 * p1) + p2)), (0, .ref (w.2.1 80)), (1, .int p1), (2, .int p2), (3, .int p3)]) hG dX11_bucket_46 (by decide) rfl ?_
      refine ps_iload_n hG dX11_bucket_48 rfl 4 rfl ?_
      refine ps_aload_n hG dX11_bucket_49 rfl 1 rfl ?_
      refine ps_get20_7 hG hw inX11_bucket_X11 ps_q80.1 (ps_lt hw ps_q80.2.2.1) mX11_bucket_23 dX11_bucket_50 ?_
      refine ps_iload hG dX11_bucket_53 0 rfl ?_
      obtain ⟨hb55, h⟩ := ps_ig h
      refine ps_iald hG ps_q85.1 ps_q85.2.1 (ps_lt hw ps_q85.2.2.1) hb55 dX11_bucket_55 ?_
      refine ps_icmp_ge (tgt := 73) hG dX11_bucket_56 (by decide) (fun c56 => ?_) (fun c56 => ?_)
      · replace h := ps_ip c56 h
        refine ps_iconst (v := (-1)) hG dX11_bucket_73 (by decide) ?_
        cases h
        exact hret _ _ dX11_bucket_74
      · replace h := ps_in c56 h
        refine ps_aload_n hG dX11_bucket_59 rfl 1 rfl ?_
        refine ps_get20_6 hG hw inX11_bucket_X11 ps_q80.1 (ps_lt hw ps_q80.2.2.1) mX11_bucket_20 dX11_bucket_60 ?_
        refine ps_iconst (v := 2) hG dX11_bucket_63 (by decide) ?_
        refine ps_iload hG dX11_bucket_64 0 rfl ?_
        refine ps_imul hG dX11_bucket_66 ?_
        refine ps_iload_n hG dX11_bucket_67 rfl 4 rfl ?_
        refine ps_iadd hG dX11_bucket_68 ?_
        obtain ⟨hb69, h⟩ := ps_ig h
        refine ps_iald hG ps_q84.1 ps_q84.2.1 (ps_lt hw ps_q84.2.2.1) hb69 dX11_bucket_69 ?_
        refine ps_goto (tgt := 74) hG dX11_bucket_70 (by decide) ?_
        cases h
        exact hret _ _ dX11_bucket_74
    · replace h := ps_ip c35 h
      refine ps_iconst (v := 0) hG dX11_bucket_38 (by decide) ?_
      cases h
      exact hret _ _ dX11_bucket_39
  refine ps_if_eq (tgt := 13) hG dX11_bucket_6 (by decide) (fun c6 => ?_) (fun c6 => ?_)
  · replace h := ps_ip c6 h
    refine ps_iconst (v := 1) hG dX11_bucket_13 (by decide) ?_
    refine ps_goto (tgt := 32) hG dX11_bucket_14 (by decide) ?_
    exact (ps_sub [0, 1, 2, 3] rfl (hJ32 1 h))
  · replace h := ps_in c6 h
    refine ps_iload_n hG dX11_bucket_9 rfl 3 rfl ?_
    refine ps_if_ge (tgt := 17) hG dX11_bucket_10 (by decide) (fun c10 => ?_) (fun c10 => ?_)
    · replace h := ps_ip c10 h
      refine ps_iload_n hG dX11_bucket_17 rfl 2 rfl ?_
      refine ps_iconst (v := 0) hG dX11_bucket_18 (by decide) ?_
      refine ps_bipush (v := 7) hG dX11_bucket_19 (by decide) ?_
      obtain ⟨r21, hr21, h⟩ := ps_bd h
      refine ps_callSI (As := [.int p2, .int 0, .int 7]) (rest := [.ref (w.2.1 80)]) (nA := 3) hG (c_X11_isIn _ hw hr21) gX11_bucket_X11_isIn rfl (by decide +kernel) rfl ⟨Nat.le_of_ble_eq_true rfl, Nat.le_of_ble_eq_true rfl⟩ ⟨rfl, rfl⟩ ⟨Nat.le_of_ble_eq_true rfl, Nat.le_of_ble_eq_true rfl⟩ rfl (Nat.le_of_ble_eq_true rfl) dX11_bucket_21 ?_
      refine ps_if_eq (tgt := 31) hG dX11_bucket_24 (by decide) (fun c24 => ?_) (fun c24 => ?_)
      · replace h := ps_ip c24 h
        refine ps_iconst (v := 2) hG dX11_bucket_31 (by decide) ?_
        exact (ps_sub [0, 1, 2, 3] rfl (hJ32 2 h))
      · replace h := ps_in c24 h
        refine ps_iconst (v := 0) hG dX11_bucket_27 (by decide) ?_
        refine ps_goto (tgt := 32) hG dX11_bucket_28 (by decide) ?_
        exact (ps_sub [0, 1, 2, 3] rfl (hJ32 0 h))
    · replace h := ps_in c10 h
      refine ps_iconst (v := 1) hG dX11_bucket_13 (by decide) ?_
      refine ps_goto (tgt := 32) hG dX11_bucket_14 (by decide) ?_
      exact (ps_sub [0, 1, 2, 3] rfl (hJ32 1 h))
def f_X11_lookup_J67 (S : ps_S) (p1 : Int32) (p2 : Int32) (p3 : Int32) (s1_67 : Int32) : Option (Int32 × ps_S) :=
  (ps_b2 (f_X11_holds S s1_67) fun r67 S67 =>
      (if r67 = 0 then
        some (0, S67)
      else
        ((f_X11_looksUp S67 p1 p2 p3).bind fun S79 =>
        ((f_X11_told S79).bind fun r83 =>
        some (r83, S79)))))
def f_X11_lookup_J32 (S : ps_S) (p1 : Int32) (p2 : Int32) (p3 : Int32) (r2 : Int32) (s0_32 : Int32) : Option (Int32 × ps_S) :=
  (if r2 = 0 then
      f_X11_lookup_J67 S p1 p2 p3 1
    else
      (if s0_32 = 0 then
        f_X11_lookup_J67 S p1 p2 p3 2
      else
        (if ps_ib p1 16 = true then
        (if (S 83 p1.toNatClampNeg) = 0 then
          f_X11_lookup_J67 S p1 p2 p3 3
        else
          f_X11_lookup_J67 S p1 p2 p3 0) else none)))
def f_X11_lookup (S : ps_S) (p1 : Int32) (p2 : Int32) (p3 : Int32) : Option (Int32 × ps_S) :=
  ((f_X11_isPeer S p1).bind fun r2 =>
  ((f_X11_isIn p2 0 255).bind fun r12 =>
  (if r12 = 0 then
    f_X11_lookup_J32 S p1 p2 p3 r2 0
  else
    ((f_X11_isIn p3 1 2).bind fun r21 =>
    (if r21 = 0 then
      f_X11_lookup_J32 S p1 p2 p3 r2 0
    else
      f_X11_lookup_J32 S p1 p2 p3 r2 1)))))
theorem inX11_lookup_X11 : ∀ q ∈ wsX110, q ∈ wsX11_lookup := fun _ h => List.mem_cons_of_mem _ (List.mem_append_right _ h)
theorem mX11_lookup_16 : Cond.fieldLink RX11 16 (TX11 5).1 (TX11 5).2.1 (TX11 5).2.2.1 ∈ wsX11_lookup := List.mem_of_getElem? (i := 1) rfl
set_option maxHeartbeats 4000000 in
set_option maxRecDepth 100000 in
theorem c_X11_lookup (l : Launch) {w : ps_X} (hw : ps_ww w) {S S' : ps_S} {p1 p2 p3 : Int32} {r : Int32} (h : f_X11_lookup S p1 p2 p3 = some (r, S')) : ps_MetI l yX11_lookup wsX11_lookup (ps_rm 4 109) w [.ref (w.2.1 80), .int p1, .int p2, .int p3] S S' r := by
  refine ps_mkI (cc := cX11_lookup) (maxL := 6) (own := RX11) (by decide +kernel) rfl (Or.inl rfl) rfl (Nat.le_of_ble_eq_true rfl) rfl (fun G hl hG hret => ?_)
  unfold f_X11_lookup at h
  refine ps_aload_n hG dX11_lookup_0 rfl 0 rfl ?_
  refine ps_iload_n hG dX11_lookup_1 rfl 1 rfl ?_
  obtain ⟨r2, hr2, h⟩ := ps_bd h
  refine ps_callVI (As := [.int p1]) (rest := []) (nA := 1) hG (c_X11_isPeer _ hw hr2) gX11_lookup_X11_isPeer rfl (by decide +kernel) rfl ⟨Nat.le_of_ble_eq_true rfl, Nat.le_of_ble_eq_true rfl⟩ ⟨rfl, rfl⟩ ⟨Nat.le_of_ble_eq_true rfl, Nat.le_of_ble_eq_true rfl⟩ (ps_lt hw ps_q80.2.2.1) (ps_cel_20 ps_q80.1 _) rfl rfl (Nat.le_of_ble_eq_true rfl) dX11_lookup_2 ?_
  refine ps_istore (lv' := [(4, .int r2), (0, .ref (w.2.1 80)), (1, .int p1), (2, .int p2), (3, .int p3)]) hG dX11_lookup_5 (by decide) rfl ?_
  refine ps_iload_n hG dX11_lookup_7 rfl 3 rfl ?_
  refine ps_iconst (v := 0) hG dX11_lookup_8 (by decide) ?_
  refine ps_sipush (v := 255) hG dX11_lookup_9 (by decide) ?_
  obtain ⟨r12, hr12, h⟩ := ps_bd h
  refine ps_callSI (As := [.int p2, .int 0, .int 255]) (rest := []) (nA := 3) hG (c_X11_isIn _ hw hr12) gX11_lookup_X11_isIn rfl (by decide +kernel) rfl ⟨Nat.le_of_ble_eq_true rfl, Nat.le_of_ble_eq_true rfl⟩ ⟨rfl, rfl⟩ ⟨Nat.le_of_ble_eq_true rfl, Nat.le_of_ble_eq_true rfl⟩ rfl (Nat.le_of_ble_eq_true rfl) dX11_lookup_12 ?_
  have hJ32 : ∀ (s0_32 : Int32), f_X11_lookup_J32 S p1 p2 p3 r2 s0_32 = some (r, S') → ps_V G 6 0 0 w S 32 [(0, .ref (w.2.1 80)), (1, .int p1), (2, .int p2), (3, .int p3), (4, .int r2)] [.int s0_32] := by
    intro s0_32 h
    unfold f_X11_lookup_J32 at h
    refine ps_istore (lv' := [(5, .int s0_32), (0, .ref (w.2.1 80)), (1, .int p1), (2, .int p2), (3, .int p3), (4, .int r2)]) hG dX11_lookup_32 (by decide) rfl ?_
    refine ps_aload_n hG dX11_lookup_34 rfl 1 rfl ?_
    refine ps_iload hG dX11_lookup_35 5 rfl ?_
    have hJ67 : ∀ (s1_67 : Int32), f_X11_lookup_J67 S p1 p2 p3 s1_67 = some (r, S') → ps_V G 6 0 0 w S 67 [(0, .ref (w.2.1 80)), (1, .int p1), (2, .int p2), (3, .int p3)] [.int s1_67, .ref (w.2.1 80)] := by
      intro s1_67 h
      unfold f_X11_lookup_J67 at h
      obtain ⟨r67, S67, hr67, h⟩ := ps_d2 h
      refine ps_callVI (As := [.int s1_67]) (rest := []) (nA := 1) hG (c_X11_holds _ hw hr67) gX11_lookup_X11_holds rfl (by decide +kernel) rfl ⟨Nat.le_of_ble_eq_true rfl, Nat.le_of_ble_eq_true rfl⟩ ⟨rfl, rfl⟩ ⟨Nat.le_of_ble_eq_true rfl, Nat.le_of_ble_eq_true rfl⟩ (ps_lt hw ps_q80.2.2.1) (ps_cel_20 ps_q80.1 _) rfl rfl (Nat.le_of_ble_eq_true rfl) dX11_lookup_67 ?_
      refine ps_if_ne (tgt := 75) hG dX11_lookup_70 (by decide) (fun c70 => ?_) (fun c70 => ?_)
      · replace h := ps_in c70 h
        refine ps_aload_n hG dX11_lookup_75 rfl 0 rfl ?_
        refine ps_iload_n hG dX11_lookup_76 rfl 1 rfl ?_
        refine ps_iload_n hG dX11_lookup_77 rfl 2 rfl ?_
        refine ps_iload_n hG dX11_lookup_78 rfl 3 rfl ?_
        obtain ⟨S79, hr79, h⟩ := ps_bd h
        refine ps_callVV (As := [.int p1, .int p2, .int p3]) (rest := []) (nA := 3) hG (c_X11_looksUp _ hw hr79) gX11_lookup_X11_looksUp rfl (by decide +kernel) rfl ⟨Nat.le_of_ble_eq_true rfl, Nat.le_of_ble_eq_true rfl⟩ ⟨rfl, rfl⟩ ⟨Nat.le_of_ble_eq_true rfl, Nat.le_of_ble_eq_true rfl⟩ (ps_lt hw ps_q80.2.2.1) (ps_cel_20 ps_q80.1 _) rfl rfl (Nat.le_of_ble_eq_true rfl) dX11_lookup_79 ?_
        refine ps_aload_n hG dX11_lookup_82 rfl 0 rfl ?_
        obtain ⟨r83, hr83, h⟩ := ps_bd h
        refine ps_callVI (As := []) (rest := []) (nA := 0) hG (c_X11_told _ hw hr83) gX11_lookup_X11_told rfl (by decide +kernel) rfl ⟨Nat.le_of_ble_eq_true rfl, Nat.le_of_ble_eq_true rfl⟩ ⟨rfl, rfl⟩ ⟨Nat.le_of_ble_eq_true rfl, Nat.le_of_ble_eq_true rfl⟩ (ps_lt hw ps_q80.2.2.1) (ps_cel_20 ps_q80.1 _) rfl rfl (Nat.le_of_ble_eq_true rfl) dX11_lookup_83 ?_
        cases h
        exact hret _ _ dX11_lookup_86
      · replace h := ps_ip c70 h
        refine ps_iconst (v := 0) hG dX11_lookup_73 (by decide) ?_
        cases h
        exact hret _ _ dX11_lookup_74
    refine ps_if_ne (tgt := 44) hG dX11_lookup_37 (by decide) (fun c37 => ?_) (fun c37 => ?_)
    · replace h := ps_in c37 h
      refine ps_iload hG dX11_lookup_44 0 rfl ?_
      refine ps_if_ne (tgt := 53) hG dX11_lookup_46 (by decide) (fun c46 => ?_) (fun c46 => ?_)
      · replace h := ps_in c46 h
        refine ps_aload_n hG dX11_lookup_53 rfl 1 rfl ?_
        refine ps_get20_5 hG hw inX11_lookup_X11 ps_q80.1 (ps_lt hw ps_q80.2.2.1) mX11_lookup_16 dX11_lookup_54 ?_
        refine ps_iload_n hG dX11_lookup_57 rfl 2 rfl ?_
        obtain ⟨hb58, h⟩ := ps_ig h
        refine ps_zald hG ps_q83.1 ps_q83.2.1 (ps_lt hw ps_q83.2.2.1) hb58 dX11_lookup_58 ?_
        refine ps_if_eq (tgt := 66) hG dX11_lookup_59 (by decide) (fun c59 => ?_) (fun c59 => ?_)
        · replace h := ps_ip c59 h
          refine ps_iconst (v := 3) hG dX11_lookup_66 (by decide) ?_
          exact (ps_sub [1, 2, 3, 4] rfl (hJ67 3 h))
        · replace h := ps_in c59 h
          refine ps_iconst (v := 0) hG dX11_lookup_62 (by decide) ?_
          refine ps_goto (tgt := 67) hG dX11_lookup_63 (by decide) ?_
          exact (ps_sub [1, 2, 3, 4] rfl (hJ67 0 h))
      · replace h := ps_ip c46 h
        refine ps_iconst (v := 2) hG dX11_lookup_49 (by decide) ?_
        refine ps_goto (tgt := 67) hG dX11_lookup_50 (by decide) ?_
        exact (ps_sub [1, 2, 3, 4] rfl (hJ67 2 h))
    · replace h := ps_ip c37 h
      refine ps_iconst (v := 1) hG dX11_lookup_40 (by decide) ?_
      refine ps_goto (tgt := 67) hG dX11_lookup_41 (by decide) ?_
      exact (ps_sub [1, 2, 3, 4] rfl (hJ67 1 h))
  refine ps_if_eq (tgt := 31) hG dX11_lookup_15 (by decide) (fun c15 => ?_) (fun c15 => ?_)
  · replace h := ps_ip c15 h
    refine ps_iconst (v := 0) hG dX11_lookup_31 (by decide) ?_
    exact (ps_sub [1, 2, 3, 4, 0] rfl (hJ32 0 h))
  · replace h := ps_in c15 h
    refine ps_iload_n hG dX11_lookup_18 rfl 4 rfl ?_
    refine ps_iconst (v := 1) hG dX11_lookup_19 (by decide) ?_
    refine ps_iconst (v := 2) hG dX11_lookup_20 (by decide) ?_
    obtain ⟨r21, hr21, h⟩ := ps_bd h
    refine ps_callSI (As := [.int p3, .int 1, .int 2]) (rest := []) (nA := 3) hG (c_X11_isIn _ hw hr21) gX11_lookup_X11_isIn rfl (by decide +kernel) rfl ⟨Nat.le_of_ble_eq_true rfl, Nat.le_of_ble_eq_true rfl⟩ ⟨rfl, rfl⟩ ⟨Nat.le_of_ble_eq_true rfl, Nat.le_of_ble_eq_true rfl⟩ rfl (Nat.le_of_ble_eq_true rfl) dX11_lookup_21 ?_
    refine ps_if_eq (tgt := 31) hG dX11_lookup_24 (by decide) (fun c24 => ?_) (fun c24 => ?_)
    · replace h := ps_ip c24 h
      refine ps_iconst (v := 0) hG dX11_lookup_31 (by decide) ?_
      exact (ps_sub [1, 2, 3, 4, 0] rfl (hJ32 0 h))
    · replace h := ps_in c24 h
      refine ps_iconst (v := 1) hG dX11_lookup_27 (by decide) ?_
      refine ps_goto (tgt := 32) hG dX11_lookup_28 (by decide) ?_
      exact (ps_sub [1, 2, 3, 4, 0] rfl (hJ32 1 h))
def f_X11_asked (S : ps_S) : Option (Int32 × ps_S) :=
  some ((ps_up S 80 0 0) 80 14, ps_up S 80 0 0)
theorem inX11_asked_X11 : ∀ q ∈ wsX110, q ∈ wsX11_asked := fun _ h => List.mem_cons_of_mem _ (List.mem_append_right _ h)
theorem mX11_asked_74 : Cond.fieldLink RX11 74 (TX11 0).1 (TX11 0).2.1 (TX11 0).2.2.1 ∈ wsX11_asked := List.mem_of_getElem? (i := 1) rfl
theorem mX11_asked_92 : Cond.fieldLink RX11 92 (TX11 14).1 (TX11 14).2.1 (TX11 14).2.2.1 ∈ wsX11_asked := List.mem_of_getElem? (i := 2) rfl
set_option maxHeartbeats 4000000 in
set_option maxRecDepth 100000 in
theorem c_X11_asked (l : Launch) {w : ps_X} (hw : ps_ww w) {S S' : ps_S} {r : Int32} (h : f_X11_asked S = some (r, S')) : ps_MetI l yX11_asked wsX11_asked (ps_rm 0 0) w [.ref (w.2.1 80)] S S' r := by
  refine ps_mkI (cc := cX11_asked) (maxL := 1) (own := RX11) (by decide +kernel) rfl (Or.inl rfl) rfl (Nat.le_of_ble_eq_true rfl) rfl (fun G hl hG hret => ?_)
  unfold f_X11_asked at h
  refine ps_aload_n hG dX11_asked_0 rfl 0 rfl ?_
  refine ps_iconst (v := 0) hG dX11_asked_1 (by decide) ?_
  refine ps_put20_0 hG inX11_asked_X11 ps_q80.1 (ps_lt hw ps_q80.2.2.1) ps_q80.2.2.2 mX11_asked_74 dX11_asked_2 ?_
  refine ps_aload_n hG dX11_asked_5 rfl 0 rfl ?_
  refine ps_get20_14 hG inX11_asked_X11 ps_q80.1 (ps_lt hw ps_q80.2.2.1) mX11_asked_92 dX11_asked_6 ?_
  cases h
  exact hret _ _ dX11_asked_9
def f_X11_closest_J87 (T39 : ps_S) (v3_39 : Int32) (s2_87 : Int32) : Option ((ps_S × Int32) ⊕ (ps_S)) :=
  (if ps_ib v3_39 16 = true then
              some (.inl (ps_up T39 88 v3_39.toNatClampNeg (vp_nar .boolean s2_87), v3_39 + 1)) else none)
def f_X11_closest_L39 (p1 : Int32) (T39 : ps_S) (v3_39 : Int32) : Option ((ps_S × Int32) ⊕ (ps_S)) :=
  (if 16 ≤ v3_39 then
            some (.inr T39)
          else
            (if (T39 80 2) ≤ v3_39 then
              f_X11_closest_J87 T39 v3_39 0
            else
              (if v3_39 = p1 then
                f_X11_closest_J87 T39 v3_39 0
              else
                (if ps_ib v3_39 16 = true then
                (if (T39 83 v3_39.toNatClampNeg) = 0 then
                  f_X11_closest_J87 T39 v3_39 0
                else
                  (if ps_ib v3_39 16 = true then
                  (if (T39 82 v3_39.toNatClampNeg) = 1 then
                    f_X11_closest_J87 T39 v3_39 0
                  else
                    f_X11_closest_J87 T39 v3_39 1) else none)) else none))))
def f_X11_closest_J29 (S : ps_S) (p1 : Int32) (p2 : Int32) (s1_29 : Int32) : Option (Int32 × ps_S) :=
  (ps_b2 (f_X11_holds S s1_29) fun r29 S29 =>
    (if r29 = 0 then
      some (0, S29)
    else
      ((ps_it (fun (a : ps_S × Int32) => f_X11_closest_L39 p1 a.1 a.2) ps_fu (S29, 0)).bind (fun S39 => ((f_X11_closestOf S39 p2).bind fun S96 =>
      ((f_X11_told S96).bind fun r100 =>
      some (r100, S96)))))))
def f_X11_closest (S : ps_S) (p1 : Int32) (p2 : Int32) : Option (Int32 × ps_S) :=
  ((f_X11_isPeer S p1).bind fun r3 =>
  (if r3 = 0 then
    f_X11_closest_J29 S p1 p2 1
  else
    ((f_X11_isIn p2 0 255).bind fun r18 =>
    (if r18 = 0 then
      f_X11_closest_J29 S p1 p2 2
    else
      f_X11_closest_J29 S p1 p2 0))))
theorem inX11_closest_X11 : ∀ q ∈ wsX110, q ∈ wsX11_closest := fun _ h => List.mem_cons_of_mem _ (List.mem_append_right _ h)
theorem mX11_closest_13 : Cond.fieldLink RX11 13 (TX11 4).1 (TX11 4).2.1 (TX11 4).2.2.1 ∈ wsX11_closest := List.mem_of_getElem? (i := 4) rfl
theorem mX11_closest_16 : Cond.fieldLink RX11 16 (TX11 5).1 (TX11 5).2.1 (TX11 5).2.2.1 ∈ wsX11_closest := List.mem_of_getElem? (i := 3) rfl
theorem mX11_closest_32 : Cond.fieldLink RX11 32 (TX11 10).1 (TX11 10).2.1 (TX11 10).2.2.1 ∈ wsX11_closest := List.mem_of_getElem? (i := 1) rfl
theorem mX11_closest_78 : Cond.fieldLink RX11 78 (TX11 2).1 (TX11 2).2.1 (TX11 2).2.2.1 ∈ wsX11_closest := List.mem_of_getElem? (i := 2) rfl
set_option maxHeartbeats 4000000 in
set_option maxRecDepth 100000 in
theorem c_X11_closest (l : Launch) {w : ps_X} (hw : ps_ww w) {S S' : ps_S} {p1 p2 : Int32} {r : Int32} (h : f_X11_closest S p1 p2 = some (r, S')) : ps_MetI l yX11_closest wsX11_closest (ps_rm 2 43) w [.ref (w.2.1 80), .int p1, .int p2] S S' r := by
  refine ps_mkI (cc := cX11_closest) (maxL := 4) (own := RX11) (by decide +kernel) rfl (Or.inl rfl) rfl (Nat.le_of_ble_eq_true rfl) rfl (fun G hl hG hret => ?_)
  unfold f_X11_closest at h
  refine ps_aload_n hG dX11_closest_0 rfl 0 rfl ?_
  refine ps_aload_n hG dX11_closest_1 rfl 0 rfl ?_
  refine ps_iload_n hG dX11_closest_2 rfl 1 rfl ?_
  obtain ⟨r3, hr3, h⟩ := ps_bd h
  refine ps_callVI (As := [.int p1]) (rest := [.ref (w.2.1 80)]) (nA := 1) hG (c_X11_isPeer _ hw hr3) gX11_closest_X11_isPeer rfl (by decide +kernel) rfl ⟨Nat.le_of_ble_eq_true rfl, Nat.le_of_ble_eq_true rfl⟩ ⟨rfl, rfl⟩ ⟨Nat.le_of_ble_eq_true rfl, Nat.le_of_ble_eq_true rfl⟩ (ps_lt hw ps_q80.2.2.1) (ps_cel_20 ps_q80.1 _) rfl rfl (Nat.le_of_ble_eq_true rfl) dX11_closest_3 ?_
  have hJ29 : ∀ (s1_29 : Int32), f_X11_closest_J29 S p1 p2 s1_29 = some (r, S') → ps_V G 4 0 0 w S 29 [(0, .ref (w.2.1 80)), (1, .int p1), (2, .int p2)] [.int s1_29, .ref (w.2.1 80)] := by
    intro s1_29 h
    unfold f_X11_closest_J29 at h
    obtain ⟨r29, S29, hr29, h⟩ := ps_d2 h
    refine ps_callVI (As := [.int s1_29]) (rest := []) (nA := 1) hG (c_X11_holds _ hw hr29) gX11_closest_X11_holds rfl (by decide +kernel) rfl ⟨Nat.le_of_ble_eq_true rfl, Nat.le_of_ble_eq_true rfl⟩ ⟨rfl, rfl⟩ ⟨Nat.le_of_ble_eq_true rfl, Nat.le_of_ble_eq_true rfl⟩ (ps_lt hw ps_q80.2.2.1) (ps_cel_20 ps_q80.1 _) rfl rfl (Nat.le_of_ble_eq_true rfl) dX11_closest_29 ?_
    refine ps_if_ne (tgt := 37) hG dX11_closest_32 (by decide) (fun c32 => ?_) (fun c32 => ?_)
    · replace h := ps_in c32 h
      refine ps_iconst (v := 0) hG dX11_closest_37 (by decide) ?_
      refine ps_istore_n (lv' := [(3, .int 0), (0, .ref (w.2.1 80)), (1, .int p1), (2, .int p2)]) hG dX11_closest_38 rfl (by decide) rfl ?_
      obtain ⟨S39, hq39, h⟩ := ps_bd h
      refine (ps_sub [1, 2, 3, 0] rfl (ps_itV (fun (a : ps_S × Int32) => ps_V G 4 0 0 w a.1 39 [(0, .ref (w.2.1 80)), (1, .int p1), (2, .int p2), (3, .int a.2)] []) (fun (b : ps_S) => ps_V G 4 0 0 w b 94 [(0, .ref (w.2.1 80)), (2, .int p2)] []) ?_ _ _ _ hq39 ?_))
      · intro a r9 h kc ke
        obtain ⟨T39, v3_39⟩ := a
        replace h : f_X11_closest_L39 p1 T39 v3_39 = some r9 := h
        show ps_V G 4 0 0 w T39 39 [(0, .ref (w.2.1 80)), (1, .int p1), (2, .int p2), (3, .int v3_39)] []
        unfold f_X11_closest_L39 at h
        refine ps_iload_n hG dX11_closest_39 rfl 3 rfl ?_
        refine ps_bipush (v := 16) hG dX11_closest_40 (by decide) ?_
        refine ps_icmp_ge (tgt := 94) hG dX11_closest_42 (by decide) (fun c42 => ?_) (fun c42 => ?_)
        · replace h := ps_ip c42 h
          cases h
          exact (ps_sub [0, 2] rfl (ke _ rfl))
        · replace h := ps_in c42 h
          refine ps_aload_n hG dX11_closest_45 rfl 0 rfl ?_
          refine ps_get20_10 hG hw inX11_closest_X11 ps_q80.1 (ps_lt hw ps_q80.2.2.1) mX11_closest_32 dX11_closest_46 ?_
          refine ps_iload_n hG dX11_closest_49 rfl 3 rfl ?_
          refine ps_iload_n hG dX11_closest_50 rfl 3 rfl ?_
          refine ps_aload_n hG dX11_closest_51 rfl 0 rfl ?_
          refine ps_get20_2 hG inX11_closest_X11 ps_q80.1 (ps_lt hw ps_q80.2.2.1) mX11_closest_78 dX11_closest_52 ?_
          have hJ87 : ∀ (s2_87 : Int32), f_X11_closest_J87 T39 v3_39 s2_87 = some r9 → ps_V G 4 0 0 w T39 87 [(0, .ref (w.2.1 80)), (1, .int p1), (2, .int p2), (3, .int v3_39)] [.int s2_87, .int v3_39, .ref (w.2.1 88)] := by
            intro s2_87 h
            unfold f_X11_closest_J87 at h
            obtain ⟨hb87, h⟩ := ps_ig h
            refine ps_zast hG ps_q88.1 ps_q88.2.1 (ps_lt hw ps_q88.2.2.1) hb87 dX11_closest_87 ?_
            refine ps_iinc (lv' := [(3, .int (v3_39 + 1)), (0, .ref (w.2.1 80)), (1, .int p1), (2, .int p2)]) hG dX11_closest_88 3 rfl (by rfl) (by decide) rfl ?_
            refine ps_goto (tgt := 39) hG dX11_closest_91 (by decide) ?_
            cases h
            exact (ps_sub [1, 2, 3, 0] rfl (kc _ rfl))
          refine ps_icmp_ge (tgt := 86) hG dX11_closest_55 (by decide) (fun c55 => ?_) (fun c55 => ?_)
          · replace h := ps_ip c55 h
            refine ps_iconst (v := 0) hG dX11_closest_86 (by decide) ?_
            exact (ps_sub [0, 1, 2, 3] rfl (hJ87 0 h))
          · replace h := ps_in c55 h
            refine ps_iload_n hG dX11_closest_58 rfl 3 rfl ?_
            refine ps_iload_n hG dX11_closest_59 rfl 1 rfl ?_
            refine ps_icmp_eq (tgt := 86) hG dX11_closest_60 (by decide) (fun c60 => ?_) (fun c60 => ?_)
            · replace h := ps_ip c60 h
              refine ps_iconst (v := 0) hG dX11_closest_86 (by decide) ?_
              exact (ps_sub [0, 1, 2, 3] rfl (hJ87 0 h))
            · replace h := ps_in c60 h
              refine ps_aload_n hG dX11_closest_63 rfl 0 rfl ?_
              refine ps_get20_5 hG hw inX11_closest_X11 ps_q80.1 (ps_lt hw ps_q80.2.2.1) mX11_closest_16 dX11_closest_64 ?_
              refine ps_iload_n hG dX11_closest_67 rfl 3 rfl ?_
              obtain ⟨hb68, h⟩ := ps_ig h
              refine ps_zald hG ps_q83.1 ps_q83.2.1 (ps_lt hw ps_q83.2.2.1) hb68 dX11_closest_68 ?_
              refine ps_if_eq (tgt := 86) hG dX11_closest_69 (by decide) (fun c69 => ?_) (fun c69 => ?_)
              · replace h := ps_ip c69 h
                refine ps_iconst (v := 0) hG dX11_closest_86 (by decide) ?_
                exact (ps_sub [0, 1, 2, 3] rfl (hJ87 0 h))
              · replace h := ps_in c69 h
                refine ps_aload_n hG dX11_closest_72 rfl 0 rfl ?_
                refine ps_get20_4 hG hw inX11_closest_X11 ps_q80.1 (ps_lt hw ps_q80.2.2.1) mX11_closest_13 dX11_closest_73 ?_
                refine ps_iload_n hG dX11_closest_76 rfl 3 rfl ?_
                obtain ⟨hb77, h⟩ := ps_ig h
                refine ps_iald hG ps_q82.1 ps_q82.2.1 (ps_lt hw ps_q82.2.2.1) hb77 dX11_closest_77 ?_
                refine ps_iconst (v := 1) hG dX11_closest_78 (by decide) ?_
                refine ps_icmp_eq (tgt := 86) hG dX11_closest_79 (by decide) (fun c79 => ?_) (fun c79 => ?_)
                · replace h := ps_ip c79 h
                  refine ps_iconst (v := 0) hG dX11_closest_86 (by decide) ?_
                  exact (ps_sub [0, 1, 2, 3] rfl (hJ87 0 h))
                · replace h := ps_in c79 h
                  refine ps_iconst (v := 1) hG dX11_closest_82 (by decide) ?_
                  refine ps_goto (tgt := 87) hG dX11_closest_83 (by decide) ?_
                  exact (ps_sub [0, 1, 2, 3] rfl (hJ87 1 h))
      · show ps_V G 4 0 0 w S39 94 [(0, .ref (w.2.1 80)), (2, .int p2)] []
        refine ps_aload_n hG dX11_closest_94 rfl 0 rfl ?_
        refine ps_iload_n hG dX11_closest_95 rfl 1 rfl ?_
        obtain ⟨S96, hr96, h⟩ := ps_bd h
        refine ps_callVV (As := [.int p2]) (rest := []) (nA := 1) hG (c_X11_closestOf _ hw hr96) gX11_closest_X11_closestOf rfl (by decide +kernel) rfl ⟨Nat.le_of_ble_eq_true rfl, Nat.le_of_ble_eq_true rfl⟩ ⟨rfl, rfl⟩ ⟨Nat.le_of_ble_eq_true rfl, Nat.le_of_ble_eq_true rfl⟩ (ps_lt hw ps_q80.2.2.1) (ps_cel_20 ps_q80.1 _) rfl rfl (Nat.le_of_ble_eq_true rfl) dX11_closest_96 ?_
        refine ps_aload_n hG dX11_closest_99 rfl 0 rfl ?_
        obtain ⟨r100, hr100, h⟩ := ps_bd h
        refine ps_callVI (As := []) (rest := []) (nA := 0) hG (c_X11_told _ hw hr100) gX11_closest_X11_told rfl (by decide +kernel) rfl ⟨Nat.le_of_ble_eq_true rfl, Nat.le_of_ble_eq_true rfl⟩ ⟨rfl, rfl⟩ ⟨Nat.le_of_ble_eq_true rfl, Nat.le_of_ble_eq_true rfl⟩ (ps_lt hw ps_q80.2.2.1) (ps_cel_20 ps_q80.1 _) rfl rfl (Nat.le_of_ble_eq_true rfl) dX11_closest_100 ?_
        cases h
        exact hret _ _ dX11_closest_103
    · replace h := ps_ip c32 h
      refine ps_iconst (v := 0) hG dX11_closest_35 (by decide) ?_
      cases h
      exact hret _ _ dX11_closest_36
  refine ps_if_ne (tgt := 13) hG dX11_closest_6 (by decide) (fun c6 => ?_) (fun c6 => ?_)
  · replace h := ps_in c6 h
    refine ps_iload_n hG dX11_closest_13 rfl 2 rfl ?_
    refine ps_iconst (v := 0) hG dX11_closest_14 (by decide) ?_
    refine ps_sipush (v := 255) hG dX11_closest_15 (by decide) ?_
    obtain ⟨r18, hr18, h⟩ := ps_bd h
    refine ps_callSI (As := [.int p2, .int 0, .int 255]) (rest := [.ref (w.2.1 80)]) (nA := 3) hG (c_X11_isIn _ hw hr18) gX11_closest_X11_isIn rfl (by decide +kernel) rfl ⟨Nat.le_of_ble_eq_true rfl, Nat.le_of_ble_eq_true rfl⟩ ⟨rfl, rfl⟩ ⟨Nat.le_of_ble_eq_true rfl, Nat.le_of_ble_eq_true rfl⟩ rfl (Nat.le_of_ble_eq_true rfl) dX11_closest_18 ?_
    refine ps_if_eq (tgt := 28) hG dX11_closest_21 (by decide) (fun c21 => ?_) (fun c21 => ?_)
    · replace h := ps_ip c21 h
      refine ps_iconst (v := 2) hG dX11_closest_28 (by decide) ?_
      exact (ps_sub [0, 1, 2] rfl (hJ29 2 h))
    · replace h := ps_in c21 h
      refine ps_iconst (v := 0) hG dX11_closest_24 (by decide) ?_
      refine ps_goto (tgt := 29) hG dX11_closest_25 (by decide) ?_
      exact (ps_sub [0, 1, 2] rfl (hJ29 0 h))
  · replace h := ps_ip c6 h
    refine ps_iconst (v := 1) hG dX11_closest_9 (by decide) ?_
    refine ps_goto (tgt := 29) hG dX11_closest_10 (by decide) ?_
    exact (ps_sub [0, 1, 2] rfl (hJ29 1 h))
def f_X11_twice (p0 : Int32) : Option Int32 :=
  (if 128 ≤ p0 then
    some ((2 * p0) ^^^ 285)
  else
    some (2 * p0))
set_option maxHeartbeats 4000000 in
set_option maxRecDepth 100000 in
theorem c_X11_twice (l : Launch) {w : ps_X} (hw : ps_ww w) {S : ps_S} {p0 : Int32} {r : Int32} (h : f_X11_twice p0 = some r) : ps_MetI l yX11_twice wsX11_twice (ps_rm 0 0) w [.int p0] S S r := by
  refine ps_mkI (cc := cX11_twice) (maxL := 1) (own := RX11) (by decide +kernel) rfl (Or.inl rfl) rfl (Nat.le_of_ble_eq_true rfl) rfl (fun G hl hG hret => ?_)
  unfold f_X11_twice at h
  refine ps_iload_n hG dX11_twice_0 rfl 0 rfl ?_
  refine ps_sipush (v := 128) hG dX11_twice_1 (by decide) ?_
  refine ps_icmp_ge (tgt := 13) hG dX11_twice_4 (by decide) (fun c4 => ?_) (fun c4 => ?_)
  · replace h := ps_ip c4 h
    refine ps_iconst (v := 2) hG dX11_twice_13 (by decide) ?_
    refine ps_iload_n hG dX11_twice_14 rfl 0 rfl ?_
    refine ps_imul hG dX11_twice_15 ?_
    refine ps_sipush (v := 285) hG dX11_twice_16 (by decide) ?_
    refine ps_ixor hG dX11_twice_19 ?_
    cases h
    exact hret _ _ dX11_twice_20
  · replace h := ps_in c4 h
    refine ps_iconst (v := 2) hG dX11_twice_7 (by decide) ?_
    refine ps_iload_n hG dX11_twice_8 rfl 0 rfl ?_
    refine ps_imul hG dX11_twice_9 ?_
    refine ps_goto (tgt := 20) hG dX11_twice_10 (by decide) ?_
    cases h
    exact hret _ _ dX11_twice_20
def f_X11_times_J26 (v2_7 : Int32) (v3_7 : Int32) (v4_7 : Int32) (s1_26 : Int32) : Option ((Int32 × Int32 × Int32) ⊕ (Int32)) :=
  ((f_X11_twice v3_7).bind fun r29 =>
          some (.inl (v2_7 ^^^ s1_26, r29, v4_7 / 2)))
def f_X11_times_L7  (v2_7 : Int32) (v3_7 : Int32) (v4_7 : Int32) : Option ((Int32 × Int32 × Int32) ⊕ (Int32)) :=
  (if v4_7 ≤ 0 then
        some (.inr v2_7)
      else
        (if (v4_7 - v4_7 / 2 * 2) = 1 then
          f_X11_times_J26 v2_7 v3_7 v4_7 v3_7
        else
          f_X11_times_J26 v2_7 v3_7 v4_7 0))
def f_X11_times (p0 : Int32) (p1 : Int32) : Option Int32 :=
  ((ps_it (fun (a : Int32 × Int32 × Int32) => f_X11_times_L7 a.1 a.2.1 a.2.2) ps_fu (0, p0, p1)).bind (fun e2_7 => some e2_7))
set_option maxHeartbeats 4000000 in
set_option maxRecDepth 100000 in
theorem c_X11_times (l : Launch) {w : ps_X} (hw : ps_ww w) {S : ps_S} {p0 p1 : Int32} {r : Int32} (h : f_X11_times p0 p1 = some r) : ps_MetI l yX11_times wsX11_times (ps_rm 1 20) w [.int p0, .int p1] S S r := by
  refine ps_mkI (cc := cX11_times) (maxL := 5) (own := RX11) (by decide +kernel) rfl (Or.inl rfl) rfl (Nat.le_of_ble_eq_true rfl) rfl (fun G hl hG hret => ?_)
  unfold f_X11_times at h
  refine ps_iconst (v := 0) hG dX11_times_0 (by decide) ?_
  refine ps_istore_n (lv' := [(2, .int 0), (0, .int p0), (1, .int p1)]) hG dX11_times_1 rfl (by decide) rfl ?_
  refine ps_iload_n hG dX11_times_2 rfl 1 rfl ?_
  refine ps_istore_n (lv' := [(3, .int p0), (2, .int 0), (0, .int p0), (1, .int p1)]) hG dX11_times_3 rfl (by decide) rfl ?_
  refine ps_iload_n hG dX11_times_4 rfl 3 rfl ?_
  refine ps_istore (lv' := [(4, .int p1), (3, .int p0), (2, .int 0), (0, .int p0), (1, .int p1)]) hG dX11_times_5 (by decide) rfl ?_
  obtain ⟨e2_7, hq7, h⟩ := ps_bd h
  refine (ps_sub [2, 1, 0] rfl (ps_itV (fun (a : Int32 × Int32 × Int32) => ps_V G 5 0 0 w S 7 [(2, .int a.1), (3, .int a.2.1), (4, .int a.2.2)] []) (fun (b : Int32) => ps_V G 5 0 0 w S 42 [(2, .int b)] []) ?_ _ _ _ hq7 ?_))
  · intro a r9 h kc ke
    obtain ⟨v2_7, v3_7, v4_7⟩ := a
    replace h : f_X11_times_L7 v2_7 v3_7 v4_7 = some r9 := h
    show ps_V G 5 0 0 w S 7 [(2, .int v2_7), (3, .int v3_7), (4, .int v4_7)] []
    unfold f_X11_times_L7 at h
    refine ps_iload hG dX11_times_7 2 rfl ?_
    refine ps_if_le (tgt := 42) hG dX11_times_9 (by decide) (fun c9 => ?_) (fun c9 => ?_)
    · replace h := ps_ip c9 h
      cases h
      exact (ps_sub [0] rfl (ke _ rfl))
    · replace h := ps_in c9 h
      refine ps_iload_n hG dX11_times_12 rfl 0 rfl ?_
      refine ps_iload hG dX11_times_13 2 rfl ?_
      refine ps_iconst (v := 2) hG dX11_times_15 (by decide) ?_
      refine ps_irem hG dX11_times_16 (by decide) ?_
      refine ps_iconst (v := 1) hG dX11_times_17 (by decide) ?_
      have hJ26 : ∀ (s1_26 : Int32), f_X11_times_J26 v2_7 v3_7 v4_7 s1_26 = some r9 → ps_V G 5 0 0 w S 26 [(3, .int v3_7), (4, .int v4_7)] [.int s1_26, .int v2_7] := by
        intro s1_26 h
        unfold f_X11_times_J26 at h
        refine ps_ixor hG dX11_times_26 ?_
        refine ps_istore_n (lv' := [(2, .int (v2_7 ^^^ s1_26)), (3, .int v3_7), (4, .int v4_7)]) hG dX11_times_27 rfl (by decide) rfl ?_
        refine ps_iload_n hG dX11_times_28 rfl 1 rfl ?_
        obtain ⟨r29, hr29, h⟩ := ps_bd h
        refine ps_callSI (As := [.int v3_7]) (rest := []) (nA := 1) hG (c_X11_twice _ hw hr29) gX11_times_X11_twice rfl (by decide +kernel) rfl ⟨Nat.le_of_ble_eq_true rfl, Nat.le_of_ble_eq_true rfl⟩ ⟨rfl, rfl⟩ ⟨Nat.le_of_ble_eq_true rfl, Nat.le_of_ble_eq_true rfl⟩ rfl (Nat.le_of_ble_eq_true rfl) dX11_times_29 ?_
        refine ps_istore_n (lv' := [(3, .int r29), (2, .int (v2_7 ^^^ s1_26)), (4, .int v4_7)]) hG dX11_times_32 rfl (by decide) rfl ?_
        refine ps_iload hG dX11_times_33 2 rfl ?_
        refine ps_iconst (v := 2) hG dX11_times_35 (by decide) ?_
        refine ps_idiv hG dX11_times_36 (by decide) ?_
        refine ps_istore (lv' := [(4, .int (v4_7 / 2)), (3, .int r29), (2, .int (v2_7 ^^^ s1_26))]) hG dX11_times_37 (by decide) rfl ?_
        refine ps_goto (tgt := 7) hG dX11_times_39 (by decide) ?_
        cases h
        exact (ps_sub [2, 1, 0] rfl (kc _ rfl))
      refine ps_icmp_ne (tgt := 25) hG dX11_times_18 (by decide) (fun c18 => ?_) (fun c18 => ?_)
      · replace h := ps_in c18 h
        refine ps_iconst (v := 0) hG dX11_times_25 (by decide) ?_
        exact (ps_sub [1, 2] rfl (hJ26 0 h))
      · replace h := ps_ip c18 h
        refine ps_iload_n hG dX11_times_21 rfl 1 rfl ?_
        refine ps_goto (tgt := 26) hG dX11_times_22 (by decide) ?_
        exact (ps_sub [1, 2] rfl (hJ26 v3_7 h))
  · show ps_V G 5 0 0 w S 42 [(2, .int e2_7)] []
    refine ps_iload_n hG dX11_times_42 rfl 0 rfl ?_
    cases h
    exact hret _ _ dX11_times_43
def f_X11_hash (p0 : Int32) (p1 : Int32) : Option Int32 :=
  some (((((p0 * 31) + p1) * 1103515245) + 12345) ^^^ (ps_ushr ((((p0 * 31) + p1) * 1103515245) + 12345) 16))
theorem mX11_hash_139 : Cond.constant RX11 139 (1103515245) ∈ wsX11_hash := List.mem_of_getElem? (i := 1) rfl
set_option maxHeartbeats 4000000 in
set_option maxRecDepth 100000 in
theorem c_X11_hash (l : Launch) {w : ps_X} (hw : ps_ww w) {S : ps_S} {p0 p1 : Int32} {r : Int32} (h : f_X11_hash p0 p1 = some r) : ps_MetI l yX11_hash wsX11_hash (ps_rm 0 0) w [.int p0, .int p1] S S r := by
  refine ps_mkI (cc := cX11_hash) (maxL := 3) (own := RX11) (by decide +kernel) rfl (Or.inl rfl) rfl (Nat.le_of_ble_eq_true rfl) rfl (fun G hl hG hret => ?_)
  unfold f_X11_hash at h
  refine ps_iload_n hG dX11_hash_0 rfl 0 rfl ?_
  refine ps_bipush (v := 31) hG dX11_hash_1 (by decide) ?_
  refine ps_imul hG dX11_hash_3 ?_
  refine ps_iload_n hG dX11_hash_4 rfl 1 rfl ?_
  refine ps_iadd hG dX11_hash_5 ?_
  refine ps_ldc hG mX11_hash_139 dX11_hash_6 ?_
  refine ps_imul hG dX11_hash_8 ?_
  refine ps_sipush (v := 12345) hG dX11_hash_9 (by decide) ?_
  refine ps_iadd hG dX11_hash_12 ?_
  refine ps_istore_n (lv' := [(2, .int ((((p0 * 31) + p1) * 1103515245) + 12345)), (0, .int p0), (1, .int p1)]) hG dX11_hash_13 rfl (by decide) rfl ?_
  refine ps_iload_n hG dX11_hash_14 rfl 0 rfl ?_
  refine ps_iload_n hG dX11_hash_15 rfl 0 rfl ?_
  refine ps_bipush (v := 16) hG dX11_hash_16 (by decide) ?_
  refine ps_iushr hG dX11_hash_18 ?_
  refine ps_ixor hG dX11_hash_19 ?_
  cases h
  exact hret _ _ dX11_hash_20
def f_X11_laysTree_J41 (T2 : ps_S) (v2_2 : Int32) (s2_41 : Int32) : Option ((ps_S × Int32) ⊕ (ps_S)) :=
  (if ps_ib (8 + v2_2) 16 = true then
          some (.inl (ps_up T2 96 (8 + v2_2).toNatClampNeg s2_41, v2_2 + 1)) else none)
def f_X11_laysTree_L2 (p1 : Int32) (T2 : ps_S) (v2_2 : Int32) : Option ((ps_S × Int32) ⊕ (ps_S)) :=
  (if 8 ≤ v2_2 then
        some (.inr T2)
      else
        (if 6 ≤ v2_2 then
          f_X11_laysTree_J41 T2 v2_2 0
        else
          (if ps_ib ((6 * p1) + v2_2) 72 = true then
          ((f_X11_hash (T2 92 ((6 * p1) + v2_2).toNatClampNeg) v2_2).bind fun r34 =>
          f_X11_laysTree_J41 T2 v2_2 r34) else none)))
def f_X11_laysTree_L51  (T51 : ps_S) (v2_51 : Int32) : Option ((ps_S × Int32) ⊕ (ps_S)) :=
  (if v2_51 ≤ 0 then
        some (.inr T51)
      else
        (if ps_ib (2 * v2_51) 16 = true then
        (if ps_ib ((2 * v2_51) + 1) 16 = true then
        ((f_X11_hash (T51 96 (2 * v2_51).toNatClampNeg) (T51 96 ((2 * v2_51) + 1).toNatClampNeg)).bind fun r78 =>
        (if ps_ib v2_51 16 = true then
        some (.inl (ps_up T51 96 v2_51.toNatClampNeg r78, v2_51 + (-1))) else none)) else none) else none))
def f_X11_laysTree (S : ps_S) (p1 : Int32) : Option ps_S :=
  ((ps_it (fun (a : ps_S × Int32) => f_X11_laysTree_L2 p1 a.1 a.2) ps_fu (S, 0)).bind (fun S2 => ((ps_it (fun (a : ps_S × Int32) => f_X11_laysTree_L51 a.1 a.2) ps_fu (S2, 7)).bind (fun S51 => some S51))))
theorem inX11_laysTree_X11 : ∀ q ∈ wsX110, q ∈ wsX11_laysTree := fun _ h => List.mem_cons_of_mem _ (List.mem_append_right _ h)
theorem mX11_laysTree_44 : Cond.fieldLink RX11 44 (TX11 17).1 (TX11 17).2.1 (TX11 17).2.2.1 ∈ wsX11_laysTree := List.mem_of_getElem? (i := 2) rfl
theorem mX11_laysTree_56 : Cond.fieldLink RX11 56 (TX11 21).1 (TX11 21).2.1 (TX11 21).2.2.1 ∈ wsX11_laysTree := List.mem_of_getElem? (i := 1) rfl
set_option maxHeartbeats 4000000 in
set_option maxRecDepth 100000 in
theorem c_X11_laysTree (l : Launch) {w : ps_X} (hw : ps_ww w) {S S' : ps_S} {p1 : Int32} (h : f_X11_laysTree S p1 = some S') : ps_MetV l yX11_laysTree wsX11_laysTree (ps_rm 1 22) w [.ref (w.2.1 80), .int p1] S S' := by
  refine ps_mkV (cc := cX11_laysTree) (maxL := 3) (own := RX11) (by decide +kernel) rfl rfl rfl (Nat.le_of_ble_eq_true rfl) rfl (fun G hl hG hret => ?_)
  unfold f_X11_laysTree at h
  refine ps_iconst (v := 0) hG dX11_laysTree_0 (by decide) ?_
  refine ps_istore_n (lv' := [(2, .int 0), (0, .ref (w.2.1 80)), (1, .int p1)]) hG dX11_laysTree_1 rfl (by decide) rfl ?_
  obtain ⟨S2, hq2, h⟩ := ps_bd h
  refine (ps_sub [1, 2, 0] rfl (ps_itV (fun (a : ps_S × Int32) => ps_V G 3 0 0 w a.1 2 [(0, .ref (w.2.1 80)), (1, .int p1), (2, .int a.2)] []) (fun (b : ps_S) => ps_V G 3 0 0 w b 48 [(0, .ref (w.2.1 80))] []) ?_ _ _ _ hq2 ?_))
  · intro a r9 h kc ke
    obtain ⟨T2, v2_2⟩ := a
    replace h : f_X11_laysTree_L2 p1 T2 v2_2 = some r9 := h
    show ps_V G 3 0 0 w T2 2 [(0, .ref (w.2.1 80)), (1, .int p1), (2, .int v2_2)] []
    unfold f_X11_laysTree_L2 at h
    refine ps_iload_n hG dX11_laysTree_2 rfl 2 rfl ?_
    refine ps_bipush (v := 8) hG dX11_laysTree_3 (by decide) ?_
    refine ps_icmp_ge (tgt := 48) hG dX11_laysTree_5 (by decide) (fun c5 => ?_) (fun c5 => ?_)
    · replace h := ps_ip c5 h
      cases h
      exact (ps_sub [0] rfl (ke _ rfl))
    · replace h := ps_in c5 h
      refine ps_aload_n hG dX11_laysTree_8 rfl 0 rfl ?_
      refine ps_get20_21 hG hw inX11_laysTree_X11 ps_q80.1 (ps_lt hw ps_q80.2.2.1) mX11_laysTree_56 dX11_laysTree_9 ?_
      refine ps_bipush (v := 8) hG dX11_laysTree_12 (by decide) ?_
      refine ps_iload_n hG dX11_laysTree_14 rfl 2 rfl ?_
      refine ps_iadd hG dX11_laysTree_15 ?_
      refine ps_iload_n hG dX11_laysTree_16 rfl 2 rfl ?_
      refine ps_bipush (v := 6) hG dX11_laysTree_17 (by decide) ?_
      have hJ41 : ∀ (s2_41 : Int32), f_X11_laysTree_J41 T2 v2_2 s2_41 = some r9 → ps_V G 3 0 0 w T2 41 [(0, .ref (w.2.1 80)), (1, .int p1), (2, .int v2_2)] [.int s2_41, .int (8 + v2_2), .ref (w.2.1 96)] := by
        intro s2_41 h
        unfold f_X11_laysTree_J41 at h
        obtain ⟨hb41, h⟩ := ps_ig h
        refine ps_iast hG ps_q96.1 ps_q96.2.1 (ps_lt hw ps_q96.2.2.1) hb41 dX11_laysTree_41 ?_
        refine ps_iinc (lv' := [(2, .int (v2_2 + 1)), (0, .ref (w.2.1 80)), (1, .int p1)]) hG dX11_laysTree_42 2 rfl (by rfl) (by decide) rfl ?_
        refine ps_goto (tgt := 2) hG dX11_laysTree_45 (by decide) ?_
        cases h
        exact (ps_sub [1, 2, 0] rfl (kc _ rfl))
      refine ps_icmp_ge (tgt := 40) hG dX11_laysTree_19 (by decide) (fun c19 => ?_) (fun c19 => ?_)
      · replace h := ps_ip c19 h
        refine ps_iconst (v := 0) hG dX11_laysTree_40 (by decide) ?_
        exact (ps_sub [0, 1, 2] rfl (hJ41 0 h))
      · replace h := ps_in c19 h
        refine ps_aload_n hG dX11_laysTree_22 rfl 0 rfl ?_
        refine ps_get20_17 hG hw inX11_laysTree_X11 ps_q80.1 (ps_lt hw ps_q80.2.2.1) mX11_laysTree_44 dX11_laysTree_23 ?_
        refine ps_bipush (v := 6) hG dX11_laysTree_26 (by decide) ?_
        refine ps_iload_n hG dX11_laysTree_28 rfl 1 rfl ?_
        refine ps_imul hG dX11_laysTree_29 ?_
        refine ps_iload_n hG dX11_laysTree_30 rfl 2 rfl ?_
        refine ps_iadd hG dX11_laysTree_31 ?_
        obtain ⟨hb32, h⟩ := ps_ig h
        refine ps_iald hG ps_q92.1 ps_q92.2.1 (ps_lt hw ps_q92.2.2.1) hb32 dX11_laysTree_32 ?_
        refine ps_iload_n hG dX11_laysTree_33 rfl 2 rfl ?_
        obtain ⟨r34, hr34, h⟩ := ps_bd h
        refine ps_callSI (As := [.int (T2 92 ((6 * p1) + v2_2).toNatClampNeg), .int v2_2]) (rest := [.int (8 + v2_2), .ref (w.2.1 96)]) (nA := 2) hG (c_X11_hash _ hw hr34) gX11_laysTree_X11_hash rfl (by decide +kernel) rfl ⟨Nat.le_of_ble_eq_true rfl, Nat.le_of_ble_eq_true rfl⟩ ⟨rfl, rfl⟩ ⟨Nat.le_of_ble_eq_true rfl, Nat.le_of_ble_eq_true rfl⟩ rfl (Nat.le_of_ble_eq_true rfl) dX11_laysTree_34 ?_
        refine ps_goto (tgt := 41) hG dX11_laysTree_37 (by decide) ?_
        exact (ps_sub [0, 1, 2] rfl (hJ41 r34 h))
  · show ps_V G 3 0 0 w S2 48 [(0, .ref (w.2.1 80))] []
    refine ps_bipush (v := 7) hG dX11_laysTree_48 (by decide) ?_
    refine ps_istore_n (lv' := [(2, .int 7), (0, .ref (w.2.1 80))]) hG dX11_laysTree_50 rfl (by decide) rfl ?_
    obtain ⟨S51, hq51, h⟩ := ps_bd h
    refine (ps_sub [1, 0] rfl (ps_itV (fun (a : ps_S × Int32) => ps_V G 3 0 0 w a.1 51 [(0, .ref (w.2.1 80)), (2, .int a.2)] []) (fun (b : ps_S) => ps_V G 3 0 0 w b 88 [] []) ?_ _ _ _ hq51 ?_))
    · intro a r9 h kc ke
      obtain ⟨T51, v2_51⟩ := a
      replace h : f_X11_laysTree_L51 T51 v2_51 = some r9 := h
      show ps_V G 3 0 0 w T51 51 [(0, .ref (w.2.1 80)), (2, .int v2_51)] []
      unfold f_X11_laysTree_L51 at h
      refine ps_iload_n hG dX11_laysTree_51 rfl 1 rfl ?_
      refine ps_if_le (tgt := 88) hG dX11_laysTree_52 (by decide) (fun c52 => ?_) (fun c52 => ?_)
      · replace h := ps_ip c52 h
        cases h
        exact (ps_sub [] rfl (ke _ rfl))
      · replace h := ps_in c52 h
        refine ps_aload_n hG dX11_laysTree_55 rfl 0 rfl ?_
        refine ps_get20_21 hG hw inX11_laysTree_X11 ps_q80.1 (ps_lt hw ps_q80.2.2.1) mX11_laysTree_56 dX11_laysTree_56 ?_
        refine ps_iload_n hG dX11_laysTree_59 rfl 1 rfl ?_
        refine ps_aload_n hG dX11_laysTree_60 rfl 0 rfl ?_
        refine ps_get20_21 hG hw inX11_laysTree_X11 ps_q80.1 (ps_lt hw ps_q80.2.2.1) mX11_laysTree_56 dX11_laysTree_61 ?_
        refine ps_iconst (v := 2) hG dX11_laysTree_64 (by decide) ?_
        refine ps_iload_n hG dX11_laysTree_65 rfl 1 rfl ?_
        refine ps_imul hG dX11_laysTree_66 ?_
        obtain ⟨hb67, h⟩ := ps_ig h
        refine ps_iald hG ps_q96.1 ps_q96.2.1 (ps_lt hw ps_q96.2.2.1) hb67 dX11_laysTree_67 ?_
        refine ps_aload_n hG dX11_laysTree_68 rfl 0 rfl ?_
        refine ps_get20_21 hG hw inX11_laysTree_X11 ps_q80.1 (ps_lt hw ps_q80.2.2.1) mX11_laysTree_56 dX11_laysTree_69 ?_
        refine ps_iconst (v := 2) hG dX11_laysTree_72 (by decide) ?_
        refine ps_iload_n hG dX11_laysTree_73 rfl 1 rfl ?_
        refine ps_imul hG dX11_laysTree_74 ?_
        refine ps_iconst (v := 1) hG dX11_laysTree_75 (by decide) ?_
        refine ps_iadd hG dX11_laysTree_76 ?_
        obtain ⟨hb77, h⟩ := ps_ig h
        refine ps_iald hG ps_q96.1 ps_q96.2.1 (ps_lt hw ps_q96.2.2.1) hb77 dX11_laysTree_77 ?_
        obtain ⟨r78, hr78, h⟩ := ps_bd h
        refine ps_callSI (As := [.int (T51 96 (2 * v2_51).toNatClampNeg), .int (T51 96 ((2 * v2_51) + 1).toNatClampNeg)]) (rest := [.int v2_51, .ref (w.2.1 96)]) (nA := 2) hG (c_X11_hash _ hw hr78) gX11_laysTree_X11_hash rfl (by decide +kernel) rfl ⟨Nat.le_of_ble_eq_true rfl, Nat.le_of_ble_eq_true rfl⟩ ⟨rfl, rfl⟩ ⟨Nat.le_of_ble_eq_true rfl, Nat.le_of_ble_eq_true rfl⟩ rfl (Nat.le_of_ble_eq_true rfl) dX11_laysTree_78 ?_
        obtain ⟨hb81, h⟩ := ps_ig h
        refine ps_iast hG ps_q96.1 ps_q96.2.1 (ps_lt hw ps_q96.2.2.1) hb81 dX11_laysTree_81 ?_
        refine ps_iinc (lv' := [(2, .int (v2_51 + (-1))), (0, .ref (w.2.1 80))]) hG dX11_laysTree_82 1 rfl (by rfl) (by decide) rfl ?_
        refine ps_goto (tgt := 51) hG dX11_laysTree_85 (by decide) ?_
        cases h
        exact (ps_sub [1, 0] rfl (kc _ rfl))
    · show ps_V G 3 0 0 w S51 88 [] []
      cases h
      exact hret _ _ dX11_laysTree_88
def f_X11_stores_J144 (v7_105 : Int32) (s0_144 : Int32) : Option ((Int32 × Int32) ⊕ (Int32)) :=
  some (.inl (s0_144, v7_105 + 1))
def f_X11_stores_L105 (p1 : Int32) (T60 : ps_S) (v5_60 : Int32) (v6_105 : Int32) (v7_105 : Int32) : Option ((Int32 × Int32) ⊕ (Int32)) :=
  (if 6 ≤ v7_105 then
                  some (.inr v6_105)
                else
                  (if v6_105 = 0 then
                    f_X11_stores_J144 v7_105 0
                  else
                    (if ps_ib ((6 * p1) + v7_105) 72 = true then
                    (if ps_ib v5_60 3 = true then
                    (if (T60 93 ((6 * p1) + v7_105).toNatClampNeg) = (T60 90 v5_60.toNatClampNeg) then
                      f_X11_stores_J144 v7_105 0
                    else
                      f_X11_stores_J144 v7_105 1) else none) else none)))
def f_X11_stores_J196 (v5_60 : Int32) (T196 : ps_S) : Option ((ps_S × Int32) ⊕ (ps_S)) :=
  some (.inl (T196, v5_60 + 1))
def f_X11_stores_J195 (x3_6 : Int32) (T60 : ps_S) (v5_60 : Int32) (s2_195 : Int32) : Option ((ps_S × Int32) ⊕ (ps_S)) :=
  (if ps_ib x3_6 72 = true then
                f_X11_stores_J196 v5_60 (ps_up (ps_up T60 93 x3_6.toNatClampNeg (T60 90 v5_60.toNatClampNeg)) 94 x3_6.toNatClampNeg (vp_nar .boolean s2_195)) else none)
def f_X11_stores_J100 (p1 : Int32) (x3_6 : Int32) (T60 : ps_S) (v5_60 : Int32) (s0_100 : Int32) : Option ((ps_S × Int32) ⊕ (ps_S)) :=
  ((ps_it (fun (a : Int32 × Int32) => f_X11_stores_L105 p1 T60 v5_60 a.1 a.2) ps_fu (s0_100, 0)).bind (fun e6_105 => (if e6_105 = 0 then
              f_X11_stores_J196 v5_60 T60
            else
              (if ps_ib v5_60 3 = true then
              (if ps_ib x3_6 72 = true then
              (if ps_ib v5_60 3 = true then
              (if ps_ib ((ps_up T60 93 x3_6.toNatClampNeg (T60 90 v5_60.toNatClampNeg)) 90 v5_60.toNatClampNeg) 16 = true then
              (if ((ps_up T60 93 x3_6.toNatClampNeg (T60 90 v5_60.toNatClampNeg)) 82 ((ps_up T60 93 x3_6.toNatClampNeg (T60 90 v5_60.toNatClampNeg)) 90 v5_60.toNatClampNeg).toNatClampNeg) = 0 then
                f_X11_stores_J195 x3_6 T60 v5_60 1
              else
                f_X11_stores_J195 x3_6 T60 v5_60 0) else none) else none) else none) else none))))
def f_X11_stores_L60 (p1 : Int32) (x3_6 : Int32) (T60 : ps_S) (v5_60 : Int32) : Option ((ps_S × Int32) ⊕ (ps_S)) :=
  (if (T60 80 13) ≤ v5_60 then
        some (.inr T60)
      else
        (if ps_ib x3_6 72 = true then
        (if (T60 93 x3_6.toNatClampNeg) = (-1) then
          (if ps_ib v5_60 3 = true then
          (if ps_ib p1 12 = true then
          (if (T60 90 v5_60.toNatClampNeg) = (T60 91 p1.toNatClampNeg) then
            f_X11_stores_J100 p1 x3_6 T60 v5_60 0
          else
            f_X11_stores_J100 p1 x3_6 T60 v5_60 1) else none) else none)
        else
          some (.inr T60)) else none))
def f_X11_stores (S : ps_S) (p1 : Int32) (p2 : Int32) : Option ps_S :=
  ps_lts ((6 * p1) + p2) (fun x3_6 => (if ps_ib x3_6 72 = true then
  ((f_X11_hash (S 92 x3_6.toNatClampNeg) p2).bind fun r14 =>
  (if ps_ib p1 12 = true then
  ((f_X11_looksUp S (S 91 p1.toNatClampNeg) (r14 &&& 255) 2).bind fun S33 =>
  (if ps_ib x3_6 72 = true then
  (if ps_ib x3_6 72 = true then
  (if ps_ib x3_6 72 = true then
  ((ps_it (fun (a : ps_S × Int32) => f_X11_stores_L60 p1 x3_6 a.1 a.2) ps_fu (ps_up (ps_up (ps_up S33 93 x3_6.toNatClampNeg (-1)) 95 x3_6.toNatClampNeg 0) 94 x3_6.toNatClampNeg (vp_nar .boolean 0), 0)).bind (fun S60 => some S60)) else none) else none) else none)) else none)) else none))
theorem inX11_stores_X11 : ∀ q ∈ wsX110, q ∈ wsX11_stores := fun _ h => List.mem_cons_of_mem _ (List.mem_append_right _ h)
theorem mX11_stores_114 : Cond.fieldLink RX11 114 (TX11 13).1 (TX11 13).2.1 (TX11 13).2.2.1 ∈ wsX11_stores := List.mem_of_getElem? (i := 6) rfl
theorem mX11_stores_13 : Cond.fieldLink RX11 13 (TX11 4).1 (TX11 4).2.1 (TX11 4).2.2.1 ∈ wsX11_stores := List.mem_of_getElem? (i := 8) rfl
theorem mX11_stores_38 : Cond.fieldLink RX11 38 (TX11 12).1 (TX11 12).2.1 (TX11 12).2.2.1 ∈ wsX11_stores := List.mem_of_getElem? (i := 7) rfl
theorem mX11_stores_41 : Cond.fieldLink RX11 41 (TX11 16).1 (TX11 16).2.1 (TX11 16).2.2.1 ∈ wsX11_stores := List.mem_of_getElem? (i := 2) rfl
theorem mX11_stores_44 : Cond.fieldLink RX11 44 (TX11 17).1 (TX11 17).2.1 (TX11 17).2.2.1 ∈ wsX11_stores := List.mem_of_getElem? (i := 1) rfl
theorem mX11_stores_47 : Cond.fieldLink RX11 47 (TX11 18).1 (TX11 18).2.1 (TX11 18).2.2.1 ∈ wsX11_stores := List.mem_of_getElem? (i := 3) rfl
theorem mX11_stores_50 : Cond.fieldLink RX11 50 (TX11 19).1 (TX11 19).2.1 (TX11 19).2.2.1 ∈ wsX11_stores := List.mem_of_getElem? (i := 5) rfl
theorem mX11_stores_53 : Cond.fieldLink RX11 53 (TX11 20).1 (TX11 20).2.1 (TX11 20).2.2.1 ∈ wsX11_stores := List.mem_of_getElem? (i := 4) rfl
set_option maxHeartbeats 4000000 in
set_option maxRecDepth 100000 in
theorem c_X11_stores (l : Launch) {w : ps_X} (hw : ps_ww w) {S S' : ps_S} {p1 p2 : Int32} (h : f_X11_stores S p1 p2 = some S') : ps_MetV l yX11_stores wsX11_stores (ps_rm 4 109) w [.ref (w.2.1 80), .int p1, .int p2] S S' := by
  refine ps_mkV (cc := cX11_stores) (maxL := 8) (own := RX11) (by decide +kernel) rfl rfl rfl (Nat.le_of_ble_eq_true rfl) rfl (fun G hl hG hret => ?_)
  unfold f_X11_stores at h
  refine ps_bipush (v := 6) hG dX11_stores_0 (by decide) ?_
  refine ps_iload_n hG dX11_stores_2 rfl 1 rfl ?_
  refine ps_imul hG dX11_stores_3 ?_
  refine ps_iload_n hG dX11_stores_4 rfl 2 rfl ?_
  refine ps_iadd hG dX11_stores_5 ?_
  refine ps_let h (fun x3_6 h => ?_)
  refine ps_istore_n (lv' := [(3, .int x3_6), (0, .ref (w.2.1 80)), (1, .int p1), (2, .int p2)]) hG dX11_stores_6 rfl (by decide) rfl ?_
  refine ps_aload_n hG dX11_stores_7 rfl 1 rfl ?_
  refine ps_get20_17 hG hw inX11_stores_X11 ps_q80.1 (ps_lt hw ps_q80.2.2.1) mX11_stores_44 dX11_stores_8 ?_
  refine ps_iload_n hG dX11_stores_11 rfl 0 rfl ?_
  obtain ⟨hb12, h⟩ := ps_ig h
  refine ps_iald hG ps_q92.1 ps_q92.2.1 (ps_lt hw ps_q92.2.2.1) hb12 dX11_stores_12 ?_
  refine ps_iload_n hG dX11_stores_13 rfl 3 rfl ?_
  obtain ⟨r14, hr14, h⟩ := ps_bd h
  refine ps_callSI (As := [.int (S 92 x3_6.toNatClampNeg), .int p2]) (rest := []) (nA := 2) hG (c_X11_hash _ hw hr14) gX11_stores_X11_hash rfl (by decide +kernel) rfl ⟨Nat.le_of_ble_eq_true rfl, Nat.le_of_ble_eq_true rfl⟩ ⟨rfl, rfl⟩ ⟨Nat.le_of_ble_eq_true rfl, Nat.le_of_ble_eq_true rfl⟩ rfl (Nat.le_of_ble_eq_true rfl) dX11_stores_14 ?_
  refine ps_sipush (v := 255) hG dX11_stores_17 (by decide) ?_
  refine ps_iand hG dX11_stores_20 ?_
  refine ps_istore (lv' := [(4, .int (r14 &&& 255)), (3, .int x3_6), (0, .ref (w.2.1 80)), (1, .int p1), (2, .int p2)]) hG dX11_stores_21 (by decide) rfl ?_
  refine ps_aload_n hG dX11_stores_23 rfl 2 rfl ?_
  refine ps_aload_n hG dX11_stores_24 rfl 2 rfl ?_
  refine ps_get20_16 hG hw inX11_stores_X11 ps_q80.1 (ps_lt hw ps_q80.2.2.1) mX11_stores_41 dX11_stores_25 ?_
  refine ps_iload_n hG dX11_stores_28 rfl 3 rfl ?_
  obtain ⟨hb29, h⟩ := ps_ig h
  refine ps_iald hG ps_q91.1 ps_q91.2.1 (ps_lt hw ps_q91.2.2.1) hb29 dX11_stores_29 ?_
  refine ps_iload hG dX11_stores_30 0 rfl ?_
  refine ps_iconst (v := 2) hG dX11_stores_32 (by decide) ?_
  obtain ⟨S33, hr33, h⟩ := ps_bd h
  refine ps_callVV (As := [.int (S 91 p1.toNatClampNeg), .int (r14 &&& 255), .int 2]) (rest := []) (nA := 3) hG (c_X11_looksUp _ hw hr33) gX11_stores_X11_looksUp rfl (by decide +kernel) rfl ⟨Nat.le_of_ble_eq_true rfl, Nat.le_of_ble_eq_true rfl⟩ ⟨rfl, rfl⟩ ⟨Nat.le_of_ble_eq_true rfl, Nat.le_of_ble_eq_true rfl⟩ (ps_lt hw ps_q80.2.2.1) (ps_cel_20 ps_q80.1 _) rfl rfl (Nat.le_of_ble_eq_true rfl) dX11_stores_33 ?_
  refine ps_aload_n hG dX11_stores_36 rfl 2 rfl ?_
  refine ps_get20_18 hG hw inX11_stores_X11 ps_q80.1 (ps_lt hw ps_q80.2.2.1) mX11_stores_47 dX11_stores_37 ?_
  refine ps_iload_n hG dX11_stores_40 rfl 1 rfl ?_
  refine ps_iconst (v := (-1)) hG dX11_stores_41 (by decide) ?_
  obtain ⟨hb42, h⟩ := ps_ig h
  refine ps_iast hG ps_q93.1 ps_q93.2.1 (ps_lt hw ps_q93.2.2.1) hb42 dX11_stores_42 ?_
  refine ps_aload_n hG dX11_stores_43 rfl 2 rfl ?_
  refine ps_get20_20 hG hw inX11_stores_X11 ps_q80.1 (ps_lt hw ps_q80.2.2.1) mX11_stores_53 dX11_stores_44 ?_
  refine ps_iload_n hG dX11_stores_47 rfl 1 rfl ?_
  refine ps_iconst (v := 0) hG dX11_stores_48 (by decide) ?_
  obtain ⟨hb49, h⟩ := ps_ig h
  refine ps_iast hG ps_q95.1 ps_q95.2.1 (ps_lt hw ps_q95.2.2.1) hb49 dX11_stores_49 ?_
  refine ps_aload_n hG dX11_stores_50 rfl 2 rfl ?_
  refine ps_get20_19 hG hw inX11_stores_X11 ps_q80.1 (ps_lt hw ps_q80.2.2.1) mX11_stores_50 dX11_stores_51 ?_
  refine ps_iload_n hG dX11_stores_54 rfl 1 rfl ?_
  refine ps_iconst (v := 0) hG dX11_stores_55 (by decide) ?_
  obtain ⟨hb56, h⟩ := ps_ig h
  refine ps_zast hG ps_q94.1 ps_q94.2.1 (ps_lt hw ps_q94.2.2.1) hb56 dX11_stores_56 ?_
  refine ps_iconst (v := 0) hG dX11_stores_57 (by decide) ?_
  refine ps_istore (lv' := [(5, .int 0), (4, .int (r14 &&& 255)), (3, .int x3_6), (0, .ref (w.2.1 80)), (1, .int p1), (2, .int p2)]) hG dX11_stores_58 (by decide) rfl ?_
  obtain ⟨S60, hq60, h⟩ := ps_bd h
  refine (ps_sub [3, 4, 2, 0] rfl (ps_itV (fun (a : ps_S × Int32) => ps_V G 8 0 0 w a.1 60 [(0, .ref (w.2.1 80)), (1, .int p1), (3, .int x3_6), (5, .int a.2)] []) (fun (b : ps_S) => ps_V G 8 0 0 w b 202 [] []) ?_ _ _ _ hq60 ?_))
  · intro a r9 h kc ke
    obtain ⟨T60, v5_60⟩ := a
    replace h : f_X11_stores_L60 p1 x3_6 T60 v5_60 = some r9 := h
    show ps_V G 8 0 0 w T60 60 [(0, .ref (w.2.1 80)), (1, .int p1), (3, .int x3_6), (5, .int v5_60)] []
    unfold f_X11_stores_L60 at h
    refine ps_iload hG dX11_stores_60 3 rfl ?_
    refine ps_aload_n hG dX11_stores_62 rfl 0 rfl ?_
    refine ps_get20_13 hG inX11_stores_X11 ps_q80.1 (ps_lt hw ps_q80.2.2.1) mX11_stores_114 dX11_stores_63 ?_
    refine ps_icmp_ge (tgt := 202) hG dX11_stores_66 (by decide) (fun c66 => ?_) (fun c66 => ?_)
    · replace h := ps_ip c66 h
      cases h
      exact (ps_sub [] rfl (ke _ rfl))
    · replace h := ps_in c66 h
      refine ps_aload_n hG dX11_stores_69 rfl 0 rfl ?_
      refine ps_get20_18 hG hw inX11_stores_X11 ps_q80.1 (ps_lt hw ps_q80.2.2.1) mX11_stores_47 dX11_stores_70 ?_
      refine ps_iload_n hG dX11_stores_73 rfl 2 rfl ?_
      obtain ⟨hb74, h⟩ := ps_ig h
      refine ps_iald hG ps_q93.1 ps_q93.2.1 (ps_lt hw ps_q93.2.2.1) hb74 dX11_stores_74 ?_
      refine ps_iconst (v := (-1)) hG dX11_stores_75 (by decide) ?_
      refine ps_icmp_ne (tgt := 202) hG dX11_stores_76 (by decide) (fun c76 => ?_) (fun c76 => ?_)
      · replace h := ps_in c76 h
        cases h
        exact (ps_sub [] rfl (ke _ rfl))
      · replace h := ps_ip c76 h
        refine ps_aload_n hG dX11_stores_79 rfl 0 rfl ?_
        refine ps_get20_12 hG hw inX11_stores_X11 ps_q80.1 (ps_lt hw ps_q80.2.2.1) mX11_stores_38 dX11_stores_80 ?_
        refine ps_iload hG dX11_stores_83 3 rfl ?_
        obtain ⟨hb85, h⟩ := ps_ig h
        refine ps_iald hG ps_q90.1 ps_q90.2.1 (ps_lt hw ps_q90.2.2.1) hb85 dX11_stores_85 ?_
        refine ps_aload_n hG dX11_stores_86 rfl 0 rfl ?_
        refine ps_get20_16 hG hw inX11_stores_X11 ps_q80.1 (ps_lt hw ps_q80.2.2.1) mX11_stores_41 dX11_stores_87 ?_
        refine ps_iload_n hG dX11_stores_90 rfl 1 rfl ?_
        obtain ⟨hb91, h⟩ := ps_ig h
        refine ps_iald hG ps_q91.1 ps_q91.2.1 (ps_lt hw ps_q91.2.2.1) hb91 dX11_stores_91 ?_
        have hJ100 : ∀ (s0_100 : Int32), f_X11_stores_J100 p1 x3_6 T60 v5_60 s0_100 = some r9 → ps_V G 8 0 0 w T60 100 [(0, .ref (w.2.1 80)), (1, .int p1), (3, .int x3_6), (5, .int v5_60)] [.int s0_100] := by
          intro s0_100 h
          unfold f_X11_stores_J100 at h
          refine ps_istore (lv' := [(6, .int s0_100), (0, .ref (w.2.1 80)), (1, .int p1), (3, .int x3_6), (5, .int v5_60)]) hG dX11_stores_100 (by decide) rfl ?_
          refine ps_iconst (v := 0) hG dX11_stores_102 (by decide) ?_
          refine ps_istore (lv' := [(7, .int 0), (6, .int s0_100), (0, .ref (w.2.1 80)), (1, .int p1), (3, .int x3_6), (5, .int v5_60)]) hG dX11_stores_103 (by decide) rfl ?_
          obtain ⟨e6_105, hq105, h⟩ := ps_bd h
          refine (ps_sub [2, 3, 4, 5, 1, 0] rfl (ps_itV (fun (a : Int32 × Int32) => ps_V G 8 0 0 w T60 105 [(0, .ref (w.2.1 80)), (1, .int p1), (3, .int x3_6), (5, .int v5_60), (6, .int a.1), (7, .int a.2)] []) (fun (b : Int32) => ps_V G 8 0 0 w T60 152 [(0, .ref (w.2.1 80)), (1, .int p1), (3, .int x3_6), (5, .int v5_60), (6, .int b)] []) ?_ _ _ _ hq105 ?_))
          · intro a r9 h kc ke
            obtain ⟨v6_105, v7_105⟩ := a
            replace h : f_X11_stores_L105 p1 T60 v5_60 v6_105 v7_105 = some r9 := h
            show ps_V G 8 0 0 w T60 105 [(0, .ref (w.2.1 80)), (1, .int p1), (3, .int x3_6), (5, .int v5_60), (6, .int v6_105), (7, .int v7_105)] []
            unfold f_X11_stores_L105 at h
            refine ps_iload hG dX11_stores_105 5 rfl ?_
            refine ps_bipush (v := 6) hG dX11_stores_107 (by decide) ?_
            refine ps_icmp_ge (tgt := 152) hG dX11_stores_109 (by decide) (fun c109 => ?_) (fun c109 => ?_)
            · replace h := ps_ip c109 h
              cases h
              exact (ps_sub [0, 1, 2, 3, 4] rfl (ke _ rfl))
            · replace h := ps_in c109 h
              refine ps_iload hG dX11_stores_112 4 rfl ?_
              have hJ144 : ∀ (s0_144 : Int32), f_X11_stores_J144 v7_105 s0_144 = some r9 → ps_V G 8 0 0 w T60 144 [(0, .ref (w.2.1 80)), (1, .int p1), (3, .int x3_6), (5, .int v5_60), (7, .int v7_105)] [.int s0_144] := by
                intro s0_144 h
                unfold f_X11_stores_J144 at h
                refine ps_istore (lv' := [(6, .int s0_144), (0, .ref (w.2.1 80)), (1, .int p1), (3, .int x3_6), (5, .int v5_60), (7, .int v7_105)]) hG dX11_stores_144 (by decide) rfl ?_
                refine ps_iinc (lv' := [(7, .int (v7_105 + 1)), (6, .int s0_144), (0, .ref (w.2.1 80)), (1, .int p1), (3, .int x3_6), (5, .int v5_60)]) hG dX11_stores_146 5 rfl (by rfl) (by decide) rfl ?_
                refine ps_goto (tgt := 105) hG dX11_stores_149 (by decide) ?_
                cases h
                exact (ps_sub [2, 3, 4, 5, 1, 0] rfl (kc _ rfl))
              refine ps_if_eq (tgt := 143) hG dX11_stores_114 (by decide) (fun c114 => ?_) (fun c114 => ?_)
              · replace h := ps_ip c114 h
                refine ps_iconst (v := 0) hG dX11_stores_143 (by decide) ?_
                exact (ps_sub [0, 1, 2, 3, 5] rfl (hJ144 0 h))
              · replace h := ps_in c114 h
                refine ps_aload_n hG dX11_stores_117 rfl 0 rfl ?_
                refine ps_get20_18 hG hw inX11_stores_X11 ps_q80.1 (ps_lt hw ps_q80.2.2.1) mX11_stores_47 dX11_stores_118 ?_
                refine ps_bipush (v := 6) hG dX11_stores_121 (by decide) ?_
                refine ps_iload_n hG dX11_stores_123 rfl 1 rfl ?_
                refine ps_imul hG dX11_stores_124 ?_
                refine ps_iload hG dX11_stores_125 5 rfl ?_
                refine ps_iadd hG dX11_stores_127 ?_
                obtain ⟨hb128, h⟩ := ps_ig h
                refine ps_iald hG ps_q93.1 ps_q93.2.1 (ps_lt hw ps_q93.2.2.1) hb128 dX11_stores_128 ?_
                refine ps_aload_n hG dX11_stores_129 rfl 0 rfl ?_
                refine ps_get20_12 hG hw inX11_stores_X11 ps_q80.1 (ps_lt hw ps_q80.2.2.1) mX11_stores_38 dX11_stores_130 ?_
                refine ps_iload hG dX11_stores_133 3 rfl ?_
                obtain ⟨hb135, h⟩ := ps_ig h
                refine ps_iald hG ps_q90.1 ps_q90.2.1 (ps_lt hw ps_q90.2.2.1) hb135 dX11_stores_135 ?_
                refine ps_icmp_eq (tgt := 143) hG dX11_stores_136 (by decide) (fun c136 => ?_) (fun c136 => ?_)
                · replace h := ps_ip c136 h
                  refine ps_iconst (v := 0) hG dX11_stores_143 (by decide) ?_
                  exact (ps_sub [0, 1, 2, 3, 5] rfl (hJ144 0 h))
                · replace h := ps_in c136 h
                  refine ps_iconst (v := 1) hG dX11_stores_139 (by decide) ?_
                  refine ps_goto (tgt := 144) hG dX11_stores_140 (by decide) ?_
                  exact (ps_sub [0, 1, 2, 3, 5] rfl (hJ144 1 h))
          · show ps_V G 8 0 0 w T60 152 [(0, .ref (w.2.1 80)), (1, .int p1), (3, .int x3_6), (5, .int v5_60), (6, .int e6_105)] []
            refine ps_iload hG dX11_stores_152 4 rfl ?_
            have hJ196 : ∀ (T196 : ps_S), f_X11_stores_J196 v5_60 T196 = some r9 → ps_V G 8 0 0 w T196 196 [(0, .ref (w.2.1 80)), (1, .int p1), (3, .int x3_6), (5, .int v5_60)] [] := by
              intro T196 h
              unfold f_X11_stores_J196 at h
              refine ps_iinc (lv' := [(5, .int (v5_60 + 1)), (0, .ref (w.2.1 80)), (1, .int p1), (3, .int x3_6)]) hG dX11_stores_196 3 rfl (by rfl) (by decide) rfl ?_
              refine ps_goto (tgt := 60) hG dX11_stores_199 (by decide) ?_
              cases h
              exact (ps_sub [1, 2, 3, 0] rfl (kc _ rfl))
            refine ps_if_eq (tgt := 196) hG dX11_stores_154 (by decide) (fun c154 => ?_) (fun c154 => ?_)
            · replace h := ps_ip c154 h
              exact (ps_sub [0, 1, 2, 3] rfl (hJ196 T60 h))
            · replace h := ps_in c154 h
              refine ps_aload_n hG dX11_stores_157 rfl 0 rfl ?_
              refine ps_get20_18 hG hw inX11_stores_X11 ps_q80.1 (ps_lt hw ps_q80.2.2.1) mX11_stores_47 dX11_stores_158 ?_
              refine ps_iload_n hG dX11_stores_161 rfl 2 rfl ?_
              refine ps_aload_n hG dX11_stores_162 rfl 0 rfl ?_
              refine ps_get20_12 hG hw inX11_stores_X11 ps_q80.1 (ps_lt hw ps_q80.2.2.1) mX11_stores_38 dX11_stores_163 ?_
              refine ps_iload hG dX11_stores_166 3 rfl ?_
              obtain ⟨hb168, h⟩ := ps_ig h
              refine ps_iald hG ps_q90.1 ps_q90.2.1 (ps_lt hw ps_q90.2.2.1) hb168 dX11_stores_168 ?_
              obtain ⟨hb169, h⟩ := ps_ig h
              refine ps_iast hG ps_q93.1 ps_q93.2.1 (ps_lt hw ps_q93.2.2.1) hb169 dX11_stores_169 ?_
              refine ps_aload_n hG dX11_stores_170 rfl 0 rfl ?_
              refine ps_get20_19 hG hw inX11_stores_X11 ps_q80.1 (ps_lt hw ps_q80.2.2.1) mX11_stores_50 dX11_stores_171 ?_
              refine ps_iload_n hG dX11_stores_174 rfl 2 rfl ?_
              refine ps_aload_n hG dX11_stores_175 rfl 0 rfl ?_
              refine ps_get20_4 hG hw inX11_stores_X11 ps_q80.1 (ps_lt hw ps_q80.2.2.1) mX11_stores_13 dX11_stores_176 ?_
              refine ps_aload_n hG dX11_stores_179 rfl 0 rfl ?_
              refine ps_get20_12 hG hw inX11_stores_X11 ps_q80.1 (ps_lt hw ps_q80.2.2.1) mX11_stores_38 dX11_stores_180 ?_
              refine ps_iload hG dX11_stores_183 3 rfl ?_
              obtain ⟨hb185, h⟩ := ps_ig h
              refine ps_iald hG ps_q90.1 ps_q90.2.1 (ps_lt hw ps_q90.2.2.1) hb185 dX11_stores_185 ?_
              obtain ⟨hb186, h⟩ := ps_ig h
              refine ps_iald hG ps_q82.1 ps_q82.2.1 (ps_lt hw ps_q82.2.2.1) hb186 dX11_stores_186 ?_
              have hJ195 : ∀ (s2_195 : Int32), f_X11_stores_J195 x3_6 T60 v5_60 s2_195 = some r9 → ps_V G 8 0 0 w (ps_up T60 93 x3_6.toNatClampNeg (T60 90 v5_60.toNatClampNeg)) 195 [(0, .ref (w.2.1 80)), (1, .int p1), (3, .int x3_6), (5, .int v5_60)] [.int s2_195, .int x3_6, .ref (w.2.1 94)] := by
                intro s2_195 h
                unfold f_X11_stores_J195 at h
                obtain ⟨hb195, h⟩ := ps_ig h
                refine ps_zast hG ps_q94.1 ps_q94.2.1 (ps_lt hw ps_q94.2.2.1) hb195 dX11_stores_195 ?_
                exact (ps_sub [0, 1, 2, 3] rfl (hJ196 (ps_up (ps_up T60 93 x3_6.toNatClampNeg (T60 90 v5_60.toNatClampNeg)) 94 x3_6.toNatClampNeg (vp_nar .boolean s2_195)) h))
              refine ps_if_ne (tgt := 194) hG dX11_stores_187 (by decide) (fun c187 => ?_) (fun c187 => ?_)
              · replace h := ps_in c187 h
                refine ps_iconst (v := 0) hG dX11_stores_194 (by decide) ?_
                exact (ps_sub [0, 1, 2, 3] rfl (hJ195 0 h))
              · replace h := ps_ip c187 h
                refine ps_iconst (v := 1) hG dX11_stores_190 (by decide) ?_
                refine ps_goto (tgt := 195) hG dX11_stores_191 (by decide) ?_
                exact (ps_sub [0, 1, 2, 3] rfl (hJ195 1 h))
        refine ps_icmp_eq (tgt := 99) hG dX11_stores_92 (by decide) (fun c92 => ?_) (fun c92 => ?_)
        · replace h := ps_ip c92 h
          refine ps_iconst (v := 0) hG dX11_stores_99 (by decide) ?_
          exact (ps_sub [0, 1, 2, 3] rfl (hJ100 0 h))
        · replace h := ps_in c92 h
          refine ps_iconst (v := 1) hG dX11_stores_95 (by decide) ?_
          refine ps_goto (tgt := 100) hG dX11_stores_96 (by decide) ?_
          exact (ps_sub [0, 1, 2, 3] rfl (hJ100 1 h))
  · show ps_V G 8 0 0 w S60 202 [] []
    cases h
    exact hret _ _ dX11_stores_202
def f_X11_file_L100 (p2 : Int32) (x5_57 : Int32) (T100 : ps_S) (v6_100 : Int32) : Option ((ps_S × Int32) ⊕ (ps_S)) :=
  (if 4 ≤ v6_100 then
            some (.inr T100)
          else
            (if ps_ib (x5_57 + v6_100) 72 = true then
            (if ps_ib (x5_57 + 4) 72 = true then
            (if ps_ib (x5_57 + 4) 72 = true then
            (if ps_ib (x5_57 + 5) 72 = true then
            ((f_X11_times ((p2 >>> ((8 * v6_100) &&& 31)) &&& 255) (1 <<< (v6_100 &&& 31))).bind fun r161 =>
            (if ps_ib (x5_57 + 5) 72 = true then
            some (.inl (ps_up (ps_up (ps_up T100 92 (x5_57 + v6_100).toNatClampNeg ((p2 >>> ((8 * v6_100) &&& 31)) &&& 255)) 92 (x5_57 + 4).toNatClampNeg (((ps_up T100 92 (x5_57 + v6_100).toNatClampNeg ((p2 >>> ((8 * v6_100) &&& 31)) &&& 255)) 92 (x5_57 + 4).toNatClampNeg) ^^^ ((p2 >>> ((8 * v6_100) &&& 31)) &&& 255))) 92 (x5_57 + 5).toNatClampNeg (((ps_up (ps_up T100 92 (x5_57 + v6_100).toNatClampNeg ((p2 >>> ((8 * v6_100) &&& 31)) &&& 255)) 92 (x5_57 + 4).toNatClampNeg (((ps_up T100 92 (x5_57 + v6_100).toNatClampNeg ((p2 >>> ((8 * v6_100) &&& 31)) &&& 255)) 92 (x5_57 + 4).toNatClampNeg) ^^^ ((p2 >>> ((8 * v6_100) &&& 31)) &&& 255))) 92 (x5_57 + 5).toNatClampNeg) ^^^ r161), v6_100 + 1)) else none)) else none) else none) else none) else none))
def f_X11_file_L175 (x5_57 : Int32) (T175 : ps_S) (v6_175 : Int32) : Option ((ps_S × Int32) ⊕ (ps_S)) :=
  (if 6 ≤ v6_175 then
            some (.inr T175)
          else
            (if ps_ib (x5_57 + v6_175) 72 = true then
            some (.inl (ps_up T175 93 (x5_57 + v6_175).toNatClampNeg (-1), v6_175 + 1)) else none))
def f_X11_file_L202 (x4_50 : Int32) (T202 : ps_S) (v6_202 : Int32) : Option ((ps_S × Int32) ⊕ (ps_S)) :=
  (if 6 ≤ v6_202 then
            some (.inr T202)
          else
            ((f_X11_stores T202 x4_50 v6_202).bind fun S214 =>
            some (.inl (S214, v6_202 + 1))))
def f_X11_file_J38 (S : ps_S) (p1 : Int32) (p2 : Int32) (s1_38 : Int32) : Option (Int32 × ps_S) :=
  (ps_b2 (f_X11_holds S s1_38) fun r38 S38 =>
    (if r38 = 0 then
      some (0, S38)
    else
      ps_lts (S38 80 15) (fun x4_50 => ps_lts (6 * x4_50) (fun x5_57 => (if ps_ib x4_50 12 = true then
      (if ps_ib (x5_57 + 4) 72 = true then
      (if ps_ib (x5_57 + 5) 72 = true then
      ((ps_it (fun (a : ps_S × Int32) => f_X11_file_L100 p2 x5_57 a.1 a.2) ps_fu (ps_up (ps_up (ps_up (ps_up S38 80 15 ((S38 80 15) + 1)) 91 x4_50.toNatClampNeg p1) 92 (x5_57 + 4).toNatClampNeg 0) 92 (x5_57 + 5).toNatClampNeg 0, 0)).bind (fun S100 => ((ps_it (fun (a : ps_S × Int32) => f_X11_file_L175 x5_57 a.1 a.2) ps_fu (S100, 0)).bind (fun S175 => ((ps_it (fun (a : ps_S × Int32) => f_X11_file_L202 x4_50 a.1 a.2) ps_fu (S175, 0)).bind (fun S202 => some (x4_50, S202))))))) else none) else none) else none)))))
def f_X11_file (S : ps_S) (p1 : Int32) (p2 : Int32) : Option (Int32 × ps_S) :=
  ((f_X11_isPeer S p1).bind fun r2 =>
  (if r2 = 0 then
    f_X11_file_J38 S p1 p2 1
  else
    (if ps_ib p1 16 = true then
    (if (S 83 p1.toNatClampNeg) = 0 then
      f_X11_file_J38 S p1 p2 2
    else
      (if 12 ≤ (S 80 15) then
        f_X11_file_J38 S p1 p2 2
      else
        f_X11_file_J38 S p1 p2 0)) else none)))
theorem inX11_file_X11 : ∀ q ∈ wsX110, q ∈ wsX11_file := fun _ h => List.mem_cons_of_mem _ (List.mem_append_right _ h)
theorem mX11_file_16 : Cond.fieldLink RX11 16 (TX11 5).1 (TX11 5).2.1 (TX11 5).2.2.1 ∈ wsX11_file := List.mem_of_getElem? (i := 1) rfl
theorem mX11_file_41 : Cond.fieldLink RX11 41 (TX11 16).1 (TX11 16).2.1 (TX11 16).2.2.1 ∈ wsX11_file := List.mem_of_getElem? (i := 3) rfl
theorem mX11_file_44 : Cond.fieldLink RX11 44 (TX11 17).1 (TX11 17).2.1 (TX11 17).2.2.1 ∈ wsX11_file := List.mem_of_getElem? (i := 4) rfl
theorem mX11_file_47 : Cond.fieldLink RX11 47 (TX11 18).1 (TX11 18).2.1 (TX11 18).2.2.1 ∈ wsX11_file := List.mem_of_getElem? (i := 5) rfl
theorem mX11_file_85 : Cond.fieldLink RX11 85 (TX11 15).1 (TX11 15).2.1 (TX11 15).2.2.1 ∈ wsX11_file := List.mem_of_getElem? (i := 2) rfl
set_option maxHeartbeats 4000000 in
set_option maxRecDepth 100000 in
theorem c_X11_file (l : Launch) {w : ps_X} (hw : ps_ww w) {S S' : ps_S} {p1 p2 : Int32} {r : Int32} (h : f_X11_file S p1 p2 = some (r, S')) : ps_MetI l yX11_file wsX11_file (ps_rm 5 136) w [.ref (w.2.1 80), .int p1, .int p2] S S' r := by
  refine ps_mkI (cc := cX11_file) (maxL := 8) (own := RX11) (by decide +kernel) rfl (Or.inl rfl) rfl (Nat.le_of_ble_eq_true rfl) rfl (fun G hl hG hret => ?_)
  unfold f_X11_file at h
  refine ps_aload_n hG dX11_file_0 rfl 0 rfl ?_
  refine ps_iload_n hG dX11_file_1 rfl 1 rfl ?_
  obtain ⟨r2, hr2, h⟩ := ps_bd h
  refine ps_callVI (As := [.int p1]) (rest := []) (nA := 1) hG (c_X11_isPeer _ hw hr2) gX11_file_X11_isPeer rfl (by decide +kernel) rfl ⟨Nat.le_of_ble_eq_true rfl, Nat.le_of_ble_eq_true rfl⟩ ⟨rfl, rfl⟩ ⟨Nat.le_of_ble_eq_true rfl, Nat.le_of_ble_eq_true rfl⟩ (ps_lt hw ps_q80.2.2.1) (ps_cel_20 ps_q80.1 _) rfl rfl (Nat.le_of_ble_eq_true rfl) dX11_file_2 ?_
  refine ps_istore_n (lv' := [(3, .int r2), (0, .ref (w.2.1 80)), (1, .int p1), (2, .int p2)]) hG dX11_file_5 rfl (by decide) rfl ?_
  refine ps_aload_n hG dX11_file_6 rfl 1 rfl ?_
  refine ps_iload_n hG dX11_file_7 rfl 0 rfl ?_
  have hJ38 : ∀ (s1_38 : Int32), f_X11_file_J38 S p1 p2 s1_38 = some (r, S') → ps_V G 8 0 0 w S 38 [(0, .ref (w.2.1 80)), (1, .int p1), (2, .int p2)] [.int s1_38, .ref (w.2.1 80)] := by
    intro s1_38 h
    unfold f_X11_file_J38 at h
    obtain ⟨r38, S38, hr38, h⟩ := ps_d2 h
    refine ps_callVI (As := [.int s1_38]) (rest := []) (nA := 1) hG (c_X11_holds _ hw hr38) gX11_file_X11_holds rfl (by decide +kernel) rfl ⟨Nat.le_of_ble_eq_true rfl, Nat.le_of_ble_eq_true rfl⟩ ⟨rfl, rfl⟩ ⟨Nat.le_of_ble_eq_true rfl, Nat.le_of_ble_eq_true rfl⟩ (ps_lt hw ps_q80.2.2.1) (ps_cel_20 ps_q80.1 _) rfl rfl (Nat.le_of_ble_eq_true rfl) dX11_file_38 ?_
    refine ps_if_ne (tgt := 46) hG dX11_file_41 (by decide) (fun c41 => ?_) (fun c41 => ?_)
    · replace h := ps_in c41 h
      refine ps_aload_n hG dX11_file_46 rfl 0 rfl ?_
      refine ps_get20_15 hG inX11_file_X11 ps_q80.1 (ps_lt hw ps_q80.2.2.1) mX11_file_85 dX11_file_47 ?_
      refine ps_let h (fun x4_50 h => ?_)
      refine ps_istore (lv' := [(4, .int x4_50), (0, .ref (w.2.1 80)), (1, .int p1), (2, .int p2)]) hG dX11_file_50 (by decide) rfl ?_
      refine ps_bipush (v := 6) hG dX11_file_52 (by decide) ?_
      refine ps_iload hG dX11_file_54 0 rfl ?_
      refine ps_imul hG dX11_file_56 ?_
      refine ps_let h (fun x5_57 h => ?_)
      refine ps_istore (lv' := [(5, .int x5_57), (4, .int x4_50), (0, .ref (w.2.1 80)), (1, .int p1), (2, .int p2)]) hG dX11_file_57 (by decide) rfl ?_
      refine ps_aload_n hG dX11_file_59 rfl 2 rfl ?_
      refine ps_dup hG dX11_file_60 rfl ?_
      refine ps_get20_15 hG inX11_file_X11 ps_q80.1 (ps_lt hw ps_q80.2.2.1) mX11_file_85 dX11_file_61 ?_
      refine ps_iconst (v := 1) hG dX11_file_64 (by decide) ?_
      refine ps_iadd hG dX11_file_65 ?_
      refine ps_put20_15 hG inX11_file_X11 ps_q80.1 (ps_lt hw ps_q80.2.2.1) ps_q80.2.2.2 mX11_file_85 dX11_file_66 ?_
      refine ps_aload_n hG dX11_file_69 rfl 2 rfl ?_
      refine ps_get20_16 hG hw inX11_file_X11 ps_q80.1 (ps_lt hw ps_q80.2.2.1) mX11_file_41 dX11_file_70 ?_
      refine ps_iload hG dX11_file_73 1 rfl ?_
      refine ps_iload_n hG dX11_file_75 rfl 3 rfl ?_
      obtain ⟨hb76, h⟩ := ps_ig h
      refine ps_iast hG ps_q91.1 ps_q91.2.1 (ps_lt hw ps_q91.2.2.1) hb76 dX11_file_76 ?_
      refine ps_aload_n hG dX11_file_77 rfl 2 rfl ?_
      refine ps_get20_17 hG hw inX11_file_X11 ps_q80.1 (ps_lt hw ps_q80.2.2.1) mX11_file_44 dX11_file_78 ?_
      refine ps_iload hG dX11_file_81 0 rfl ?_
      refine ps_iconst (v := 4) hG dX11_file_83 (by decide) ?_
      refine ps_iadd hG dX11_file_84 ?_
      refine ps_iconst (v := 0) hG dX11_file_85 (by decide) ?_
      obtain ⟨hb86, h⟩ := ps_ig h
      refine ps_iast hG ps_q92.1 ps_q92.2.1 (ps_lt hw ps_q92.2.2.1) hb86 dX11_file_86 ?_
      refine ps_aload_n hG dX11_file_87 rfl 2 rfl ?_
      refine ps_get20_17 hG hw inX11_file_X11 ps_q80.1 (ps_lt hw ps_q80.2.2.1) mX11_file_44 dX11_file_88 ?_
      refine ps_iload hG dX11_file_91 0 rfl ?_
      refine ps_iconst (v := 5) hG dX11_file_93 (by decide) ?_
      refine ps_iadd hG dX11_file_94 ?_
      refine ps_iconst (v := 0) hG dX11_file_95 (by decide) ?_
      obtain ⟨hb96, h⟩ := ps_ig h
      refine ps_iast hG ps_q92.1 ps_q92.2.1 (ps_lt hw ps_q92.2.2.1) hb96 dX11_file_96 ?_
      refine ps_iconst (v := 0) hG dX11_file_97 (by decide) ?_
      refine ps_istore (lv' := [(6, .int 0), (5, .int x5_57), (4, .int x4_50), (0, .ref (w.2.1 80)), (1, .int p1), (2, .int p2)]) hG dX11_file_98 (by decide) rfl ?_
      obtain ⟨S100, hq100, h⟩ := ps_bd h
      refine (ps_sub [3, 5, 2, 1, 0] rfl (ps_itV (fun (a : ps_S × Int32) => ps_V G 8 0 0 w a.1 100 [(0, .ref (w.2.1 80)), (2, .int p2), (4, .int x4_50), (5, .int x5_57), (6, .int a.2)] []) (fun (b : ps_S) => ps_V G 8 0 0 w b 172 [(0, .ref (w.2.1 80)), (4, .int x4_50), (5, .int x5_57)] []) ?_ _ _ _ hq100 ?_))
      · intro a r9 h kc ke
        obtain ⟨T100, v6_100⟩ := a
        replace h : f_X11_file_L100 p2 x5_57 T100 v6_100 = some r9 := h
        show ps_V G 8 0 0 w T100 100 [(0, .ref (w.2.1 80)), (2, .int p2), (4, .int x4_50), (5, .int x5_57), (6, .int v6_100)] []
        unfold f_X11_file_L100 at h
        refine ps_iload hG dX11_file_100 4 rfl ?_
        refine ps_iconst (v := 4) hG dX11_file_102 (by decide) ?_
        refine ps_icmp_ge (tgt := 172) hG dX11_file_103 (by decide) (fun c103 => ?_) (fun c103 => ?_)
        · replace h := ps_ip c103 h
          cases h
          exact (ps_sub [0, 2, 3] rfl (ke _ rfl))
        · replace h := ps_in c103 h
          refine ps_iload_n hG dX11_file_106 rfl 1 rfl ?_
          refine ps_bipush (v := 8) hG dX11_file_107 (by decide) ?_
          refine ps_iload hG dX11_file_109 4 rfl ?_
          refine ps_imul hG dX11_file_111 ?_
          refine ps_ishr hG dX11_file_112 ?_
          refine ps_sipush (v := 255) hG dX11_file_113 (by decide) ?_
          refine ps_iand hG dX11_file_116 ?_
          refine ps_istore (lv' := [(7, .int ((p2 >>> ((8 * v6_100) &&& 31)) &&& 255)), (0, .ref (w.2.1 80)), (2, .int p2), (4, .int x4_50), (5, .int x5_57), (6, .int v6_100)]) hG dX11_file_117 (by decide) rfl ?_
          refine ps_aload_n hG dX11_file_119 rfl 1 rfl ?_
          refine ps_get20_17 hG hw inX11_file_X11 ps_q80.1 (ps_lt hw ps_q80.2.2.1) mX11_file_44 dX11_file_120 ?_
          refine ps_iload hG dX11_file_123 4 rfl ?_
          refine ps_iload hG dX11_file_125 5 rfl ?_
          refine ps_iadd hG dX11_file_127 ?_
          refine ps_iload hG dX11_file_128 0 rfl ?_
          obtain ⟨hb130, h⟩ := ps_ig h
          refine ps_iast hG ps_q92.1 ps_q92.2.1 (ps_lt hw ps_q92.2.2.1) hb130 dX11_file_130 ?_
          refine ps_aload_n hG dX11_file_131 rfl 1 rfl ?_
          refine ps_get20_17 hG hw inX11_file_X11 ps_q80.1 (ps_lt hw ps_q80.2.2.1) mX11_file_44 dX11_file_132 ?_
          refine ps_iload hG dX11_file_135 4 rfl ?_
          refine ps_iconst (v := 4) hG dX11_file_137 (by decide) ?_
          refine ps_iadd hG dX11_file_138 ?_
          refine ps_dup2 hG dX11_file_139 rfl rfl ?_
          obtain ⟨hb140, h⟩ := ps_ig h
          refine ps_iald hG ps_q92.1 ps_q92.2.1 (ps_lt hw ps_q92.2.2.1) hb140 dX11_file_140 ?_
          refine ps_iload hG dX11_file_141 0 rfl ?_
          refine ps_ixor hG dX11_file_143 ?_
          obtain ⟨hb144, h⟩ := ps_ig h
          refine ps_iast hG ps_q92.1 ps_q92.2.1 (ps_lt hw ps_q92.2.2.1) hb144 dX11_file_144 ?_
          refine ps_aload_n hG dX11_file_145 rfl 1 rfl ?_
          refine ps_get20_17 hG hw inX11_file_X11 ps_q80.1 (ps_lt hw ps_q80.2.2.1) mX11_file_44 dX11_file_146 ?_
          refine ps_iload hG dX11_file_149 4 rfl ?_
          refine ps_iconst (v := 5) hG dX11_file_151 (by decide) ?_
          refine ps_iadd hG dX11_file_152 ?_
          refine ps_dup2 hG dX11_file_153 rfl rfl ?_
          obtain ⟨hb154, h⟩ := ps_ig h
          refine ps_iald hG ps_q92.1 ps_q92.2.1 (ps_lt hw ps_q92.2.2.1) hb154 dX11_file_154 ?_
          refine ps_iload hG dX11_file_155 0 rfl ?_
          refine ps_iconst (v := 1) hG dX11_file_157 (by decide) ?_
          refine ps_iload hG dX11_file_158 5 rfl ?_
          refine ps_ishl hG dX11_file_160 ?_
          obtain ⟨r161, hr161, h⟩ := ps_bd h
          refine ps_callSI (As := [.int ((p2 >>> ((8 * v6_100) &&& 31)) &&& 255), .int (1 <<< (v6_100 &&& 31))]) (rest := [.int ((ps_up (ps_up T100 92 (x5_57 + v6_100).toNatClampNeg ((p2 >>> ((8 * v6_100) &&& 31)) &&& 255)) 92 (x5_57 + 4).toNatClampNeg (((ps_up T100 92 (x5_57 + v6_100).toNatClampNeg ((p2 >>> ((8 * v6_100) &&& 31)) &&& 255)) 92 (x5_57 + 4).toNatClampNeg) ^^^ ((p2 >>> ((8 * v6_100) &&& 31)) &&& 255))) 92 (x5_57 + 5).toNatClampNeg), .int (x5_57 + 5), .ref (w.2.1 92)]) (nA := 2) hG (c_X11_times _ hw hr161) gX11_file_X11_times rfl (by decide +kernel) rfl ⟨Nat.le_of_ble_eq_true rfl, Nat.le_of_ble_eq_true rfl⟩ ⟨rfl, rfl⟩ ⟨Nat.le_of_ble_eq_true rfl, Nat.le_of_ble_eq_true rfl⟩ rfl (Nat.le_of_ble_eq_true rfl) dX11_file_161 ?_
          refine ps_ixor hG dX11_file_164 ?_
          obtain ⟨hb165, h⟩ := ps_ig h
          refine ps_iast hG ps_q92.1 ps_q92.2.1 (ps_lt hw ps_q92.2.2.1) hb165 dX11_file_165 ?_
          refine ps_iinc (lv' := [(6, .int (v6_100 + 1)), (7, .int ((p2 >>> ((8 * v6_100) &&& 31)) &&& 255)), (0, .ref (w.2.1 80)), (2, .int p2), (4, .int x4_50), (5, .int x5_57)]) hG dX11_file_166 5 rfl (by rfl) (by decide) rfl ?_
          refine ps_goto (tgt := 100) hG dX11_file_169 (by decide) ?_
          cases h
          exact (ps_sub [2, 3, 4, 5, 0] rfl (kc _ rfl))
      · show ps_V G 8 0 0 w S100 172 [(0, .ref (w.2.1 80)), (4, .int x4_50), (5, .int x5_57)] []
        refine ps_iconst (v := 0) hG dX11_file_172 (by decide) ?_
        refine ps_istore (lv' := [(6, .int 0), (0, .ref (w.2.1 80)), (4, .int x4_50), (5, .int x5_57)]) hG dX11_file_173 (by decide) rfl ?_
        obtain ⟨S175, hq175, h⟩ := ps_bd h
        refine (ps_sub [1, 2, 3, 0] rfl (ps_itV (fun (a : ps_S × Int32) => ps_V G 8 0 0 w a.1 175 [(0, .ref (w.2.1 80)), (4, .int x4_50), (5, .int x5_57), (6, .int a.2)] []) (fun (b : ps_S) => ps_V G 8 0 0 w b 199 [(0, .ref (w.2.1 80)), (4, .int x4_50)] []) ?_ _ _ _ hq175 ?_))
        · intro a r9 h kc ke
          obtain ⟨T175, v6_175⟩ := a
          replace h : f_X11_file_L175 x5_57 T175 v6_175 = some r9 := h
          show ps_V G 8 0 0 w T175 175 [(0, .ref (w.2.1 80)), (4, .int x4_50), (5, .int x5_57), (6, .int v6_175)] []
          unfold f_X11_file_L175 at h
          refine ps_iload hG dX11_file_175 3 rfl ?_
          refine ps_bipush (v := 6) hG dX11_file_177 (by decide) ?_
          refine ps_icmp_ge (tgt := 199) hG dX11_file_179 (by decide) (fun c179 => ?_) (fun c179 => ?_)
          · replace h := ps_ip c179 h
            cases h
            exact (ps_sub [0, 1] rfl (ke _ rfl))
          · replace h := ps_in c179 h
            refine ps_aload_n hG dX11_file_182 rfl 0 rfl ?_
            refine ps_get20_18 hG hw inX11_file_X11 ps_q80.1 (ps_lt hw ps_q80.2.2.1) mX11_file_47 dX11_file_183 ?_
            refine ps_iload hG dX11_file_186 2 rfl ?_
            refine ps_iload hG dX11_file_188 3 rfl ?_
            refine ps_iadd hG dX11_file_190 ?_
            refine ps_iconst (v := (-1)) hG dX11_file_191 (by decide) ?_
            obtain ⟨hb192, h⟩ := ps_ig h
            refine ps_iast hG ps_q93.1 ps_q93.2.1 (ps_lt hw ps_q93.2.2.1) hb192 dX11_file_192 ?_
            refine ps_iinc (lv' := [(6, .int (v6_175 + 1)), (0, .ref (w.2.1 80)), (4, .int x4_50), (5, .int x5_57)]) hG dX11_file_193 3 rfl (by rfl) (by decide) rfl ?_
            refine ps_goto (tgt := 175) hG dX11_file_196 (by decide) ?_
            cases h
            exact (ps_sub [1, 2, 3, 0] rfl (kc _ rfl))
        · show ps_V G 8 0 0 w S175 199 [(0, .ref (w.2.1 80)), (4, .int x4_50)] []
          refine ps_iconst (v := 0) hG dX11_file_199 (by decide) ?_
          refine ps_istore (lv' := [(6, .int 0), (0, .ref (w.2.1 80)), (4, .int x4_50)]) hG dX11_file_200 (by decide) rfl ?_
          obtain ⟨S202, hq202, h⟩ := ps_bd h
          refine (ps_sub [1, 2, 0] rfl (ps_itV (fun (a : ps_S × Int32) => ps_V G 8 0 0 w a.1 202 [(0, .ref (w.2.1 80)), (4, .int x4_50), (6, .int a.2)] []) (fun (b : ps_S) => ps_V G 8 0 0 w b 223 [(4, .int x4_50)] []) ?_ _ _ _ hq202 ?_))
          · intro a r9 h kc ke
            obtain ⟨T202, v6_202⟩ := a
            replace h : f_X11_file_L202 x4_50 T202 v6_202 = some r9 := h
            show ps_V G 8 0 0 w T202 202 [(0, .ref (w.2.1 80)), (4, .int x4_50), (6, .int v6_202)] []
            unfold f_X11_file_L202 at h
            refine ps_iload hG dX11_file_202 2 rfl ?_
            refine ps_bipush (v := 6) hG dX11_file_204 (by decide) ?_
            refine ps_icmp_ge (tgt := 223) hG dX11_file_206 (by decide) (fun c206 => ?_) (fun c206 => ?_)
            · replace h := ps_ip c206 h
              cases h
              exact (ps_sub [1] rfl (ke _ rfl))
            · replace h := ps_in c206 h
              refine ps_aload_n hG dX11_file_209 rfl 0 rfl ?_
              refine ps_iload hG dX11_file_210 1 rfl ?_
              refine ps_iload hG dX11_file_212 2 rfl ?_
              obtain ⟨S214, hr214, h⟩ := ps_bd h
              refine ps_callVV (As := [.int x4_50, .int v6_202]) (rest := []) (nA := 2) hG (c_X11_stores _ hw hr214) gX11_file_X11_stores rfl (by decide +kernel) rfl ⟨Nat.le_of_ble_eq_true rfl, Nat.le_of_ble_eq_true rfl⟩ ⟨rfl, rfl⟩ ⟨Nat.le_of_ble_eq_true rfl, Nat.le_of_ble_eq_true rfl⟩ (ps_lt hw ps_q80.2.2.1) (ps_cel_20 ps_q80.1 _) rfl rfl (Nat.le_of_ble_eq_true rfl) dX11_file_214 ?_
              refine ps_iinc (lv' := [(6, .int (v6_202 + 1)), (0, .ref (w.2.1 80)), (4, .int x4_50)]) hG dX11_file_217 2 rfl (by rfl) (by decide) rfl ?_
              refine ps_goto (tgt := 202) hG dX11_file_220 (by decide) ?_
              cases h
              exact (ps_sub [1, 2, 0] rfl (kc _ rfl))
          · show ps_V G 8 0 0 w S202 223 [(4, .int x4_50)] []
            refine ps_iload hG dX11_file_223 0 rfl ?_
            cases h
            exact hret _ _ dX11_file_225
    · replace h := ps_ip c41 h
      refine ps_iconst (v := 0) hG dX11_file_44 (by decide) ?_
      cases h
      exact hret _ _ dX11_file_45
  refine ps_if_ne (tgt := 15) hG dX11_file_8 (by decide) (fun c8 => ?_) (fun c8 => ?_)
  · replace h := ps_in c8 h
    refine ps_aload_n hG dX11_file_15 rfl 1 rfl ?_
    refine ps_get20_5 hG hw inX11_file_X11 ps_q80.1 (ps_lt hw ps_q80.2.2.1) mX11_file_16 dX11_file_16 ?_
    refine ps_iload_n hG dX11_file_19 rfl 2 rfl ?_
    obtain ⟨hb20, h⟩ := ps_ig h
    refine ps_zald hG ps_q83.1 ps_q83.2.1 (ps_lt hw ps_q83.2.2.1) hb20 dX11_file_20 ?_
    refine ps_if_eq (tgt := 37) hG dX11_file_21 (by decide) (fun c21 => ?_) (fun c21 => ?_)
    · replace h := ps_ip c21 h
      refine ps_iconst (v := 2) hG dX11_file_37 (by decide) ?_
      exact (ps_sub [1, 2, 3] rfl (hJ38 2 h))
    · replace h := ps_in c21 h
      refine ps_aload_n hG dX11_file_24 rfl 1 rfl ?_
      refine ps_get20_15 hG inX11_file_X11 ps_q80.1 (ps_lt hw ps_q80.2.2.1) mX11_file_85 dX11_file_25 ?_
      refine ps_bipush (v := 12) hG dX11_file_28 (by decide) ?_
      refine ps_icmp_ge (tgt := 37) hG dX11_file_30 (by decide) (fun c30 => ?_) (fun c30 => ?_)
      · replace h := ps_ip c30 h
        refine ps_iconst (v := 2) hG dX11_file_37 (by decide) ?_
        exact (ps_sub [1, 2, 3] rfl (hJ38 2 h))
      · replace h := ps_in c30 h
        refine ps_iconst (v := 0) hG dX11_file_33 (by decide) ?_
        refine ps_goto (tgt := 38) hG dX11_file_34 (by decide) ?_
        exact (ps_sub [1, 2, 3] rfl (hJ38 0 h))
  · replace h := ps_ip c8 h
    refine ps_iconst (v := 1) hG dX11_file_11 (by decide) ?_
    refine ps_goto (tgt := 38) hG dX11_file_12 (by decide) ?_
    exact (ps_sub [1, 2, 3] rfl (hJ38 1 h))
