section PLB
variable {G : ps_G} {nL kc ks : Nat} {w : ps_X} {S S' : ps_S} {pc : Nat} {lv lv' : List (Nat × Value)} {rest : List Value} {cc : ByteArray} {own : String} {Ts : List Cond} {R : Room} {hh : List (Nat × Nat × Nat × Nat)}
variable {y : MethodName} {index maxL : Nat} {As : List Value} {bytes : ByteArray} {ws ws' : List Cond} {rm : Room}
theorem ps_sld (hG : ps_ok G cc own nL Ts R) {b L : Nat} {xs : Nat → Int32} (hX : va_X b L xs G.1.2.2.2.2 G.2.2.2.2.1) (hbl : b < G.2.2.2.2.1.size) (hbA : ¬ G.2.2.2.1 b) {i : Int32} (hin : vp_in i L) (hdg : decode cc pc = .ok (.iaload, 1)) (kk : ps_V G nL kc ks w S (pc + 1) lv (.int (xs i.toNatClampNeg) :: rest)) : ps_V G nL kc ks w S pc lv (.int i :: .ref b :: rest) := fun H locs ls hP hD hS hi hl => va_sld hG.1.1 hG.1.2.1 hX hbl hbA hS hin hdg (kk H locs ls hP hD hS hi hl)
theorem ps_slen (hG : ps_ok G cc own nL Ts R) {b L : Nat} {xs : Nat → Int32} (hX : va_X b L xs G.1.2.2.2.2 G.2.2.2.2.1) (hbl : b < G.2.2.2.2.1.size) (hbA : ¬ G.2.2.2.1 b) (hdg : decode cc pc = .ok (.arraylength, 1)) (kk : ps_V G nL kc ks w S (pc + 1) lv (.int (Int32.ofNat L) :: rest)) : ps_V G nL kc ks w S pc lv (.ref b :: rest) := fun H locs ls hP hD hS hi hl => va_slen hG.1.1 hG.1.2.1 hX hbl hbA hS hdg (kk H locs ls hP hD hS hi hl)
theorem ps_lcmp (hG : ps_ok G cc own nL Ts R) {x y : Int64} (hdg : decode cc pc = .ok (.lcmp, 1)) (kk : ps_V G nL kc ks w S (pc + 1) lv (.int (lg_cmp x y) :: rest)) : ps_V G nL kc ks w S pc lv (.long y :: .long x :: rest) := fun H locs ls hP hD hS hi hl => W.lcmp hG.1.1 hG.1.2.1 hdg (kk H locs ls hP hD hS hi hl)
theorem ps_lawcall (hG : ps_ok G cc own nL Ts R) (hXW : G.2.2.2.2.1 = G.1.2.2.2.2.heap ∧ ps_XW G.2.2.2.1 G.1.2.2.2.2) {r : Int32} {st : List Value} {nA mc1 ms1 : Nat} (hM : ps_ML G.1.2.1 y ws rm w As S S' r mc1 ms1) (hg : GoodIn Ts (va_wsS own index y ws)) (hw : ws = Cond.codeWith y bytes maxL (some .int) hh :: ws') (hd : y.cls ≠ "java/lang/invoke/MethodHandle" ∧ y.cls ≠ "java/lang/invoke/VarHandle" ∧ (parseMethodDescriptor y.desc).map (fun d => d.parameters.length) = some nA) (hnA : As.length = nA) (hR : rm.frames + 1 ≤ R.frames ∧ 8 + (maxL + 11) + rm.locals ≤ R.locals) (hz : rm.cells = mc1 ∧ rm.slots = ms1) (hR9 : kc + mc1 ≤ R.cells ∧ ks + ms1 ≤ R.slots) (hst : st = As.reverse ++ rest) (hrm : (rest.map fun v => v.category).sum ≤ 8) (hdg : decode cc pc = .ok (.invokestatic index, 3)) (kk : ps_V G nL (kc + mc1) (ks + ms1) w S' (pc + 3) lv (.int r :: rest)) : ps_V G nL kc ks w S pc lv st := fun H locs ls hP hD hS hi hl => by
  subst hst
  have hFc := ps_fr hG hD hS
  obtain ⟨⟨hx, hb, hml, hown, hts⟩, hK, hA, hRR⟩ := id hG
  subst hRR
  refine vx_calli (vx_runSX (As := As) (rest := rest) ⟨hx, hb, hml, hown, hts⟩ (hM G.2.2.1.1 G.2.2.1.2 H.size) (vx_cwSW nA hts hg hw hz.1 hz.2 hd hR) ⟨ps_blindX, fun U hU hW => ⟨rfl, ⟨by rw [hU], by rw [hU]; exact hP, va_K.moved hW.alike hK, hD.weaken (fun _ _ _ _ => trivial), hi⟩, ps_XW_go hW hXW.2 (fun a9 h1 h2 => by rw [hU]; rw [hXW.1] at hS; exact hS.2.1 a9 h1 h2) (fun q hq => hFc q hq)⟩⟩ rfl hnA hl.1 rfl (lv_room hrm) hdg ⟨hR9.1, hR9.2⟩) hS (fun q _ h => hFc q h) hFc (fun q _ h => hFc q h) (fun E ce q9 u t H1 locs1 ht hvm hu => hu.elim) (fun r2 u t H1 locs1 ht hvm hw2 hB hz1 hk1 hS1 => ?_)
  have hw3 : r2 = r := hw2
  subst hw3
  obtain ⟨hP1, hK1, hD1, hi1⟩ := hB
  rw [ht] at hP1
  exact kk H1 locs1 ls hP1 (hD1.weaken (fun k q _ h => hFc q.1 h)) hS1 hi1 hl
theorem ps_lawcallF {n : Nat} {ad : Nat → Nat} (hG : ps_ok G cc own nL Ts R) (hXW : G.2.2.2.2.1 = G.1.2.2.2.2.heap ∧ ps_XW G.2.2.2.1 G.1.2.2.2.2) {r : Int32} {st : List Value} {nA mc1 ms1 : Nat} (hM : ps_MLF G.1.2.1 y ws rm n ad As S S' r mc1 ms1) (hg : GoodIn Ts (va_wsS own index y ws)) (hw : ws = Cond.codeWith y bytes maxL (some .int) hh :: ws') (hd : y.cls ≠ "java/lang/invoke/MethodHandle" ∧ y.cls ≠ "java/lang/invoke/VarHandle" ∧ (parseMethodDescriptor y.desc).map (fun d => d.parameters.length) = some nA) (hnA : As.length = nA) (hR : rm.frames + 1 ≤ R.frames ∧ 8 + (maxL + 11) + rm.locals ≤ R.locals) (hz : rm.cells = mc1 ∧ rm.slots = ms1) (hR9 : kc + mc1 ≤ R.cells ∧ ks + ms1 ≤ R.slots) (hst : st = As.reverse ++ rest) (hrm : (rest.map fun v => v.category).sum ≤ 8) (hdg : decode cc pc = .ok (.invokestatic index, 3)) (kk : ∀ (ad2 : Nat → Nat) (n2 : Nat), (∀ k, k < n → ad2 k = ad k) → n2 = (if r = 0 then n + 7 else n) → ps_V G nL (kc + mc1) (ks + ms1) (n2, ad2, ps_T) S' (pc + 3) lv (.int r :: rest)) : ps_V G nL kc ks (n, ad, ps_T) S pc lv st := fun H locs ls hP hD hS hi hl => by
  subst hst
  have hFc := ps_fr hG hD hS
  obtain ⟨⟨hx, hb, hml, hown, hts⟩, hK, hA, hRR⟩ := id hG
  subst hRR
  refine vx_calli (vx_runSX (As := As) (rest := rest) ⟨hx, hb, hml, hown, hts⟩ (hM G.2.2.1.1 G.2.2.1.2 H.size) (vx_cwSW nA hts hg hw hz.1 hz.2 hd hR) ⟨ps_blindX, fun U hU hW => ⟨rfl, ⟨by rw [hU], by rw [hU]; exact hP, va_K.moved hW.alike hK, hD.weaken (fun _ _ _ _ => trivial), hi⟩, ps_XW_go hW hXW.2 (fun a9 h1 h2 => by rw [hU]; rw [hXW.1] at hS; exact hS.2.1 a9 h1 h2) (fun q hq => hFc q hq)⟩⟩ rfl hnA hl.1 rfl (lv_room hrm) hdg ⟨hR9.1, hR9.2⟩) hS (fun q _ h => hFc q h) hFc (fun q _ h => hFc q h) (fun E ce q9 u t H1 locs1 ht hvm hu => hu.elim) (fun r2 u t H1 locs1 ht hvm hw2 hB hz1 hk1 hS1 => ?_)
  obtain ⟨hw3, had, hn2⟩ := hw2
  subst hw3
  obtain ⟨hP1, hK1, hD1, hi1⟩ := hB
  rw [ht] at hP1
  exact kk u.1 u.2 had hn2 H1 locs1 ls hP1 (hD1.weaken (fun k q _ h => hFc q.1 h)) hS1 hi1 hl
end PLB
def f_cmp (g : Int32 → Int32) (x : Option (Int32 × ps_S)) (m : ps_S → Option (Int32 × ps_S)) : Option ps_S := ps_b2 x fun k S1 => ps_b2 (m S1) fun b S2 => (f_X11_thrown S2).bind fun t => if t = k then (if k = 0 then (if S2 102 0 = g b then some S2 else none) else some S2) else none
theorem f_cmp_d {g : Int32 → Int32} {x : Option (Int32 × ps_S)} {m : ps_S → Option (Int32 × ps_S)} {S9 : ps_S} (h : f_cmp g x m = some S9) : ∃ k S1 b, x = some (k, S1) ∧ m S1 = some (b, S9) ∧ f_X11_thrown S9 = some k ∧ (k = 0 → S9 102 0 = g b) := by
  obtain ⟨k, S1, hx, h⟩ := ps_d2 h
  obtain ⟨b, S2, hm, h⟩ := ps_d2 h
  obtain ⟨t, ht, h⟩ := ps_bd h
  obtain ⟨e, h⟩ := ps_ig h
  subst e
  by_cases c : t = 0
  · have h := ps_ip c h
    obtain ⟨e, h⟩ := ps_ig h
    cases h
    exact ⟨t, S1, b, hx, hm, ht, fun _ => e⟩
  · have h := ps_in c h
    cases h
    exact ⟨t, S1, b, hx, hm, ht, fun q => absurd q c⟩
theorem lg_cmp_self (x : Int64) : lg_cmp x x = 0 := by simp [lg_cmp]
/-- what holds all along the law -/
def law_ctx (G : ps_G) (b L : Nat) (xs : Nat → Int32) : Prop := ps_ok G code RL 7 wsL_law room_1 ∧ (G.2.2.2.2.1 = G.1.2.2.2.2.heap ∧ ps_XW G.2.2.2.1 G.1.2.2.2.2) ∧ va_X b L xs G.1.2.2.2.2 G.2.2.2.2.1 ∧ b < G.2.2.2.2.1.size ∧ ¬ G.2.2.2.1 b ∧ G.1.2.1.stackTraces = false
section PNZ
variable {G : ps_G} {nL kc ks : Nat} {w : ps_X} {S S' : ps_S} {pc : Nat} {lv lv' : List (Nat × Value)} {rest : List Value} {cc : ByteArray} {own : String} {Ts : List Cond} {R : Room}
theorem ps_nzI (hG : ps_ok G cc own nL Ts R) {x : Int32} {o1 o2 : Int} {t1 t2 : Nat} (d0 : decode cc pc = .ok (.ifCond .eq o1, 3)) (h1 : (pc : Int) + o1 = (t1 : Int)) (d1 : decode cc (pc + 3) = .ok (.iconst 1, 1)) (d2 : decode cc (pc + 3 + 1) = .ok (.goto o2, 3)) (h2 : ((pc + 3 + 1 : Nat) : Int) + o2 = (t2 : Int)) (d3 : decode cc t1 = .ok (.iconst 0, 1)) (h3 : t1 + 1 = t2) (kk : ps_V G nL kc ks w S t2 lv (.int (ps_nz x) :: rest)) : ps_V G nL kc ks w S pc lv (.int x :: rest) := by
  refine ps_if_eq hG d0 h1 (fun c => ?_) (fun c => ?_)
  · refine ps_iconst (v := 0) hG d3 (by decide) ?_
    rw [h3]
    rw [ps_nz, if_pos c] at kk
    exact kk
  · refine ps_iconst (v := 1) hG d1 (by decide) ?_
    refine ps_goto hG d2 h2 ?_
    rw [ps_nz, if_neg c] at kk
    exact kk
theorem ps_nzJ (hG : ps_ok G cc own nL Ts R) {x : Int32} {o1 o2 : Int} {t1 t2 : Nat} (d0 : decode cc pc = .ok (.ifCond .eq o1, 3)) (h1 : (pc : Int) + o1 = (t1 : Int)) (d1 : decode cc (pc + 3) = .ok (.lconst 1, 1)) (d2 : decode cc (pc + 3 + 1) = .ok (.goto o2, 3)) (h2 : ((pc + 3 + 1 : Nat) : Int) + o2 = (t2 : Int)) (d3 : decode cc t1 = .ok (.lconst 0, 1)) (h3 : t1 + 1 = t2) (kk : ps_V G nL kc ks w S t2 lv (.long (ps_nz x).toInt64 :: rest)) : ps_V G nL kc ks w S pc lv (.int x :: rest) := by
  refine ps_if_eq hG d0 h1 (fun c => ?_) (fun c => ?_)
  · refine ps_lconst (v := 0) hG d3 (by decide) ?_
    rw [h3]
    rw [ps_nz, if_pos c] at kk
    exact kk
  · refine ps_lconst (v := 1) hG d1 (by decide) ?_
    refine ps_goto hG d2 h2 ?_
    rw [ps_nz, if_neg c] at kk
    exact kk
end PNZ
set_option maxHeartbeats 4000000 in
set_option maxRecDepth 100000 in
theorem law_c0 {G : ps_G} {b L : Nat} {xs : Nat → Int32} (hC : law_ctx G b L xs) {w : ps_X} (hw : ps_ww w) {kc ks : Nat} (hr : kc + 16 ≤ 601024 ∧ ks + 64 ≤ 7293034) {S S9 : ps_S} {i : Int32} (hi1 : vp_in (i + 1) L) (hi2 : vp_in (i + 2) L) (hi3 : vp_in (i + 3) L) (h : f_cmp (fun r => r) (f_L_peer S (xs (i + 1).toNatClampNeg) (xs (i + 2).toNatClampNeg) (xs (i + 3).toNatClampNeg)) (fun S => f_X11_peer S (xs (i + 1).toNatClampNeg) (xs (i + 2).toNatClampNeg) (xs (i + 3).toNatClampNeg)) = some S9) (hk : ps_V G 7 (kc + 16) (ks + 64) w S9 1586 [(4, .int i), (3, .ref (w.2.1 102)), (2, .ref (w.2.1 80)), (1, .ref (w.2.1 0)), (0, .ref b)] []) : ps_V G 7 kc ks w S 144 [(4, .int i), (3, .ref (w.2.1 102)), (2, .ref (w.2.1 80)), (1, .ref (w.2.1 0)), (0, .ref b)] [] := by
  obtain ⟨hG, hXW, hX, hbl, hbA, hst⟩ := hC
  obtain ⟨k, S1, b9, hx1, hm1, ht1, he1⟩ := f_cmp_d h
  refine ps_aload_n hG dL_law_144 rfl 3 rfl ?_
  refine ps_aload_n hG dL_law_145 rfl 4 rfl ?_
  refine ps_iload hG dL_law_146 0 rfl ?_
  refine ps_iconst (v := 1) hG dL_law_148 (by decide) ?_
  refine ps_iadd hG dL_law_149 ?_
  refine ps_sld hG hX hbl hbA hi1 dL_law_150 ?_
  refine ps_aload_n hG dL_law_151 rfl 4 rfl ?_
  refine ps_iload hG dL_law_152 0 rfl ?_
  refine ps_iconst (v := 2) hG dL_law_154 (by decide) ?_
  refine ps_iadd hG dL_law_155 ?_
  refine ps_sld hG hX hbl hbA hi2 dL_law_156 ?_
  refine ps_aload_n hG dL_law_157 rfl 4 rfl ?_
  refine ps_iload hG dL_law_158 0 rfl ?_
  refine ps_iconst (v := 3) hG dL_law_160 (by decide) ?_
  refine ps_iadd hG dL_law_161 ?_
  refine ps_sld hG hX hbl hbA hi3 dL_law_162 ?_
  refine ps_aload_n hG dL_law_163 rfl 1 rfl ?_
  refine ps_lawcall (As := [.ref (w.2.1 0), .int (xs (i + 1).toNatClampNeg), .int (xs (i + 2).toNatClampNeg), .int (xs (i + 3).toNatClampNeg), .ref (w.2.1 102)]) (rest := []) (nA := 5) hG hXW (c_L_peer _ hst hw hx1) gL_law_L_peer rfl (by decide +kernel) rfl ⟨(Nat.le_of_ble_eq_true rfl), (Nat.le_of_ble_eq_true rfl)⟩ ⟨rfl, rfl⟩ ⟨by show kc + 4 ≤ 601024; omega, by show ks + 24 ≤ 7293034; omega⟩ rfl (Nat.le_of_ble_eq_true rfl) dL_law_164 ?_
  refine ps_istore (lv' := [(5, .int k), (4, .int i), (3, .ref (w.2.1 102)), (2, .ref (w.2.1 80)), (1, .ref (w.2.1 0)), (0, .ref b)]) hG dL_law_167 (by decide) rfl ?_
  refine ps_aload_n hG dL_law_169 rfl 3 rfl ?_
  refine ps_aload_n hG dL_law_170 rfl 5 rfl ?_
  refine ps_iload hG dL_law_171 1 rfl ?_
  refine ps_iconst (v := 1) hG dL_law_173 (by decide) ?_
  refine ps_iadd hG dL_law_174 ?_
  refine ps_sld hG hX hbl hbA hi1 dL_law_175 ?_
  refine ps_aload_n hG dL_law_176 rfl 5 rfl ?_
  refine ps_iload hG dL_law_177 1 rfl ?_
  refine ps_iconst (v := 2) hG dL_law_179 (by decide) ?_
  refine ps_iadd hG dL_law_180 ?_
  refine ps_sld hG hX hbl hbA hi2 dL_law_181 ?_
  refine ps_aload_n hG dL_law_182 rfl 5 rfl ?_
  refine ps_iload hG dL_law_183 1 rfl ?_
  refine ps_iconst (v := 3) hG dL_law_185 (by decide) ?_
  refine ps_iadd hG dL_law_186 ?_
  refine ps_sld hG hX hbl hbA hi3 dL_law_187 ?_
  refine ps_callVI (As := [.int (xs (i + 1).toNatClampNeg), .int (xs (i + 2).toNatClampNeg), .int (xs (i + 3).toNatClampNeg)]) (rest := []) (nA := 3) hG (c_X11_peer _ hw hm1) gL_law_X11_peer rfl (by decide +kernel) rfl ⟨(Nat.le_of_ble_eq_true rfl), (Nat.le_of_ble_eq_true rfl)⟩ ⟨rfl, rfl⟩ ⟨by show kc + 4 ≤ 601024; omega, by show ks + 24 ≤ 7293034; omega⟩ (ps_lt hw ps_q80.2.2.1) (ps_cel_20 ps_q80.1 _) rfl rfl (Nat.le_of_ble_eq_true rfl) dL_law_188 ?_
  refine ps_istore (lv' := [(6, .int b9), (5, .int k), (4, .int i), (3, .ref (w.2.1 102)), (2, .ref (w.2.1 80)), (1, .ref (w.2.1 0)), (0, .ref b)]) hG dL_law_191 (by decide) rfl ?_
  refine ps_aload_n hG dL_law_193 rfl 4 rfl ?_
  refine ps_callVI (As := []) (rest := []) (nA := 0) hG (c_X11_thrown _ hw ht1) gL_law_X11_thrown rfl (by decide +kernel) rfl ⟨(Nat.le_of_ble_eq_true rfl), (Nat.le_of_ble_eq_true rfl)⟩ ⟨rfl, rfl⟩ ⟨by show kc + 4 ≤ 601024; omega, by show ks + 24 ≤ 7293034; omega⟩ (ps_lt hw ps_q80.2.2.1) (ps_cel_20 ps_q80.1 _) rfl rfl (Nat.le_of_ble_eq_true rfl) dL_law_194 ?_
  refine ps_iload hG dL_law_197 1 rfl ?_
  refine ps_icmp_eq (tgt := 204) hG dL_law_199 (by decide) (fun c9 => ?_) (fun c9 => absurd rfl c9)
  refine ps_iload hG dL_law_204 1 rfl ?_
  refine ps_if_ne (tgt := 221) hG dL_law_206 (by decide) (fun c9 => ?_) (fun c9 => ?_)
  · skip
    refine ps_goto (tgt := 1586) hG dL_law_221 (by decide) ?_
    exact ps_sub [2, 3, 4, 5, 6] rfl (ps_widen (by omega) (by omega) hk)
  · have hv := he1 c9
    refine ps_aload_n hG dL_law_209 rfl 3 rfl ?_
    refine ps_iconst (v := 0) hG dL_law_210 (by decide) ?_
    refine ps_lald hG (ps_lt hw ps_q102.2.2.1) dL_law_211 ?_
    refine ps_iload hG dL_law_212 0 rfl ?_
    refine ps_i2l hG dL_law_214 rfl ?_
    refine ps_lcmp hG dL_law_215 ?_
    rw [hv, lg_cmp_self]
    refine ps_if_eq (tgt := 221) hG dL_law_216 (by decide) (fun c8 => ?_) (fun c8 => absurd rfl c8)
    refine ps_goto (tgt := 1586) hG dL_law_221 (by decide) ?_
    exact ps_sub [2, 3, 4, 5, 6] rfl (ps_widen (by omega) (by omega) hk)
set_option maxHeartbeats 4000000 in
set_option maxRecDepth 100000 in
theorem law_c1 {G : ps_G} {b L : Nat} {xs : Nat → Int32} (hC : law_ctx G b L xs) {w : ps_X} (hw : ps_ww w) {kc ks : Nat} (hr : kc + 16 ≤ 601024 ∧ ks + 64 ≤ 7293034) {S S9 : ps_S} {i : Int32} (hi1 : vp_in (i + 1) L) (hi2 : vp_in (i + 2) L) (h : f_cmp ps_nz (f_L_turn S (xs (i + 1).toNatClampNeg) (ps_nz (xs (i + 2).toNatClampNeg))) (fun S => f_X11_turn S (xs (i + 1).toNatClampNeg) (ps_nz (xs (i + 2).toNatClampNeg))) = some S9) (hk : ps_V G 7 (kc + 16) (ks + 64) w S9 1586 [(4, .int i), (3, .ref (w.2.1 102)), (2, .ref (w.2.1 80)), (1, .ref (w.2.1 0)), (0, .ref b)] []) : ps_V G 7 kc ks w S 224 [(4, .int i), (3, .ref (w.2.1 102)), (2, .ref (w.2.1 80)), (1, .ref (w.2.1 0)), (0, .ref b)] [] := by
  obtain ⟨hG, hXW, hX, hbl, hbA, hst⟩ := hC
  obtain ⟨k, S1, b9, hx1, hm1, ht1, he1⟩ := f_cmp_d h
  refine ps_aload_n hG dL_law_224 rfl 3 rfl ?_
  refine ps_aload_n hG dL_law_225 rfl 4 rfl ?_
  refine ps_iload hG dL_law_226 0 rfl ?_
  refine ps_iconst (v := 1) hG dL_law_228 (by decide) ?_
  refine ps_iadd hG dL_law_229 ?_
  refine ps_sld hG hX hbl hbA hi1 dL_law_230 ?_
  refine ps_aload_n hG dL_law_231 rfl 4 rfl ?_
  refine ps_iload hG dL_law_232 0 rfl ?_
  refine ps_iconst (v := 2) hG dL_law_234 (by decide) ?_
  refine ps_iadd hG dL_law_235 ?_
  refine ps_sld hG hX hbl hbA hi2 dL_law_236 ?_
  refine ps_nzI hG (x := xs (i + 2).toNatClampNeg) (t1 := 244) (t2 := 245) dL_law_237 (by decide) dL_law_240 dL_law_241 (by decide) dL_law_244 (by decide) ?_
  refine ps_aload_n hG dL_law_245 rfl 1 rfl ?_
  refine ps_lawcall (As := [.ref (w.2.1 0), .int (xs (i + 1).toNatClampNeg), .int (ps_nz (xs (i + 2).toNatClampNeg)), .ref (w.2.1 102)]) (rest := []) (nA := 4) hG hXW (c_L_turn _ hst hw hx1) gL_law_L_turn rfl (by decide +kernel) rfl ⟨(Nat.le_of_ble_eq_true rfl), (Nat.le_of_ble_eq_true rfl)⟩ ⟨rfl, rfl⟩ ⟨by show kc + 1 ≤ 601024; omega, by show ks + 6 ≤ 7293034; omega⟩ rfl (Nat.le_of_ble_eq_true rfl) dL_law_246 ?_
  refine ps_istore (lv' := [(5, .int k), (4, .int i), (3, .ref (w.2.1 102)), (2, .ref (w.2.1 80)), (1, .ref (w.2.1 0)), (0, .ref b)]) hG dL_law_249 (by decide) rfl ?_
  refine ps_aload_n hG dL_law_251 rfl 3 rfl ?_
  refine ps_aload_n hG dL_law_252 rfl 5 rfl ?_
  refine ps_iload hG dL_law_253 1 rfl ?_
  refine ps_iconst (v := 1) hG dL_law_255 (by decide) ?_
  refine ps_iadd hG dL_law_256 ?_
  refine ps_sld hG hX hbl hbA hi1 dL_law_257 ?_
  refine ps_aload_n hG dL_law_258 rfl 5 rfl ?_
  refine ps_iload hG dL_law_259 1 rfl ?_
  refine ps_iconst (v := 2) hG dL_law_261 (by decide) ?_
  refine ps_iadd hG dL_law_262 ?_
  refine ps_sld hG hX hbl hbA hi2 dL_law_263 ?_
  refine ps_nzI hG (x := xs (i + 2).toNatClampNeg) (t1 := 271) (t2 := 272) dL_law_264 (by decide) dL_law_267 dL_law_268 (by decide) dL_law_271 (by decide) ?_
  refine ps_callVI (As := [.int (xs (i + 1).toNatClampNeg), .int (ps_nz (xs (i + 2).toNatClampNeg))]) (rest := []) (nA := 2) hG (c_X11_turn _ hw hm1) gL_law_X11_turn rfl (by decide +kernel) rfl ⟨(Nat.le_of_ble_eq_true rfl), (Nat.le_of_ble_eq_true rfl)⟩ ⟨rfl, rfl⟩ ⟨by show kc + 1 ≤ 601024; omega, by show ks + 6 ≤ 7293034; omega⟩ (ps_lt hw ps_q80.2.2.1) (ps_cel_20 ps_q80.1 _) rfl rfl (Nat.le_of_ble_eq_true rfl) dL_law_272 ?_
  refine ps_istore (lv' := [(6, .int b9), (5, .int k), (4, .int i), (3, .ref (w.2.1 102)), (2, .ref (w.2.1 80)), (1, .ref (w.2.1 0)), (0, .ref b)]) hG dL_law_275 (by decide) rfl ?_
  refine ps_aload_n hG dL_law_277 rfl 4 rfl ?_
  refine ps_callVI (As := []) (rest := []) (nA := 0) hG (c_X11_thrown _ hw ht1) gL_law_X11_thrown rfl (by decide +kernel) rfl ⟨(Nat.le_of_ble_eq_true rfl), (Nat.le_of_ble_eq_true rfl)⟩ ⟨rfl, rfl⟩ ⟨by show kc + 1 ≤ 601024; omega, by show ks + 6 ≤ 7293034; omega⟩ (ps_lt hw ps_q80.2.2.1) (ps_cel_20 ps_q80.1 _) rfl rfl (Nat.le_of_ble_eq_true rfl) dL_law_278 ?_
  refine ps_iload hG dL_law_281 1 rfl ?_
  refine ps_icmp_eq (tgt := 288) hG dL_law_283 (by decide) (fun c9 => ?_) (fun c9 => absurd rfl c9)
  refine ps_iload hG dL_law_288 1 rfl ?_
  refine ps_if_ne (tgt := 312) hG dL_law_290 (by decide) (fun c9 => ?_) (fun c9 => ?_)
  · skip
    refine ps_goto (tgt := 1586) hG dL_law_312 (by decide) ?_
    exact ps_sub [2, 3, 4, 5, 6] rfl (ps_widen (by omega) (by omega) hk)
  · have hv := he1 c9
    refine ps_aload_n hG dL_law_293 rfl 3 rfl ?_
    refine ps_iconst (v := 0) hG dL_law_294 (by decide) ?_
    refine ps_lald hG (ps_lt hw ps_q102.2.2.1) dL_law_295 ?_
    refine ps_iload hG dL_law_296 0 rfl ?_
    refine ps_nzJ hG (x := b9) (t1 := 305) (t2 := 306) dL_law_298 (by decide) dL_law_301 dL_law_302 (by decide) dL_law_305 (by decide) ?_
    refine ps_lcmp hG dL_law_306 ?_
    rw [hv, lg_cmp_self]
    refine ps_if_eq (tgt := 312) hG dL_law_307 (by decide) (fun c8 => ?_) (fun c8 => absurd rfl c8)
    refine ps_goto (tgt := 1586) hG dL_law_312 (by decide) ?_
    exact ps_sub [2, 3, 4, 5, 6] rfl (ps_widen (by omega) (by omega) hk)
set_option maxHeartbeats 4000000 in
set_option maxRecDepth 100000 in
theorem law_c2 {G : ps_G} {b L : Nat} {xs : Nat → Int32} (hC : law_ctx G b L xs) {w : ps_X} (hw : ps_ww w) {kc ks : Nat} (hr : kc + 16 ≤ 601024 ∧ ks + 64 ≤ 7293034) {S S9 : ps_S} {i : Int32} (hi1 : vp_in (i + 1) L) (hi2 : vp_in (i + 2) L) (hi3 : vp_in (i + 3) L) (h : f_cmp (fun r => r) (f_L_bucket S (xs (i + 1).toNatClampNeg) (xs (i + 2).toNatClampNeg) (xs (i + 3).toNatClampNeg)) (fun S => f_X11_bucket S (xs (i + 1).toNatClampNeg) (xs (i + 2).toNatClampNeg) (xs (i + 3).toNatClampNeg)) = some S9) (hk : ps_V G 7 (kc + 16) (ks + 64) w S9 1586 [(4, .int i), (3, .ref (w.2.1 102)), (2, .ref (w.2.1 80)), (1, .ref (w.2.1 0)), (0, .ref b)] []) : ps_V G 7 kc ks w S 315 [(4, .int i), (3, .ref (w.2.1 102)), (2, .ref (w.2.1 80)), (1, .ref (w.2.1 0)), (0, .ref b)] [] := by
  obtain ⟨hG, hXW, hX, hbl, hbA, hst⟩ := hC
  obtain ⟨k, S1, b9, hx1, hm1, ht1, he1⟩ := f_cmp_d h
  refine ps_aload_n hG dL_law_315 rfl 3 rfl ?_
  refine ps_aload_n hG dL_law_316 rfl 4 rfl ?_
  refine ps_iload hG dL_law_317 0 rfl ?_
  refine ps_iconst (v := 1) hG dL_law_319 (by decide) ?_
  refine ps_iadd hG dL_law_320 ?_
  refine ps_sld hG hX hbl hbA hi1 dL_law_321 ?_
  refine ps_aload_n hG dL_law_322 rfl 4 rfl ?_
  refine ps_iload hG dL_law_323 0 rfl ?_
  refine ps_iconst (v := 2) hG dL_law_325 (by decide) ?_
  refine ps_iadd hG dL_law_326 ?_
  refine ps_sld hG hX hbl hbA hi2 dL_law_327 ?_
  refine ps_aload_n hG dL_law_328 rfl 4 rfl ?_
  refine ps_iload hG dL_law_329 0 rfl ?_
  refine ps_iconst (v := 3) hG dL_law_331 (by decide) ?_
  refine ps_iadd hG dL_law_332 ?_
  refine ps_sld hG hX hbl hbA hi3 dL_law_333 ?_
  refine ps_aload_n hG dL_law_334 rfl 1 rfl ?_
  refine ps_lawcall (As := [.ref (w.2.1 0), .int (xs (i + 1).toNatClampNeg), .int (xs (i + 2).toNatClampNeg), .int (xs (i + 3).toNatClampNeg), .ref (w.2.1 102)]) (rest := []) (nA := 5) hG hXW (c_L_bucket _ hst hw hx1) gL_law_L_bucket rfl (by decide +kernel) rfl ⟨(Nat.le_of_ble_eq_true rfl), (Nat.le_of_ble_eq_true rfl)⟩ ⟨rfl, rfl⟩ ⟨by show kc + 2 ≤ 601024; omega, by show ks + 12 ≤ 7293034; omega⟩ rfl (Nat.le_of_ble_eq_true rfl) dL_law_335 ?_
  refine ps_istore (lv' := [(5, .int k), (4, .int i), (3, .ref (w.2.1 102)), (2, .ref (w.2.1 80)), (1, .ref (w.2.1 0)), (0, .ref b)]) hG dL_law_338 (by decide) rfl ?_
  refine ps_aload_n hG dL_law_340 rfl 3 rfl ?_
  refine ps_aload_n hG dL_law_341 rfl 5 rfl ?_
  refine ps_iload hG dL_law_342 1 rfl ?_
  refine ps_iconst (v := 1) hG dL_law_344 (by decide) ?_
  refine ps_iadd hG dL_law_345 ?_
  refine ps_sld hG hX hbl hbA hi1 dL_law_346 ?_
  refine ps_aload_n hG dL_law_347 rfl 5 rfl ?_
  refine ps_iload hG dL_law_348 1 rfl ?_
  refine ps_iconst (v := 2) hG dL_law_350 (by decide) ?_
  refine ps_iadd hG dL_law_351 ?_
  refine ps_sld hG hX hbl hbA hi2 dL_law_352 ?_
  refine ps_aload_n hG dL_law_353 rfl 5 rfl ?_
  refine ps_iload hG dL_law_354 1 rfl ?_
  refine ps_iconst (v := 3) hG dL_law_356 (by decide) ?_
  refine ps_iadd hG dL_law_357 ?_
  refine ps_sld hG hX hbl hbA hi3 dL_law_358 ?_
  refine ps_callVI (As := [.int (xs (i + 1).toNatClampNeg), .int (xs (i + 2).toNatClampNeg), .int (xs (i + 3).toNatClampNeg)]) (rest := []) (nA := 3) hG (c_X11_bucket _ hw hm1) gL_law_X11_bucket rfl (by decide +kernel) rfl ⟨(Nat.le_of_ble_eq_true rfl), (Nat.le_of_ble_eq_true rfl)⟩ ⟨rfl, rfl⟩ ⟨by show kc + 2 ≤ 601024; omega, by show ks + 12 ≤ 7293034; omega⟩ (ps_lt hw ps_q80.2.2.1) (ps_cel_20 ps_q80.1 _) rfl rfl (Nat.le_of_ble_eq_true rfl) dL_law_359 ?_
  refine ps_istore (lv' := [(6, .int b9), (5, .int k), (4, .int i), (3, .ref (w.2.1 102)), (2, .ref (w.2.1 80)), (1, .ref (w.2.1 0)), (0, .ref b)]) hG dL_law_362 (by decide) rfl ?_
  refine ps_aload_n hG dL_law_364 rfl 4 rfl ?_
  refine ps_callVI (As := []) (rest := []) (nA := 0) hG (c_X11_thrown _ hw ht1) gL_law_X11_thrown rfl (by decide +kernel) rfl ⟨(Nat.le_of_ble_eq_true rfl), (Nat.le_of_ble_eq_true rfl)⟩ ⟨rfl, rfl⟩ ⟨by show kc + 2 ≤ 601024; omega, by show ks + 12 ≤ 7293034; omega⟩ (ps_lt hw ps_q80.2.2.1) (ps_cel_20 ps_q80.1 _) rfl rfl (Nat.le_of_ble_eq_true rfl) dL_law_365 ?_
  refine ps_iload hG dL_law_368 1 rfl ?_
  refine ps_icmp_eq (tgt := 375) hG dL_law_370 (by decide) (fun c9 => ?_) (fun c9 => absurd rfl c9)
  refine ps_iload hG dL_law_375 1 rfl ?_
  refine ps_if_ne (tgt := 392) hG dL_law_377 (by decide) (fun c9 => ?_) (fun c9 => ?_)
  · skip
    refine ps_goto (tgt := 1586) hG dL_law_392 (by decide) ?_
    exact ps_sub [2, 3, 4, 5, 6] rfl (ps_widen (by omega) (by omega) hk)
  · have hv := he1 c9
    refine ps_aload_n hG dL_law_380 rfl 3 rfl ?_
    refine ps_iconst (v := 0) hG dL_law_381 (by decide) ?_
    refine ps_lald hG (ps_lt hw ps_q102.2.2.1) dL_law_382 ?_
    refine ps_iload hG dL_law_383 0 rfl ?_
    refine ps_i2l hG dL_law_385 rfl ?_
    refine ps_lcmp hG dL_law_386 ?_
    rw [hv, lg_cmp_self]
    refine ps_if_eq (tgt := 392) hG dL_law_387 (by decide) (fun c8 => ?_) (fun c8 => absurd rfl c8)
    refine ps_goto (tgt := 1586) hG dL_law_392 (by decide) ?_
    exact ps_sub [2, 3, 4, 5, 6] rfl (ps_widen (by omega) (by omega) hk)
set_option maxHeartbeats 4000000 in
set_option maxRecDepth 100000 in
theorem law_c3 {G : ps_G} {b L : Nat} {xs : Nat → Int32} (hC : law_ctx G b L xs) {w : ps_X} (hw : ps_ww w) {kc ks : Nat} (hr : kc + 16 ≤ 601024 ∧ ks + 64 ≤ 7293034) {S S9 : ps_S} {i : Int32} (hi1 : vp_in (i + 1) L) (hi2 : vp_in (i + 2) L) (hi3 : vp_in (i + 3) L) (h : f_cmp (fun r => r) (f_L_lookup S (xs (i + 1).toNatClampNeg) (xs (i + 2).toNatClampNeg) (xs (i + 3).toNatClampNeg)) (fun S => f_X11_lookup S (xs (i + 1).toNatClampNeg) (xs (i + 2).toNatClampNeg) (xs (i + 3).toNatClampNeg)) = some S9) (hk : ps_V G 7 (kc + 16) (ks + 64) w S9 1586 [(4, .int i), (3, .ref (w.2.1 102)), (2, .ref (w.2.1 80)), (1, .ref (w.2.1 0)), (0, .ref b)] []) : ps_V G 7 kc ks w S 395 [(4, .int i), (3, .ref (w.2.1 102)), (2, .ref (w.2.1 80)), (1, .ref (w.2.1 0)), (0, .ref b)] [] := by
  obtain ⟨hG, hXW, hX, hbl, hbA, hst⟩ := hC
  obtain ⟨k, S1, b9, hx1, hm1, ht1, he1⟩ := f_cmp_d h
  refine ps_aload_n hG dL_law_395 rfl 3 rfl ?_
  refine ps_aload_n hG dL_law_396 rfl 4 rfl ?_
  refine ps_iload hG dL_law_397 0 rfl ?_
  refine ps_iconst (v := 1) hG dL_law_399 (by decide) ?_
  refine ps_iadd hG dL_law_400 ?_
  refine ps_sld hG hX hbl hbA hi1 dL_law_401 ?_
  refine ps_aload_n hG dL_law_402 rfl 4 rfl ?_
  refine ps_iload hG dL_law_403 0 rfl ?_
  refine ps_iconst (v := 2) hG dL_law_405 (by decide) ?_
  refine ps_iadd hG dL_law_406 ?_
  refine ps_sld hG hX hbl hbA hi2 dL_law_407 ?_
  refine ps_aload_n hG dL_law_408 rfl 4 rfl ?_
  refine ps_iload hG dL_law_409 0 rfl ?_
  refine ps_iconst (v := 3) hG dL_law_411 (by decide) ?_
  refine ps_iadd hG dL_law_412 ?_
  refine ps_sld hG hX hbl hbA hi3 dL_law_413 ?_
  refine ps_aload_n hG dL_law_414 rfl 1 rfl ?_
  refine ps_lawcall (As := [.ref (w.2.1 0), .int (xs (i + 1).toNatClampNeg), .int (xs (i + 2).toNatClampNeg), .int (xs (i + 3).toNatClampNeg), .ref (w.2.1 102)]) (rest := []) (nA := 5) hG hXW (c_L_lookup _ hst hw hx1) gL_law_L_lookup rfl (by decide +kernel) rfl ⟨(Nat.le_of_ble_eq_true rfl), (Nat.le_of_ble_eq_true rfl)⟩ ⟨rfl, rfl⟩ ⟨by show kc + 3 ≤ 601024; omega, by show ks + 18 ≤ 7293034; omega⟩ rfl (Nat.le_of_ble_eq_true rfl) dL_law_415 ?_
  refine ps_istore (lv' := [(5, .int k), (4, .int i), (3, .ref (w.2.1 102)), (2, .ref (w.2.1 80)), (1, .ref (w.2.1 0)), (0, .ref b)]) hG dL_law_418 (by decide) rfl ?_
  refine ps_aload_n hG dL_law_420 rfl 3 rfl ?_
  refine ps_aload_n hG dL_law_421 rfl 5 rfl ?_
  refine ps_iload hG dL_law_422 1 rfl ?_
  refine ps_iconst (v := 1) hG dL_law_424 (by decide) ?_
  refine ps_iadd hG dL_law_425 ?_
  refine ps_sld hG hX hbl hbA hi1 dL_law_426 ?_
  refine ps_aload_n hG dL_law_427 rfl 5 rfl ?_
  refine ps_iload hG dL_law_428 1 rfl ?_
  refine ps_iconst (v := 2) hG dL_law_430 (by decide) ?_
  refine ps_iadd hG dL_law_431 ?_
  refine ps_sld hG hX hbl hbA hi2 dL_law_432 ?_
  refine ps_aload_n hG dL_law_433 rfl 5 rfl ?_
  refine ps_iload hG dL_law_434 1 rfl ?_
  refine ps_iconst (v := 3) hG dL_law_436 (by decide) ?_
  refine ps_iadd hG dL_law_437 ?_
  refine ps_sld hG hX hbl hbA hi3 dL_law_438 ?_
  refine ps_callVI (As := [.int (xs (i + 1).toNatClampNeg), .int (xs (i + 2).toNatClampNeg), .int (xs (i + 3).toNatClampNeg)]) (rest := []) (nA := 3) hG (c_X11_lookup _ hw hm1) gL_law_X11_lookup rfl (by decide +kernel) rfl ⟨(Nat.le_of_ble_eq_true rfl), (Nat.le_of_ble_eq_true rfl)⟩ ⟨rfl, rfl⟩ ⟨by show kc + 3 ≤ 601024; omega, by show ks + 18 ≤ 7293034; omega⟩ (ps_lt hw ps_q80.2.2.1) (ps_cel_20 ps_q80.1 _) rfl rfl (Nat.le_of_ble_eq_true rfl) dL_law_439 ?_
  refine ps_istore (lv' := [(6, .int b9), (5, .int k), (4, .int i), (3, .ref (w.2.1 102)), (2, .ref (w.2.1 80)), (1, .ref (w.2.1 0)), (0, .ref b)]) hG dL_law_442 (by decide) rfl ?_
  refine ps_aload_n hG dL_law_444 rfl 4 rfl ?_
  refine ps_callVI (As := []) (rest := []) (nA := 0) hG (c_X11_thrown _ hw ht1) gL_law_X11_thrown rfl (by decide +kernel) rfl ⟨(Nat.le_of_ble_eq_true rfl), (Nat.le_of_ble_eq_true rfl)⟩ ⟨rfl, rfl⟩ ⟨by show kc + 3 ≤ 601024; omega, by show ks + 18 ≤ 7293034; omega⟩ (ps_lt hw ps_q80.2.2.1) (ps_cel_20 ps_q80.1 _) rfl rfl (Nat.le_of_ble_eq_true rfl) dL_law_445 ?_
  refine ps_iload hG dL_law_448 1 rfl ?_
  refine ps_icmp_eq (tgt := 455) hG dL_law_450 (by decide) (fun c9 => ?_) (fun c9 => absurd rfl c9)
  refine ps_iload hG dL_law_455 1 rfl ?_
  refine ps_if_ne (tgt := 472) hG dL_law_457 (by decide) (fun c9 => ?_) (fun c9 => ?_)
  · skip
    refine ps_goto (tgt := 1586) hG dL_law_472 (by decide) ?_
    exact ps_sub [2, 3, 4, 5, 6] rfl (ps_widen (by omega) (by omega) hk)
  · have hv := he1 c9
    refine ps_aload_n hG dL_law_460 rfl 3 rfl ?_
    refine ps_iconst (v := 0) hG dL_law_461 (by decide) ?_
    refine ps_lald hG (ps_lt hw ps_q102.2.2.1) dL_law_462 ?_
    refine ps_iload hG dL_law_463 0 rfl ?_
    refine ps_i2l hG dL_law_465 rfl ?_
    refine ps_lcmp hG dL_law_466 ?_
    rw [hv, lg_cmp_self]
    refine ps_if_eq (tgt := 472) hG dL_law_467 (by decide) (fun c8 => ?_) (fun c8 => absurd rfl c8)
    refine ps_goto (tgt := 1586) hG dL_law_472 (by decide) ?_
    exact ps_sub [2, 3, 4, 5, 6] rfl (ps_widen (by omega) (by omega) hk)
set_option maxHeartbeats 4000000 in
set_option maxRecDepth 100000 in
theorem law_c4 {G : ps_G} {b L : Nat} {xs : Nat → Int32} (hC : law_ctx G b L xs) {w : ps_X} (hw : ps_ww w) {kc ks : Nat} (hr : kc + 16 ≤ 601024 ∧ ks + 64 ≤ 7293034) {S S9 : ps_S} {i : Int32} (h : ((f_X10_asked S).bind fun r1 => ps_b2 (f_X11_asked S) fun r2 S2 => if r1 = r2 then some S2 else none) = some S9) (hk : ps_V G 7 (kc + 16) (ks + 64) w S9 1586 [(4, .int i), (3, .ref (w.2.1 102)), (2, .ref (w.2.1 80)), (1, .ref (w.2.1 0)), (0, .ref b)] []) : ps_V G 7 kc ks w S 475 [(4, .int i), (3, .ref (w.2.1 102)), (2, .ref (w.2.1 80)), (1, .ref (w.2.1 0)), (0, .ref b)] [] := by
  obtain ⟨hG, hXW, hX, hbl, hbA, hst⟩ := hC
  obtain ⟨r1, h1, h⟩ := ps_bd h
  obtain ⟨r2, S2, h2, h⟩ := ps_d2 h
  obtain ⟨e1, h⟩ := ps_ig h
  cases h
  refine ps_aload_n hG dL_law_475 rfl 3 rfl ?_
  refine ps_callVI (As := []) (rest := []) (nA := 0) hG (c_X10_asked _ hw h1) gL_law_X10_asked rfl (by decide +kernel) rfl ⟨(Nat.le_of_ble_eq_true rfl), (Nat.le_of_ble_eq_true rfl)⟩ ⟨rfl, rfl⟩ ⟨by show kc ≤ 601024; omega, by show ks ≤ 7293034; omega⟩ (ps_lt hw ps_q0.2.2.1) (ps_cel_19 ps_q0.1 _) rfl rfl (Nat.le_of_ble_eq_true rfl) dL_law_476 ?_
  refine ps_aload_n hG dL_law_479 rfl 2 rfl ?_
  refine ps_callVI (As := []) (rest := [.int r1]) (nA := 0) hG (c_X11_asked _ hw h2) gL_law_X11_asked rfl (by decide +kernel) rfl ⟨(Nat.le_of_ble_eq_true rfl), (Nat.le_of_ble_eq_true rfl)⟩ ⟨rfl, rfl⟩ ⟨by show kc ≤ 601024; omega, by show ks ≤ 7293034; omega⟩ (ps_lt hw ps_q80.2.2.1) (ps_cel_20 ps_q80.1 _) rfl rfl (Nat.le_of_ble_eq_true rfl) dL_law_480 ?_
  refine ps_icmp_eq (tgt := 1586) hG dL_law_483 (by decide) (fun c9 => ?_) (fun c9 => absurd e1 c9)
  exact ps_widen (by omega) (by omega) hk
set_option maxHeartbeats 4000000 in
set_option maxRecDepth 100000 in
theorem law_c5 {G : ps_G} {b L : Nat} {xs : Nat → Int32} (hC : law_ctx G b L xs) {w : ps_X} (hw : ps_ww w) {kc ks : Nat} (hr : kc + 16 ≤ 601024 ∧ ks + 64 ≤ 7293034) {S S9 : ps_S} {i : Int32} (hi1 : vp_in (i + 1) L) (hi2 : vp_in (i + 2) L) (h : f_cmp (fun r => r) (f_L_closest S (xs (i + 1).toNatClampNeg) (xs (i + 2).toNatClampNeg)) (fun S => f_X11_closest S (xs (i + 1).toNatClampNeg) (xs (i + 2).toNatClampNeg)) = some S9) (hk : ps_V G 7 (kc + 16) (ks + 64) w S9 1586 [(4, .int i), (3, .ref (w.2.1 102)), (2, .ref (w.2.1 80)), (1, .ref (w.2.1 0)), (0, .ref b)] []) : ps_V G 7 kc ks w S 488 [(4, .int i), (3, .ref (w.2.1 102)), (2, .ref (w.2.1 80)), (1, .ref (w.2.1 0)), (0, .ref b)] [] := by
  obtain ⟨hG, hXW, hX, hbl, hbA, hst⟩ := hC
  obtain ⟨k, S1, b9, hx1, hm1, ht1, he1⟩ := f_cmp_d h
  refine ps_aload_n hG dL_law_488 rfl 3 rfl ?_
  refine ps_aload_n hG dL_law_489 rfl 4 rfl ?_
  refine ps_iload hG dL_law_490 0 rfl ?_
  refine ps_iconst (v := 1) hG dL_law_492 (by decide) ?_
  refine ps_iadd hG dL_law_493 ?_
  refine ps_sld hG hX hbl hbA hi1 dL_law_494 ?_
  refine ps_aload_n hG dL_law_495 rfl 4 rfl ?_
  refine ps_iload hG dL_law_496 0 rfl ?_
  refine ps_iconst (v := 2) hG dL_law_498 (by decide) ?_
  refine ps_iadd hG dL_law_499 ?_
  refine ps_sld hG hX hbl hbA hi2 dL_law_500 ?_
  refine ps_aload_n hG dL_law_501 rfl 1 rfl ?_
  refine ps_lawcall (As := [.ref (w.2.1 0), .int (xs (i + 1).toNatClampNeg), .int (xs (i + 2).toNatClampNeg), .ref (w.2.1 102)]) (rest := []) (nA := 4) hG hXW (c_L_closest _ hst hw hx1) gL_law_L_closest rfl (by decide +kernel) rfl ⟨(Nat.le_of_ble_eq_true rfl), (Nat.le_of_ble_eq_true rfl)⟩ ⟨rfl, rfl⟩ ⟨by show kc + 2 ≤ 601024; omega, by show ks + 12 ≤ 7293034; omega⟩ rfl (Nat.le_of_ble_eq_true rfl) dL_law_502 ?_
  refine ps_istore (lv' := [(5, .int k), (4, .int i), (3, .ref (w.2.1 102)), (2, .ref (w.2.1 80)), (1, .ref (w.2.1 0)), (0, .ref b)]) hG dL_law_505 (by decide) rfl ?_
  refine ps_aload_n hG dL_law_507 rfl 3 rfl ?_
  refine ps_aload_n hG dL_law_508 rfl 5 rfl ?_
  refine ps_iload hG dL_law_509 1 rfl ?_
  refine ps_iconst (v := 1) hG dL_law_511 (by decide) ?_
  refine ps_iadd hG dL_law_512 ?_
  refine ps_sld hG hX hbl hbA hi1 dL_law_513 ?_
  refine ps_aload_n hG dL_law_514 rfl 5 rfl ?_
  refine ps_iload hG dL_law_515 1 rfl ?_
  refine ps_iconst (v := 2) hG dL_law_517 (by decide) ?_
  refine ps_iadd hG dL_law_518 ?_
  refine ps_sld hG hX hbl hbA hi2 dL_law_519 ?_
  refine ps_callVI (As := [.int (xs (i + 1).toNatClampNeg), .int (xs (i + 2).toNatClampNeg)]) (rest := []) (nA := 2) hG (c_X11_closest _ hw hm1) gL_law_X11_closest rfl (by decide +kernel) rfl ⟨(Nat.le_of_ble_eq_true rfl), (Nat.le_of_ble_eq_true rfl)⟩ ⟨rfl, rfl⟩ ⟨by show kc + 2 ≤ 601024; omega, by show ks + 12 ≤ 7293034; omega⟩ (ps_lt hw ps_q80.2.2.1) (ps_cel_20 ps_q80.1 _) rfl rfl (Nat.le_of_ble_eq_true rfl) dL_law_520 ?_
  refine ps_istore (lv' := [(6, .int b9), (5, .int k), (4, .int i), (3, .ref (w.2.1 102)), (2, .ref (w.2.1 80)), (1, .ref (w.2.1 0)), (0, .ref b)]) hG dL_law_523 (by decide) rfl ?_
  refine ps_aload_n hG dL_law_525 rfl 4 rfl ?_
  refine ps_callVI (As := []) (rest := []) (nA := 0) hG (c_X11_thrown _ hw ht1) gL_law_X11_thrown rfl (by decide +kernel) rfl ⟨(Nat.le_of_ble_eq_true rfl), (Nat.le_of_ble_eq_true rfl)⟩ ⟨rfl, rfl⟩ ⟨by show kc + 2 ≤ 601024; omega, by show ks + 12 ≤ 7293034; omega⟩ (ps_lt hw ps_q80.2.2.1) (ps_cel_20 ps_q80.1 _) rfl rfl (Nat.le_of_ble_eq_true rfl) dL_law_526 ?_
  refine ps_iload hG dL_law_529 1 rfl ?_
  refine ps_icmp_eq (tgt := 536) hG dL_law_531 (by decide) (fun c9 => ?_) (fun c9 => absurd rfl c9)
  refine ps_iload hG dL_law_536 1 rfl ?_
  refine ps_if_ne (tgt := 553) hG dL_law_538 (by decide) (fun c9 => ?_) (fun c9 => ?_)
  · skip
    refine ps_goto (tgt := 1586) hG dL_law_553 (by decide) ?_
    exact ps_sub [2, 3, 4, 5, 6] rfl (ps_widen (by omega) (by omega) hk)
  · have hv := he1 c9
    refine ps_aload_n hG dL_law_541 rfl 3 rfl ?_
    refine ps_iconst (v := 0) hG dL_law_542 (by decide) ?_
    refine ps_lald hG (ps_lt hw ps_q102.2.2.1) dL_law_543 ?_
    refine ps_iload hG dL_law_544 0 rfl ?_
    refine ps_i2l hG dL_law_546 rfl ?_
    refine ps_lcmp hG dL_law_547 ?_
    rw [hv, lg_cmp_self]
    refine ps_if_eq (tgt := 553) hG dL_law_548 (by decide) (fun c8 => ?_) (fun c8 => absurd rfl c8)
    refine ps_goto (tgt := 1586) hG dL_law_553 (by decide) ?_
    exact ps_sub [2, 3, 4, 5, 6] rfl (ps_widen (by omega) (by omega) hk)
set_option maxHeartbeats 4000000 in
set_option maxRecDepth 100000 in
theorem law_c6 {G : ps_G} {b L : Nat} {xs : Nat → Int32} (hC : law_ctx G b L xs) {n : Nat} {ad : Nat → Nat} (hw : ps_ww (n, ad, ps_T)) {kc ks : Nat} (hr : kc + 16 ≤ 601024 ∧ ks + 64 ≤ 7293034) {S S9 : ps_S} (hn : n = 103 + 7 * (S 0 8).toNatClampNeg) {i : Int32} (hi1 : vp_in (i + 1) L) (hi2 : vp_in (i + 2) L) (h : f_cmp (fun r => r) (f_L_file n S (xs (i + 1).toNatClampNeg) (xs (i + 2).toNatClampNeg)) (fun S => f_X11_file S (xs (i + 1).toNatClampNeg) (xs (i + 2).toNatClampNeg)) = some S9) (hk : ∀ (ad2 : Nat → Nat) (n2 : Nat), (∀ k, k < n → ad2 k = ad k) → (∀ r S1, f_L_file n S (xs (i + 1).toNatClampNeg) (xs (i + 2).toNatClampNeg) = some (r, S1) → n2 = if r = 0 then n + 7 else n) → ps_V G 7 (kc + 16) (ks + 64) (n2, ad2, ps_T) S9 1586 [(4, .int i), (3, .ref (ad2 102)), (2, .ref (ad2 80)), (1, .ref (ad2 0)), (0, .ref b)] []) : ps_V G 7 kc ks (n, ad, ps_T) S 556 [(4, .int i), (3, .ref (ad 102)), (2, .ref (ad 80)), (1, .ref (ad 0)), (0, .ref b)] [] := by
  obtain ⟨hG, hXW, hX, hbl, hbA, hst⟩ := hC
  obtain ⟨k, S1, b9, hx1, hm1, ht1, he1⟩ := f_cmp_d h
  have hn103 : 103 ≤ n := hw.1
  refine ps_aload_n hG dL_law_556 rfl 3 rfl ?_
  refine ps_aload_n hG dL_law_557 rfl 4 rfl ?_
  refine ps_iload hG dL_law_558 0 rfl ?_
  refine ps_iconst (v := 1) hG dL_law_560 (by decide) ?_
  refine ps_iadd hG dL_law_561 ?_
  refine ps_sld hG hX hbl hbA hi1 dL_law_562 ?_
  refine ps_aload_n hG dL_law_563 rfl 4 rfl ?_
  refine ps_iload hG dL_law_564 0 rfl ?_
  refine ps_iconst (v := 2) hG dL_law_566 (by decide) ?_
  refine ps_iadd hG dL_law_567 ?_
  refine ps_sld hG hX hbl hbA hi2 dL_law_568 ?_
  refine ps_aload_n hG dL_law_569 rfl 1 rfl ?_
  refine ps_lawcallF (As := [.ref (ad 0), .int (xs (i + 1).toNatClampNeg), .int (xs (i + 2).toNatClampNeg), .ref (ad 102)]) (rest := []) (nA := 4) hG hXW (c_L_file _ hst hw hn hx1) gL_law_L_file rfl (by decide +kernel) rfl ⟨(Nat.le_of_ble_eq_true rfl), (Nat.le_of_ble_eq_true rfl)⟩ ⟨rfl, rfl⟩ ⟨by show kc + 9 ≤ 601024; omega, by show ks + 59 ≤ 7293034; omega⟩ rfl (Nat.le_of_ble_eq_true rfl) dL_law_570 (fun ad2 n2 had2 hn2 => ?_)
  rw [show ad 102 = ad2 102 from (had2 102 (by omega)).symm, show ad 80 = ad2 80 from (had2 80 (by omega)).symm, show ad 0 = ad2 0 from (had2 0 (by omega)).symm]
  have hk := hk ad2 n2 had2 (fun r S1 hq => by rw [hx1] at hq; cases hq; exact hn2)
  have hw : ps_ww (n2, ad2, ps_T) := ⟨by show 103 ≤ n2; rw [hn2]; split <;> omega, fun _ _ => rfl⟩
  refine ps_istore (lv' := [(5, .int k), (4, .int i), (3, .ref (ad2 102)), (2, .ref (ad2 80)), (1, .ref (ad2 0)), (0, .ref b)]) hG dL_law_573 (by decide) rfl ?_
  refine ps_aload_n hG dL_law_575 rfl 3 rfl ?_
  refine ps_aload_n hG dL_law_576 rfl 5 rfl ?_
  refine ps_iload hG dL_law_577 1 rfl ?_
  refine ps_iconst (v := 1) hG dL_law_579 (by decide) ?_
  refine ps_iadd hG dL_law_580 ?_
  refine ps_sld hG hX hbl hbA hi1 dL_law_581 ?_
  refine ps_aload_n hG dL_law_582 rfl 5 rfl ?_
  refine ps_iload hG dL_law_583 1 rfl ?_
  refine ps_iconst (v := 2) hG dL_law_585 (by decide) ?_
  refine ps_iadd hG dL_law_586 ?_
  refine ps_sld hG hX hbl hbA hi2 dL_law_587 ?_
  refine ps_callVI (As := [.int (xs (i + 1).toNatClampNeg), .int (xs (i + 2).toNatClampNeg)]) (rest := []) (nA := 2) hG (c_X11_file _ hw hm1) gL_law_X11_file rfl (by decide +kernel) rfl ⟨(Nat.le_of_ble_eq_true rfl), (Nat.le_of_ble_eq_true rfl)⟩ ⟨rfl, rfl⟩ ⟨by show kc + 9 ≤ 601024; omega, by show ks + 59 ≤ 7293034; omega⟩ (ps_lt hw ps_q80.2.2.1) (ps_cel_20 ps_q80.1 _) rfl rfl (Nat.le_of_ble_eq_true rfl) dL_law_588 ?_
  refine ps_istore (lv' := [(6, .int b9), (5, .int k), (4, .int i), (3, .ref (ad2 102)), (2, .ref (ad2 80)), (1, .ref (ad2 0)), (0, .ref b)]) hG dL_law_591 (by decide) rfl ?_
  refine ps_aload_n hG dL_law_593 rfl 4 rfl ?_
  refine ps_callVI (As := []) (rest := []) (nA := 0) hG (c_X11_thrown _ hw ht1) gL_law_X11_thrown rfl (by decide +kernel) rfl ⟨(Nat.le_of_ble_eq_true rfl), (Nat.le_of_ble_eq_true rfl)⟩ ⟨rfl, rfl⟩ ⟨by show kc + 9 ≤ 601024; omega, by show ks + 59 ≤ 7293034; omega⟩ (ps_lt hw ps_q80.2.2.1) (ps_cel_20 ps_q80.1 _) rfl rfl (Nat.le_of_ble_eq_true rfl) dL_law_594 ?_
  refine ps_iload hG dL_law_597 1 rfl ?_
  refine ps_icmp_eq (tgt := 604) hG dL_law_599 (by decide) (fun c9 => ?_) (fun c9 => absurd rfl c9)
  refine ps_iload hG dL_law_604 1 rfl ?_
  refine ps_if_ne (tgt := 621) hG dL_law_606 (by decide) (fun c9 => ?_) (fun c9 => ?_)
  · skip
    refine ps_goto (tgt := 1586) hG dL_law_621 (by decide) ?_
    exact ps_sub [2, 3, 4, 5, 6] rfl (ps_widen (by omega) (by omega) hk)
  · have hv := he1 c9
    refine ps_aload_n hG dL_law_609 rfl 3 rfl ?_
    refine ps_iconst (v := 0) hG dL_law_610 (by decide) ?_
    refine ps_lald hG (ps_lt hw ps_q102.2.2.1) dL_law_611 ?_
    refine ps_iload hG dL_law_612 0 rfl ?_
    refine ps_i2l hG dL_law_614 rfl ?_
    refine ps_lcmp hG dL_law_615 ?_
    rw [hv, lg_cmp_self]
    refine ps_if_eq (tgt := 621) hG dL_law_616 (by decide) (fun c8 => ?_) (fun c8 => absurd rfl c8)
    refine ps_goto (tgt := 1586) hG dL_law_621 (by decide) ?_
    exact ps_sub [2, 3, 4, 5, 6] rfl (ps_widen (by omega) (by omega) hk)
set_option maxHeartbeats 4000000 in
set_option maxRecDepth 100000 in
theorem law_c7 {G : ps_G} {b L : Nat} {xs : Nat → Int32} (hC : law_ctx G b L xs) {w : ps_X} (hw : ps_ww w) {kc ks : Nat} (hr : kc + 16 ≤ 601024 ∧ ks + 64 ≤ 7293034) {S S9 : ps_S} {i : Int32} (hi1 : vp_in (i + 1) L) (hi2 : vp_in (i + 2) L) (hi3 : vp_in (i + 3) L) (h : f_cmp (fun r => r) (f_L_piece S (xs (i + 1).toNatClampNeg) (xs (i + 2).toNatClampNeg) (xs (i + 3).toNatClampNeg)) (fun S => f_X11_piece S (xs (i + 1).toNatClampNeg) (xs (i + 2).toNatClampNeg) (xs (i + 3).toNatClampNeg)) = some S9) (hk : ps_V G 7 (kc + 16) (ks + 64) w S9 1586 [(4, .int i), (3, .ref (w.2.1 102)), (2, .ref (w.2.1 80)), (1, .ref (w.2.1 0)), (0, .ref b)] []) : ps_V G 7 kc ks w S 624 [(4, .int i), (3, .ref (w.2.1 102)), (2, .ref (w.2.1 80)), (1, .ref (w.2.1 0)), (0, .ref b)] [] := by
  obtain ⟨hG, hXW, hX, hbl, hbA, hst⟩ := hC
  obtain ⟨k, S1, b9, hx1, hm1, ht1, he1⟩ := f_cmp_d h
  refine ps_aload_n hG dL_law_624 rfl 3 rfl ?_
  refine ps_aload_n hG dL_law_625 rfl 4 rfl ?_
  refine ps_iload hG dL_law_626 0 rfl ?_
  refine ps_iconst (v := 1) hG dL_law_628 (by decide) ?_
  refine ps_iadd hG dL_law_629 ?_
  refine ps_sld hG hX hbl hbA hi1 dL_law_630 ?_
  refine ps_aload_n hG dL_law_631 rfl 4 rfl ?_
  refine ps_iload hG dL_law_632 0 rfl ?_
  refine ps_iconst (v := 2) hG dL_law_634 (by decide) ?_
  refine ps_iadd hG dL_law_635 ?_
  refine ps_sld hG hX hbl hbA hi2 dL_law_636 ?_
  refine ps_aload_n hG dL_law_637 rfl 4 rfl ?_
  refine ps_iload hG dL_law_638 0 rfl ?_
  refine ps_iconst (v := 3) hG dL_law_640 (by decide) ?_
  refine ps_iadd hG dL_law_641 ?_
  refine ps_sld hG hX hbl hbA hi3 dL_law_642 ?_
  refine ps_aload_n hG dL_law_643 rfl 1 rfl ?_
  refine ps_lawcall (As := [.ref (w.2.1 0), .int (xs (i + 1).toNatClampNeg), .int (xs (i + 2).toNatClampNeg), .int (xs (i + 3).toNatClampNeg), .ref (w.2.1 102)]) (rest := []) (nA := 5) hG hXW (c_L_piece _ hst hw hx1) gL_law_L_piece rfl (by decide +kernel) rfl ⟨(Nat.le_of_ble_eq_true rfl), (Nat.le_of_ble_eq_true rfl)⟩ ⟨rfl, rfl⟩ ⟨by show kc + 3 ≤ 601024; omega, by show ks + 18 ≤ 7293034; omega⟩ rfl (Nat.le_of_ble_eq_true rfl) dL_law_644 ?_
  refine ps_istore (lv' := [(5, .int k), (4, .int i), (3, .ref (w.2.1 102)), (2, .ref (w.2.1 80)), (1, .ref (w.2.1 0)), (0, .ref b)]) hG dL_law_647 (by decide) rfl ?_
  refine ps_aload_n hG dL_law_649 rfl 3 rfl ?_
  refine ps_aload_n hG dL_law_650 rfl 5 rfl ?_
  refine ps_iload hG dL_law_651 1 rfl ?_
  refine ps_iconst (v := 1) hG dL_law_653 (by decide) ?_
  refine ps_iadd hG dL_law_654 ?_
  refine ps_sld hG hX hbl hbA hi1 dL_law_655 ?_
  refine ps_aload_n hG dL_law_656 rfl 5 rfl ?_
  refine ps_iload hG dL_law_657 1 rfl ?_
  refine ps_iconst (v := 2) hG dL_law_659 (by decide) ?_
  refine ps_iadd hG dL_law_660 ?_
  refine ps_sld hG hX hbl hbA hi2 dL_law_661 ?_
  refine ps_aload_n hG dL_law_662 rfl 5 rfl ?_
  refine ps_iload hG dL_law_663 1 rfl ?_
  refine ps_iconst (v := 3) hG dL_law_665 (by decide) ?_
  refine ps_iadd hG dL_law_666 ?_
  refine ps_sld hG hX hbl hbA hi3 dL_law_667 ?_
  refine ps_callVI (As := [.int (xs (i + 1).toNatClampNeg), .int (xs (i + 2).toNatClampNeg), .int (xs (i + 3).toNatClampNeg)]) (rest := []) (nA := 3) hG (c_X11_piece _ hw hm1) gL_law_X11_piece rfl (by decide +kernel) rfl ⟨(Nat.le_of_ble_eq_true rfl), (Nat.le_of_ble_eq_true rfl)⟩ ⟨rfl, rfl⟩ ⟨by show kc + 3 ≤ 601024; omega, by show ks + 18 ≤ 7293034; omega⟩ (ps_lt hw ps_q80.2.2.1) (ps_cel_20 ps_q80.1 _) rfl rfl (Nat.le_of_ble_eq_true rfl) dL_law_668 ?_
  refine ps_istore (lv' := [(6, .int b9), (5, .int k), (4, .int i), (3, .ref (w.2.1 102)), (2, .ref (w.2.1 80)), (1, .ref (w.2.1 0)), (0, .ref b)]) hG dL_law_671 (by decide) rfl ?_
  refine ps_aload_n hG dL_law_673 rfl 4 rfl ?_
  refine ps_callVI (As := []) (rest := []) (nA := 0) hG (c_X11_thrown _ hw ht1) gL_law_X11_thrown rfl (by decide +kernel) rfl ⟨(Nat.le_of_ble_eq_true rfl), (Nat.le_of_ble_eq_true rfl)⟩ ⟨rfl, rfl⟩ ⟨by show kc + 3 ≤ 601024; omega, by show ks + 18 ≤ 7293034; omega⟩ (ps_lt hw ps_q80.2.2.1) (ps_cel_20 ps_q80.1 _) rfl rfl (Nat.le_of_ble_eq_true rfl) dL_law_674 ?_
  refine ps_iload hG dL_law_677 1 rfl ?_
  refine ps_icmp_eq (tgt := 684) hG dL_law_679 (by decide) (fun c9 => ?_) (fun c9 => absurd rfl c9)
  refine ps_iload hG dL_law_684 1 rfl ?_
  refine ps_if_ne (tgt := 701) hG dL_law_686 (by decide) (fun c9 => ?_) (fun c9 => ?_)
  · skip
    refine ps_goto (tgt := 1586) hG dL_law_701 (by decide) ?_
    exact ps_sub [2, 3, 4, 5, 6] rfl (ps_widen (by omega) (by omega) hk)
  · have hv := he1 c9
    refine ps_aload_n hG dL_law_689 rfl 3 rfl ?_
    refine ps_iconst (v := 0) hG dL_law_690 (by decide) ?_
    refine ps_lald hG (ps_lt hw ps_q102.2.2.1) dL_law_691 ?_
    refine ps_iload hG dL_law_692 0 rfl ?_
    refine ps_i2l hG dL_law_694 rfl ?_
    refine ps_lcmp hG dL_law_695 ?_
    rw [hv, lg_cmp_self]
    refine ps_if_eq (tgt := 701) hG dL_law_696 (by decide) (fun c8 => ?_) (fun c8 => absurd rfl c8)
    refine ps_goto (tgt := 1586) hG dL_law_701 (by decide) ?_
    exact ps_sub [2, 3, 4, 5, 6] rfl (ps_widen (by omega) (by omega) hk)
set_option maxHeartbeats 4000000 in
set_option maxRecDepth 100000 in
theorem law_c8 {G : ps_G} {b L : Nat} {xs : Nat → Int32} (hC : law_ctx G b L xs) {w : ps_X} (hw : ps_ww w) {kc ks : Nat} (hr : kc + 16 ≤ 601024 ∧ ks + 64 ≤ 7293034) {S S9 : ps_S} {i : Int32} (hi1 : vp_in (i + 1) L) (hi2 : vp_in (i + 2) L) (h : f_cmp ps_nz (f_L_spoil S (xs (i + 1).toNatClampNeg) (xs (i + 2).toNatClampNeg)) (fun S => f_X11_spoil S (xs (i + 1).toNatClampNeg) (xs (i + 2).toNatClampNeg)) = some S9) (hk : ps_V G 7 (kc + 16) (ks + 64) w S9 1586 [(4, .int i), (3, .ref (w.2.1 102)), (2, .ref (w.2.1 80)), (1, .ref (w.2.1 0)), (0, .ref b)] []) : ps_V G 7 kc ks w S 704 [(4, .int i), (3, .ref (w.2.1 102)), (2, .ref (w.2.1 80)), (1, .ref (w.2.1 0)), (0, .ref b)] [] := by
  obtain ⟨hG, hXW, hX, hbl, hbA, hst⟩ := hC
  obtain ⟨k, S1, b9, hx1, hm1, ht1, he1⟩ := f_cmp_d h
  refine ps_aload_n hG dL_law_704 rfl 3 rfl ?_
  refine ps_aload_n hG dL_law_705 rfl 4 rfl ?_
  refine ps_iload hG dL_law_706 0 rfl ?_
  refine ps_iconst (v := 1) hG dL_law_708 (by decide) ?_
  refine ps_iadd hG dL_law_709 ?_
  refine ps_sld hG hX hbl hbA hi1 dL_law_710 ?_
  refine ps_aload_n hG dL_law_711 rfl 4 rfl ?_
  refine ps_iload hG dL_law_712 0 rfl ?_
  refine ps_iconst (v := 2) hG dL_law_714 (by decide) ?_
  refine ps_iadd hG dL_law_715 ?_
  refine ps_sld hG hX hbl hbA hi2 dL_law_716 ?_
  refine ps_aload_n hG dL_law_717 rfl 1 rfl ?_
  refine ps_lawcall (As := [.ref (w.2.1 0), .int (xs (i + 1).toNatClampNeg), .int (xs (i + 2).toNatClampNeg), .ref (w.2.1 102)]) (rest := []) (nA := 4) hG hXW (c_L_spoil _ hst hw hx1) gL_law_L_spoil rfl (by decide +kernel) rfl ⟨(Nat.le_of_ble_eq_true rfl), (Nat.le_of_ble_eq_true rfl)⟩ ⟨rfl, rfl⟩ ⟨by show kc + 3 ≤ 601024; omega, by show ks + 18 ≤ 7293034; omega⟩ rfl (Nat.le_of_ble_eq_true rfl) dL_law_718 ?_
  refine ps_istore (lv' := [(5, .int k), (4, .int i), (3, .ref (w.2.1 102)), (2, .ref (w.2.1 80)), (1, .ref (w.2.1 0)), (0, .ref b)]) hG dL_law_721 (by decide) rfl ?_
  refine ps_aload_n hG dL_law_723 rfl 3 rfl ?_
  refine ps_aload_n hG dL_law_724 rfl 5 rfl ?_
  refine ps_iload hG dL_law_725 1 rfl ?_
  refine ps_iconst (v := 1) hG dL_law_727 (by decide) ?_
  refine ps_iadd hG dL_law_728 ?_
  refine ps_sld hG hX hbl hbA hi1 dL_law_729 ?_
  refine ps_aload_n hG dL_law_730 rfl 5 rfl ?_
  refine ps_iload hG dL_law_731 1 rfl ?_
  refine ps_iconst (v := 2) hG dL_law_733 (by decide) ?_
  refine ps_iadd hG dL_law_734 ?_
  refine ps_sld hG hX hbl hbA hi2 dL_law_735 ?_
  refine ps_callVI (As := [.int (xs (i + 1).toNatClampNeg), .int (xs (i + 2).toNatClampNeg)]) (rest := []) (nA := 2) hG (c_X11_spoil _ hw hm1) gL_law_X11_spoil rfl (by decide +kernel) rfl ⟨(Nat.le_of_ble_eq_true rfl), (Nat.le_of_ble_eq_true rfl)⟩ ⟨rfl, rfl⟩ ⟨by show kc + 3 ≤ 601024; omega, by show ks + 18 ≤ 7293034; omega⟩ (ps_lt hw ps_q80.2.2.1) (ps_cel_20 ps_q80.1 _) rfl rfl (Nat.le_of_ble_eq_true rfl) dL_law_736 ?_
  refine ps_istore (lv' := [(6, .int b9), (5, .int k), (4, .int i), (3, .ref (w.2.1 102)), (2, .ref (w.2.1 80)), (1, .ref (w.2.1 0)), (0, .ref b)]) hG dL_law_739 (by decide) rfl ?_
  refine ps_aload_n hG dL_law_741 rfl 4 rfl ?_
  refine ps_callVI (As := []) (rest := []) (nA := 0) hG (c_X11_thrown _ hw ht1) gL_law_X11_thrown rfl (by decide +kernel) rfl ⟨(Nat.le_of_ble_eq_true rfl), (Nat.le_of_ble_eq_true rfl)⟩ ⟨rfl, rfl⟩ ⟨by show kc + 3 ≤ 601024; omega, by show ks + 18 ≤ 7293034; omega⟩ (ps_lt hw ps_q80.2.2.1) (ps_cel_20 ps_q80.1 _) rfl rfl (Nat.le_of_ble_eq_true rfl) dL_law_742 ?_
  refine ps_iload hG dL_law_745 1 rfl ?_
  refine ps_icmp_eq (tgt := 752) hG dL_law_747 (by decide) (fun c9 => ?_) (fun c9 => absurd rfl c9)
  refine ps_iload hG dL_law_752 1 rfl ?_
  refine ps_if_ne (tgt := 776) hG dL_law_754 (by decide) (fun c9 => ?_) (fun c9 => ?_)
  · skip
    refine ps_goto (tgt := 1586) hG dL_law_776 (by decide) ?_
    exact ps_sub [2, 3, 4, 5, 6] rfl (ps_widen (by omega) (by omega) hk)
  · have hv := he1 c9
    refine ps_aload_n hG dL_law_757 rfl 3 rfl ?_
    refine ps_iconst (v := 0) hG dL_law_758 (by decide) ?_
    refine ps_lald hG (ps_lt hw ps_q102.2.2.1) dL_law_759 ?_
    refine ps_iload hG dL_law_760 0 rfl ?_
    refine ps_nzJ hG (x := b9) (t1 := 769) (t2 := 770) dL_law_762 (by decide) dL_law_765 dL_law_766 (by decide) dL_law_769 (by decide) ?_
    refine ps_lcmp hG dL_law_770 ?_
    rw [hv, lg_cmp_self]
    refine ps_if_eq (tgt := 776) hG dL_law_771 (by decide) (fun c8 => ?_) (fun c8 => absurd rfl c8)
    refine ps_goto (tgt := 1586) hG dL_law_776 (by decide) ?_
    exact ps_sub [2, 3, 4, 5, 6] rfl (ps_widen (by omega) (by omega) hk)
set_option maxHeartbeats 4000000 in
set_option maxRecDepth 100000 in
theorem law_c9 {G : ps_G} {b L : Nat} {xs : Nat → Int32} (hC : law_ctx G b L xs) {w : ps_X} (hw : ps_ww w) {kc ks : Nat} (hr : kc + 16 ≤ 601024 ∧ ks + 64 ≤ 7293034) {S S9 : ps_S} {i : Int32} (hi1 : vp_in (i + 1) L) (h : f_cmp (fun r => r) (f_L_root S (xs (i + 1).toNatClampNeg)) (fun S => f_X11_root S (xs (i + 1).toNatClampNeg)) = some S9) (hk : ps_V G 7 (kc + 16) (ks + 64) w S9 1586 [(4, .int i), (3, .ref (w.2.1 102)), (2, .ref (w.2.1 80)), (1, .ref (w.2.1 0)), (0, .ref b)] []) : ps_V G 7 kc ks w S 779 [(4, .int i), (3, .ref (w.2.1 102)), (2, .ref (w.2.1 80)), (1, .ref (w.2.1 0)), (0, .ref b)] [] := by
  obtain ⟨hG, hXW, hX, hbl, hbA, hst⟩ := hC
  obtain ⟨k, S1, b9, hx1, hm1, ht1, he1⟩ := f_cmp_d h
  refine ps_aload_n hG dL_law_779 rfl 3 rfl ?_
  refine ps_aload_n hG dL_law_780 rfl 4 rfl ?_
  refine ps_iload hG dL_law_781 0 rfl ?_
  refine ps_iconst (v := 1) hG dL_law_783 (by decide) ?_
  refine ps_iadd hG dL_law_784 ?_
  refine ps_sld hG hX hbl hbA hi1 dL_law_785 ?_
  refine ps_aload_n hG dL_law_786 rfl 1 rfl ?_
  refine ps_lawcall (As := [.ref (w.2.1 0), .int (xs (i + 1).toNatClampNeg), .ref (w.2.1 102)]) (rest := []) (nA := 3) hG hXW (c_L_root _ hst hw hx1) gL_law_L_root rfl (by decide +kernel) rfl ⟨(Nat.le_of_ble_eq_true rfl), (Nat.le_of_ble_eq_true rfl)⟩ ⟨rfl, rfl⟩ ⟨by show kc + 1 ≤ 601024; omega, by show ks + 6 ≤ 7293034; omega⟩ rfl (Nat.le_of_ble_eq_true rfl) dL_law_787 ?_
  refine ps_istore (lv' := [(5, .int k), (4, .int i), (3, .ref (w.2.1 102)), (2, .ref (w.2.1 80)), (1, .ref (w.2.1 0)), (0, .ref b)]) hG dL_law_790 (by decide) rfl ?_
  refine ps_aload_n hG dL_law_792 rfl 3 rfl ?_
  refine ps_aload_n hG dL_law_793 rfl 5 rfl ?_
  refine ps_iload hG dL_law_794 1 rfl ?_
  refine ps_iconst (v := 1) hG dL_law_796 (by decide) ?_
  refine ps_iadd hG dL_law_797 ?_
  refine ps_sld hG hX hbl hbA hi1 dL_law_798 ?_
  refine ps_callVI (As := [.int (xs (i + 1).toNatClampNeg)]) (rest := []) (nA := 1) hG (c_X11_root _ hw hm1) gL_law_X11_root rfl (by decide +kernel) rfl ⟨(Nat.le_of_ble_eq_true rfl), (Nat.le_of_ble_eq_true rfl)⟩ ⟨rfl, rfl⟩ ⟨by show kc + 1 ≤ 601024; omega, by show ks + 6 ≤ 7293034; omega⟩ (ps_lt hw ps_q80.2.2.1) (ps_cel_20 ps_q80.1 _) rfl rfl (Nat.le_of_ble_eq_true rfl) dL_law_799 ?_
  refine ps_istore (lv' := [(6, .int b9), (5, .int k), (4, .int i), (3, .ref (w.2.1 102)), (2, .ref (w.2.1 80)), (1, .ref (w.2.1 0)), (0, .ref b)]) hG dL_law_802 (by decide) rfl ?_
  refine ps_aload_n hG dL_law_804 rfl 4 rfl ?_
  refine ps_callVI (As := []) (rest := []) (nA := 0) hG (c_X11_thrown _ hw ht1) gL_law_X11_thrown rfl (by decide +kernel) rfl ⟨(Nat.le_of_ble_eq_true rfl), (Nat.le_of_ble_eq_true rfl)⟩ ⟨rfl, rfl⟩ ⟨by show kc + 1 ≤ 601024; omega, by show ks + 6 ≤ 7293034; omega⟩ (ps_lt hw ps_q80.2.2.1) (ps_cel_20 ps_q80.1 _) rfl rfl (Nat.le_of_ble_eq_true rfl) dL_law_805 ?_
  refine ps_iload hG dL_law_808 1 rfl ?_
  refine ps_icmp_eq (tgt := 815) hG dL_law_810 (by decide) (fun c9 => ?_) (fun c9 => absurd rfl c9)
  refine ps_iload hG dL_law_815 1 rfl ?_
  refine ps_if_ne (tgt := 832) hG dL_law_817 (by decide) (fun c9 => ?_) (fun c9 => ?_)
  · skip
    refine ps_goto (tgt := 1586) hG dL_law_832 (by decide) ?_
    exact ps_sub [2, 3, 4, 5, 6] rfl (ps_widen (by omega) (by omega) hk)
  · have hv := he1 c9
    refine ps_aload_n hG dL_law_820 rfl 3 rfl ?_
    refine ps_iconst (v := 0) hG dL_law_821 (by decide) ?_
    refine ps_lald hG (ps_lt hw ps_q102.2.2.1) dL_law_822 ?_
    refine ps_iload hG dL_law_823 0 rfl ?_
    refine ps_i2l hG dL_law_825 rfl ?_
    refine ps_lcmp hG dL_law_826 ?_
    rw [hv, lg_cmp_self]
    refine ps_if_eq (tgt := 832) hG dL_law_827 (by decide) (fun c8 => ?_) (fun c8 => absurd rfl c8)
    refine ps_goto (tgt := 1586) hG dL_law_832 (by decide) ?_
    exact ps_sub [2, 3, 4, 5, 6] rfl (ps_widen (by omega) (by omega) hk)
set_option maxHeartbeats 4000000 in
set_option maxRecDepth 100000 in
theorem law_c10 {G : ps_G} {b L : Nat} {xs : Nat → Int32} (hC : law_ctx G b L xs) {w : ps_X} (hw : ps_ww w) {kc ks : Nat} (hr : kc + 16 ≤ 601024 ∧ ks + 64 ≤ 7293034) {S S9 : ps_S} {i : Int32} (hi1 : vp_in (i + 1) L) (hi2 : vp_in (i + 2) L) (hi3 : vp_in (i + 3) L) (h : f_cmp (fun r => r) (f_L_proof S (xs (i + 1).toNatClampNeg) (xs (i + 2).toNatClampNeg) (xs (i + 3).toNatClampNeg)) (fun S => f_X11_proof S (xs (i + 1).toNatClampNeg) (xs (i + 2).toNatClampNeg) (xs (i + 3).toNatClampNeg)) = some S9) (hk : ps_V G 7 (kc + 16) (ks + 64) w S9 1586 [(4, .int i), (3, .ref (w.2.1 102)), (2, .ref (w.2.1 80)), (1, .ref (w.2.1 0)), (0, .ref b)] []) : ps_V G 7 kc ks w S 835 [(4, .int i), (3, .ref (w.2.1 102)), (2, .ref (w.2.1 80)), (1, .ref (w.2.1 0)), (0, .ref b)] [] := by
  obtain ⟨hG, hXW, hX, hbl, hbA, hst⟩ := hC
  obtain ⟨k, S1, b9, hx1, hm1, ht1, he1⟩ := f_cmp_d h
  refine ps_aload_n hG dL_law_835 rfl 3 rfl ?_
  refine ps_aload_n hG dL_law_836 rfl 4 rfl ?_
  refine ps_iload hG dL_law_837 0 rfl ?_
  refine ps_iconst (v := 1) hG dL_law_839 (by decide) ?_
  refine ps_iadd hG dL_law_840 ?_
  refine ps_sld hG hX hbl hbA hi1 dL_law_841 ?_
  refine ps_aload_n hG dL_law_842 rfl 4 rfl ?_
  refine ps_iload hG dL_law_843 0 rfl ?_
  refine ps_iconst (v := 2) hG dL_law_845 (by decide) ?_
  refine ps_iadd hG dL_law_846 ?_
  refine ps_sld hG hX hbl hbA hi2 dL_law_847 ?_
  refine ps_aload_n hG dL_law_848 rfl 4 rfl ?_
  refine ps_iload hG dL_law_849 0 rfl ?_
  refine ps_iconst (v := 3) hG dL_law_851 (by decide) ?_
  refine ps_iadd hG dL_law_852 ?_
  refine ps_sld hG hX hbl hbA hi3 dL_law_853 ?_
  refine ps_aload_n hG dL_law_854 rfl 1 rfl ?_
  refine ps_lawcall (As := [.ref (w.2.1 0), .int (xs (i + 1).toNatClampNeg), .int (xs (i + 2).toNatClampNeg), .int (xs (i + 3).toNatClampNeg), .ref (w.2.1 102)]) (rest := []) (nA := 5) hG hXW (c_L_proof _ hst hw hx1) gL_law_L_proof rfl (by decide +kernel) rfl ⟨(Nat.le_of_ble_eq_true rfl), (Nat.le_of_ble_eq_true rfl)⟩ ⟨rfl, rfl⟩ ⟨by show kc + 3 ≤ 601024; omega, by show ks + 18 ≤ 7293034; omega⟩ rfl (Nat.le_of_ble_eq_true rfl) dL_law_855 ?_
  refine ps_istore (lv' := [(5, .int k), (4, .int i), (3, .ref (w.2.1 102)), (2, .ref (w.2.1 80)), (1, .ref (w.2.1 0)), (0, .ref b)]) hG dL_law_858 (by decide) rfl ?_
  refine ps_aload_n hG dL_law_860 rfl 3 rfl ?_
  refine ps_aload_n hG dL_law_861 rfl 5 rfl ?_
  refine ps_iload hG dL_law_862 1 rfl ?_
  refine ps_iconst (v := 1) hG dL_law_864 (by decide) ?_
  refine ps_iadd hG dL_law_865 ?_
  refine ps_sld hG hX hbl hbA hi1 dL_law_866 ?_
  refine ps_aload_n hG dL_law_867 rfl 5 rfl ?_
  refine ps_iload hG dL_law_868 1 rfl ?_
  refine ps_iconst (v := 2) hG dL_law_870 (by decide) ?_
  refine ps_iadd hG dL_law_871 ?_
  refine ps_sld hG hX hbl hbA hi2 dL_law_872 ?_
  refine ps_aload_n hG dL_law_873 rfl 5 rfl ?_
  refine ps_iload hG dL_law_874 1 rfl ?_
  refine ps_iconst (v := 3) hG dL_law_876 (by decide) ?_
  refine ps_iadd hG dL_law_877 ?_
  refine ps_sld hG hX hbl hbA hi3 dL_law_878 ?_
  refine ps_callVI (As := [.int (xs (i + 1).toNatClampNeg), .int (xs (i + 2).toNatClampNeg), .int (xs (i + 3).toNatClampNeg)]) (rest := []) (nA := 3) hG (c_X11_proof _ hw hm1) gL_law_X11_proof rfl (by decide +kernel) rfl ⟨(Nat.le_of_ble_eq_true rfl), (Nat.le_of_ble_eq_true rfl)⟩ ⟨rfl, rfl⟩ ⟨by show kc + 3 ≤ 601024; omega, by show ks + 18 ≤ 7293034; omega⟩ (ps_lt hw ps_q80.2.2.1) (ps_cel_20 ps_q80.1 _) rfl rfl (Nat.le_of_ble_eq_true rfl) dL_law_879 ?_
  refine ps_istore (lv' := [(6, .int b9), (5, .int k), (4, .int i), (3, .ref (w.2.1 102)), (2, .ref (w.2.1 80)), (1, .ref (w.2.1 0)), (0, .ref b)]) hG dL_law_882 (by decide) rfl ?_
  refine ps_aload_n hG dL_law_884 rfl 4 rfl ?_
  refine ps_callVI (As := []) (rest := []) (nA := 0) hG (c_X11_thrown _ hw ht1) gL_law_X11_thrown rfl (by decide +kernel) rfl ⟨(Nat.le_of_ble_eq_true rfl), (Nat.le_of_ble_eq_true rfl)⟩ ⟨rfl, rfl⟩ ⟨by show kc + 3 ≤ 601024; omega, by show ks + 18 ≤ 7293034; omega⟩ (ps_lt hw ps_q80.2.2.1) (ps_cel_20 ps_q80.1 _) rfl rfl (Nat.le_of_ble_eq_true rfl) dL_law_885 ?_
  refine ps_iload hG dL_law_888 1 rfl ?_
  refine ps_icmp_eq (tgt := 895) hG dL_law_890 (by decide) (fun c9 => ?_) (fun c9 => absurd rfl c9)
  refine ps_iload hG dL_law_895 1 rfl ?_
  refine ps_if_ne (tgt := 912) hG dL_law_897 (by decide) (fun c9 => ?_) (fun c9 => ?_)
  · skip
    refine ps_goto (tgt := 1586) hG dL_law_912 (by decide) ?_
    exact ps_sub [2, 3, 4, 5, 6] rfl (ps_widen (by omega) (by omega) hk)
  · have hv := he1 c9
    refine ps_aload_n hG dL_law_900 rfl 3 rfl ?_
    refine ps_iconst (v := 0) hG dL_law_901 (by decide) ?_
    refine ps_lald hG (ps_lt hw ps_q102.2.2.1) dL_law_902 ?_
    refine ps_iload hG dL_law_903 0 rfl ?_
    refine ps_i2l hG dL_law_905 rfl ?_
    refine ps_lcmp hG dL_law_906 ?_
    rw [hv, lg_cmp_self]
    refine ps_if_eq (tgt := 912) hG dL_law_907 (by decide) (fun c8 => ?_) (fun c8 => absurd rfl c8)
    refine ps_goto (tgt := 1586) hG dL_law_912 (by decide) ?_
    exact ps_sub [2, 3, 4, 5, 6] rfl (ps_widen (by omega) (by omega) hk)
set_option maxHeartbeats 4000000 in
set_option maxRecDepth 100000 in
theorem law_c11 {G : ps_G} {b L : Nat} {xs : Nat → Int32} (hC : law_ctx G b L xs) {w : ps_X} (hw : ps_ww w) {kc ks : Nat} (hr : kc + 16 ≤ 601024 ∧ ks + 64 ≤ 7293034) {S S9 : ps_S} {i : Int32} (hi1 : vp_in (i + 1) L) (hi2 : vp_in (i + 2) L) (hi3 : vp_in (i + 3) L) (hi4 : vp_in (i + 4) L) (hi5 : vp_in (i + 5) L) (hi6 : vp_in (i + 6) L) (h : f_cmp ps_nz (f_L_isProved S (xs (i + 1).toNatClampNeg) (xs (i + 2).toNatClampNeg) (xs (i + 3).toNatClampNeg) (xs (i + 4).toNatClampNeg) (xs (i + 5).toNatClampNeg) (xs (i + 6).toNatClampNeg)) (fun S => f_X11_isProved S (xs (i + 1).toNatClampNeg) (xs (i + 2).toNatClampNeg) (xs (i + 3).toNatClampNeg) (xs (i + 4).toNatClampNeg) (xs (i + 5).toNatClampNeg) (xs (i + 6).toNatClampNeg)) = some S9) (hk : ps_V G 7 (kc + 16) (ks + 64) w S9 1586 [(4, .int i), (3, .ref (w.2.1 102)), (2, .ref (w.2.1 80)), (1, .ref (w.2.1 0)), (0, .ref b)] []) : ps_V G 7 kc ks w S 915 [(4, .int i), (3, .ref (w.2.1 102)), (2, .ref (w.2.1 80)), (1, .ref (w.2.1 0)), (0, .ref b)] [] := by
  obtain ⟨hG, hXW, hX, hbl, hbA, hst⟩ := hC
  obtain ⟨k, S1, b9, hx1, hm1, ht1, he1⟩ := f_cmp_d h
  refine ps_aload_n hG dL_law_915 rfl 3 rfl ?_
  refine ps_aload_n hG dL_law_916 rfl 4 rfl ?_
  refine ps_iload hG dL_law_917 0 rfl ?_
  refine ps_iconst (v := 1) hG dL_law_919 (by decide) ?_
  refine ps_iadd hG dL_law_920 ?_
  refine ps_sld hG hX hbl hbA hi1 dL_law_921 ?_
  refine ps_aload_n hG dL_law_922 rfl 4 rfl ?_
  refine ps_iload hG dL_law_923 0 rfl ?_
  refine ps_iconst (v := 2) hG dL_law_925 (by decide) ?_
  refine ps_iadd hG dL_law_926 ?_
  refine ps_sld hG hX hbl hbA hi2 dL_law_927 ?_
  refine ps_aload_n hG dL_law_928 rfl 4 rfl ?_
  refine ps_iload hG dL_law_929 0 rfl ?_
  refine ps_iconst (v := 3) hG dL_law_931 (by decide) ?_
  refine ps_iadd hG dL_law_932 ?_
  refine ps_sld hG hX hbl hbA hi3 dL_law_933 ?_
  refine ps_aload_n hG dL_law_934 rfl 4 rfl ?_
  refine ps_iload hG dL_law_935 0 rfl ?_
  refine ps_iconst (v := 4) hG dL_law_937 (by decide) ?_
  refine ps_iadd hG dL_law_938 ?_
  refine ps_sld hG hX hbl hbA hi4 dL_law_939 ?_
  refine ps_aload_n hG dL_law_940 rfl 4 rfl ?_
  refine ps_iload hG dL_law_941 0 rfl ?_
  refine ps_iconst (v := 5) hG dL_law_943 (by decide) ?_
  refine ps_iadd hG dL_law_944 ?_
  refine ps_sld hG hX hbl hbA hi5 dL_law_945 ?_
  refine ps_aload_n hG dL_law_946 rfl 4 rfl ?_
  refine ps_iload hG dL_law_947 0 rfl ?_
  refine ps_bipush (v := 6) hG dL_law_949 (by decide) ?_
  refine ps_iadd hG dL_law_951 ?_
  refine ps_sld hG hX hbl hbA hi6 dL_law_952 ?_
  refine ps_aload_n hG dL_law_953 rfl 1 rfl ?_
  refine ps_lawcall (As := [.ref (w.2.1 0), .int (xs (i + 1).toNatClampNeg), .int (xs (i + 2).toNatClampNeg), .int (xs (i + 3).toNatClampNeg), .int (xs (i + 4).toNatClampNeg), .int (xs (i + 5).toNatClampNeg), .int (xs (i + 6).toNatClampNeg), .ref (w.2.1 102)]) (rest := []) (nA := 8) hG hXW (c_L_isProved _ hst hw hx1) gL_law_L_isProved rfl (by decide +kernel) rfl ⟨(Nat.le_of_ble_eq_true rfl), (Nat.le_of_ble_eq_true rfl)⟩ ⟨rfl, rfl⟩ ⟨by show kc + 3 ≤ 601024; omega, by show ks + 18 ≤ 7293034; omega⟩ rfl (Nat.le_of_ble_eq_true rfl) dL_law_954 ?_
  refine ps_istore (lv' := [(5, .int k), (4, .int i), (3, .ref (w.2.1 102)), (2, .ref (w.2.1 80)), (1, .ref (w.2.1 0)), (0, .ref b)]) hG dL_law_957 (by decide) rfl ?_
  refine ps_aload_n hG dL_law_959 rfl 3 rfl ?_
  refine ps_aload_n hG dL_law_960 rfl 5 rfl ?_
  refine ps_iload hG dL_law_961 1 rfl ?_
  refine ps_iconst (v := 1) hG dL_law_963 (by decide) ?_
  refine ps_iadd hG dL_law_964 ?_
  refine ps_sld hG hX hbl hbA hi1 dL_law_965 ?_
  refine ps_aload_n hG dL_law_966 rfl 5 rfl ?_
  refine ps_iload hG dL_law_967 1 rfl ?_
  refine ps_iconst (v := 2) hG dL_law_969 (by decide) ?_
  refine ps_iadd hG dL_law_970 ?_
  refine ps_sld hG hX hbl hbA hi2 dL_law_971 ?_
  refine ps_aload_n hG dL_law_972 rfl 5 rfl ?_
  refine ps_iload hG dL_law_973 1 rfl ?_
  refine ps_iconst (v := 3) hG dL_law_975 (by decide) ?_
  refine ps_iadd hG dL_law_976 ?_
  refine ps_sld hG hX hbl hbA hi3 dL_law_977 ?_
  refine ps_aload_n hG dL_law_978 rfl 5 rfl ?_
  refine ps_iload hG dL_law_979 1 rfl ?_
  refine ps_iconst (v := 4) hG dL_law_981 (by decide) ?_
  refine ps_iadd hG dL_law_982 ?_
  refine ps_sld hG hX hbl hbA hi4 dL_law_983 ?_
  refine ps_aload_n hG dL_law_984 rfl 5 rfl ?_
  refine ps_iload hG dL_law_985 1 rfl ?_
  refine ps_iconst (v := 5) hG dL_law_987 (by decide) ?_
  refine ps_iadd hG dL_law_988 ?_
  refine ps_sld hG hX hbl hbA hi5 dL_law_989 ?_
  refine ps_aload_n hG dL_law_990 rfl 5 rfl ?_
  refine ps_iload hG dL_law_991 1 rfl ?_
  refine ps_bipush (v := 6) hG dL_law_993 (by decide) ?_
  refine ps_iadd hG dL_law_995 ?_
  refine ps_sld hG hX hbl hbA hi6 dL_law_996 ?_
  refine ps_callVI (As := [.int (xs (i + 1).toNatClampNeg), .int (xs (i + 2).toNatClampNeg), .int (xs (i + 3).toNatClampNeg), .int (xs (i + 4).toNatClampNeg), .int (xs (i + 5).toNatClampNeg), .int (xs (i + 6).toNatClampNeg)]) (rest := []) (nA := 6) hG (c_X11_isProved _ hw hm1) gL_law_X11_isProved rfl (by decide +kernel) rfl ⟨(Nat.le_of_ble_eq_true rfl), (Nat.le_of_ble_eq_true rfl)⟩ ⟨rfl, rfl⟩ ⟨by show kc + 3 ≤ 601024; omega, by show ks + 18 ≤ 7293034; omega⟩ (ps_lt hw ps_q80.2.2.1) (ps_cel_20 ps_q80.1 _) rfl rfl (Nat.le_of_ble_eq_true rfl) dL_law_997 ?_
  refine ps_istore (lv' := [(6, .int b9), (5, .int k), (4, .int i), (3, .ref (w.2.1 102)), (2, .ref (w.2.1 80)), (1, .ref (w.2.1 0)), (0, .ref b)]) hG dL_law_1000 (by decide) rfl ?_
  refine ps_aload_n hG dL_law_1002 rfl 4 rfl ?_
  refine ps_callVI (As := []) (rest := []) (nA := 0) hG (c_X11_thrown _ hw ht1) gL_law_X11_thrown rfl (by decide +kernel) rfl ⟨(Nat.le_of_ble_eq_true rfl), (Nat.le_of_ble_eq_true rfl)⟩ ⟨rfl, rfl⟩ ⟨by show kc + 3 ≤ 601024; omega, by show ks + 18 ≤ 7293034; omega⟩ (ps_lt hw ps_q80.2.2.1) (ps_cel_20 ps_q80.1 _) rfl rfl (Nat.le_of_ble_eq_true rfl) dL_law_1003 ?_
  refine ps_iload hG dL_law_1006 1 rfl ?_
  refine ps_icmp_eq (tgt := 1013) hG dL_law_1008 (by decide) (fun c9 => ?_) (fun c9 => absurd rfl c9)
  refine ps_iload hG dL_law_1013 1 rfl ?_
  refine ps_if_ne (tgt := 1037) hG dL_law_1015 (by decide) (fun c9 => ?_) (fun c9 => ?_)
  · skip
    refine ps_goto (tgt := 1586) hG dL_law_1037 (by decide) ?_
    exact ps_sub [2, 3, 4, 5, 6] rfl (ps_widen (by omega) (by omega) hk)
  · have hv := he1 c9
    refine ps_aload_n hG dL_law_1018 rfl 3 rfl ?_
    refine ps_iconst (v := 0) hG dL_law_1019 (by decide) ?_
    refine ps_lald hG (ps_lt hw ps_q102.2.2.1) dL_law_1020 ?_
    refine ps_iload hG dL_law_1021 0 rfl ?_
    refine ps_nzJ hG (x := b9) (t1 := 1030) (t2 := 1031) dL_law_1023 (by decide) dL_law_1026 dL_law_1027 (by decide) dL_law_1030 (by decide) ?_
    refine ps_lcmp hG dL_law_1031 ?_
    rw [hv, lg_cmp_self]
    refine ps_if_eq (tgt := 1037) hG dL_law_1032 (by decide) (fun c8 => ?_) (fun c8 => absurd rfl c8)
    refine ps_goto (tgt := 1586) hG dL_law_1037 (by decide) ?_
    exact ps_sub [2, 3, 4, 5, 6] rfl (ps_widen (by omega) (by omega) hk)
set_option maxHeartbeats 4000000 in
set_option maxRecDepth 100000 in
theorem law_c12 {G : ps_G} {b L : Nat} {xs : Nat → Int32} (hC : law_ctx G b L xs) {w : ps_X} (hw : ps_ww w) {kc ks : Nat} (hr : kc + 16 ≤ 601024 ∧ ks + 64 ≤ 7293034) {S S9 : ps_S} {i : Int32} (hi1 : vp_in (i + 1) L) (hi2 : vp_in (i + 2) L) (h : f_cmp (fun r => r) (f_L_mend S (xs (i + 1).toNatClampNeg) (xs (i + 2).toNatClampNeg)) (fun S => f_X11_mend S (xs (i + 1).toNatClampNeg) (xs (i + 2).toNatClampNeg)) = some S9) (hk : ps_V G 7 (kc + 16) (ks + 64) w S9 1586 [(4, .int i), (3, .ref (w.2.1 102)), (2, .ref (w.2.1 80)), (1, .ref (w.2.1 0)), (0, .ref b)] []) : ps_V G 7 kc ks w S 1040 [(4, .int i), (3, .ref (w.2.1 102)), (2, .ref (w.2.1 80)), (1, .ref (w.2.1 0)), (0, .ref b)] [] := by
  obtain ⟨hG, hXW, hX, hbl, hbA, hst⟩ := hC
  obtain ⟨k, S1, b9, hx1, hm1, ht1, he1⟩ := f_cmp_d h
  refine ps_aload_n hG dL_law_1040 rfl 3 rfl ?_
  refine ps_aload_n hG dL_law_1041 rfl 4 rfl ?_
  refine ps_iload hG dL_law_1042 0 rfl ?_
  refine ps_iconst (v := 1) hG dL_law_1044 (by decide) ?_
  refine ps_iadd hG dL_law_1045 ?_
  refine ps_sld hG hX hbl hbA hi1 dL_law_1046 ?_
  refine ps_aload_n hG dL_law_1047 rfl 4 rfl ?_
  refine ps_iload hG dL_law_1048 0 rfl ?_
  refine ps_iconst (v := 2) hG dL_law_1050 (by decide) ?_
  refine ps_iadd hG dL_law_1051 ?_
  refine ps_sld hG hX hbl hbA hi2 dL_law_1052 ?_
  refine ps_aload_n hG dL_law_1053 rfl 1 rfl ?_
  refine ps_lawcall (As := [.ref (w.2.1 0), .int (xs (i + 1).toNatClampNeg), .int (xs (i + 2).toNatClampNeg), .ref (w.2.1 102)]) (rest := []) (nA := 4) hG hXW (c_L_mend _ hst hw hx1) gL_law_L_mend rfl (by decide +kernel) rfl ⟨(Nat.le_of_ble_eq_true rfl), (Nat.le_of_ble_eq_true rfl)⟩ ⟨rfl, rfl⟩ ⟨by show kc + 3 ≤ 601024; omega, by show ks + 18 ≤ 7293034; omega⟩ rfl (Nat.le_of_ble_eq_true rfl) dL_law_1054 ?_
  refine ps_istore (lv' := [(5, .int k), (4, .int i), (3, .ref (w.2.1 102)), (2, .ref (w.2.1 80)), (1, .ref (w.2.1 0)), (0, .ref b)]) hG dL_law_1057 (by decide) rfl ?_
  refine ps_aload_n hG dL_law_1059 rfl 3 rfl ?_
  refine ps_aload_n hG dL_law_1060 rfl 5 rfl ?_
  refine ps_iload hG dL_law_1061 1 rfl ?_
  refine ps_iconst (v := 1) hG dL_law_1063 (by decide) ?_
  refine ps_iadd hG dL_law_1064 ?_
  refine ps_sld hG hX hbl hbA hi1 dL_law_1065 ?_
  refine ps_aload_n hG dL_law_1066 rfl 5 rfl ?_
  refine ps_iload hG dL_law_1067 1 rfl ?_
  refine ps_iconst (v := 2) hG dL_law_1069 (by decide) ?_
  refine ps_iadd hG dL_law_1070 ?_
  refine ps_sld hG hX hbl hbA hi2 dL_law_1071 ?_
  refine ps_callVI (As := [.int (xs (i + 1).toNatClampNeg), .int (xs (i + 2).toNatClampNeg)]) (rest := []) (nA := 2) hG (c_X11_mend _ hw hm1) gL_law_X11_mend rfl (by decide +kernel) rfl ⟨(Nat.le_of_ble_eq_true rfl), (Nat.le_of_ble_eq_true rfl)⟩ ⟨rfl, rfl⟩ ⟨by show kc + 3 ≤ 601024; omega, by show ks + 18 ≤ 7293034; omega⟩ (ps_lt hw ps_q80.2.2.1) (ps_cel_20 ps_q80.1 _) rfl rfl (Nat.le_of_ble_eq_true rfl) dL_law_1072 ?_
  refine ps_istore (lv' := [(6, .int b9), (5, .int k), (4, .int i), (3, .ref (w.2.1 102)), (2, .ref (w.2.1 80)), (1, .ref (w.2.1 0)), (0, .ref b)]) hG dL_law_1075 (by decide) rfl ?_
  refine ps_aload_n hG dL_law_1077 rfl 4 rfl ?_
  refine ps_callVI (As := []) (rest := []) (nA := 0) hG (c_X11_thrown _ hw ht1) gL_law_X11_thrown rfl (by decide +kernel) rfl ⟨(Nat.le_of_ble_eq_true rfl), (Nat.le_of_ble_eq_true rfl)⟩ ⟨rfl, rfl⟩ ⟨by show kc + 3 ≤ 601024; omega, by show ks + 18 ≤ 7293034; omega⟩ (ps_lt hw ps_q80.2.2.1) (ps_cel_20 ps_q80.1 _) rfl rfl (Nat.le_of_ble_eq_true rfl) dL_law_1078 ?_
  refine ps_iload hG dL_law_1081 1 rfl ?_
  refine ps_icmp_eq (tgt := 1088) hG dL_law_1083 (by decide) (fun c9 => ?_) (fun c9 => absurd rfl c9)
  refine ps_iload hG dL_law_1088 1 rfl ?_
  refine ps_if_ne (tgt := 1105) hG dL_law_1090 (by decide) (fun c9 => ?_) (fun c9 => ?_)
  · skip
    refine ps_goto (tgt := 1586) hG dL_law_1105 (by decide) ?_
    exact ps_sub [2, 3, 4, 5, 6] rfl (ps_widen (by omega) (by omega) hk)
  · have hv := he1 c9
    refine ps_aload_n hG dL_law_1093 rfl 3 rfl ?_
    refine ps_iconst (v := 0) hG dL_law_1094 (by decide) ?_
    refine ps_lald hG (ps_lt hw ps_q102.2.2.1) dL_law_1095 ?_
    refine ps_iload hG dL_law_1096 0 rfl ?_
    refine ps_i2l hG dL_law_1098 rfl ?_
    refine ps_lcmp hG dL_law_1099 ?_
    rw [hv, lg_cmp_self]
    refine ps_if_eq (tgt := 1105) hG dL_law_1100 (by decide) (fun c8 => ?_) (fun c8 => absurd rfl c8)
    refine ps_goto (tgt := 1586) hG dL_law_1105 (by decide) ?_
    exact ps_sub [2, 3, 4, 5, 6] rfl (ps_widen (by omega) (by omega) hk)
set_option maxHeartbeats 4000000 in
set_option maxRecDepth 100000 in
theorem law_c13 {G : ps_G} {b L : Nat} {xs : Nat → Int32} (hC : law_ctx G b L xs) {w : ps_X} (hw : ps_ww w) {kc ks : Nat} (hr : kc + 16 ≤ 601024 ∧ ks + 64 ≤ 7293034) {S S9 : ps_S} {i : Int32} (hi1 : vp_in (i + 1) L) (hi2 : vp_in (i + 2) L) (h : f_cmp (fun r => r) (f_L_fetch S (xs (i + 1).toNatClampNeg) (xs (i + 2).toNatClampNeg)) (fun S => f_X11_fetch S (xs (i + 1).toNatClampNeg) (xs (i + 2).toNatClampNeg)) = some S9) (hk : ps_V G 7 (kc + 16) (ks + 64) w S9 1586 [(4, .int i), (3, .ref (w.2.1 102)), (2, .ref (w.2.1 80)), (1, .ref (w.2.1 0)), (0, .ref b)] []) : ps_V G 7 kc ks w S 1108 [(4, .int i), (3, .ref (w.2.1 102)), (2, .ref (w.2.1 80)), (1, .ref (w.2.1 0)), (0, .ref b)] [] := by
  obtain ⟨hG, hXW, hX, hbl, hbA, hst⟩ := hC
  obtain ⟨k, S1, b9, hx1, hm1, ht1, he1⟩ := f_cmp_d h
  refine ps_aload_n hG dL_law_1108 rfl 3 rfl ?_
  refine ps_aload_n hG dL_law_1109 rfl 4 rfl ?_
  refine ps_iload hG dL_law_1110 0 rfl ?_
  refine ps_iconst (v := 1) hG dL_law_1112 (by decide) ?_
  refine ps_iadd hG dL_law_1113 ?_
  refine ps_sld hG hX hbl hbA hi1 dL_law_1114 ?_
  refine ps_aload_n hG dL_law_1115 rfl 4 rfl ?_
  refine ps_iload hG dL_law_1116 0 rfl ?_
  refine ps_iconst (v := 2) hG dL_law_1118 (by decide) ?_
  refine ps_iadd hG dL_law_1119 ?_
  refine ps_sld hG hX hbl hbA hi2 dL_law_1120 ?_
  refine ps_aload_n hG dL_law_1121 rfl 1 rfl ?_
  refine ps_lawcall (As := [.ref (w.2.1 0), .int (xs (i + 1).toNatClampNeg), .int (xs (i + 2).toNatClampNeg), .ref (w.2.1 102)]) (rest := []) (nA := 4) hG hXW (c_L_fetch _ hst hw hx1) gL_law_L_fetch rfl (by decide +kernel) rfl ⟨(Nat.le_of_ble_eq_true rfl), (Nat.le_of_ble_eq_true rfl)⟩ ⟨rfl, rfl⟩ ⟨by show kc + 3 ≤ 601024; omega, by show ks + 18 ≤ 7293034; omega⟩ rfl (Nat.le_of_ble_eq_true rfl) dL_law_1122 ?_
  refine ps_istore (lv' := [(5, .int k), (4, .int i), (3, .ref (w.2.1 102)), (2, .ref (w.2.1 80)), (1, .ref (w.2.1 0)), (0, .ref b)]) hG dL_law_1125 (by decide) rfl ?_
  refine ps_aload_n hG dL_law_1127 rfl 3 rfl ?_
  refine ps_aload_n hG dL_law_1128 rfl 5 rfl ?_
  refine ps_iload hG dL_law_1129 1 rfl ?_
  refine ps_iconst (v := 1) hG dL_law_1131 (by decide) ?_
  refine ps_iadd hG dL_law_1132 ?_
  refine ps_sld hG hX hbl hbA hi1 dL_law_1133 ?_
  refine ps_aload_n hG dL_law_1134 rfl 5 rfl ?_
  refine ps_iload hG dL_law_1135 1 rfl ?_
  refine ps_iconst (v := 2) hG dL_law_1137 (by decide) ?_
  refine ps_iadd hG dL_law_1138 ?_
  refine ps_sld hG hX hbl hbA hi2 dL_law_1139 ?_
  refine ps_callVI (As := [.int (xs (i + 1).toNatClampNeg), .int (xs (i + 2).toNatClampNeg)]) (rest := []) (nA := 2) hG (c_X11_fetch _ hw hm1) gL_law_X11_fetch rfl (by decide +kernel) rfl ⟨(Nat.le_of_ble_eq_true rfl), (Nat.le_of_ble_eq_true rfl)⟩ ⟨rfl, rfl⟩ ⟨by show kc + 3 ≤ 601024; omega, by show ks + 18 ≤ 7293034; omega⟩ (ps_lt hw ps_q80.2.2.1) (ps_cel_20 ps_q80.1 _) rfl rfl (Nat.le_of_ble_eq_true rfl) dL_law_1140 ?_
  refine ps_istore (lv' := [(6, .int b9), (5, .int k), (4, .int i), (3, .ref (w.2.1 102)), (2, .ref (w.2.1 80)), (1, .ref (w.2.1 0)), (0, .ref b)]) hG dL_law_1143 (by decide) rfl ?_
  refine ps_aload_n hG dL_law_1145 rfl 4 rfl ?_
  refine ps_callVI (As := []) (rest := []) (nA := 0) hG (c_X11_thrown _ hw ht1) gL_law_X11_thrown rfl (by decide +kernel) rfl ⟨(Nat.le_of_ble_eq_true rfl), (Nat.le_of_ble_eq_true rfl)⟩ ⟨rfl, rfl⟩ ⟨by show kc + 3 ≤ 601024; omega, by show ks + 18 ≤ 7293034; omega⟩ (ps_lt hw ps_q80.2.2.1) (ps_cel_20 ps_q80.1 _) rfl rfl (Nat.le_of_ble_eq_true rfl) dL_law_1146 ?_
  refine ps_iload hG dL_law_1149 1 rfl ?_
  refine ps_icmp_eq (tgt := 1156) hG dL_law_1151 (by decide) (fun c9 => ?_) (fun c9 => absurd rfl c9)
  refine ps_iload hG dL_law_1156 1 rfl ?_
  refine ps_if_ne (tgt := 1173) hG dL_law_1158 (by decide) (fun c9 => ?_) (fun c9 => ?_)
  · skip
    refine ps_goto (tgt := 1586) hG dL_law_1173 (by decide) ?_
    exact ps_sub [2, 3, 4, 5, 6] rfl (ps_widen (by omega) (by omega) hk)
  · have hv := he1 c9
    refine ps_aload_n hG dL_law_1161 rfl 3 rfl ?_
    refine ps_iconst (v := 0) hG dL_law_1162 (by decide) ?_
    refine ps_lald hG (ps_lt hw ps_q102.2.2.1) dL_law_1163 ?_
    refine ps_iload hG dL_law_1164 0 rfl ?_
    refine ps_i2l hG dL_law_1166 rfl ?_
    refine ps_lcmp hG dL_law_1167 ?_
    rw [hv, lg_cmp_self]
    refine ps_if_eq (tgt := 1173) hG dL_law_1168 (by decide) (fun c8 => ?_) (fun c8 => absurd rfl c8)
    refine ps_goto (tgt := 1586) hG dL_law_1173 (by decide) ?_
    exact ps_sub [2, 3, 4, 5, 6] rfl (ps_widen (by omega) (by omega) hk)
set_option maxHeartbeats 4000000 in
set_option maxRecDepth 100000 in
theorem law_c14 {G : ps_G} {b L : Nat} {xs : Nat → Int32} (hC : law_ctx G b L xs) {w : ps_X} (hw : ps_ww w) {kc ks : Nat} (hr : kc + 16 ≤ 601024 ∧ ks + 64 ≤ 7293034) {S S9 : ps_S} {i : Int32}  (h : f_cmp (fun r => r) (f_L_pass S ) (fun S => f_X11_pass S ) = some S9) (hk : ps_V G 7 (kc + 16) (ks + 64) w S9 1586 [(4, .int i), (3, .ref (w.2.1 102)), (2, .ref (w.2.1 80)), (1, .ref (w.2.1 0)), (0, .ref b)] []) : ps_V G 7 kc ks w S 1176 [(4, .int i), (3, .ref (w.2.1 102)), (2, .ref (w.2.1 80)), (1, .ref (w.2.1 0)), (0, .ref b)] [] := by
  obtain ⟨hG, hXW, hX, hbl, hbA, hst⟩ := hC
  obtain ⟨k, S1, b9, hx1, hm1, ht1, he1⟩ := f_cmp_d h
  refine ps_aload_n hG dL_law_1176 rfl 3 rfl ?_
  refine ps_aload_n hG dL_law_1177 rfl 1 rfl ?_
  refine ps_lawcall (As := [.ref (w.2.1 0), .ref (w.2.1 102)]) (rest := []) (nA := 2) hG hXW (c_L_pass _ hst hw hx1) gL_law_L_pass rfl (by decide +kernel) rfl ⟨(Nat.le_of_ble_eq_true rfl), (Nat.le_of_ble_eq_true rfl)⟩ ⟨rfl, rfl⟩ ⟨by show kc + 1 ≤ 601024; omega, by show ks + 6 ≤ 7293034; omega⟩ rfl (Nat.le_of_ble_eq_true rfl) dL_law_1178 ?_
  refine ps_istore (lv' := [(5, .int k), (4, .int i), (3, .ref (w.2.1 102)), (2, .ref (w.2.1 80)), (1, .ref (w.2.1 0)), (0, .ref b)]) hG dL_law_1181 (by decide) rfl ?_
  refine ps_aload_n hG dL_law_1183 rfl 3 rfl ?_
  refine ps_callVI (As := []) (rest := []) (nA := 0) hG (c_X11_pass _ hw hm1) gL_law_X11_pass rfl (by decide +kernel) rfl ⟨(Nat.le_of_ble_eq_true rfl), (Nat.le_of_ble_eq_true rfl)⟩ ⟨rfl, rfl⟩ ⟨by show kc + 1 ≤ 601024; omega, by show ks + 6 ≤ 7293034; omega⟩ (ps_lt hw ps_q80.2.2.1) (ps_cel_20 ps_q80.1 _) rfl rfl (Nat.le_of_ble_eq_true rfl) dL_law_1184 ?_
  refine ps_istore (lv' := [(6, .int b9), (5, .int k), (4, .int i), (3, .ref (w.2.1 102)), (2, .ref (w.2.1 80)), (1, .ref (w.2.1 0)), (0, .ref b)]) hG dL_law_1187 (by decide) rfl ?_
  refine ps_aload_n hG dL_law_1189 rfl 4 rfl ?_
  refine ps_callVI (As := []) (rest := []) (nA := 0) hG (c_X11_thrown _ hw ht1) gL_law_X11_thrown rfl (by decide +kernel) rfl ⟨(Nat.le_of_ble_eq_true rfl), (Nat.le_of_ble_eq_true rfl)⟩ ⟨rfl, rfl⟩ ⟨by show kc + 1 ≤ 601024; omega, by show ks + 6 ≤ 7293034; omega⟩ (ps_lt hw ps_q80.2.2.1) (ps_cel_20 ps_q80.1 _) rfl rfl (Nat.le_of_ble_eq_true rfl) dL_law_1190 ?_
  refine ps_iload hG dL_law_1193 1 rfl ?_
  refine ps_icmp_eq (tgt := 1200) hG dL_law_1195 (by decide) (fun c9 => ?_) (fun c9 => absurd rfl c9)
  refine ps_iload hG dL_law_1200 1 rfl ?_
  refine ps_if_ne (tgt := 1217) hG dL_law_1202 (by decide) (fun c9 => ?_) (fun c9 => ?_)
  · skip
    refine ps_goto (tgt := 1586) hG dL_law_1217 (by decide) ?_
    exact ps_sub [2, 3, 4, 5, 6] rfl (ps_widen (by omega) (by omega) hk)
  · have hv := he1 c9
    refine ps_aload_n hG dL_law_1205 rfl 3 rfl ?_
    refine ps_iconst (v := 0) hG dL_law_1206 (by decide) ?_
    refine ps_lald hG (ps_lt hw ps_q102.2.2.1) dL_law_1207 ?_
    refine ps_iload hG dL_law_1208 0 rfl ?_
    refine ps_i2l hG dL_law_1210 rfl ?_
    refine ps_lcmp hG dL_law_1211 ?_
    rw [hv, lg_cmp_self]
    refine ps_if_eq (tgt := 1217) hG dL_law_1212 (by decide) (fun c8 => ?_) (fun c8 => absurd rfl c8)
    refine ps_goto (tgt := 1586) hG dL_law_1217 (by decide) ?_
    exact ps_sub [2, 3, 4, 5, 6] rfl (ps_widen (by omega) (by omega) hk)
set_option maxHeartbeats 4000000 in
set_option maxRecDepth 100000 in
theorem law_c15 {G : ps_G} {b L : Nat} {xs : Nat → Int32} (hC : law_ctx G b L xs) {w : ps_X} (hw : ps_ww w) {kc ks : Nat} (hr : kc + 16 ≤ 601024 ∧ ks + 64 ≤ 7293034) {S S9 : ps_S} {i : Int32} (hi1 : vp_in (i + 1) L) (hi2 : vp_in (i + 2) L) (hi3 : vp_in (i + 3) L) (hi4 : vp_in (i + 4) L) (h : f_cmp (fun r => r) (f_L_tell S (xs (i + 1).toNatClampNeg) (xs (i + 2).toNatClampNeg) (xs (i + 3).toNatClampNeg) (xs (i + 4).toNatClampNeg)) (fun S => f_X11_tell S (xs (i + 1).toNatClampNeg) (xs (i + 2).toNatClampNeg) (xs (i + 3).toNatClampNeg) (xs (i + 4).toNatClampNeg)) = some S9) (hk : ps_V G 7 (kc + 16) (ks + 64) w S9 1586 [(4, .int i), (3, .ref (w.2.1 102)), (2, .ref (w.2.1 80)), (1, .ref (w.2.1 0)), (0, .ref b)] []) : ps_V G 7 kc ks w S 1220 [(4, .int i), (3, .ref (w.2.1 102)), (2, .ref (w.2.1 80)), (1, .ref (w.2.1 0)), (0, .ref b)] [] := by
  obtain ⟨hG, hXW, hX, hbl, hbA, hst⟩ := hC
  obtain ⟨k, S1, b9, hx1, hm1, ht1, he1⟩ := f_cmp_d h
  refine ps_aload_n hG dL_law_1220 rfl 3 rfl ?_
  refine ps_aload_n hG dL_law_1221 rfl 4 rfl ?_
  refine ps_iload hG dL_law_1222 0 rfl ?_
  refine ps_iconst (v := 1) hG dL_law_1224 (by decide) ?_
  refine ps_iadd hG dL_law_1225 ?_
  refine ps_sld hG hX hbl hbA hi1 dL_law_1226 ?_
  refine ps_aload_n hG dL_law_1227 rfl 4 rfl ?_
  refine ps_iload hG dL_law_1228 0 rfl ?_
  refine ps_iconst (v := 2) hG dL_law_1230 (by decide) ?_
  refine ps_iadd hG dL_law_1231 ?_
  refine ps_sld hG hX hbl hbA hi2 dL_law_1232 ?_
  refine ps_aload_n hG dL_law_1233 rfl 4 rfl ?_
  refine ps_iload hG dL_law_1234 0 rfl ?_
  refine ps_iconst (v := 3) hG dL_law_1236 (by decide) ?_
  refine ps_iadd hG dL_law_1237 ?_
  refine ps_sld hG hX hbl hbA hi3 dL_law_1238 ?_
  refine ps_aload_n hG dL_law_1239 rfl 4 rfl ?_
  refine ps_iload hG dL_law_1240 0 rfl ?_
  refine ps_iconst (v := 4) hG dL_law_1242 (by decide) ?_
  refine ps_iadd hG dL_law_1243 ?_
  refine ps_sld hG hX hbl hbA hi4 dL_law_1244 ?_
  refine ps_aload_n hG dL_law_1245 rfl 1 rfl ?_
  refine ps_lawcall (As := [.ref (w.2.1 0), .int (xs (i + 1).toNatClampNeg), .int (xs (i + 2).toNatClampNeg), .int (xs (i + 3).toNatClampNeg), .int (xs (i + 4).toNatClampNeg), .ref (w.2.1 102)]) (rest := []) (nA := 6) hG hXW (c_L_tell _ hst hw hx1) gL_law_L_tell rfl (by decide +kernel) rfl ⟨(Nat.le_of_ble_eq_true rfl), (Nat.le_of_ble_eq_true rfl)⟩ ⟨rfl, rfl⟩ ⟨by show kc + 6 ≤ 601024; omega, by show ks + 36 ≤ 7293034; omega⟩ rfl (Nat.le_of_ble_eq_true rfl) dL_law_1246 ?_
  refine ps_istore (lv' := [(5, .int k), (4, .int i), (3, .ref (w.2.1 102)), (2, .ref (w.2.1 80)), (1, .ref (w.2.1 0)), (0, .ref b)]) hG dL_law_1249 (by decide) rfl ?_
  refine ps_aload_n hG dL_law_1251 rfl 3 rfl ?_
  refine ps_aload_n hG dL_law_1252 rfl 5 rfl ?_
  refine ps_iload hG dL_law_1253 1 rfl ?_
  refine ps_iconst (v := 1) hG dL_law_1255 (by decide) ?_
  refine ps_iadd hG dL_law_1256 ?_
  refine ps_sld hG hX hbl hbA hi1 dL_law_1257 ?_
  refine ps_aload_n hG dL_law_1258 rfl 5 rfl ?_
  refine ps_iload hG dL_law_1259 1 rfl ?_
  refine ps_iconst (v := 2) hG dL_law_1261 (by decide) ?_
  refine ps_iadd hG dL_law_1262 ?_
  refine ps_sld hG hX hbl hbA hi2 dL_law_1263 ?_
  refine ps_aload_n hG dL_law_1264 rfl 5 rfl ?_
  refine ps_iload hG dL_law_1265 1 rfl ?_
  refine ps_iconst (v := 3) hG dL_law_1267 (by decide) ?_
  refine ps_iadd hG dL_law_1268 ?_
  refine ps_sld hG hX hbl hbA hi3 dL_law_1269 ?_
  refine ps_aload_n hG dL_law_1270 rfl 5 rfl ?_
  refine ps_iload hG dL_law_1271 1 rfl ?_
  refine ps_iconst (v := 4) hG dL_law_1273 (by decide) ?_
  refine ps_iadd hG dL_law_1274 ?_
  refine ps_sld hG hX hbl hbA hi4 dL_law_1275 ?_
  refine ps_callVI (As := [.int (xs (i + 1).toNatClampNeg), .int (xs (i + 2).toNatClampNeg), .int (xs (i + 3).toNatClampNeg), .int (xs (i + 4).toNatClampNeg)]) (rest := []) (nA := 4) hG (c_X11_tell _ hw hm1) gL_law_X11_tell rfl (by decide +kernel) rfl ⟨(Nat.le_of_ble_eq_true rfl), (Nat.le_of_ble_eq_true rfl)⟩ ⟨rfl, rfl⟩ ⟨by show kc + 6 ≤ 601024; omega, by show ks + 36 ≤ 7293034; omega⟩ (ps_lt hw ps_q80.2.2.1) (ps_cel_20 ps_q80.1 _) rfl rfl (Nat.le_of_ble_eq_true rfl) dL_law_1276 ?_
  refine ps_istore (lv' := [(6, .int b9), (5, .int k), (4, .int i), (3, .ref (w.2.1 102)), (2, .ref (w.2.1 80)), (1, .ref (w.2.1 0)), (0, .ref b)]) hG dL_law_1279 (by decide) rfl ?_
  refine ps_aload_n hG dL_law_1281 rfl 4 rfl ?_
  refine ps_callVI (As := []) (rest := []) (nA := 0) hG (c_X11_thrown _ hw ht1) gL_law_X11_thrown rfl (by decide +kernel) rfl ⟨(Nat.le_of_ble_eq_true rfl), (Nat.le_of_ble_eq_true rfl)⟩ ⟨rfl, rfl⟩ ⟨by show kc + 6 ≤ 601024; omega, by show ks + 36 ≤ 7293034; omega⟩ (ps_lt hw ps_q80.2.2.1) (ps_cel_20 ps_q80.1 _) rfl rfl (Nat.le_of_ble_eq_true rfl) dL_law_1282 ?_
  refine ps_iload hG dL_law_1285 1 rfl ?_
  refine ps_icmp_eq (tgt := 1292) hG dL_law_1287 (by decide) (fun c9 => ?_) (fun c9 => absurd rfl c9)
  refine ps_iload hG dL_law_1292 1 rfl ?_
  refine ps_if_ne (tgt := 1309) hG dL_law_1294 (by decide) (fun c9 => ?_) (fun c9 => ?_)
  · skip
    refine ps_goto (tgt := 1586) hG dL_law_1309 (by decide) ?_
    exact ps_sub [2, 3, 4, 5, 6] rfl (ps_widen (by omega) (by omega) hk)
  · have hv := he1 c9
    refine ps_aload_n hG dL_law_1297 rfl 3 rfl ?_
    refine ps_iconst (v := 0) hG dL_law_1298 (by decide) ?_
    refine ps_lald hG (ps_lt hw ps_q102.2.2.1) dL_law_1299 ?_
    refine ps_iload hG dL_law_1300 0 rfl ?_
    refine ps_i2l hG dL_law_1302 rfl ?_
    refine ps_lcmp hG dL_law_1303 ?_
    rw [hv, lg_cmp_self]
    refine ps_if_eq (tgt := 1309) hG dL_law_1304 (by decide) (fun c8 => ?_) (fun c8 => absurd rfl c8)
    refine ps_goto (tgt := 1586) hG dL_law_1309 (by decide) ?_
    exact ps_sub [2, 3, 4, 5, 6] rfl (ps_widen (by omega) (by omega) hk)
set_option maxHeartbeats 4000000 in
set_option maxRecDepth 100000 in
theorem law_c16 {G : ps_G} {b L : Nat} {xs : Nat → Int32} (hC : law_ctx G b L xs) {w : ps_X} (hw : ps_ww w) {kc ks : Nat} (hr : kc + 16 ≤ 601024 ∧ ks + 64 ≤ 7293034) {S S9 : ps_S} {i : Int32} (hi1 : vp_in (i + 1) L) (hi2 : vp_in (i + 2) L) (h : f_cmp (fun r => r) (f_L_name S (xs (i + 1).toNatClampNeg) (xs (i + 2).toNatClampNeg)) (fun S => f_X11_name S (xs (i + 1).toNatClampNeg) (xs (i + 2).toNatClampNeg)) = some S9) (hk : ps_V G 7 (kc + 16) (ks + 64) w S9 1586 [(4, .int i), (3, .ref (w.2.1 102)), (2, .ref (w.2.1 80)), (1, .ref (w.2.1 0)), (0, .ref b)] []) : ps_V G 7 kc ks w S 1312 [(4, .int i), (3, .ref (w.2.1 102)), (2, .ref (w.2.1 80)), (1, .ref (w.2.1 0)), (0, .ref b)] [] := by
  obtain ⟨hG, hXW, hX, hbl, hbA, hst⟩ := hC
  obtain ⟨k, S1, b9, hx1, hm1, ht1, he1⟩ := f_cmp_d h
  refine ps_aload_n hG dL_law_1312 rfl 3 rfl ?_
  refine ps_aload_n hG dL_law_1313 rfl 4 rfl ?_
  refine ps_iload hG dL_law_1314 0 rfl ?_
  refine ps_iconst (v := 1) hG dL_law_1316 (by decide) ?_
  refine ps_iadd hG dL_law_1317 ?_
  refine ps_sld hG hX hbl hbA hi1 dL_law_1318 ?_
  refine ps_aload_n hG dL_law_1319 rfl 4 rfl ?_
  refine ps_iload hG dL_law_1320 0 rfl ?_
  refine ps_iconst (v := 2) hG dL_law_1322 (by decide) ?_
  refine ps_iadd hG dL_law_1323 ?_
  refine ps_sld hG hX hbl hbA hi2 dL_law_1324 ?_
  refine ps_aload_n hG dL_law_1325 rfl 1 rfl ?_
  refine ps_lawcall (As := [.ref (w.2.1 0), .int (xs (i + 1).toNatClampNeg), .int (xs (i + 2).toNatClampNeg), .ref (w.2.1 102)]) (rest := []) (nA := 4) hG hXW (c_L_name _ hst hw hx1) gL_law_L_name rfl (by decide +kernel) rfl ⟨(Nat.le_of_ble_eq_true rfl), (Nat.le_of_ble_eq_true rfl)⟩ ⟨rfl, rfl⟩ ⟨by show kc + 3 ≤ 601024; omega, by show ks + 18 ≤ 7293034; omega⟩ rfl (Nat.le_of_ble_eq_true rfl) dL_law_1326 ?_
  refine ps_istore (lv' := [(5, .int k), (4, .int i), (3, .ref (w.2.1 102)), (2, .ref (w.2.1 80)), (1, .ref (w.2.1 0)), (0, .ref b)]) hG dL_law_1329 (by decide) rfl ?_
  refine ps_aload_n hG dL_law_1331 rfl 3 rfl ?_
  refine ps_aload_n hG dL_law_1332 rfl 5 rfl ?_
  refine ps_iload hG dL_law_1333 1 rfl ?_
  refine ps_iconst (v := 1) hG dL_law_1335 (by decide) ?_
  refine ps_iadd hG dL_law_1336 ?_
  refine ps_sld hG hX hbl hbA hi1 dL_law_1337 ?_
  refine ps_aload_n hG dL_law_1338 rfl 5 rfl ?_
  refine ps_iload hG dL_law_1339 1 rfl ?_
  refine ps_iconst (v := 2) hG dL_law_1341 (by decide) ?_
  refine ps_iadd hG dL_law_1342 ?_
  refine ps_sld hG hX hbl hbA hi2 dL_law_1343 ?_
  refine ps_callVI (As := [.int (xs (i + 1).toNatClampNeg), .int (xs (i + 2).toNatClampNeg)]) (rest := []) (nA := 2) hG (c_X11_name _ hw hm1) gL_law_X11_name rfl (by decide +kernel) rfl ⟨(Nat.le_of_ble_eq_true rfl), (Nat.le_of_ble_eq_true rfl)⟩ ⟨rfl, rfl⟩ ⟨by show kc + 3 ≤ 601024; omega, by show ks + 18 ≤ 7293034; omega⟩ (ps_lt hw ps_q80.2.2.1) (ps_cel_20 ps_q80.1 _) rfl rfl (Nat.le_of_ble_eq_true rfl) dL_law_1344 ?_
  refine ps_istore (lv' := [(6, .int b9), (5, .int k), (4, .int i), (3, .ref (w.2.1 102)), (2, .ref (w.2.1 80)), (1, .ref (w.2.1 0)), (0, .ref b)]) hG dL_law_1347 (by decide) rfl ?_
  refine ps_aload_n hG dL_law_1349 rfl 4 rfl ?_
  refine ps_callVI (As := []) (rest := []) (nA := 0) hG (c_X11_thrown _ hw ht1) gL_law_X11_thrown rfl (by decide +kernel) rfl ⟨(Nat.le_of_ble_eq_true rfl), (Nat.le_of_ble_eq_true rfl)⟩ ⟨rfl, rfl⟩ ⟨by show kc + 3 ≤ 601024; omega, by show ks + 18 ≤ 7293034; omega⟩ (ps_lt hw ps_q80.2.2.1) (ps_cel_20 ps_q80.1 _) rfl rfl (Nat.le_of_ble_eq_true rfl) dL_law_1350 ?_
  refine ps_iload hG dL_law_1353 1 rfl ?_
  refine ps_icmp_eq (tgt := 1360) hG dL_law_1355 (by decide) (fun c9 => ?_) (fun c9 => absurd rfl c9)
  refine ps_iload hG dL_law_1360 1 rfl ?_
  refine ps_if_ne (tgt := 1377) hG dL_law_1362 (by decide) (fun c9 => ?_) (fun c9 => ?_)
  · skip
    refine ps_goto (tgt := 1586) hG dL_law_1377 (by decide) ?_
    exact ps_sub [2, 3, 4, 5, 6] rfl (ps_widen (by omega) (by omega) hk)
  · have hv := he1 c9
    refine ps_aload_n hG dL_law_1365 rfl 3 rfl ?_
    refine ps_iconst (v := 0) hG dL_law_1366 (by decide) ?_
    refine ps_lald hG (ps_lt hw ps_q102.2.2.1) dL_law_1367 ?_
    refine ps_iload hG dL_law_1368 0 rfl ?_
    refine ps_i2l hG dL_law_1370 rfl ?_
    refine ps_lcmp hG dL_law_1371 ?_
    rw [hv, lg_cmp_self]
    refine ps_if_eq (tgt := 1377) hG dL_law_1372 (by decide) (fun c8 => ?_) (fun c8 => absurd rfl c8)
    refine ps_goto (tgt := 1586) hG dL_law_1377 (by decide) ?_
    exact ps_sub [2, 3, 4, 5, 6] rfl (ps_widen (by omega) (by omega) hk)
set_option maxHeartbeats 4000000 in
set_option maxRecDepth 100000 in
theorem law_c17 {G : ps_G} {b L : Nat} {xs : Nat → Int32} (hC : law_ctx G b L xs) {w : ps_X} (hw : ps_ww w) {kc ks : Nat} (hr : kc + 16 ≤ 601024 ∧ ks + 64 ≤ 7293034) {S S9 : ps_S} {i : Int32} (hi1 : vp_in (i + 1) L) (h : f_cmp (fun r => r) (f_L_spread S (xs (i + 1).toNatClampNeg)) (fun S => f_X11_spread S (xs (i + 1).toNatClampNeg)) = some S9) (hk : ps_V G 7 (kc + 16) (ks + 64) w S9 1586 [(4, .int i), (3, .ref (w.2.1 102)), (2, .ref (w.2.1 80)), (1, .ref (w.2.1 0)), (0, .ref b)] []) : ps_V G 7 kc ks w S 1380 [(4, .int i), (3, .ref (w.2.1 102)), (2, .ref (w.2.1 80)), (1, .ref (w.2.1 0)), (0, .ref b)] [] := by
  obtain ⟨hG, hXW, hX, hbl, hbA, hst⟩ := hC
  obtain ⟨k, S1, b9, hx1, hm1, ht1, he1⟩ := f_cmp_d h
  refine ps_aload_n hG dL_law_1380 rfl 3 rfl ?_
  refine ps_aload_n hG dL_law_1381 rfl 4 rfl ?_
  refine ps_iload hG dL_law_1382 0 rfl ?_
  refine ps_iconst (v := 1) hG dL_law_1384 (by decide) ?_
  refine ps_iadd hG dL_law_1385 ?_
  refine ps_sld hG hX hbl hbA hi1 dL_law_1386 ?_
  refine ps_aload_n hG dL_law_1387 rfl 1 rfl ?_
  refine ps_lawcall (As := [.ref (w.2.1 0), .int (xs (i + 1).toNatClampNeg), .ref (w.2.1 102)]) (rest := []) (nA := 3) hG hXW (c_L_spread _ hst hw hx1) gL_law_L_spread rfl (by decide +kernel) rfl ⟨(Nat.le_of_ble_eq_true rfl), (Nat.le_of_ble_eq_true rfl)⟩ ⟨rfl, rfl⟩ ⟨by show kc + 2 ≤ 601024; omega, by show ks + 12 ≤ 7293034; omega⟩ rfl (Nat.le_of_ble_eq_true rfl) dL_law_1388 ?_
  refine ps_istore (lv' := [(5, .int k), (4, .int i), (3, .ref (w.2.1 102)), (2, .ref (w.2.1 80)), (1, .ref (w.2.1 0)), (0, .ref b)]) hG dL_law_1391 (by decide) rfl ?_
  refine ps_aload_n hG dL_law_1393 rfl 3 rfl ?_
  refine ps_aload_n hG dL_law_1394 rfl 5 rfl ?_
  refine ps_iload hG dL_law_1395 1 rfl ?_
  refine ps_iconst (v := 1) hG dL_law_1397 (by decide) ?_
  refine ps_iadd hG dL_law_1398 ?_
  refine ps_sld hG hX hbl hbA hi1 dL_law_1399 ?_
  refine ps_callVI (As := [.int (xs (i + 1).toNatClampNeg)]) (rest := []) (nA := 1) hG (c_X11_spread _ hw hm1) gL_law_X11_spread rfl (by decide +kernel) rfl ⟨(Nat.le_of_ble_eq_true rfl), (Nat.le_of_ble_eq_true rfl)⟩ ⟨rfl, rfl⟩ ⟨by show kc + 2 ≤ 601024; omega, by show ks + 12 ≤ 7293034; omega⟩ (ps_lt hw ps_q80.2.2.1) (ps_cel_20 ps_q80.1 _) rfl rfl (Nat.le_of_ble_eq_true rfl) dL_law_1400 ?_
  refine ps_istore (lv' := [(6, .int b9), (5, .int k), (4, .int i), (3, .ref (w.2.1 102)), (2, .ref (w.2.1 80)), (1, .ref (w.2.1 0)), (0, .ref b)]) hG dL_law_1403 (by decide) rfl ?_
  refine ps_aload_n hG dL_law_1405 rfl 4 rfl ?_
  refine ps_callVI (As := []) (rest := []) (nA := 0) hG (c_X11_thrown _ hw ht1) gL_law_X11_thrown rfl (by decide +kernel) rfl ⟨(Nat.le_of_ble_eq_true rfl), (Nat.le_of_ble_eq_true rfl)⟩ ⟨rfl, rfl⟩ ⟨by show kc + 2 ≤ 601024; omega, by show ks + 12 ≤ 7293034; omega⟩ (ps_lt hw ps_q80.2.2.1) (ps_cel_20 ps_q80.1 _) rfl rfl (Nat.le_of_ble_eq_true rfl) dL_law_1406 ?_
  refine ps_iload hG dL_law_1409 1 rfl ?_
  refine ps_icmp_eq (tgt := 1416) hG dL_law_1411 (by decide) (fun c9 => ?_) (fun c9 => absurd rfl c9)
  refine ps_iload hG dL_law_1416 1 rfl ?_
  refine ps_if_ne (tgt := 1433) hG dL_law_1418 (by decide) (fun c9 => ?_) (fun c9 => ?_)
  · skip
    refine ps_goto (tgt := 1586) hG dL_law_1433 (by decide) ?_
    exact ps_sub [2, 3, 4, 5, 6] rfl (ps_widen (by omega) (by omega) hk)
  · have hv := he1 c9
    refine ps_aload_n hG dL_law_1421 rfl 3 rfl ?_
    refine ps_iconst (v := 0) hG dL_law_1422 (by decide) ?_
    refine ps_lald hG (ps_lt hw ps_q102.2.2.1) dL_law_1423 ?_
    refine ps_iload hG dL_law_1424 0 rfl ?_
    refine ps_i2l hG dL_law_1426 rfl ?_
    refine ps_lcmp hG dL_law_1427 ?_
    rw [hv, lg_cmp_self]
    refine ps_if_eq (tgt := 1433) hG dL_law_1428 (by decide) (fun c8 => ?_) (fun c8 => absurd rfl c8)
    refine ps_goto (tgt := 1586) hG dL_law_1433 (by decide) ?_
    exact ps_sub [2, 3, 4, 5, 6] rfl (ps_widen (by omega) (by omega) hk)
set_option maxHeartbeats 4000000 in
set_option maxRecDepth 100000 in
theorem law_c18 {G : ps_G} {b L : Nat} {xs : Nat → Int32} (hC : law_ctx G b L xs) {w : ps_X} (hw : ps_ww w) {kc ks : Nat} (hr : kc + 16 ≤ 601024 ∧ ks + 64 ≤ 7293034) {S S9 : ps_S} {i : Int32} (h : ((f_X10_rounds S).bind fun r1 => ps_b2 (f_X11_rounds S) fun r2 S2 => if r1 = r2 then some S2 else none) = some S9) (hk : ps_V G 7 (kc + 16) (ks + 64) w S9 1586 [(4, .int i), (3, .ref (w.2.1 102)), (2, .ref (w.2.1 80)), (1, .ref (w.2.1 0)), (0, .ref b)] []) : ps_V G 7 kc ks w S 1436 [(4, .int i), (3, .ref (w.2.1 102)), (2, .ref (w.2.1 80)), (1, .ref (w.2.1 0)), (0, .ref b)] [] := by
  obtain ⟨hG, hXW, hX, hbl, hbA, hst⟩ := hC
  obtain ⟨r1, h1, h⟩ := ps_bd h
  obtain ⟨r2, S2, h2, h⟩ := ps_d2 h
  obtain ⟨e1, h⟩ := ps_ig h
  cases h
  refine ps_aload_n hG dL_law_1436 rfl 3 rfl ?_
  refine ps_callVI (As := []) (rest := []) (nA := 0) hG (c_X10_rounds _ hw h1) gL_law_X10_rounds rfl (by decide +kernel) rfl ⟨(Nat.le_of_ble_eq_true rfl), (Nat.le_of_ble_eq_true rfl)⟩ ⟨rfl, rfl⟩ ⟨by show kc ≤ 601024; omega, by show ks ≤ 7293034; omega⟩ (ps_lt hw ps_q0.2.2.1) (ps_cel_19 ps_q0.1 _) rfl rfl (Nat.le_of_ble_eq_true rfl) dL_law_1437 ?_
  refine ps_aload_n hG dL_law_1440 rfl 2 rfl ?_
  refine ps_callVI (As := []) (rest := [.int r1]) (nA := 0) hG (c_X11_rounds _ hw h2) gL_law_X11_rounds rfl (by decide +kernel) rfl ⟨(Nat.le_of_ble_eq_true rfl), (Nat.le_of_ble_eq_true rfl)⟩ ⟨rfl, rfl⟩ ⟨by show kc ≤ 601024; omega, by show ks ≤ 7293034; omega⟩ (ps_lt hw ps_q80.2.2.1) (ps_cel_20 ps_q80.1 _) rfl rfl (Nat.le_of_ble_eq_true rfl) dL_law_1441 ?_
  refine ps_icmp_eq (tgt := 1586) hG dL_law_1444 (by decide) (fun c9 => ?_) (fun c9 => absurd e1 c9)
  exact ps_widen (by omega) (by omega) hk
set_option maxHeartbeats 4000000 in
set_option maxRecDepth 100000 in
theorem law_c19 {G : ps_G} {b L : Nat} {xs : Nat → Int32} (hC : law_ctx G b L xs) {w : ps_X} (hw : ps_ww w) {kc ks : Nat} (hr : kc + 16 ≤ 601024 ∧ ks + 64 ≤ 7293034) {S S9 : ps_S} {i : Int32} (hi1 : vp_in (i + 1) L) (hi2 : vp_in (i + 2) L) (h : f_cmp (fun r => r) (f_L_owes S (xs (i + 1).toNatClampNeg) (xs (i + 2).toNatClampNeg)) (fun S => f_X11_owes S (xs (i + 1).toNatClampNeg) (xs (i + 2).toNatClampNeg)) = some S9) (hk : ps_V G 7 (kc + 16) (ks + 64) w S9 1586 [(4, .int i), (3, .ref (w.2.1 102)), (2, .ref (w.2.1 80)), (1, .ref (w.2.1 0)), (0, .ref b)] []) : ps_V G 7 kc ks w S 1449 [(4, .int i), (3, .ref (w.2.1 102)), (2, .ref (w.2.1 80)), (1, .ref (w.2.1 0)), (0, .ref b)] [] := by
  obtain ⟨hG, hXW, hX, hbl, hbA, hst⟩ := hC
  obtain ⟨k, S1, b9, hx1, hm1, ht1, he1⟩ := f_cmp_d h
  refine ps_aload_n hG dL_law_1449 rfl 3 rfl ?_
  refine ps_aload_n hG dL_law_1450 rfl 4 rfl ?_
  refine ps_iload hG dL_law_1451 0 rfl ?_
  refine ps_iconst (v := 1) hG dL_law_1453 (by decide) ?_
  refine ps_iadd hG dL_law_1454 ?_
  refine ps_sld hG hX hbl hbA hi1 dL_law_1455 ?_
  refine ps_aload_n hG dL_law_1456 rfl 4 rfl ?_
  refine ps_iload hG dL_law_1457 0 rfl ?_
  refine ps_iconst (v := 2) hG dL_law_1459 (by decide) ?_
  refine ps_iadd hG dL_law_1460 ?_
  refine ps_sld hG hX hbl hbA hi2 dL_law_1461 ?_
  refine ps_aload_n hG dL_law_1462 rfl 1 rfl ?_
  refine ps_lawcall (As := [.ref (w.2.1 0), .int (xs (i + 1).toNatClampNeg), .int (xs (i + 2).toNatClampNeg), .ref (w.2.1 102)]) (rest := []) (nA := 4) hG hXW (c_L_owes _ hst hw hx1) gL_law_L_owes rfl (by decide +kernel) rfl ⟨(Nat.le_of_ble_eq_true rfl), (Nat.le_of_ble_eq_true rfl)⟩ ⟨rfl, rfl⟩ ⟨by show kc + 2 ≤ 601024; omega, by show ks + 12 ≤ 7293034; omega⟩ rfl (Nat.le_of_ble_eq_true rfl) dL_law_1463 ?_
  refine ps_istore (lv' := [(5, .int k), (4, .int i), (3, .ref (w.2.1 102)), (2, .ref (w.2.1 80)), (1, .ref (w.2.1 0)), (0, .ref b)]) hG dL_law_1466 (by decide) rfl ?_
  refine ps_aload_n hG dL_law_1468 rfl 3 rfl ?_
  refine ps_aload_n hG dL_law_1469 rfl 5 rfl ?_
  refine ps_iload hG dL_law_1470 1 rfl ?_
  refine ps_iconst (v := 1) hG dL_law_1472 (by decide) ?_
  refine ps_iadd hG dL_law_1473 ?_
  refine ps_sld hG hX hbl hbA hi1 dL_law_1474 ?_
  refine ps_aload_n hG dL_law_1475 rfl 5 rfl ?_
  refine ps_iload hG dL_law_1476 1 rfl ?_
  refine ps_iconst (v := 2) hG dL_law_1478 (by decide) ?_
  refine ps_iadd hG dL_law_1479 ?_
  refine ps_sld hG hX hbl hbA hi2 dL_law_1480 ?_
  refine ps_callVI (As := [.int (xs (i + 1).toNatClampNeg), .int (xs (i + 2).toNatClampNeg)]) (rest := []) (nA := 2) hG (c_X11_owes _ hw hm1) gL_law_X11_owes rfl (by decide +kernel) rfl ⟨(Nat.le_of_ble_eq_true rfl), (Nat.le_of_ble_eq_true rfl)⟩ ⟨rfl, rfl⟩ ⟨by show kc + 2 ≤ 601024; omega, by show ks + 12 ≤ 7293034; omega⟩ (ps_lt hw ps_q80.2.2.1) (ps_cel_20 ps_q80.1 _) rfl rfl (Nat.le_of_ble_eq_true rfl) dL_law_1481 ?_
  refine ps_istore (lv' := [(6, .int b9), (5, .int k), (4, .int i), (3, .ref (w.2.1 102)), (2, .ref (w.2.1 80)), (1, .ref (w.2.1 0)), (0, .ref b)]) hG dL_law_1484 (by decide) rfl ?_
  refine ps_aload_n hG dL_law_1486 rfl 4 rfl ?_
  refine ps_callVI (As := []) (rest := []) (nA := 0) hG (c_X11_thrown _ hw ht1) gL_law_X11_thrown rfl (by decide +kernel) rfl ⟨(Nat.le_of_ble_eq_true rfl), (Nat.le_of_ble_eq_true rfl)⟩ ⟨rfl, rfl⟩ ⟨by show kc + 2 ≤ 601024; omega, by show ks + 12 ≤ 7293034; omega⟩ (ps_lt hw ps_q80.2.2.1) (ps_cel_20 ps_q80.1 _) rfl rfl (Nat.le_of_ble_eq_true rfl) dL_law_1487 ?_
  refine ps_iload hG dL_law_1490 1 rfl ?_
  refine ps_icmp_eq (tgt := 1497) hG dL_law_1492 (by decide) (fun c9 => ?_) (fun c9 => absurd rfl c9)
  refine ps_iload hG dL_law_1497 1 rfl ?_
  refine ps_if_ne (tgt := 1514) hG dL_law_1499 (by decide) (fun c9 => ?_) (fun c9 => ?_)
  · skip
    refine ps_goto (tgt := 1586) hG dL_law_1514 (by decide) ?_
    exact ps_sub [2, 3, 4, 5, 6] rfl (ps_widen (by omega) (by omega) hk)
  · have hv := he1 c9
    refine ps_aload_n hG dL_law_1502 rfl 3 rfl ?_
    refine ps_iconst (v := 0) hG dL_law_1503 (by decide) ?_
    refine ps_lald hG (ps_lt hw ps_q102.2.2.1) dL_law_1504 ?_
    refine ps_iload hG dL_law_1505 0 rfl ?_
    refine ps_i2l hG dL_law_1507 rfl ?_
    refine ps_lcmp hG dL_law_1508 ?_
    rw [hv, lg_cmp_self]
    refine ps_if_eq (tgt := 1514) hG dL_law_1509 (by decide) (fun c8 => ?_) (fun c8 => absurd rfl c8)
    refine ps_goto (tgt := 1586) hG dL_law_1514 (by decide) ?_
    exact ps_sub [2, 3, 4, 5, 6] rfl (ps_widen (by omega) (by omega) hk)
set_option maxHeartbeats 4000000 in
set_option maxRecDepth 100000 in
theorem law_c20 {G : ps_G} {b L : Nat} {xs : Nat → Int32} (hC : law_ctx G b L xs) {w : ps_X} (hw : ps_ww w) {kc ks : Nat} (hr : kc + 16 ≤ 601024 ∧ ks + 64 ≤ 7293034) {S S9 : ps_S} {i : Int32} (h : (ps_b2 (f_X10_net S) fun r1 S1 => ps_b2 (f_X11_net S1) fun r2 S2 => if r1 = r2 then some S2 else none) = some S9) (hk : ps_V G 7 (kc + 16) (ks + 64) w S9 1586 [(4, .int i), (3, .ref (w.2.1 102)), (2, .ref (w.2.1 80)), (1, .ref (w.2.1 0)), (0, .ref b)] []) : ps_V G 7 kc ks w S 1517 [(4, .int i), (3, .ref (w.2.1 102)), (2, .ref (w.2.1 80)), (1, .ref (w.2.1 0)), (0, .ref b)] [] := by
  obtain ⟨hG, hXW, hX, hbl, hbA, hst⟩ := hC
  obtain ⟨r1, S1, h1, h⟩ := ps_d2 h
  obtain ⟨r2, S2, h2, h⟩ := ps_d2 h
  obtain ⟨e1, h⟩ := ps_ig h
  cases h
  refine ps_aload_n hG dL_law_1517 rfl 3 rfl ?_
  refine ps_callVI (As := []) (rest := []) (nA := 0) hG (c_X10_net _ hw h1) gL_law_X10_net rfl (by decide +kernel) rfl ⟨(Nat.le_of_ble_eq_true rfl), (Nat.le_of_ble_eq_true rfl)⟩ ⟨rfl, rfl⟩ ⟨by show kc ≤ 601024; omega, by show ks ≤ 7293034; omega⟩ (ps_lt hw ps_q0.2.2.1) (ps_cel_19 ps_q0.1 _) rfl rfl (Nat.le_of_ble_eq_true rfl) dL_law_1518 ?_
  refine ps_aload_n hG dL_law_1521 rfl 2 rfl ?_
  refine ps_callVI (As := []) (rest := [.int r1]) (nA := 0) hG (c_X11_net _ hw h2) gL_law_X11_net rfl (by decide +kernel) rfl ⟨(Nat.le_of_ble_eq_true rfl), (Nat.le_of_ble_eq_true rfl)⟩ ⟨rfl, rfl⟩ ⟨by show kc ≤ 601024; omega, by show ks ≤ 7293034; omega⟩ (ps_lt hw ps_q80.2.2.1) (ps_cel_20 ps_q80.1 _) rfl rfl (Nat.le_of_ble_eq_true rfl) dL_law_1522 ?_
  refine ps_icmp_eq (tgt := 1586) hG dL_law_1525 (by decide) (fun c9 => ?_) (fun c9 => absurd e1 c9)
  exact ps_widen (by omega) (by omega) hk
set_option maxHeartbeats 4000000 in
set_option maxRecDepth 100000 in
theorem law_c21 {G : ps_G} {b L : Nat} {xs : Nat → Int32} (hC : law_ctx G b L xs) {w : ps_X} (hw : ps_ww w) {kc ks : Nat} (hr : kc + 16 ≤ 601024 ∧ ks + 64 ≤ 7293034) {S S9 : ps_S} {i : Int32} (hi1 : vp_in (i + 1) L) (h : f_cmp (fun r => r) (f_L_worth S (xs (i + 1).toNatClampNeg)) (fun S => f_X11_worth S (xs (i + 1).toNatClampNeg)) = some S9) (hk : ps_V G 7 (kc + 16) (ks + 64) w S9 1586 [(4, .int i), (3, .ref (w.2.1 102)), (2, .ref (w.2.1 80)), (1, .ref (w.2.1 0)), (0, .ref b)] []) : ps_V G 7 kc ks w S 1530 [(4, .int i), (3, .ref (w.2.1 102)), (2, .ref (w.2.1 80)), (1, .ref (w.2.1 0)), (0, .ref b)] [] := by
  obtain ⟨hG, hXW, hX, hbl, hbA, hst⟩ := hC
  obtain ⟨k, S1, b9, hx1, hm1, ht1, he1⟩ := f_cmp_d h
  refine ps_aload_n hG dL_law_1530 rfl 3 rfl ?_
  refine ps_aload_n hG dL_law_1531 rfl 4 rfl ?_
  refine ps_iload hG dL_law_1532 0 rfl ?_
  refine ps_iconst (v := 1) hG dL_law_1534 (by decide) ?_
  refine ps_iadd hG dL_law_1535 ?_
  refine ps_sld hG hX hbl hbA hi1 dL_law_1536 ?_
  refine ps_aload_n hG dL_law_1537 rfl 1 rfl ?_
  refine ps_lawcall (As := [.ref (w.2.1 0), .int (xs (i + 1).toNatClampNeg), .ref (w.2.1 102)]) (rest := []) (nA := 3) hG hXW (c_L_worth _ hst hw hx1) gL_law_L_worth rfl (by decide +kernel) rfl ⟨(Nat.le_of_ble_eq_true rfl), (Nat.le_of_ble_eq_true rfl)⟩ ⟨rfl, rfl⟩ ⟨by show kc + 1 ≤ 601024; omega, by show ks + 6 ≤ 7293034; omega⟩ rfl (Nat.le_of_ble_eq_true rfl) dL_law_1538 ?_
  refine ps_istore (lv' := [(5, .int k), (4, .int i), (3, .ref (w.2.1 102)), (2, .ref (w.2.1 80)), (1, .ref (w.2.1 0)), (0, .ref b)]) hG dL_law_1541 (by decide) rfl ?_
  refine ps_aload_n hG dL_law_1543 rfl 3 rfl ?_
  refine ps_aload_n hG dL_law_1544 rfl 5 rfl ?_
  refine ps_iload hG dL_law_1545 1 rfl ?_
  refine ps_iconst (v := 1) hG dL_law_1547 (by decide) ?_
  refine ps_iadd hG dL_law_1548 ?_
  refine ps_sld hG hX hbl hbA hi1 dL_law_1549 ?_
  refine ps_callVI (As := [.int (xs (i + 1).toNatClampNeg)]) (rest := []) (nA := 1) hG (c_X11_worth _ hw hm1) gL_law_X11_worth rfl (by decide +kernel) rfl ⟨(Nat.le_of_ble_eq_true rfl), (Nat.le_of_ble_eq_true rfl)⟩ ⟨rfl, rfl⟩ ⟨by show kc + 1 ≤ 601024; omega, by show ks + 6 ≤ 7293034; omega⟩ (ps_lt hw ps_q80.2.2.1) (ps_cel_20 ps_q80.1 _) rfl rfl (Nat.le_of_ble_eq_true rfl) dL_law_1550 ?_
  refine ps_istore (lv' := [(6, .int b9), (5, .int k), (4, .int i), (3, .ref (w.2.1 102)), (2, .ref (w.2.1 80)), (1, .ref (w.2.1 0)), (0, .ref b)]) hG dL_law_1553 (by decide) rfl ?_
  refine ps_aload_n hG dL_law_1555 rfl 4 rfl ?_
  refine ps_callVI (As := []) (rest := []) (nA := 0) hG (c_X11_thrown _ hw ht1) gL_law_X11_thrown rfl (by decide +kernel) rfl ⟨(Nat.le_of_ble_eq_true rfl), (Nat.le_of_ble_eq_true rfl)⟩ ⟨rfl, rfl⟩ ⟨by show kc + 1 ≤ 601024; omega, by show ks + 6 ≤ 7293034; omega⟩ (ps_lt hw ps_q80.2.2.1) (ps_cel_20 ps_q80.1 _) rfl rfl (Nat.le_of_ble_eq_true rfl) dL_law_1556 ?_
  refine ps_iload hG dL_law_1559 1 rfl ?_
  refine ps_icmp_eq (tgt := 1566) hG dL_law_1561 (by decide) (fun c9 => ?_) (fun c9 => absurd rfl c9)
  refine ps_iload hG dL_law_1566 1 rfl ?_
  refine ps_if_ne (tgt := 1583) hG dL_law_1568 (by decide) (fun c9 => ?_) (fun c9 => ?_)
  · skip
    refine ps_goto (tgt := 1586) hG dL_law_1583 (by decide) ?_
    exact ps_sub [2, 3, 4, 5, 6] rfl (ps_widen (by omega) (by omega) hk)
  · have hv := he1 c9
    refine ps_aload_n hG dL_law_1571 rfl 3 rfl ?_
    refine ps_iconst (v := 0) hG dL_law_1572 (by decide) ?_
    refine ps_lald hG (ps_lt hw ps_q102.2.2.1) dL_law_1573 ?_
    refine ps_iload hG dL_law_1574 0 rfl ?_
    refine ps_i2l hG dL_law_1576 rfl ?_
    refine ps_lcmp hG dL_law_1577 ?_
    rw [hv, lg_cmp_self]
    refine ps_if_eq (tgt := 1583) hG dL_law_1578 (by decide) (fun c8 => ?_) (fun c8 => absurd rfl c8)
    refine ps_goto (tgt := 1586) hG dL_law_1583 (by decide) ?_
    exact ps_sub [2, 3, 4, 5, 6] rfl (ps_widen (by omega) (by omega) hk)
/-- one call of the script: what the law does of it; none: it answers false, or the pool does not bear it -/
def f_op (n : Nat) (S : ps_S) (a0 a1 a2 a3 a4 a5 a6 : Int32) : Option ps_S :=
  (if (a0 &&& 31) = 0 then f_cmp (fun r => r) (f_L_peer S a1 a2 a3) (fun S => f_X11_peer S a1 a2 a3)
  else (if (a0 &&& 31) = 1 then f_cmp ps_nz (f_L_turn S a1 (ps_nz a2)) (fun S => f_X11_turn S a1 (ps_nz a2))
  else (if (a0 &&& 31) = 2 then f_cmp (fun r => r) (f_L_bucket S a1 a2 a3) (fun S => f_X11_bucket S a1 a2 a3)
  else (if (a0 &&& 31) = 3 then f_cmp (fun r => r) (f_L_lookup S a1 a2 a3) (fun S => f_X11_lookup S a1 a2 a3)
  else (if (a0 &&& 31) = 4 then ((f_X10_asked S).bind fun r1 => ps_b2 (f_X11_asked S) fun r2 S2 => if r1 = r2 then some S2 else none)
  else (if (a0 &&& 31) = 5 then f_cmp (fun r => r) (f_L_closest S a1 a2) (fun S => f_X11_closest S a1 a2)
  else (if (a0 &&& 31) = 6 then f_cmp (fun r => r) (f_L_file n S a1 a2) (fun S => f_X11_file S a1 a2)
  else (if (a0 &&& 31) = 7 then f_cmp (fun r => r) (f_L_piece S a1 a2 a3) (fun S => f_X11_piece S a1 a2 a3)
  else (if (a0 &&& 31) = 8 then f_cmp ps_nz (f_L_spoil S a1 a2) (fun S => f_X11_spoil S a1 a2)
  else (if (a0 &&& 31) = 9 then f_cmp (fun r => r) (f_L_root S a1) (fun S => f_X11_root S a1)
  else (if (a0 &&& 31) = 10 then f_cmp (fun r => r) (f_L_proof S a1 a2 a3) (fun S => f_X11_proof S a1 a2 a3)
  else (if (a0 &&& 31) = 11 then f_cmp ps_nz (f_L_isProved S a1 a2 a3 a4 a5 a6) (fun S => f_X11_isProved S a1 a2 a3 a4 a5 a6)
  else (if (a0 &&& 31) = 12 then f_cmp (fun r => r) (f_L_mend S a1 a2) (fun S => f_X11_mend S a1 a2)
  else (if (a0 &&& 31) = 13 then f_cmp (fun r => r) (f_L_fetch S a1 a2) (fun S => f_X11_fetch S a1 a2)
  else (if (a0 &&& 31) = 14 then f_cmp (fun r => r) (f_L_pass S ) (fun S => f_X11_pass S )
  else (if (a0 &&& 31) = 15 then f_cmp (fun r => r) (f_L_tell S a1 a2 a3 a4) (fun S => f_X11_tell S a1 a2 a3 a4)
  else (if (a0 &&& 31) = 16 then f_cmp (fun r => r) (f_L_name S a1 a2) (fun S => f_X11_name S a1 a2)
  else (if (a0 &&& 31) = 17 then f_cmp (fun r => r) (f_L_spread S a1) (fun S => f_X11_spread S a1)
  else (if (a0 &&& 31) = 18 then ((f_X10_rounds S).bind fun r1 => ps_b2 (f_X11_rounds S) fun r2 S2 => if r1 = r2 then some S2 else none)
  else (if (a0 &&& 31) = 19 then f_cmp (fun r => r) (f_L_owes S a1 a2) (fun S => f_X11_owes S a1 a2)
  else (if (a0 &&& 31) = 20 then (ps_b2 (f_X10_net S) fun r1 S1 => ps_b2 (f_X11_net S1) fun r2 S2 => if r1 = r2 then some S2 else none)
  else (if (a0 &&& 31) = 21 then f_cmp (fun r => r) (f_L_worth S a1) (fun S => f_X11_worth S a1)
  else some S))))))))))))))))))))))
