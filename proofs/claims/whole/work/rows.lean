section
-- ===== PART A: goes FIRST, ahead of the names: the tables' words, and 'selects' of the private methods out of them =====
/-- a private method of a class that the tables say can be made, by its rows of tables_1 -/
def lw_okq (q : MethodName × Nat) : Prop := (q.1.cls ≠ "java/lang/invoke/MethodHandle" ∧ q.1.cls ≠ "java/lang/invoke/VarHandle") ∧ Cond.instantiable q.1.cls q.2 ∈ tables_1 ∧ Cond.privateMethod q.1 ∈ tables_1 ∧ Cond.instanceMethod q.1 ∈ tables_1
theorem lw_p0 : lw_okq (⟨"PeerStores$Ledger", "lessenTwo", "(II)I"⟩, 1) := ⟨⟨by decide +kernel, by decide +kernel⟩, List.mem_of_getElem? (i := 100) (by decide +kernel), List.mem_of_getElem? (i := 216) (by decide +kernel), List.mem_of_getElem? (i := 217) (by decide +kernel)⟩
theorem lw_p1 : lw_okq (⟨"PeerStores$Ledger", "lessenThrees", "(II)I"⟩, 1) := ⟨⟨by decide +kernel, by decide +kernel⟩, List.mem_of_getElem? (i := 100) (by decide +kernel), List.mem_of_getElem? (i := 234) (by decide +kernel), List.mem_of_getElem? (i := 235) (by decide +kernel)⟩
theorem lw_p2 : lw_okq (⟨"java/lang/Throwable", "fillInStackTrace", "(I)Ljava/lang/Throwable;"⟩, 6) := ⟨⟨by decide +kernel, by decide +kernel⟩, List.mem_of_getElem? (i := 289) (by decide +kernel), List.mem_of_getElem? (i := 287) (by decide +kernel), List.mem_of_getElem? (i := 288) (by decide +kernel)⟩
theorem lw_p3 : lw_okq (⟨"PeerStores", "needPeer", "(I)V"⟩, 10) := ⟨⟨by decide +kernel, by decide +kernel⟩, List.mem_of_getElem? (i := 22) (by decide +kernel), List.mem_of_getElem? (i := 319) (by decide +kernel), List.mem_of_getElem? (i := 320) (by decide +kernel)⟩
theorem lw_p4 : lw_okq (⟨"PeerStores", "needOnline", "(I)V"⟩, 10) := ⟨⟨by decide +kernel, by decide +kernel⟩, List.mem_of_getElem? (i := 22) (by decide +kernel), List.mem_of_getElem? (i := 367) (by decide +kernel), List.mem_of_getElem? (i := 368) (by decide +kernel)⟩
theorem lw_p5 : lw_okq (⟨"PeerStores$Search", "begin", "(III)V"⟩, 7) := ⟨⟨by decide +kernel, by decide +kernel⟩, List.mem_of_getElem? (i := 56) (by decide +kernel), List.mem_of_getElem? (i := 392) (by decide +kernel), List.mem_of_getElem? (i := 393) (by decide +kernel)⟩
theorem lw_p6 : lw_okq (⟨"PeerStores$Search", "include", "(LPeerStores$Row;II)V"⟩, 7) := ⟨⟨by decide +kernel, by decide +kernel⟩, List.mem_of_getElem? (i := 56) (by decide +kernel), List.mem_of_getElem? (i := 413) (by decide +kernel), List.mem_of_getElem? (i := 414) (by decide +kernel)⟩
theorem lw_p7 : lw_okq (⟨"PeerStores$Search", "askAlong", "(LPeerStores$Row;II)V"⟩, 7) := ⟨⟨by decide +kernel, by decide +kernel⟩, List.mem_of_getElem? (i := 56) (by decide +kernel), List.mem_of_getElem? (i := 422) (by decide +kernel), List.mem_of_getElem? (i := 423) (by decide +kernel)⟩
theorem lw_p8 : lw_okq (⟨"PeerStores$Search", "ask", "(ILPeerStores$Row;II)V"⟩, 7) := ⟨⟨by decide +kernel, by decide +kernel⟩, List.mem_of_getElem? (i := 56) (by decide +kernel), List.mem_of_getElem? (i := 427) (by decide +kernel), List.mem_of_getElem? (i := 428) (by decide +kernel)⟩
theorem lw_p9 : lw_okq (⟨"PeerStores$Contracts", "firstFree", "(LPeerStores$StoredFile;)I"⟩, 3) := ⟨⟨by decide +kernel, by decide +kernel⟩, List.mem_of_getElem? (i := 115) (by decide +kernel), List.mem_of_getElem? (i := 570) (by decide +kernel), List.mem_of_getElem? (i := 571) (by decide +kernel)⟩
theorem lw_p10 : lw_okq (⟨"PeerStores", "fileAt", "(I)LPeerStores$StoredFile;"⟩, 10) := ⟨⟨by decide +kernel, by decide +kernel⟩, List.mem_of_getElem? (i := 22) (by decide +kernel), List.mem_of_getElem? (i := 595) (by decide +kernel), List.mem_of_getElem? (i := 596) (by decide +kernel)⟩
theorem lw_p11 : lw_okq (⟨"PeerStores$Contracts", "isAtHand", "(LPeerStores$StoredFile;I)Z"⟩, 3) := ⟨⟨by decide +kernel, by decide +kernel⟩, List.mem_of_getElem? (i := 115) (by decide +kernel), List.mem_of_getElem? (i := 714) (by decide +kernel), List.mem_of_getElem? (i := 715) (by decide +kernel)⟩
theorem lw_p12 : lw_okq (⟨"PeerStores$Contracts", "challengePiece", "(LPeerStores$StoredFile;I)V"⟩, 3) := ⟨⟨by decide +kernel, by decide +kernel⟩, List.mem_of_getElem? (i := 115) (by decide +kernel), List.mem_of_getElem? (i := 734) (by decide +kernel), List.mem_of_getElem? (i := 735) (by decide +kernel)⟩
theorem lw_p13 : lw_okq (⟨"PeerStores$Message", "tellInRound", "(I)I"⟩, 3) := ⟨⟨by decide +kernel, by decide +kernel⟩, List.mem_of_getElem? (i := 145) (by decide +kernel), List.mem_of_getElem? (i := 802) (by decide +kernel), List.mem_of_getElem? (i := 803) (by decide +kernel)⟩
theorem lw_p14 : lw_okq (⟨"PeerStores$Message", "tellAll", "(II)I"⟩, 3) := ⟨⟨by decide +kernel, by decide +kernel⟩, List.mem_of_getElem? (i := 145) (by decide +kernel), List.mem_of_getElem? (i := 807) (by decide +kernel), List.mem_of_getElem? (i := 808) (by decide +kernel)⟩
theorem lw_p15 : lw_okq (⟨"PeerStoresModel", "isPeer", "(I)Z"⟩, 28) := ⟨⟨by decide +kernel, by decide +kernel⟩, List.mem_of_getElem? (i := 832) (by decide +kernel), List.mem_of_getElem? (i := 934) (by decide +kernel), List.mem_of_getElem? (i := 935) (by decide +kernel)⟩
def lw_privs_1 : List (MethodName × Nat) := [(⟨"PeerStores$Ledger", "lessenTwo", "(II)I"⟩, 1), (⟨"PeerStores$Ledger", "lessenThrees", "(II)I"⟩, 1), (⟨"java/lang/Throwable", "fillInStackTrace", "(I)Ljava/lang/Throwable;"⟩, 6), (⟨"PeerStores", "needPeer", "(I)V"⟩, 10), (⟨"PeerStores", "needOnline", "(I)V"⟩, 10), (⟨"PeerStores$Search", "begin", "(III)V"⟩, 7), (⟨"PeerStores$Search", "include", "(LPeerStores$Row;II)V"⟩, 7), (⟨"PeerStores$Search", "askAlong", "(LPeerStores$Row;II)V"⟩, 7), (⟨"PeerStores$Search", "ask", "(ILPeerStores$Row;II)V"⟩, 7), (⟨"PeerStores$Contracts", "firstFree", "(LPeerStores$StoredFile;)I"⟩, 3), (⟨"PeerStores", "fileAt", "(I)LPeerStores$StoredFile;"⟩, 10), (⟨"PeerStores$Contracts", "isAtHand", "(LPeerStores$StoredFile;I)Z"⟩, 3), (⟨"PeerStores$Contracts", "challengePiece", "(LPeerStores$StoredFile;I)V"⟩, 3), (⟨"PeerStores$Message", "tellInRound", "(I)I"⟩, 3), (⟨"PeerStores$Message", "tellAll", "(II)I"⟩, 3), (⟨"PeerStoresModel", "isPeer", "(I)Z"⟩, 28)]
theorem lw_r1 : ∀ q ∈ lw_privs_1, lw_okq q := List.forall_mem_cons.mpr ⟨lw_p0, List.forall_mem_cons.mpr ⟨lw_p1, List.forall_mem_cons.mpr ⟨lw_p2, List.forall_mem_cons.mpr ⟨lw_p3, List.forall_mem_cons.mpr ⟨lw_p4, List.forall_mem_cons.mpr ⟨lw_p5, List.forall_mem_cons.mpr ⟨lw_p6, List.forall_mem_cons.mpr ⟨lw_p7, List.forall_mem_cons.mpr ⟨lw_p8, List.forall_mem_cons.mpr ⟨lw_p9, List.forall_mem_cons.mpr ⟨lw_p10, List.forall_mem_cons.mpr ⟨lw_p11, List.forall_mem_cons.mpr ⟨lw_p12, List.forall_mem_cons.mpr ⟨lw_p13, List.forall_mem_cons.mpr ⟨lw_p14, List.forall_mem_cons.mpr ⟨lw_p15, fun _ h => absurd h List.not_mem_nil⟩⟩⟩⟩⟩⟩⟩⟩⟩⟩⟩⟩⟩⟩⟩⟩
theorem lw_p16 : lw_okq (⟨"PeerStoresModel", "isId", "(I)Z"⟩, 28) := ⟨⟨by decide +kernel, by decide +kernel⟩, List.mem_of_getElem? (i := 832) (by decide +kernel), List.mem_of_getElem? (i := 938) (by decide +kernel), List.mem_of_getElem? (i := 939) (by decide +kernel)⟩
theorem lw_p17 : lw_okq (⟨"PeerStoresModel", "holds", "(I)Z"⟩, 28) := ⟨⟨by decide +kernel, by decide +kernel⟩, List.mem_of_getElem? (i := 832) (by decide +kernel), List.mem_of_getElem? (i := 942) (by decide +kernel), List.mem_of_getElem? (i := 943) (by decide +kernel)⟩
theorem lw_p18 : lw_okq (⟨"PeerStoresModel", "hears", "(II)V"⟩, 28) := ⟨⟨by decide +kernel, by decide +kernel⟩, List.mem_of_getElem? (i := 832) (by decide +kernel), List.mem_of_getElem? (i := 946) (by decide +kernel), List.mem_of_getElem? (i := 947) (by decide +kernel)⟩
theorem lw_p19 : lw_okq (⟨"PeerStoresModel", "looksUp", "(III)V"⟩, 28) := ⟨⟨by decide +kernel, by decide +kernel⟩, List.mem_of_getElem? (i := 832) (by decide +kernel), List.mem_of_getElem? (i := 953) (by decide +kernel), List.mem_of_getElem? (i := 954) (by decide +kernel)⟩
theorem lw_p20 : lw_okq (⟨"PeerStoresModel", "keepsPeer", "(II)Z"⟩, 28) := ⟨⟨by decide +kernel, by decide +kernel⟩, List.mem_of_getElem? (i := 832) (by decide +kernel), List.mem_of_getElem? (i := 957) (by decide +kernel), List.mem_of_getElem? (i := 958) (by decide +kernel)⟩
theorem lw_p21 : lw_okq (⟨"PeerStoresModel", "picks", "(II)I"⟩, 28) := ⟨⟨by decide +kernel, by decide +kernel⟩, List.mem_of_getElem? (i := 832) (by decide +kernel), List.mem_of_getElem? (i := 961) (by decide +kernel), List.mem_of_getElem? (i := 962) (by decide +kernel)⟩
theorem lw_p22 : lw_okq (⟨"PeerStoresModel", "asks", "(IIII)V"⟩, 28) := ⟨⟨by decide +kernel, by decide +kernel⟩, List.mem_of_getElem? (i := 832) (by decide +kernel), List.mem_of_getElem? (i := 965) (by decide +kernel), List.mem_of_getElem? (i := 966) (by decide +kernel)⟩
theorem lw_p23 : lw_okq (⟨"PeerStoresModel", "closestOf", "(I)V"⟩, 28) := ⟨⟨by decide +kernel, by decide +kernel⟩, List.mem_of_getElem? (i := 832) (by decide +kernel), List.mem_of_getElem? (i := 969) (by decide +kernel), List.mem_of_getElem? (i := 970) (by decide +kernel)⟩
theorem lw_p24 : lw_okq (⟨"PeerStoresModel", "told", "()I"⟩, 28) := ⟨⟨by decide +kernel, by decide +kernel⟩, List.mem_of_getElem? (i := 832) (by decide +kernel), List.mem_of_getElem? (i := 985) (by decide +kernel), List.mem_of_getElem? (i := 986) (by decide +kernel)⟩
theorem lw_p25 : lw_okq (⟨"PeerStoresModel", "stores", "(II)V"⟩, 28) := ⟨⟨by decide +kernel, by decide +kernel⟩, List.mem_of_getElem? (i := 832) (by decide +kernel), List.mem_of_getElem? (i := 1007) (by decide +kernel), List.mem_of_getElem? (i := 1008) (by decide +kernel)⟩
theorem lw_p26 : lw_okq (⟨"PeerStoresModel", "isAsked", "(II)Z"⟩, 28) := ⟨⟨by decide +kernel, by decide +kernel⟩, List.mem_of_getElem? (i := 832) (by decide +kernel), List.mem_of_getElem? (i := 1019) (by decide +kernel), List.mem_of_getElem? (i := 1020) (by decide +kernel)⟩
theorem lw_p27 : lw_okq (⟨"PeerStoresModel", "isFile", "(I)Z"⟩, 28) := ⟨⟨by decide +kernel, by decide +kernel⟩, List.mem_of_getElem? (i := 832) (by decide +kernel), List.mem_of_getElem? (i := 1023) (by decide +kernel), List.mem_of_getElem? (i := 1024) (by decide +kernel)⟩
theorem lw_p28 : lw_okq (⟨"PeerStoresModel", "laysTree", "(I)V"⟩, 28) := ⟨⟨by decide +kernel, by decide +kernel⟩, List.mem_of_getElem? (i := 832) (by decide +kernel), List.mem_of_getElem? (i := 1035) (by decide +kernel), List.mem_of_getElem? (i := 1036) (by decide +kernel)⟩
theorem lw_p29 : lw_okq (⟨"PeerStoresModel", "isThere", "(I)Z"⟩, 28) := ⟨⟨by decide +kernel, by decide +kernel⟩, List.mem_of_getElem? (i := 832) (by decide +kernel), List.mem_of_getElem? (i := 1058) (by decide +kernel), List.mem_of_getElem? (i := 1059) (by decide +kernel)⟩
theorem lw_p30 : lw_okq (⟨"PeerStoresModel", "challenges", "(I)V"⟩, 28) := ⟨⟨by decide +kernel, by decide +kernel⟩, List.mem_of_getElem? (i := 832) (by decide +kernel), List.mem_of_getElem? (i := 1066) (by decide +kernel), List.mem_of_getElem? (i := 1067) (by decide +kernel)⟩
theorem lw_p31 : lw_okq (⟨"PeerStoresModel", "repairs", "(I)V"⟩, 28) := ⟨⟨by decide +kernel, by decide +kernel⟩, List.mem_of_getElem? (i := 832) (by decide +kernel), List.mem_of_getElem? (i := 1070) (by decide +kernel), List.mem_of_getElem? (i := 1071) (by decide +kernel)⟩
def lw_privs_2 : List (MethodName × Nat) := [(⟨"PeerStoresModel", "isId", "(I)Z"⟩, 28), (⟨"PeerStoresModel", "holds", "(I)Z"⟩, 28), (⟨"PeerStoresModel", "hears", "(II)V"⟩, 28), (⟨"PeerStoresModel", "looksUp", "(III)V"⟩, 28), (⟨"PeerStoresModel", "keepsPeer", "(II)Z"⟩, 28), (⟨"PeerStoresModel", "picks", "(II)I"⟩, 28), (⟨"PeerStoresModel", "asks", "(IIII)V"⟩, 28), (⟨"PeerStoresModel", "closestOf", "(I)V"⟩, 28), (⟨"PeerStoresModel", "told", "()I"⟩, 28), (⟨"PeerStoresModel", "stores", "(II)V"⟩, 28), (⟨"PeerStoresModel", "isAsked", "(II)Z"⟩, 28), (⟨"PeerStoresModel", "isFile", "(I)Z"⟩, 28), (⟨"PeerStoresModel", "laysTree", "(I)V"⟩, 28), (⟨"PeerStoresModel", "isThere", "(I)Z"⟩, 28), (⟨"PeerStoresModel", "challenges", "(I)V"⟩, 28), (⟨"PeerStoresModel", "repairs", "(I)V"⟩, 28)]
theorem lw_r2 : ∀ q ∈ lw_privs_2, lw_okq q := List.forall_mem_cons.mpr ⟨lw_p16, List.forall_mem_cons.mpr ⟨lw_p17, List.forall_mem_cons.mpr ⟨lw_p18, List.forall_mem_cons.mpr ⟨lw_p19, List.forall_mem_cons.mpr ⟨lw_p20, List.forall_mem_cons.mpr ⟨lw_p21, List.forall_mem_cons.mpr ⟨lw_p22, List.forall_mem_cons.mpr ⟨lw_p23, List.forall_mem_cons.mpr ⟨lw_p24, List.forall_mem_cons.mpr ⟨lw_p25, List.forall_mem_cons.mpr ⟨lw_p26, List.forall_mem_cons.mpr ⟨lw_p27, List.forall_mem_cons.mpr ⟨lw_p28, List.forall_mem_cons.mpr ⟨lw_p29, List.forall_mem_cons.mpr ⟨lw_p30, List.forall_mem_cons.mpr ⟨lw_p31, fun _ h => absurd h List.not_mem_nil⟩⟩⟩⟩⟩⟩⟩⟩⟩⟩⟩⟩⟩⟩⟩⟩
theorem lw_p32 : lw_okq (⟨"PeerStoresModel", "nets", "()I"⟩, 28) := ⟨⟨by decide +kernel, by decide +kernel⟩, List.mem_of_getElem? (i := 832) (by decide +kernel), List.mem_of_getElem? (i := 1098) (by decide +kernel), List.mem_of_getElem? (i := 1099) (by decide +kernel)⟩
theorem lw_p33 : lw_okq (⟨"PeerStoresModel", "lessens", "(III)I"⟩, 28) := ⟨⟨by decide +kernel, by decide +kernel⟩, List.mem_of_getElem? (i := 832) (by decide +kernel), List.mem_of_getElem? (i := 1102) (by decide +kernel), List.mem_of_getElem? (i := 1103) (by decide +kernel)⟩
def lw_privs_3 : List (MethodName × Nat) := [(⟨"PeerStoresModel", "nets", "()I"⟩, 28), (⟨"PeerStoresModel", "lessens", "(III)I"⟩, 28)]
theorem lw_r3 : ∀ q ∈ lw_privs_3, lw_okq q := List.forall_mem_cons.mpr ⟨lw_p32, List.forall_mem_cons.mpr ⟨lw_p33, fun _ h => absurd h List.not_mem_nil⟩⟩
def lw_privs : List (MethodName × Nat) := lw_privs_1 ++ (lw_privs_2 ++ (lw_privs_3))
def lw_tbl : List Cond := k2_sels lw_privs ++ tables_1
theorem lw_privs_ok : ∀ q ∈ lw_privs, lw_okq q := by
  show ∀ q ∈ lw_privs_1 ++ (lw_privs_2 ++ (lw_privs_3)), lw_okq q
  exact List.forall_mem_append.mpr ⟨lw_r1, List.forall_mem_append.mpr ⟨lw_r2, lw_r3⟩⟩

/-! ===== BEGIN words of one list among another's, by their places ===== -/
theorem goodIn_r {big : List Cond} (ws : List Cond) (ps : List Nat) (hp : ws = ps.filterMap (fun i => big[i]?)) (h : ws.all goodWord = true) : GoodIn big ws := by
  intro w hw
  have h1 := List.all_eq_true.mp h w hw
  rw [hp] at hw
  obtain ⟨i, -, hi⟩ := List.mem_filterMap.mp hw
  have hm : w ∈ big := by first | exact List.mem_of_getElem? hi | exact List.getElem?_mem hi
  exact ⟨hm, good_of_word h1⟩
theorem goodIn_app {big a b : List Cond} (ha : GoodIn big a) (hb : GoodIn big b) : GoodIn big (a ++ b) := fun w h => (List.mem_append.mp h).elim (ha w) (hb w)
theorem goodIn_ca {big a b : List Cond} {c : Cond} (ha : GoodIn big (c :: a)) (hb : GoodIn big b) : GoodIn big (c :: (a ++ b)) := fun w h => (List.mem_cons.mp h).elim (fun e => ha w (List.mem_cons.mpr (Or.inl e))) (fun h => (List.mem_append.mp h).elim (fun h => ha w (List.mem_cons.mpr (Or.inr h))) (hb w))
theorem goodIn_sub {big ws : List Cond} (hm : ∀ w ∈ ws, w ∈ big) (h : ws.all goodWord = true) : GoodIn big ws := fun w hw => ⟨hm w hw, good_of_word (List.all_eq_true.mp h w hw)⟩
/-! ===== END ===== -/

/-! ===== BEGIN new T[n][m]: the outer array a place, the inner ones among the pooled ===== -/
/-- f, but v at every address of l -/
def vr_up {α : Type} (f : Nat → α) (l : List Nat) (v : α) : Nat → α := fun a => if a ∈ l then v else f a
theorem vr_up_in {α : Type} {f : Nat → α} {l : List Nat} {v : α} {a : Nat} (h : a ∈ l) : vr_up f l v a = v := if_pos h
theorem vr_up_ne {α : Type} {f : Nat → α} {l : List Nat} {v : α} {a : Nat} (h : a ∉ l) : vr_up f l v a = f a := if_neg h
theorem vr_rows {L l : List Nat} {f : Nat → va_E} {e : va_E} (h : ∀ a, a ∈ l → a ∉ L) : va_pl L f ++ l.map (fun a => (a, e)) = va_pl (L ++ l) (vr_up f l e) := by
  unfold va_pl
  rw [List.map_append]
  congr 1
  · apply List.map_congr_left
    intro a ha
    rw [vr_up_ne (fun q => h a q ha)]
  · apply List.map_congr_left
    intro a ha
    rw [vr_up_in ha]
theorem vr_lay {X rows : va_W} {x : Nat × va_E} {pl : va_W} {D : va_G} {cl : List vw_C} {H : Heap} (hP : va_P D cl (((X ++ pl) ++ [x]) ++ rows) H) : va_P D cl ((X ++ [x]) ++ (pl ++ rows)) H := by
  rw [List.append_assoc (X ++ pl)] at hP
  have h := va_P.swap hP
  rw [← List.append_assoc X] at h
  have h2 := va_P.swap h
  rw [List.append_assoc (X ++ [x])] at h2
  exact h2
theorem vr_layD {X rows : va_W} {x : Nat × va_E} {pl : va_W} {A : Nat → Prop} (hD : va_D A (((X ++ pl) ++ [x]) ++ rows)) : va_D A ((X ++ [x]) ++ (pl ++ rows)) := by
  rw [List.append_assoc (X ++ pl)] at hD
  have h := va_D.swap hD
  rw [← List.append_assoc X] at h
  have h2 := va_D.swap h
  rw [List.append_assoc (X ++ [x])] at h2
  exact h2
theorem vr_outer (c : ClassId) (N h0 : Nat) : ∀ i : Nat, Jvm.Free.Multi.outerC c N h0 i = arrV c N (fun j => va_rf (if j < i then some (h0 + 1 + j) else none))
  | 0 => by
    show ({ cls := c, slots := Array.replicate N .null, vm := .none } : Cell) = _
    rw [arrV_new]
    refine congrArg (arrV c N) (funext fun j => ?_)
    simp [va_rf]
  | i + 1 => by
    show (Jvm.Free.Multi.outerC c N h0 i).setSlot i (.ref (h0 + 1 + i)) = _
    rw [vr_outer c N h0 i, arrV_store]
    refine congrArg (arrV c N) (funext fun j => ?_)
    by_cases e : j = i
    · subst e
      simp [updV, va_rf]
    · by_cases h : j < i
      · simp [updV, e, h, Nat.lt_succ_of_lt h]
      · simp [updV, e, h, show ¬ j < i + 1 by omega]
def va_AOA (t : FieldType) (U : State) : Prop := (Cond.arrayOver (.array t)).before #[] U = true
theorem va_AOA.of {t : FieldType} {A : Array Value} {U : State} (h : (Cond.arrayOver (.array t)).before A U = true) : va_AOA t U := h
theorem va_AOA.use {t : FieldType} {A : Array Value} {U : State} (h : va_AOA t U) : (Cond.arrayOver (.array t)).before A U = true := h
section VGM
variable {p : Program} {l : Launch} {e : Env} {R : Room} {s : State} {m : MethodId} {args : Array Value} {below : List Frame} {meth : Method} {c : Code} {H : Heap} {locs : List Loc} {cells slots : Nat} {Q : State → Prop}
variable {cc : ByteArray} {pc : Nat} {ls : Array Slot} {rest : List Value} {D : va_G} {cl : List vw_C} {A : Nat → Prop} {a : Nat} {tys : List (ClassId × FieldType)} {ws : va_W} {H0 : Heap}
theorem va_mna {X : va_W} {L : List Nat} {f : Nat → va_E} {cc : ByteArray} (hexec : p.tables.exec = Jvm.exec) (hb : c.code = cc) {own : String} {index : Nat} {ty : FieldType} {cy : ClassId} (hown : s.vm.findClass own = some m.cls) (hclink : (Cond.classLink own index ("[" ++ (FieldType.array ty).toString)).before args s = true) (hover : va_AOA ty s) (harr : (Cond.arrayClass ty).before args s = true) (hcy : s.vm.findClass (FieldType.array ty).toString = some cy)
    (hK : va_K D cl tys s) (hP : va_P D cl (X ++ va_pl L f) H) (hD : va_D A (X ++ va_pl L f)) (hS : va_S A H0 H locs) (hA : ∀ q, H0.size ≤ q → A q) {n k : Int32} {N' K' : Nat} {z : vp_A} (hn : ¬ n < 0) (hk : ¬ k < 0) (hN : n.toNatClampNeg = N') (hM : k.toNatClampNeg = K')
    (hb1 : N' * 4 ≤ 536870912) (hb2 : K' * componentBytes ty ≤ 536870912) (hb3 : K' ≤ 536870912) (hdf : fits ty (defaultValue ty) = true) (hdd : (defaultValue ty).isDefault = true) (hcells : cells + (1 + N') ≤ R.cells) (hslots : slots + (N' + N' * K') ≤ R.slots) (hz : ∀ c : ClassId, Jvm.Free.Multi.innerC c K' (defaultValue ty) = vp_cell c z) (hdg : decode cc pc = .ok (.multianewarray index 2, 4))
    (kk : ∀ (q : Nat) (r : Nat → Nat) (cA : ClassId) (H1 : Heap), (∀ i j : Nat, i < N' → j < N' → r i = r j → i = j) → (∀ i : Nat, i < N' → r i ∉ L) → va_K D cl (tys ++ [(cA, .array ty)]) s →
      va_P D cl ((X ++ [(q, .inl (cA, N', .inr (.inr (.inr (.inr (fun i => if i < N' then some (r i) else none))))))]) ++ va_pl (L ++ (List.range N').map r) (vr_up f ((List.range N').map r) (.inl (cy, z)))) H1 → va_D A ((X ++ [(q, .inl (cA, N', .inr (.inr (.inr (.inr (fun i => if i < N' then some (r i) else none))))))]) ++ va_pl (L ++ (List.range N').map r) (vr_up f ((List.range N').map r) (.inl (cy, z)))) → va_S A H0 H1 locs →
      W p l e R s m args below meth c H1 locs (cells + 1 + N') (slots + N' + N' * K') Q (F0 m (pc + 4) ls (.ref q :: rest))) : W p l e R s m args below meth c H locs cells slots Q (F0 m pc ls (.int k :: .int n :: rest)) := by
  subst hN
  subst hM
  intro T hT Xs
  obtain ⟨vm₁, cA, comp, -, fA, fC, hO, -, X', step⟩ := Xs.multianewarray2F hexec hown hclink (va_AOA.use hover) harr (g := F0 m pc ls (.int k :: .int n :: rest)) rfl (by rw [hb]; exact hdg) rfl hn hk hb1 hb2 hb3 hdf hdd hcells hslots
  have ec : some cy = some comp := hcy.symm.trans fC
  cases ec
  generalize hF : Jvm.Free.Multi.fill (T.setVm vm₁) cA cy n.toNatClampNeg k.toNatClampNeg (defaultValue ty) n.toNatClampNeg = F at X' step
  have hTh : (T.setVm vm₁).heap = H := hT
  obtain ⟨f1, f2, -, -⟩ := Jvm.Free.Multi.fill_facts (T.setVm vm₁) cA cy n.toNatClampNeg k.toNatClampNeg (defaultValue ty) n.toNatClampNeg
  rw [hF, hTh] at f1 f2
  have hold : ∀ x : Nat, x < H.size → F.heap[x]? = H[x]? := fun x hx => by
    have := Jvm.Free.Multi.fill_old (T.setVm vm₁) cA cy n.toNatClampNeg k.toNatClampNeg (defaultValue ty) (a := x) (by rw [hTh]; exact hx) n.toNatClampNeg
    rw [hF, hTh] at this
    exact this
  have hrow : ∀ j : Nat, j < n.toNatClampNeg → F.heap[H.size + 1 + j]? = some (vp_cell cy z) := fun j hj => by
    have := Jvm.Free.Multi.fill_inner (T.setVm vm₁) cA cy n.toNatClampNeg k.toNatClampNeg (defaultValue ty) n.toNatClampNeg j hj
    rw [hF, hTh, hz] at this
    exact this
  have hout : Jvm.Free.Multi.outerC cA n.toNatClampNeg H.size n.toNatClampNeg = vp_cell cA (n.toNatClampNeg, .inr (.inr (.inr (.inr (fun i => if i < n.toNatClampNeg then some (H.size + 1 + i) else none))))) := by
    rw [vp_cell_q]
    exact vr_outer cA n.toNatClampNeg H.size n.toNatClampNeg
  rw [hout] at f2
  have hlt : ∀ a, a ∈ L → a < H.size := fun a ha => by
    obtain ⟨k9, hk9⟩ := va_pl_get (X := X) (f := f) ha
    exact (hP k9 _ hk9).lt
  have hnl : ∀ i : Nat, i < n.toNatClampNeg → H.size + 1 + i ∉ L := fun i _ h => by
    have := hlt _ h
    omega
  have hnm : ∀ a, a ∈ (List.range n.toNatClampNeg).map (fun i => H.size + 1 + i) → a ∉ L := fun a ha h => by
    obtain ⟨i, -, rfl⟩ := List.mem_map.mp ha
    have := hlt _ h
    omega
  have hP0 : va_P D cl (X ++ va_pl L f) F.heap := hP.kept (fun k9 x hx => hold x.1 ((hP k9 x hx).lt))
  have hP1 : va_P D cl ((X ++ va_pl L f) ++ [(H.size, .inl (cA, n.toNatClampNeg, .inr (.inr (.inr (.inr (fun i => if i < n.toNatClampNeg then some (H.size + 1 + i) else none))))))]) F.heap := hP0.app (fun k9 x hx => by
    have h0 : k9 < 1 := (List.getElem?_eq_some_iff.mp hx).1
    rw [show k9 = 0 by omega] at hx
    cases hx
    exact f2)
  have hP2 : va_P D cl (((X ++ va_pl L f) ++ [(H.size, .inl (cA, n.toNatClampNeg, .inr (.inr (.inr (.inr (fun i => if i < n.toNatClampNeg then some (H.size + 1 + i) else none))))))]) ++ ((List.range n.toNatClampNeg).map (fun i => H.size + 1 + i)).map (fun a => (a, .inl (cy, z)))) F.heap := hP1.app (fun k9 x hx => by
    obtain ⟨a, ha, rfl⟩ := List.mem_map.mp (List.mem_of_getElem? hx)
    obtain ⟨i, hi, rfl⟩ := List.mem_map.mp ha
    exact hrow i (List.mem_range.mp hi))
  have hD2 : va_D A (((X ++ va_pl L f) ++ [(H.size, .inl (cA, n.toNatClampNeg, .inr (.inr (.inr (.inr (fun i => if i < n.toNatClampNeg then some (H.size + 1 + i) else none))))))]) ++ ((List.range n.toNatClampNeg).map (fun i => H.size + 1 + i)).map (fun a => (a, .inl (cy, z)))) := by
    have hD1 := hD.push (e := .inl (cA, n.toNatClampNeg, .inr (.inr (.inr (.inr (fun i => if i < n.toNatClampNeg then some (H.size + 1 + i) else none)))))) hP rfl (hA _ hS.1)
    generalize hW1 : (X ++ va_pl L f) ++ [(H.size, .inl (cA, n.toNatClampNeg, .inr (.inr (.inr (.inr (fun i => if i < n.toNatClampNeg then some (H.size + 1 + i) else none))))))] = W1 at hD1 hP1 ⊢
    have hle : ∀ (k9 : Nat) (x : Nat × va_E), W1[k9]? = some x → x.1 ≤ H.size := fun k9 x hx => by
      rw [← hW1] at hx
      by_cases hl : k9 < (X ++ va_pl L f).length
      · rw [List.getElem?_append_left hl] at hx
        exact Nat.le_of_lt ((hP k9 x hx).lt)
      · rw [List.getElem?_append_right (by omega)] at hx
        have h0 : k9 - (X ++ va_pl L f).length < 1 := (List.getElem?_eq_some_iff.mp hx).1
        rw [show k9 - (X ++ va_pl L f).length = 0 by omega] at hx
        cases hx
        exact Nat.le_refl _
    have hr : ∀ (k9 : Nat) (x : Nat × va_E), (((List.range n.toNatClampNeg).map (fun i => H.size + 1 + i)).map (fun a => ((a, .inl (cy, z)) : Nat × va_E)))[k9]? = some x → x.1 = H.size + 1 + k9 := fun k9 x hx => by
      rw [List.getElem?_map, List.getElem?_map] at hx
      by_cases h9 : k9 < n.toNatClampNeg
      · rw [List.getElem?_range h9] at hx
        cases hx
        rfl
      · have hn0 : (List.range n.toNatClampNeg)[k9]? = none := List.getElem?_eq_none (by rw [List.length_range]; omega)
        rw [hn0] at hx
        cases hx
    refine ⟨fun i j x y hi hj hxy => ?_, fun k9 x hx => ?_⟩
    · by_cases h1 : i < W1.length <;> by_cases h2 : j < W1.length
      · rw [List.getElem?_append_left h1] at hi
        rw [List.getElem?_append_left h2] at hj
        exact hD1.1 i j x y hi hj hxy
      · rw [List.getElem?_append_left h1] at hi
        rw [List.getElem?_append_right (by omega)] at hj
        have := hle _ _ hi
        have := hr _ _ hj
        omega
      · rw [List.getElem?_append_right (by omega)] at hi
        rw [List.getElem?_append_left h2] at hj
        have := hle _ _ hj
        have := hr _ _ hi
        omega
      · rw [List.getElem?_append_right (by omega)] at hi hj
        have := hr _ _ hi
        have := hr _ _ hj
        omega
    · by_cases h1 : k9 < W1.length
      · rw [List.getElem?_append_left h1] at hx
        exact hD1.2 k9 x hx
      · rw [List.getElem?_append_right (by omega)] at hx
        have := hr _ _ hx
        exact hA _ (by have := hS.1; omega)
  have hAr : ArrOfT s cA (.array ty) := fun N9 z9 => by
    obtain ⟨-, k9, hk9, cm9, hkk9⟩ := (hO 0 0 0).1
    exact ⟨(fun q hq => by cases hq), k9, hk9, cm9, hkk9⟩
  have hK2 : va_K D cl (tys ++ [(cA, .array ty)]) s := ⟨hK.1, fun k9 x hx => by
    by_cases hl : k9 < tys.length
    · rw [List.getElem?_append_left hl] at hx
      exact hK.2 k9 x hx
    · rw [List.getElem?_append_right (by omega)] at hx
      have h0 : k9 - tys.length < 1 := (List.getElem?_eq_some_iff.mp hx).1
      rw [show k9 - tys.length = 0 by omega] at hx
      cases hx
      exact ⟨hAr, fA⟩⟩
  obtain ⟨t, a1, b1⟩ := kk H.size (fun i => H.size + 1 + i) cA F.heap (fun i j _ _ h => by have h9 : H.size + 1 + i = H.size + 1 + j := h; omega) hnl hK2 (by rw [← vr_rows hnm]; exact vr_lay hP2) (by rw [← vr_rows hnm]; exact vr_layD hD2) ⟨by rw [f1]; have := hS.1; omega, fun x h1 h2 => (hold x (Nat.lt_of_lt_of_le h1 hS.1)).trans (hS.2.1 x h1 h2), hS.2.2⟩ F rfl X'
  refine ⟨t, step t ?_, b1⟩
  have e : T.heap.size = H.size := by rw [hT]
  rw [e]
  exact a1
end VGM
/-! ===== END ===== -/

/-! ===== BEGIN exceptions that leave a method, and their catching by the caller (launches without stack traces) ===== -/
section VXA
/-! The laws vx_back, vx_callV, vx_callS, vx_callSW, vx_throw0, vx_throwS follow proofs of the library, with one case more: JvmDerived/Free/Laws.lean (Back.of_free), Shelf42/LK1.lean (callV, callS), Shelf/KitTraced.lean (throwNew0V, throwNewS). -/
/-- where a method has thrown q: the class by its name, the cell, what was written, the world -/
def vx_T (XC : String → State → State → Prop) (st : State) (q : Addr) (t : State) (mc ms : Nat) (free : Addr → Prop) : Prop :=
  ∃ (E : String) (ce : Cell) (L : List Loc), XC E st t ∧ t.heap[q]? = some ce ∧ ce.vm = .none ∧ st.vm.findClass E = some ce.cls ∧ st.WarmedH t.vm ∧ st.sameButNew ({ t with vm := st.vm } : State) L mc ms ∧ ∀ z ∈ L, free z.base
def vx_Q (Qc : Array Value → State → Outcome → State → Prop) (XC : String → State → State → Prop) (mc ms : Nat) (free : Addr → Prop) : Array Value → State → Outcome → State → Prop := fun a st o t =>
  (Qc a st o t ∧ ∃ L, FrameEnd st o t L mc ms ∧ ∀ q ∈ L, free q.base) ∨ ∃ q, o = .threw q ∧ vx_T XC st q t mc ms free
/-- a callee that returns or throws -/
def vx_Met (l : Launch) (y : MethodName) (ws : List Cond) (rm : Room) (Pc : Array Value → State → Prop) (Qc : Array Value → State → Outcome → State → Prop) (XC : String → State → State → Prop) (mc ms : Nat) (free : Addr → Prop) : Prop :=
  MetFree l y (headSpec ws rm) Pc (fun _ _ _ _ _ => True) (vx_Q Qc XC mc ms free)
def vx_Post (XC : String → State → State → Prop) (mc ms : Nat) (free : Addr → Prop) : Pt → Array Value → Addr → Pt → Prop := fun A a q B =>
  ∃ (g : JFrame) (mk : MethodId) (t : State) (L : List Loc) (E : String) (ce : Cell), B.U.heap = t.heap ∧ B.U.vm = t.vm ∧ XC E (A.U.calling g mk a) t ∧ t.heap[q]? = some ce ∧ ce.vm = .none ∧ A.U.vm.findClass E = some ce.cls ∧ B.locs = A.locs ++ L ∧ (∀ z ∈ L, free z.base) ∧ B.cells = A.cells + mc ∧ B.slots = A.slots + ms
def vx_Back (l : Launch) (R : Room) (p : Program) (e : Env) (below : List Frame) (s : State) (sargs : Array Value) (y : MethodName) (len W9 : Nat)
    (Pre : Pt → Array Value → Prop) (Post : Pt → Array Value → Option Value → Pt → Prop) (PostX : Pt → Array Value → Addr → Pt → Prop) : Prop :=
  ∀ (m : MethodId) (meth : Method) (c : Code) (A : Pt) (g : JFrame) (ig : Instr) (mk : MethodId) (a : Array Value),
    Stand p l e R s m sargs below meth c A.U A.locs A.cells A.slots → g.method = m → g.locals.size = c.maxLocals → decode c.code g.pc = .ok (ig, len) →
    2 * g.monitorRoom + (g.stack.map fun v => v.category).sum ≤ W9 → A.U.methodNamed? y = some mk → Pre A a →
    (∃ (v : Option Value) (B : Pt), Stand p l e R s m sargs below meth c B.U B.locs B.cells B.slots ∧ Post A a v B ∧
      Steps p.tables e below (doInvoke e (A.U.setTop g) [] mk a).1 (B.U.setTop { g with pc := g.pc + len, stack := v.toList ++ g.stack })) ∨
    (∃ (q : Addr) (B : Pt), Stand p l e R s m sargs below meth c B.U B.locs B.cells B.slots ∧ PostX A a q B ∧
      Steps p.tables e below (doInvoke e (A.U.setTop g) [] mk a).1 ((B.U.setTop g).pushFrame (.throwing q)))
section Payer
variable {l : Launch} {R : Room} {p : Program} {e : Env} {below : List Frame} {s : State} {sargs : Array Value} {y : MethodName} {len W9 : Nat}
theorem vx_back {ws : List Cond} {rm : Room} {Pc : Array Value → State → Prop} {Qc : Array Value → State → Outcome → State → Prop} {XC : String → State → State → Prop} {mc ms : Nat} {free : Addr → Prop} {bytes : ByteArray} {maxL : Nat} {ret : Option FieldType}
    (hM : vx_Met l y ws rm Pc Qc XC mc ms free) (hblind : FrameBlind Pc) (hrc : rm.cells = mc) (hrs : rm.slots = ms)
    (hframes : rm.frames + 1 ≤ R.frames) (hlocals : W9 + (maxL + 11) + rm.locals ≤ R.locals)
    (hws : ∀ w ∈ ws, ∀ a' U, s.WarmedH U.vm → w.before a' U = true) (hcode : Cond.code y bytes maxL ret ∈ ws) (hinit : ∀ a' U, s.WarmedH U.vm → (Cond.initialized y.cls).before a' U = true) :
    vx_Back l R p e below s sargs y len W9 (PreOf R mc ms Pc) (PostOf Qc mc ms free) (vx_Post XC mc ms free) := by
  intro m meth c A g ig mk a X hg hsize hdg hW hn hp
  have h1 : (headSpec ws rm).pre.before a A.U = true := atoms_intro fun w hw => hws w hw _ _ X.warmed
  have h2 : (Cond.code y bytes maxL ret).before a A.U = true := hws _ hcode _ _ X.warmed
  have h3 : (Cond.initialized y.cls).before a A.U = true := hinit _ _ X.warmed
  have h4 : A.cells + (headSpec ws rm).room.cells ≤ R.cells := by rw [show (headSpec ws rm).room.cells = mc from hrc]; exact hp.1
  have h5 : A.slots + (headSpec ws rm).room.slots ≤ R.slots := by rw [show (headSpec ws rm).room.slots = ms from hrs]; exact hp.2.1
  have hPc : Pc a (A.U.calling g mk a) := hblind _ _ _ _ hp.2.2
  obtain ⟨U, Ls, c0, s0⟩ := A
  dsimp only [Pt.U, Pt.locs, Pt.cells, Pt.slots] at h1 h2 h3 h4 h5 X hn hPc ⊢
  obtain ⟨methY, cY, hmY, hcY, -, hlY, -, -, -, -⟩ := Cond.code_spec hn h2
  obtain ⟨kY, hkY, -⟩ := className_of_methodNamed hn
  have hinitY : kY.init = .initialized := Cond.initialized_spec (findClass_of_methodNamed hn) hkY h3
  have h : At U g.method c below := by rw [hg]; exact X.here
  have hlocals9 : W9 + (maxL + 11) + (headSpec ws rm).room.locals ≤ R.locals := hlocals
  have happ : (headSpec ws rm).appliesLoose y e.platform (U.calling g mk a) = true :=
    Spec.appliesLoose_calling (g := g) h hdg hn hkY hinitY
      (X.room_calling (g := g) (R' := (headSpec ws rm).room) hsize hmY hcY hframes (by rw [hlY]; omega) h4 h5) h1
  obtain ⟨mid, hmid⟩ := h.above
  have hfr : (U.setTop g).frames = (.java g :: mid) ++ below := by rw [State.frames_setTop' g h.top, hmid]; rfl
  obtain ⟨o, s₂, hsteps, -, hend, hq⟩ := Steps.callFree hM p X.admits X.cas X.clock (acts := []) hfr happ hPc trivial
  have hq' : vx_Q Qc XC mc ms free a (U.calling g mk a) o s₂ := hq
  rw [State.frames_setTop' g h.top] at hend
  obtain ⟨g₀, hg0⟩ := Option.isSome_iff_exists.mp h.top
  obtain ⟨r, hr⟩ := State.topJava?_eq_some.mp hg0
  have hr' : (({ U with heap := s₂.heap, slotsUsed := s₂.slotsUsed } : State).setVm s₂.vm).frames = .java g₀ :: r := hr
  rcases hq' with ⟨hqc, L, hfe, hL⟩ | ⟨q, rfl, E, ce, L, hx, hce, hcv, hcl, hW₂, hsm, hL⟩
  · obtain ⟨⟨v, rfl⟩, hW₂, e2, q2, q3, q4, q5, q6⟩ := id hfe
    have e3 : s₂ = ({ (U.calling g mk a).setFrames s₂.frames with heap := s₂.heap, slotsUsed := s₂.slotsUsed } : State).setVm s₂.vm := by
      have : s₂ = ({ s₂ with vm := (U.calling g mk a).vm } : State).setVm s₂.vm := rfl
      rw [e2] at this
      exact this
    obtain ⟨c₂, i₂, len₂, hc₂, hd₂, hf₂⟩ := hend
    have hW' : U.WarmedH s₂.vm := hW₂
    have hcc : c₂ = c := by
      have h1 : s₂.code? g.method = U.code? g.method := by
        rw [State.code?_eq, State.code?_eq, hW'.alike.method?]
      exact Option.some.inj (hc₂.symm.trans (h1.trans h.code))
    subst hcc
    have hlen : len₂ = len := by rw [hdg] at hd₂; cases hd₂; rfl
    subst hlen
    have hs₂ : s₂ = (({ U with heap := s₂.heap, slotsUsed := s₂.slotsUsed } : State).setVm s₂.vm).setTop { g with pc := g.pc + len₂, stack := v.toList ++ g.stack } := by
      refine e3.trans ?_
      rw [hf₂, State.calling_eq h.top, State.setFrames_setFrames, State.setTop_of_frames _ hr', hr]
      rfl
    have hsame : U.sameButNew ({ U with heap := s₂.heap, slotsUsed := s₂.slotsUsed } : State) L mc ms := by
      refine ⟨?_, q2, q3, q4, q5, q6⟩
      obtain ⟨t, ht, -⟩ := State.frames_cons hr
      show ({ U with heap := s₂.heap, slotsUsed := s₂.slotsUsed } : State) = { U.setFrames U.frames with heap := s₂.heap, slotsUsed := s₂.slotsUsed }
      rw [State.setFrames_self ht]
    subst hg
    refine Or.inl ⟨v, ⟨(({ U with heap := s₂.heap, slotsUsed := s₂.slotsUsed } : State).setVm s₂.vm), Ls ++ L, c0 + mc, s0 + ms⟩,
      ⟨X.admits, X.cas, X.clock, X.frames, X.room, X.hears, X.method, X.code, (X.here.setHeapUsed s₂.heap s₂.slotsUsed).setVm hW'.alike, X.tail, State.WarmedH.trans X.warmed hW', X.limits, X.bytes, X.same.trans (hsame.setVm s.vm)⟩,
      ⟨g, mk, s₂, L, rfl, rfl, hqc, rfl, hL, rfl, rfl⟩, ?_⟩
    show Steps p.tables e below _ ((({ U with heap := s₂.heap, slotsUsed := s₂.slotsUsed } : State).setVm s₂.vm).setTop { g with pc := g.pc + len₂, stack := v.toList ++ g.stack })
    rw [← hs₂]
    exact hsteps
  · obtain ⟨e2, q2, q3, q4, q5, q6⟩ := id hsm
    have e3 : s₂ = ({ (U.calling g mk a).setFrames s₂.frames with heap := s₂.heap, slotsUsed := s₂.slotsUsed } : State).setVm s₂.vm := by
      have : s₂ = ({ s₂ with vm := (U.calling g mk a).vm } : State).setVm s₂.vm := rfl
      rw [e2] at this
      exact this
    have hf₂ : s₂.frames = .throwing q :: .java g :: U.frames.tail := hend
    have hW' : U.WarmedH s₂.vm := hW₂
    have hs₂ : s₂ = ((({ U with heap := s₂.heap, slotsUsed := s₂.slotsUsed } : State).setVm s₂.vm).setTop g).pushFrame (.throwing q) := by
      refine e3.trans ?_
      rw [hf₂, State.calling_eq h.top, State.setFrames_setFrames, State.pushFrame, State.frames_setTop _ hr', State.setTop_of_frames _ hr', State.setFrames_setFrames, hr]
      rfl
    have hsame : U.sameButNew ({ U with heap := s₂.heap, slotsUsed := s₂.slotsUsed } : State) L mc ms := by
      refine ⟨?_, q2, q3, q4, q5, q6⟩
      obtain ⟨t, ht, -⟩ := State.frames_cons hr
      show ({ U with heap := s₂.heap, slotsUsed := s₂.slotsUsed } : State) = { U.setFrames U.frames with heap := s₂.heap, slotsUsed := s₂.slotsUsed }
      rw [State.setFrames_self ht]
    subst hg
    refine Or.inr ⟨q, ⟨(({ U with heap := s₂.heap, slotsUsed := s₂.slotsUsed } : State).setVm s₂.vm), Ls ++ L, c0 + mc, s0 + ms⟩,
      ⟨X.admits, X.cas, X.clock, X.frames, X.room, X.hears, X.method, X.code, (X.here.setHeapUsed s₂.heap s₂.slotsUsed).setVm hW'.alike, X.tail, State.WarmedH.trans X.warmed hW', X.limits, X.bytes, X.same.trans (hsame.setVm s.vm)⟩,
      ⟨g, mk, s₂, L, E, ce, rfl, rfl, hx, hce, hcv, hcl, rfl, hL, rfl, rfl⟩, ?_⟩
    show Steps p.tables e below _ (((({ U with heap := s₂.heap, slotsUsed := s₂.slotsUsed } : State).setVm s₂.vm).setTop g).pushFrame (.throwing q))
    rw [← hs₂]
    exact hsteps
end Payer
section Calls
variable {p : Program} {l : Launch} {e : Env} {R : Room} {s : State} {m : MethodId} {args : Array Value} {below : List Frame} {meth : Method} {c : Code} {T : State} {locs : List Loc} {cells slots : Nat}
theorem vx_callV (X : Stand p l e R s m args below meth c T locs cells slots) (hexec : p.tables.exec = Jvm.exec) {own C : String} {index : Nat} {y : MethodName} {bytes : ByteArray} {maxL : Nat} {ret : Option FieldType}
    (hown : s.vm.findClass own = some m.cls) (hlink : (Cond.methodLink own index y).before args s = true) (hinst : (Cond.instanceMethod y).before args s = true) (hsel : (Cond.selects C y y).before args s = true)
    (hcode : (Cond.code y bytes maxL ret).before args s = true) (hy : y.cls ≠ "java/lang/invoke/MethodHandle" ∧ y.cls ≠ "java/lang/invoke/VarHandle")
    {W9 : Nat} {Pre : Pt → Array Value → Prop} {Post : Pt → Array Value → Option Value → Pt → Prop} {PostX : Pt → Array Value → Addr → Pt → Prop} (hK : vx_Back l R p e below s args y 3 W9 Pre Post PostX)
    {b : Addr} {cellB : Cell} (hcell : T.heap[b]? = some cellB) (hobj : cellB.vm.isStatics = false) (hcls : s.vm.findClass C = some cellB.cls)
    {g : JFrame} (hg : g.method = m) (hsize : g.locals.size = c.maxLocals) {argsL rest : List Value} (hlen : ∀ sig, parseMethodDescriptor y.desc = some sig → argsL.length = sig.parameters.length)
    (hstack : g.stack = argsL.reverse ++ .ref b :: rest) (hW : 2 * g.monitorRoom + (rest.map fun v => v.category).sum ≤ W9) (hdg : decode c.code g.pc = .ok (.invokevirtual index, 3))
    (hpre : ∀ vm₁, s.WarmedH vm₁ → Pre ⟨T.setVm vm₁, locs, cells, slots⟩ (Value.ref b :: argsL).toArray) :
    (∃ (v : Option Value) (vm₁ : Vm) (B : Pt), s.WarmedH vm₁ ∧ Stand p l e R s m args below meth c B.U B.locs B.cells B.slots ∧ Post ⟨T.setVm vm₁, locs, cells, slots⟩ (Value.ref b :: argsL).toArray v B ∧
      ∀ target, Steps p.tables e below (B.U.setTop { g with pc := g.pc + 3, stack := v.toList ++ rest }) target → Steps p.tables e below (T.setTop g) target) ∨
    (∃ (q : Addr) (vm₁ : Vm) (B : Pt), s.WarmedH vm₁ ∧ Stand p l e R s m args below meth c B.U B.locs B.cells B.slots ∧ PostX ⟨T.setVm vm₁, locs, cells, slots⟩ (Value.ref b :: argsL).toArray q B ∧
      Steps p.tables e below (T.setTop g) ((B.U.setTop { g with stack := rest }).pushFrame (.throwing q))) := by
  obtain ⟨mk, methM, hnamed, hmethM, hstM, habM⟩ := Cond.instanceMethod_spec hinst
  obtain ⟨methM', cM, hmethM', -, -, -, -, -, -, hsigM⟩ := Cond.code_spec hnamed hcode
  cases hmethM.symm.trans hmethM'
  obtain ⟨c2, r2, m2, q1, q2, q3, q4, kP, hkP, hkPi⟩ := Cond.selects_spec hsel
  cases hcls.symm.trans q1
  cases (State.methodFound?_of_named hnamed hy).symm.trans q2
  cases hnamed.symm.trans q3
  have hselP : selectMethod e.platform s.vm cellB.cls mk = .method mk := by rw [Launch.admits_selectMethod X.admits]; exact q4
  obtain ⟨vm₁, X₁, hstep₁⟩ := X.invokevirtual hexec hown hlink hnamed hmethM hstM hkP hkPi hy (a := b) (cell := cellB) hcell
    (fun z h => by rw [h] at hobj; cases hobj) hselP hmethM habM hkP hkPi (g := g) hg (argsL := argsL) (rest := rest) (hlen _ hsigM) hstack hdg
  rcases hK m meth c ⟨T.setVm vm₁, locs, cells, slots⟩ { g with stack := rest } (.invokevirtual index) mk (Value.ref b :: argsL).toArray X₁ hg hsize hdg hW (X₁.named hnamed) (hpre vm₁ X₁.warmed) with ⟨v, B, X', hpost, hsteps⟩ | ⟨q, B, X', hpost, hsteps⟩
  · exact Or.inl ⟨v, vm₁, B, X₁.warmed, X', hpost, fun target h => hstep₁ _ fun acts => by rw [doInvoke_state]; exact hsteps.trans h⟩
  · exact Or.inr ⟨q, vm₁, B, X₁.warmed, X', hpost, hstep₁ _ fun acts => by rw [doInvoke_state]; exact hsteps⟩
theorem vx_callS (X : Stand p l e R s m args below meth c T locs cells slots) (hexec : p.tables.exec = Jvm.exec) {own : String} {index : Nat} {y : MethodName} {bytes : ByteArray} {maxL : Nat} {ret : Option FieldType}
    (hown : s.vm.findClass own = some m.cls) (hlink : (Cond.methodLink own index y).before args s = true) (hstat : (Cond.static y).before args s = true) (hinit : (Cond.initialized y.cls).before args s = true)
    (hcode : (Cond.code y bytes maxL ret).before args s = true) (hy : y.cls ≠ "java/lang/invoke/MethodHandle" ∧ y.cls ≠ "java/lang/invoke/VarHandle")
    {W9 : Nat} {Pre : Pt → Array Value → Prop} {Post : Pt → Array Value → Option Value → Pt → Prop} {PostX : Pt → Array Value → Addr → Pt → Prop} (hK : vx_Back l R p e below s args y 3 W9 Pre Post PostX)
    {g : JFrame} (hg : g.method = m) (hsize : g.locals.size = c.maxLocals) {argsL rest : List Value} (hlen : ∀ sig, parseMethodDescriptor y.desc = some sig → argsL.length = sig.parameters.length)
    (hstack : g.stack = argsL.reverse ++ rest) (hW : 2 * g.monitorRoom + (rest.map fun v => v.category).sum ≤ W9) (hdg : decode c.code g.pc = .ok (.invokestatic index, 3))
    (hpre : ∀ vm₁, s.WarmedH vm₁ → Pre ⟨T.setVm vm₁, locs, cells, slots⟩ argsL.toArray) :
    (∃ (v : Option Value) (vm₁ : Vm) (B : Pt), s.WarmedH vm₁ ∧ Stand p l e R s m args below meth c B.U B.locs B.cells B.slots ∧ Post ⟨T.setVm vm₁, locs, cells, slots⟩ argsL.toArray v B ∧
      ∀ target, Steps p.tables e below (B.U.setTop { g with pc := g.pc + 3, stack := v.toList ++ rest }) target → Steps p.tables e below (T.setTop g) target) ∨
    (∃ (q : Addr) (vm₁ : Vm) (B : Pt), s.WarmedH vm₁ ∧ Stand p l e R s m args below meth c B.U B.locs B.cells B.slots ∧ PostX ⟨T.setVm vm₁, locs, cells, slots⟩ argsL.toArray q B ∧
      Steps p.tables e below (T.setTop g) ((B.U.setTop { g with stack := rest }).pushFrame (.throwing q))) := by
  obtain ⟨mk, hnamed⟩ := Cond.code_named hcode
  obtain ⟨methM, cM, hmethM, -, -, -, -, -, -, hsigM⟩ := Cond.code_spec hnamed hcode
  have hstatic : methM.isStatic = true := Cond.static_spec hnamed hmethM hstat
  obtain ⟨kP, hkP, -⟩ := className_of_methodNamed hnamed
  have hinitP : kP.init = .initialized := Cond.initialized_spec (findClass_of_methodNamed hnamed) hkP hinit
  obtain ⟨vm₁, X₁, hstep₁⟩ := X.invokestatic hexec hown hlink hnamed hmethM hstatic hkP hinitP hy (g := g) hg (argsL := argsL) (rest := rest) (hlen _ hsigM) hstack hdg
  rcases hK m meth c ⟨T.setVm vm₁, locs, cells, slots⟩ { g with stack := rest } (.invokestatic index) mk argsL.toArray X₁ hg hsize hdg hW (X₁.named hnamed) (hpre vm₁ X₁.warmed) with ⟨v, B, X', hpost, hsteps⟩ | ⟨q, B, X', hpost, hsteps⟩
  · exact Or.inl ⟨v, vm₁, B, X₁.warmed, X', hpost, fun target h => hstep₁ _ fun acts => by rw [doInvoke_state]; exact hsteps.trans h⟩
  · exact Or.inr ⟨q, vm₁, B, X₁.warmed, X', hpost, hstep₁ _ fun acts => by rw [doInvoke_state]; exact hsteps⟩
end Calls
theorem vx_cls {s : State} {T : State} {vm₁ : Vm} {E : String} {k : ClassId} (hW : s.WarmedH vm₁) (h : (T.setVm vm₁).vm.findClass E = some k) : s.vm.findClass E = some k := by
  have h1 : vm₁.findClass E = some k := h
  rw [hW.alike.findClass] at h1
  exact h1
/-- the method's frame g, with q thrown over it -/
def vx_W (p : Program) (l : Launch) (e : Env) (R : Room) (s : State) (m : MethodId) (args : Array Value) (below : List Frame) (meth : Method) (c : Code) (H : Heap) (locs : List Loc) (cells slots : Nat) (Q : State → Prop) (g : JFrame) (q : Addr) : Prop :=
  ∀ T : State, T.heap = H → Stand p l e R s m args below meth c T locs cells slots → ∃ t, Steps p.tables e below ((T.setTop g).pushFrame (.throwing q)) t ∧ Q t
def vx_Run (p : Program) (l : Launch) (e : Env) (R : Room) (s : State) (m : MethodId) (args : Array Value) (below : List Frame) (meth : Method) (c : Code) (H : Heap) (locs : List Loc) (cells slots mc ms : Nat) (g : JFrame) (rest : List Value) (Qa : State → Outcome → State → Prop) (XC : String → State → State → Prop) (free : Addr → Prop) : Prop :=
  ∀ T : State, T.heap = H → Stand p l e R s m args below meth c T locs cells slots →
    (∃ (v : Option Value) (st₀ t T' : State) (L : List Loc), st₀.heap = H ∧ Stand p l e R s m args below meth c T' (locs ++ L) (cells + mc) (slots + ms) ∧ (∀ q ∈ L, free q.base) ∧ T'.heap = t.heap ∧ T'.vm = t.vm ∧ Qa st₀ (.returned v) t ∧
      Goes p e below T g T' { g with pc := g.pc + 3, stack := v.toList ++ rest }) ∨
    (∃ (q : Addr) (st₀ t T' : State) (L : List Loc) (E : String) (ce : Cell), st₀.heap = H ∧ Stand p l e R s m args below meth c T' (locs ++ L) (cells + mc) (slots + ms) ∧ (∀ z ∈ L, free z.base) ∧ T'.heap = t.heap ∧ T'.vm = t.vm ∧ XC E st₀ t ∧ t.heap[q]? = some ce ∧ ce.vm = .none ∧ s.vm.findClass E = some ce.cls ∧
      Steps p.tables e below (T.setTop g) ((T'.setTop { g with stack := rest }).pushFrame (.throwing q)))
def vx_X {S : Type} (px : S → Prop) (B : String → S → State → Prop) (A : Nat → Prop) : String → State → State → Prop := fun E st t => ∃ u : S, px u ∧ B E u t ∧ va_F A st t
section Runs
variable {p : Program} {l : Launch} {e : Env} {R : Room} {s : State} {m : MethodId} {args : Array Value} {below : List Frame} {meth : Method} {c : Code} {H : Heap} {locs : List Loc} {cells slots : Nat}
variable {y : MethodName} {bytes cc : ByteArray} {maxL nL mc ms n index : Nat} {ret : Option FieldType} {ws : List Cond} {rm : Room} {Pc : Array Value → State → Prop} {Qc : Array Value → State → Outcome → State → Prop} {XC : String → State → State → Prop} {free : Addr → Prop} {Ts : List Cond} {own C : String} {b : Addr} {As rest : List Value} {g : JFrame}
theorem vx_callBack (cb : CallB R s args own index y bytes maxL ret ws rm mc ms n) (hM : vx_Met l y ws rm Pc Qc XC mc ms free) (hbl : FrameBlind Pc) : vx_Back l R p e below s args y 3 8 (PreOf R mc ms Pc) (PostOf Qc mc ms free) (vx_Post XC mc ms free) := by
  obtain ⟨hrc, hrs, hfr, hlo, hws, hcw, -, hini, -⟩ := cb
  exact vx_back (bytes := bytes) (maxL := maxL) (ret := ret) hM hbl hrc hrs hfr hlo hws hcw (fun a' U hW => word_at hW (Or.inl (by first | rfl | simp [Cond.onTables, Cond.keeps, Cond.steady])) hini)
theorem vx_runV (S : CallFix p m c cc nL s args Ts own) (hM : vx_Met l y ws rm Pc Qc XC mc ms free) (cw : CallW R s args own C index y bytes maxL ret ws rm mc ms n) (hp : PreV s H C b Pc As)
    (hg : g.method = m) (hn : As.length = n) (hsize : g.locals.size = nL) (hstack : g.stack = As.reverse ++ .ref b :: rest) (hW : 2 * g.monitorRoom + (rest.map fun v => v.category).sum ≤ 8) (hdg : decode cc g.pc = .ok (.invokevirtual index, 3)) (hf : cells + mc ≤ R.cells ∧ slots + ms ≤ R.slots) :
    vx_Run p l e R s m args below meth c H locs cells slots mc ms g rest (Qc (Value.ref b :: As).toArray) XC free := by
  have hK : vx_Back l R p e below s args y 3 8 (PreOf R mc ms Pc) (PostOf Qc mc ms free) (vx_Post XC mc ms free) := vx_callBack cw.1 hM hp.1
  obtain ⟨⟨-, -, -, -, -, -, hcode, -, hy, hlen, hl⟩, hin, hse⟩ := cw
  obtain ⟨hx, hb, hml, ho, -⟩ := S
  obtain ⟨-, ⟨cellB, hcB, hoB, hclB⟩, hPc⟩ := hp
  intro T hT X
  rcases vx_callV X hx (C := C) (bytes := bytes) (maxL := maxL) (ret := ret) ho hl hin hse hcode hy hK (by rw [hT]; exact hcB) hoB hclB hg (hsize.trans hml.symm) (argsL := As) (rest := rest) (fun sig h => hn.trans (hlen sig h)) hstack hW (by rw [hb]; exact hdg)
    (fun vm₁ hW₁ => ⟨hf.1, hf.2, hPc (T.setVm vm₁) hT hW₁⟩) with ⟨v, vm₁, ⟨U', l2, c2, s2⟩, hW₁, X', ⟨g', mk, t, L, e1, e2, hq, h1, hL, h2, h3⟩, st⟩ | ⟨q, vm₁, ⟨U', l2, c2, s2⟩, hW₁, X', ⟨g', mk, t, L, E, ce, e1, e2, hq, hce, hcv, hcl, h1, hL, h2, h3⟩, st⟩
  · dsimp only [Pt.U, Pt.locs, Pt.cells, Pt.slots] at X' e1 e2 h1 h2 h3 st
    subst h1; subst h2; subst h3
    exact Or.inl ⟨v, (T.setVm vm₁).calling g' mk (Value.ref b :: As).toArray, t, U', L, hT, X', hL, e1, e2, hq, st⟩
  · dsimp only [Pt.U, Pt.locs, Pt.cells, Pt.slots] at X' e1 e2 h1 h2 h3 st hcl
    subst h1; subst h2; subst h3
    exact Or.inr ⟨q, (T.setVm vm₁).calling g' mk (Value.ref b :: As).toArray, t, U', L, E, ce, hT, X', hL, e1, e2, hq, hce, hcv, vx_cls hW₁ hcl, st⟩
theorem vx_runS (S : CallFix p m c cc nL s args Ts own) (hM : vx_Met l y ws rm Pc Qc XC mc ms free) (cw : CallB R s args own index y bytes maxL ret ws rm mc ms n ∧ (Cond.static y).before args s = true) (hp : PreS s H Pc As)
    (hg : g.method = m) (hn : As.length = n) (hsize : g.locals.size = nL) (hstack : g.stack = As.reverse ++ rest) (hW : 2 * g.monitorRoom + (rest.map fun v => v.category).sum ≤ 8) (hdg : decode cc g.pc = .ok (.invokestatic index, 3)) (hf : cells + mc ≤ R.cells ∧ slots + ms ≤ R.slots) :
    vx_Run p l e R s m args below meth c H locs cells slots mc ms g rest (Qc As.toArray) XC free := by
  have hK : vx_Back l R p e below s args y 3 8 (PreOf R mc ms Pc) (PostOf Qc mc ms free) (vx_Post XC mc ms free) := vx_callBack cw.1 hM hp.1
  obtain ⟨⟨-, -, -, -, -, -, hcode, hini, hy, hlen, hl⟩, hstt⟩ := cw
  obtain ⟨hx, hb, hml, ho, -⟩ := S
  intro T hT X
  rcases vx_callS X hx (bytes := bytes) (maxL := maxL) (ret := ret) ho hl hstt hini hcode hy hK hg (hsize.trans hml.symm) (argsL := As) (rest := rest) (fun sig h => hn.trans (hlen sig h)) hstack hW (by rw [hb]; exact hdg)
    (fun vm₁ hW₁ => ⟨hf.1, hf.2, hp.2 (T.setVm vm₁) hT hW₁⟩) with ⟨v, vm₁, ⟨U', l2, c2, s2⟩, hW₁, X', ⟨g', mk, t, L, e1, e2, hq, h1, hL, h2, h3⟩, st⟩ | ⟨q, vm₁, ⟨U', l2, c2, s2⟩, hW₁, X', ⟨g', mk, t, L, E, ce, e1, e2, hq, hce, hcv, hcl, h1, hL, h2, h3⟩, st⟩
  · dsimp only [Pt.U, Pt.locs, Pt.cells, Pt.slots] at X' e1 e2 h1 h2 h3 st
    subst h1; subst h2; subst h3
    exact Or.inl ⟨v, (T.setVm vm₁).calling g' mk As.toArray, t, U', L, hT, X', hL, e1, e2, hq, st⟩
  · dsimp only [Pt.U, Pt.locs, Pt.cells, Pt.slots] at X' e1 e2 h1 h2 h3 st hcl
    subst h1; subst h2; subst h3
    exact Or.inr ⟨q, (T.setVm vm₁).calling g' mk As.toArray, t, U', L, E, ce, hT, X', hL, e1, e2, hq, hce, hcv, vx_cls hW₁ hcl, st⟩
end Runs
section Rows
variable {p : Program} {l : Launch} {e : Env} {R : Room} {s : State} {m : MethodId} {args : Array Value} {below : List Frame} {meth : Method} {c : Code} {H : Heap} {locs : List Loc} {cells slots : Nat} {Q : State → Prop}
variable {mc ms : Nat} {free : Addr → Prop} {A0 A1 : Nat → Prop} {H0 : Heap} {a : Array Value} {pc : Nat} {ls : Array Slot} {st0 rest : List Value}
theorem vx_keep {st₀ t T' : State} {L : List Loc} (h0 : st₀.heap = H) (e1 : T'.heap = t.heap) (hS : va_S A0 H0 H locs) (hA : ∀ q, q < H.size → A1 q → A0 q) (hf : ∀ q, free q → A0 q) (hL : ∀ q ∈ L, free q.base) (hF : va_F A1 st₀ t) :
    H.size ≤ T'.heap.size ∧ (∀ q : Nat, q < H.size → ¬ A1 q → T'.heap[q]? = H[q]?) ∧ va_S A0 H0 T'.heap (locs ++ L) := by
  obtain ⟨hz, hk⟩ := hF
  rw [h0] at hz hk
  exact ⟨by rw [e1]; exact hz, fun q h1 h2 => by rw [e1]; exact hk q h1 h2,
    ⟨Nat.le_trans hS.1 (by rw [e1]; exact hz), fun q h1 h2 => by rw [e1, hk q (Nat.lt_of_lt_of_le h1 hS.1) (fun z => h2 (hA q (Nat.lt_of_lt_of_le h1 hS.1) z))]; exact hS.2.1 q h1 h2, fun q hq => by
      rcases List.mem_append.mp hq with h | h
      · exact hS.2.2 q h
      · exact hf _ (hL q h)⟩⟩
theorem vx_calli {S SX : Type} {post : Int32 → S → Prop} {px : SX → Prop} {B : S → State → Prop} {BX : String → SX → State → Prop} {AX : Nat → Prop} (hr : vx_Run p l e R s m args below meth c H locs cells slots mc ms (F0 m pc ls st0) rest (va_Qi post B A1 a) (vx_X px BX AX) free) (hS : va_S A0 H0 H locs) (hA : ∀ q, q < H.size → A1 q → A0 q) (hf : ∀ q, free q → A0 q) (hAX : ∀ q, q < H.size → AX q → A0 q)
    (kx : ∀ (E : String) (ce : Cell) (q9 : Addr) (u : SX) (t : State) (H1 : Heap) (locs1 : List Loc), t.heap = H1 → s.vm.Alike t.vm → px u → BX E u t → H.size ≤ H1.size → (∀ q : Nat, q < H.size → ¬ AX q → H1[q]? = H[q]?) → va_S A0 H0 H1 locs1 → H1[q9]? = some ce → ce.vm = .none → s.vm.findClass E = some ce.cls → vx_W p l e R s m args below meth c H1 locs1 (cells + mc) (slots + ms) Q (F0 m pc ls rest) q9)
    (kk : ∀ (r : Int32) (u : S) (t : State) (H1 : Heap) (locs1 : List Loc), t.heap = H1 → s.vm.Alike t.vm → post r u → B u t → H.size ≤ H1.size → (∀ q : Nat, q < H.size → ¬ A1 q → H1[q]? = H[q]?) → va_S A0 H0 H1 locs1 → W p l e R s m args below meth c H1 locs1 (cells + mc) (slots + ms) Q (F0 m (pc + 3) ls (.int r :: rest))) : W p l e R s m args below meth c H locs cells slots Q (F0 m pc ls st0) := by
  intro T hT X
  rcases hr T hT X with ⟨v, st₀, t, T', L, h0, X', hL, e1, e2, ⟨⟨r, u, hv, hp, hb⟩, hF⟩, st⟩ | ⟨q, st₀, t, T', L, E, ce, h0, X', hL, e1, e2, ⟨u, hp, hb, hF⟩, hce, hcv, hcl, st⟩
  · cases hv
    obtain ⟨k1, k2, k3⟩ := vx_keep h0 e1 hS hA hf hL hF
    obtain ⟨t2, a1, b1⟩ := kk r u t T'.heap (locs ++ L) e1.symm (by rw [← e2]; exact X'.warmed.alike) hp hb k1 k2 k3 T' rfl X'
    exact ⟨t2, st t2 a1, b1⟩
  · obtain ⟨k1, k2, k3⟩ := vx_keep h0 e1 hS hAX hf hL hF
    obtain ⟨t2, a1, b1⟩ := kx E ce q u t T'.heap (locs ++ L) e1.symm (by rw [← e2]; exact X'.warmed.alike) hp hb k1 k2 k3 (by rw [e1]; exact hce) hcv hcl T' rfl X'
    exact ⟨t2, st.trans a1, b1⟩
theorem vx_calll {S SX : Type} {post : Int64 → S → Prop} {px : SX → Prop} {B : S → State → Prop} {BX : String → SX → State → Prop} {AX : Nat → Prop} (hr : vx_Run p l e R s m args below meth c H locs cells slots mc ms (F0 m pc ls st0) rest (va_Ql post B A1 a) (vx_X px BX AX) free) (hS : va_S A0 H0 H locs) (hA : ∀ q, q < H.size → A1 q → A0 q) (hf : ∀ q, free q → A0 q) (hAX : ∀ q, q < H.size → AX q → A0 q)
    (kx : ∀ (E : String) (ce : Cell) (q9 : Addr) (u : SX) (t : State) (H1 : Heap) (locs1 : List Loc), t.heap = H1 → s.vm.Alike t.vm → px u → BX E u t → H.size ≤ H1.size → (∀ q : Nat, q < H.size → ¬ AX q → H1[q]? = H[q]?) → va_S A0 H0 H1 locs1 → H1[q9]? = some ce → ce.vm = .none → s.vm.findClass E = some ce.cls → vx_W p l e R s m args below meth c H1 locs1 (cells + mc) (slots + ms) Q (F0 m pc ls rest) q9)
    (kk : ∀ (r : Int64) (u : S) (t : State) (H1 : Heap) (locs1 : List Loc), t.heap = H1 → s.vm.Alike t.vm → post r u → B u t → H.size ≤ H1.size → (∀ q : Nat, q < H.size → ¬ A1 q → H1[q]? = H[q]?) → va_S A0 H0 H1 locs1 → W p l e R s m args below meth c H1 locs1 (cells + mc) (slots + ms) Q (F0 m (pc + 3) ls (.long r :: rest))) : W p l e R s m args below meth c H locs cells slots Q (F0 m pc ls st0) := by
  intro T hT X
  rcases hr T hT X with ⟨v, st₀, t, T', L, h0, X', hL, e1, e2, ⟨⟨r, u, hv, hp, hb⟩, hF⟩, st⟩ | ⟨q, st₀, t, T', L, E, ce, h0, X', hL, e1, e2, ⟨u, hp, hb, hF⟩, hce, hcv, hcl, st⟩
  · cases hv
    obtain ⟨k1, k2, k3⟩ := vx_keep h0 e1 hS hA hf hL hF
    obtain ⟨t2, a1, b1⟩ := kk r u t T'.heap (locs ++ L) e1.symm (by rw [← e2]; exact X'.warmed.alike) hp hb k1 k2 k3 T' rfl X'
    exact ⟨t2, st t2 a1, b1⟩
  · obtain ⟨k1, k2, k3⟩ := vx_keep h0 e1 hS hAX hf hL hF
    obtain ⟨t2, a1, b1⟩ := kx E ce q u t T'.heap (locs ++ L) e1.symm (by rw [← e2]; exact X'.warmed.alike) hp hb k1 k2 k3 (by rw [e1]; exact hce) hcv hcl T' rfl X'
    exact ⟨t2, st.trans a1, b1⟩
theorem vx_callf {S SX : Type} {post : UInt32 → S → Prop} {px : SX → Prop} {B : S → State → Prop} {BX : String → SX → State → Prop} {AX : Nat → Prop} (hr : vx_Run p l e R s m args below meth c H locs cells slots mc ms (F0 m pc ls st0) rest (va_Qf post B A1 a) (vx_X px BX AX) free) (hS : va_S A0 H0 H locs) (hA : ∀ q, q < H.size → A1 q → A0 q) (hf : ∀ q, free q → A0 q) (hAX : ∀ q, q < H.size → AX q → A0 q)
    (kx : ∀ (E : String) (ce : Cell) (q9 : Addr) (u : SX) (t : State) (H1 : Heap) (locs1 : List Loc), t.heap = H1 → s.vm.Alike t.vm → px u → BX E u t → H.size ≤ H1.size → (∀ q : Nat, q < H.size → ¬ AX q → H1[q]? = H[q]?) → va_S A0 H0 H1 locs1 → H1[q9]? = some ce → ce.vm = .none → s.vm.findClass E = some ce.cls → vx_W p l e R s m args below meth c H1 locs1 (cells + mc) (slots + ms) Q (F0 m pc ls rest) q9)
    (kk : ∀ (r : UInt32) (u : S) (t : State) (H1 : Heap) (locs1 : List Loc), t.heap = H1 → s.vm.Alike t.vm → post r u → B u t → H.size ≤ H1.size → (∀ q : Nat, q < H.size → ¬ A1 q → H1[q]? = H[q]?) → va_S A0 H0 H1 locs1 → W p l e R s m args below meth c H1 locs1 (cells + mc) (slots + ms) Q (F0 m (pc + 3) ls (.float r :: rest))) : W p l e R s m args below meth c H locs cells slots Q (F0 m pc ls st0) := by
  intro T hT X
  rcases hr T hT X with ⟨v, st₀, t, T', L, h0, X', hL, e1, e2, ⟨⟨r, u, hv, hp, hb⟩, hF⟩, st⟩ | ⟨q, st₀, t, T', L, E, ce, h0, X', hL, e1, e2, ⟨u, hp, hb, hF⟩, hce, hcv, hcl, st⟩
  · cases hv
    obtain ⟨k1, k2, k3⟩ := vx_keep h0 e1 hS hA hf hL hF
    obtain ⟨t2, a1, b1⟩ := kk r u t T'.heap (locs ++ L) e1.symm (by rw [← e2]; exact X'.warmed.alike) hp hb k1 k2 k3 T' rfl X'
    exact ⟨t2, st t2 a1, b1⟩
  · obtain ⟨k1, k2, k3⟩ := vx_keep h0 e1 hS hAX hf hL hF
    obtain ⟨t2, a1, b1⟩ := kx E ce q u t T'.heap (locs ++ L) e1.symm (by rw [← e2]; exact X'.warmed.alike) hp hb k1 k2 k3 (by rw [e1]; exact hce) hcv hcl T' rfl X'
    exact ⟨t2, st.trans a1, b1⟩
theorem vx_calld {S SX : Type} {post : UInt64 → S → Prop} {px : SX → Prop} {B : S → State → Prop} {BX : String → SX → State → Prop} {AX : Nat → Prop} (hr : vx_Run p l e R s m args below meth c H locs cells slots mc ms (F0 m pc ls st0) rest (va_Qd post B A1 a) (vx_X px BX AX) free) (hS : va_S A0 H0 H locs) (hA : ∀ q, q < H.size → A1 q → A0 q) (hf : ∀ q, free q → A0 q) (hAX : ∀ q, q < H.size → AX q → A0 q)
    (kx : ∀ (E : String) (ce : Cell) (q9 : Addr) (u : SX) (t : State) (H1 : Heap) (locs1 : List Loc), t.heap = H1 → s.vm.Alike t.vm → px u → BX E u t → H.size ≤ H1.size → (∀ q : Nat, q < H.size → ¬ AX q → H1[q]? = H[q]?) → va_S A0 H0 H1 locs1 → H1[q9]? = some ce → ce.vm = .none → s.vm.findClass E = some ce.cls → vx_W p l e R s m args below meth c H1 locs1 (cells + mc) (slots + ms) Q (F0 m pc ls rest) q9)
    (kk : ∀ (r : UInt64) (u : S) (t : State) (H1 : Heap) (locs1 : List Loc), t.heap = H1 → s.vm.Alike t.vm → post r u → B u t → H.size ≤ H1.size → (∀ q : Nat, q < H.size → ¬ A1 q → H1[q]? = H[q]?) → va_S A0 H0 H1 locs1 → W p l e R s m args below meth c H1 locs1 (cells + mc) (slots + ms) Q (F0 m (pc + 3) ls (.double r :: rest))) : W p l e R s m args below meth c H locs cells slots Q (F0 m pc ls st0) := by
  intro T hT X
  rcases hr T hT X with ⟨v, st₀, t, T', L, h0, X', hL, e1, e2, ⟨⟨r, u, hv, hp, hb⟩, hF⟩, st⟩ | ⟨q, st₀, t, T', L, E, ce, h0, X', hL, e1, e2, ⟨u, hp, hb, hF⟩, hce, hcv, hcl, st⟩
  · cases hv
    obtain ⟨k1, k2, k3⟩ := vx_keep h0 e1 hS hA hf hL hF
    obtain ⟨t2, a1, b1⟩ := kk r u t T'.heap (locs ++ L) e1.symm (by rw [← e2]; exact X'.warmed.alike) hp hb k1 k2 k3 T' rfl X'
    exact ⟨t2, st t2 a1, b1⟩
  · obtain ⟨k1, k2, k3⟩ := vx_keep h0 e1 hS hAX hf hL hF
    obtain ⟨t2, a1, b1⟩ := kx E ce q u t T'.heap (locs ++ L) e1.symm (by rw [← e2]; exact X'.warmed.alike) hp hb k1 k2 k3 (by rw [e1]; exact hce) hcv hcl T' rfl X'
    exact ⟨t2, st.trans a1, b1⟩
theorem vx_callv {S SX : Type} {post : S → Prop} {px : SX → Prop} {B : S → State → Prop} {BX : String → SX → State → Prop} {AX : Nat → Prop} (hr : vx_Run p l e R s m args below meth c H locs cells slots mc ms (F0 m pc ls st0) rest (va_Qv post B A1 a) (vx_X px BX AX) free) (hS : va_S A0 H0 H locs) (hA : ∀ q, q < H.size → A1 q → A0 q) (hf : ∀ q, free q → A0 q) (hAX : ∀ q, q < H.size → AX q → A0 q)
    (kx : ∀ (E : String) (ce : Cell) (q9 : Addr) (u : SX) (t : State) (H1 : Heap) (locs1 : List Loc), t.heap = H1 → s.vm.Alike t.vm → px u → BX E u t → H.size ≤ H1.size → (∀ q : Nat, q < H.size → ¬ AX q → H1[q]? = H[q]?) → va_S A0 H0 H1 locs1 → H1[q9]? = some ce → ce.vm = .none → s.vm.findClass E = some ce.cls → vx_W p l e R s m args below meth c H1 locs1 (cells + mc) (slots + ms) Q (F0 m pc ls rest) q9)
    (kk : ∀ (u : S) (t : State) (H1 : Heap) (locs1 : List Loc), t.heap = H1 → s.vm.Alike t.vm → post u → B u t → H.size ≤ H1.size → (∀ q : Nat, q < H.size → ¬ A1 q → H1[q]? = H[q]?) → va_S A0 H0 H1 locs1 → W p l e R s m args below meth c H1 locs1 (cells + mc) (slots + ms) Q (F0 m (pc + 3) ls (rest))) : W p l e R s m args below meth c H locs cells slots Q (F0 m pc ls st0) := by
  intro T hT X
  rcases hr T hT X with ⟨v, st₀, t, T', L, h0, X', hL, e1, e2, ⟨⟨u, hv, hp, hb⟩, hF⟩, st⟩ | ⟨q, st₀, t, T', L, E, ce, h0, X', hL, e1, e2, ⟨u, hp, hb, hF⟩, hce, hcv, hcl, st⟩
  · cases hv
    obtain ⟨k1, k2, k3⟩ := vx_keep h0 e1 hS hA hf hL hF
    obtain ⟨t2, a1, b1⟩ := kk u t T'.heap (locs ++ L) e1.symm (by rw [← e2]; exact X'.warmed.alike) hp hb k1 k2 k3 T' rfl X'
    exact ⟨t2, st t2 a1, b1⟩
  · obtain ⟨k1, k2, k3⟩ := vx_keep h0 e1 hS hAX hf hL hF
    obtain ⟨t2, a1, b1⟩ := kx E ce q u t T'.heap (locs ++ L) e1.symm (by rw [← e2]; exact X'.warmed.alike) hp hb k1 k2 k3 (by rw [e1]; exact hce) hcv hcl T' rfl X'
    exact ⟨t2, st.trans a1, b1⟩
/-- caught by the row x of this method's table; the rows ahead don't take it -/
theorem vx_catch {own name : String} {E : String} {ce : Cell} {q : Addr} (hown : s.vm.findClass own = some m.cls) (pre : List ExceptionTableEntry) (x : ExceptionTableEntry) (suf : List ExceptionTableEntry) (hsplit : c.exceptionTable.toList = pre ++ x :: suf)
    (hpass : ∀ z ∈ pre, covers z pc = false ∨ (z.catchType ≠ 0 ∧ ∃ nm : String, (Cond.classLink own z.catchType nm).before args s = true ∧ va_Nc E nm s)) (hx : covers x pc = true) (h0 : x.catchType ≠ 0)
    (hlink : (Cond.classLink own x.catchType name).before args s = true) (hcast : (Cond.castable E name).before args s = true) (hcell : H[q]? = some ce) (hv : ce.vm = .none) (hcl : s.vm.findClass E = some ce.cls)
    (kk : W p l e R s m args below meth c H locs cells slots Q (F0 m x.handlerPc ls [.ref q])) : vx_W p l e R s m args below meth c H locs cells slots Q (F0 m pc ls rest) q := by
  intro T hT X
  have hpl : e.platform.magicAccessors = ({} : Platform).magicAccessors := by rw [X.admits.platform]
  obtain ⟨c3, c4, hc3, hc4, hasg⟩ := Cond.castable_spec hcast
  cases Option.some.inj (hc3.symm.trans hcl)
  obtain ⟨c5, hc5, hcl5⟩ := Cond.classLink_spec hown hlink e.platform hpl
  cases Option.some.inj (hc4.symm.trans hc5)
  obtain ⟨vm', X', st⟩ := X.thenCaughtThrough q (g := F0 m pc ls rest) rfl (Steps.refl _) (by rw [hT]; exact hcell) (by rw [hv]; rfl) (by obtain ⟨k9, h9, -⟩ := Vm.findClass_spec hcl; exact ⟨k9, h9⟩) pre x suf hsplit
    (fun z hz => by
      rcases hpass z hz with h | ⟨hz0, nm, hl1, hn1⟩
      · exact Or.inl h
      · obtain ⟨c6, hc6, hcl6⟩ := Cond.classLink_spec hown hl1 e.platform hpl
        obtain ⟨a8, b8, h1, h2, h3⟩ := hn1
        cases Option.some.inj (h1.symm.trans hcl)
        cases Option.some.inj (h2.symm.trans hc6)
        exact Or.inr ⟨hz0, _, hcl6, h3⟩) hx (Or.inr ⟨h0, c4, hcl5, hasg⟩)
  obtain ⟨t, a1, b1⟩ := kk (T.setVm vm') hT X'
  exact ⟨t, st.trans a1, b1⟩
end Rows
section Ends
variable {p : Program} {l : Launch} {e : Env} {R : Room} {s : State} {m : MethodId} {args : Array Value} {below : List Frame} {meth : Method} {c : Code} {H : Heap} {locs : List Loc} {cells slots : Nat} {Q : State → Prop}
variable {mc ms : Nat} {free : Addr → Prop} {A0 A1 : Nat → Prop} {H0 : Heap} {a : Array Value} {ls : Array Slot} {st0 rest : List Value}
variable {Qc : Array Value → State → Outcome → State → Prop} {XC : String → State → State → Prop}
/-- what a body that may throw owes at its end -/
def vx_MQ (below : List Frame) (Qc : Array Value → State → Outcome → State → Prop) (XC : String → State → State → Prop) (a : Array Value) (s : State) (mc ms : Nat) (free : Addr → Prop) : State → Prop := fun t =>
  ∃ o, t.status = .running ∧ Ended t below o ∧ vx_Q Qc XC mc ms free a s o t
theorem vx_ret {g : JFrame} {mc ms : Nat} (k : W p l e R s m args below meth c H locs cells slots (MQ below Qc args s mc ms free) g) : W p l e R s m args below meth c H locs cells slots (vx_MQ below Qc XC args s mc ms free) g := by
  intro T hT X
  obtain ⟨t, a1, o, b1, b2, b3, b4⟩ := k T hT X
  exact ⟨t, a1, o, b1, b2, Or.inl ⟨b3, b4⟩⟩
/-- not caught here: it goes on to the caller -/
theorem vx_widen {g : JFrame} {q : Addr} {k n : Nat} (h1 : cells ≤ k) (h2 : slots ≤ n) (kk : vx_W p l e R s m args below meth c H locs k n Q g q) : vx_W p l e R s m args below meth c H locs cells slots Q g q := fun T hT X => kk T hT (stand_widen X h1 h2)
theorem vx_out {pc : Nat} {E : String} {ce : Cell} {q : Addr} {mc ms : Nat} (hout : ∀ x ∈ c.exceptionTable.toList, covers x pc = false) (hlocks : meth.locks = false) (hcell : H[q]? = some ce) (hv : ce.vm = .none) (hcl : s.vm.findClass E = some ce.cls)
    (hx : ∀ t : State, t.heap = H → s.vm.Alike t.vm → XC E s t) (hf : ∀ z ∈ locs, free z.base) (hc : cells ≤ mc) (hs : slots ≤ ms) :
    vx_W p l e R s m args below meth c H locs cells slots (vx_MQ below Qc XC args s mc ms free) (F0 m pc ls rest) q := by
  intro T hT X
  obtain ⟨st1, hrun, hend, hW, hsm⟩ := X.leaveThrown q (g := F0 m pc ls rest) rfl rfl rfl hout hlocks
  have hcell9 : (T.setFrames (.throwing q :: below)).heap[q]? = some ce := by
    show T.heap[q]? = some ce
    rw [hT]; exact hcell
  exact ⟨_, st1, .threw q, hrun, hend, Or.inr ⟨q, rfl, E, ce, locs, hx _ hT hW.alike, hcell9, hv, hcl, hW, hsm.mono hc hs, hf⟩⟩
theorem vx_frame {U : State} {k n : Nat} (h : s.sameButNew ({ U with vm := s.vm } : State) locs k n) : s.heap.size ≤ U.heap.size ∧ ∀ q : Nat, q < s.heap.size → (∀ z ∈ locs, z.base ≠ q) → U.heap[q]? = s.heap[q]? := by
  obtain ⟨-, h2, -, -, -, h6⟩ := h
  refine ⟨h2, fun q hq hz => ?_⟩
  obtain ⟨c9, e1, e2, e3, e4⟩ := h6 q _ (Array.getElem?_eq_getElem hq)
  have hs : c9.slots = (s.heap[q]).slots := Array.ext_getElem? fun i => e4 i fun hm => hz _ hm rfl
  have h9 : c9 = s.heap[q] := by
    rw [hs] at e2
    exact e2
  have e5 : U.heap[q]? = some c9 := e1
  rw [e5, h9, Array.getElem?_eq_getElem hq]
/-- the words of a throw but the four that speak of the heap -/
def vx_no (w : Cond) : Bool := decide (w ≠ .isRef (.static Bundle.tN "UNASSIGNED_STACK" Bundle.steD)) && decide (w ≠ .isRef (.static Bundle.tN "SUPPRESSED_SENTINEL" Bundle.listD)) && decide (w ≠ .laysStatic Bundle.tN "UNASSIGNED_STACK" Bundle.steD) && decide (w ≠ .laysStatic Bundle.tN "SUPPRESSED_SENTINEL" Bundle.listD)
def vx_at0 (own : String) (ic : Nat) (X : String) (names : List String) : List Cond := (Bundle.ownAtoms0 own ic X names).filter vx_no
def vx_atS (own : String) (ic : Nat) (X : String) (names : List String) : List Cond := (Bundle.ownAtoms own ic X names).filter vx_no
/-- a word that the tables alone decide, or a good one -/
def vx_ot (w : Cond) : Bool := w.onTables || goodWord w
theorem vx_ot_at {args a' : Array Value} {s U : State} {w : Cond} (hW : s.WarmedH U.vm) (hvm : s.vm = U.vm) (hg : vx_ot w = true) (h : w.before args s = true) : w.before a' U = true := by
  simp only [vx_ot, Bool.or_eq_true] at hg
  rcases hg with hg | hg
  · exact va_tabs hg hvm h
  · exact word_at hW (good_of_word hg) h
/-- a list's words: the good ones out of the method's own list, the others by premises of their own -/
theorem vx_hat {args : Array Value} {s : State} {L B : List Cond} (h1 : ∀ w ∈ L.filter goodWord, w.before args s = true) (h2 : ∀ w ∈ L.filter (fun w => !goodWord w), w ∈ B) (h3 : ∀ w ∈ B, w.before args s = true) : ∀ w ∈ L, w.before args s = true := by
  intro w hw
  by_cases g : goodWord w = true
  · exact h1 w (List.mem_filter.mpr ⟨hw, g⟩)
  · refine h3 w (h2 w (List.mem_filter.mpr ⟨hw, ?_⟩))
    show (!goodWord w) = true
    cases hgw : goodWord w
    · rfl
    · exact absurd hgw g
theorem vx_c {args : Array Value} {s : State} {w : Cond} {B : List Cond} (h : w.before args s = true) (t : ∀ w ∈ B, w.before args s = true) : ∀ w' ∈ w :: B, w'.before args s = true := fun w' h' => (List.mem_cons.mp h').elim (fun e => by rw [e]; exact h) (t w')
theorem vx_n {args : Array Value} {s : State} : ∀ w ∈ ([] : List Cond), w.before args s = true := fun _ h => nomatch h
theorem vx_own {args : Array Value} {s : State} {L : List Cond} (h1 : ∀ w ∈ L.filter vx_no, w.before args s = true)
    (hU : (Cond.isRef (.static Bundle.tN "UNASSIGNED_STACK" Bundle.steD)).before args s = true) (hN : (Cond.isRef (.static Bundle.tN "SUPPRESSED_SENTINEL" Bundle.listD)).before args s = true)
    (lU : (Cond.laysStatic Bundle.tN "UNASSIGNED_STACK" Bundle.steD).before args s = true) (lN : (Cond.laysStatic Bundle.tN "SUPPRESSED_SENTINEL" Bundle.listD).before args s = true) : ∀ w ∈ L, w.before args s = true := by
  intro w hw
  by_cases e1 : w = .isRef (.static Bundle.tN "UNASSIGNED_STACK" Bundle.steD)
  · rw [e1]; exact hU
  · by_cases e2 : w = .isRef (.static Bundle.tN "SUPPRESSED_SENTINEL" Bundle.listD)
    · rw [e2]; exact hN
    · by_cases e3 : w = .laysStatic Bundle.tN "UNASSIGNED_STACK" Bundle.steD
      · rw [e3]; exact lU
      · by_cases e4 : w = .laysStatic Bundle.tN "SUPPRESSED_SENTINEL" Bundle.listD
        · rw [e4]; exact lN
        · exact h1 w (List.mem_filter.mpr ⟨hw, by unfold vx_no; rw [decide_eq_true e1, decide_eq_true e2, decide_eq_true e3, decide_eq_true e4]; rfl⟩)
/-- where a static field lies, its class's statics cell in H -/
def vx_L (C n d : String) (A : Nat → Prop) (U : State) (H : Heap) : Prop := ∃ (c : ClassId) (k : Class) (i : Nat) (f : Field) (a : Nat) (cell : Cell), U.vm.findClass C = some c ∧ U.fieldFound? C n d = some (c, k, i, f) ∧ f.isStatic = true ∧ k.statics = some a ∧ H[a]? = some cell ∧ cell.vm.isStatics = true ∧ cell.cls = c ∧ f.slot < cell.slots.size ∧ k.staticTypes[f.slot]? = some f.type ∧ ¬ A a
theorem vx_L.moved {C n d : String} {A : Nat → Prop} {u U : State} {H : Heap} (hvm : u.vm.Alike U.vm) (h : vx_L C n d A u H) : vx_L C n d A U H := by
  obtain ⟨c, k, i, f, a, cell, h1, h2, h3, h4, h5, h6, h7, h8, h9, h10⟩ := h
  obtain ⟨k', hi', he⟩ := State.fieldFound?_setVm hvm h2
  exact ⟨c, k', i, f, a, cell, by rw [hvm.findClass]; exact h1, hi', h3, by rw [he]; exact h4, h5, h6, h7, h8, by rw [he]; exact h9, h10⟩
theorem vx_L.kept {C n d : String} {A : Nat → Prop} {U : State} {H H1 : Heap} (h : vx_L C n d A U H) (hq : ∀ a : Nat, a < H.size → ¬ A a → H1[a]? = H[a]?) : vx_L C n d A U H1 := by
  obtain ⟨c, k, i, f, a, cell, h1, h2, h3, h4, h5, h6, h7, h8, h9, h10⟩ := h
  exact ⟨c, k, i, f, a, cell, h1, h2, h3, h4, by rw [hq a (Array.getElem?_eq_some_iff.mp h5).1 h10]; exact h5, h6, h7, h8, h9, h10⟩
theorem vx_L.narrow {C n d : String} {A B : Nat → Prop} {U : State} {H : Heap} (h : vx_L C n d A U H) (hAB : ∀ q, B q → A q) : vx_L C n d B U H := by
  obtain ⟨c, k, i, f, a, cell, h1, h2, h3, h4, h5, h6, h7, h8, h9, h10⟩ := h
  exact ⟨c, k, i, f, a, cell, h1, h2, h3, h4, h5, h6, h7, h8, h9, fun z => h10 (hAB _ z)⟩
theorem vx_L.word {C n d : String} {A : Nat → Prop} {s : State} {args : Array Value} (h : vx_L C n d A s s.heap) : (Cond.laysStatic C n d).before args s = true := by
  obtain ⟨c, k, i, f, a, cell, h1, h2, h3, h4, h5, h6, h7, h8, h9, -⟩ := h
  show (Cond.laysStatic C n d).holds args s none s [] = true
  exact Cond.laysStatic_of h1 h2 h3 h4 h5 h6 h7 h8 h9
/-- .. and what it holds: null or some reference -/
def vx_Zq (C n d : String) (A : Nat → Prop) (U : State) (H : Heap) : Prop := va_Zq C n d A U H ∧ vx_L C n d A U H
theorem vx_Zq.moved {C n d : String} {A : Nat → Prop} {u U : State} {H : Heap} (hvm : u.vm.Alike U.vm) (h : vx_Zq C n d A u H) : vx_Zq C n d A U H := ⟨va_Zq.moved hvm h.1, vx_L.moved hvm h.2⟩
theorem vx_Zq.kept {C n d : String} {A : Nat → Prop} {U : State} {H H1 : Heap} (h : vx_Zq C n d A U H) (hq : ∀ a : Nat, a < H.size → ¬ A a → H1[a]? = H[a]?) : vx_Zq C n d A U H1 := ⟨va_Zq.kept h.1 hq, vx_L.kept h.2 hq⟩
theorem vx_Zq.narrow {C n d : String} {A B : Nat → Prop} {U : State} {H : Heap} (h : vx_Zq C n d A U H) (hAB : ∀ q, B q → A q) : vx_Zq C n d B U H := ⟨va_Zq.narrow h.1 hAB, vx_L.narrow h.2 hAB⟩
theorem vx_Zqof {args : Array Value} {s : State} {C n d : String} {A : Nat → Prop} (hl : (Cond.laysStatic C n d).before args s = true) (hini : (Cond.initialized C).before args s = true) (h : (Cond.isRef (.static C n d)).before args s = true) (hA : ∀ a : Nat, a < s.heap.size → ¬ A a) : vx_Zq C n d A s s.heap := by
  refine ⟨va_Zqof hl hini h hA, ?_⟩
  obtain ⟨c, k, i, f, a, cell, h1, h2, h3, h4, h5, h6, h7, h8, h9⟩ := Cond.laysStatic_spec hl
  exact ⟨c, k, i, f, a, cell, h1, h2, h3, h4, h5, h6, h7, h8, h9, hA a (Array.getElem?_eq_some_iff.mp h5).1⟩
theorem vx_isRef {C n d : String} {v : Value} {A : Nat → Prop} {s : State} {args : Array Value} (h : va_Z C n d v A s s.heap) (hv : v.isRef = true) : (Cond.isRef (.static C n d)).before args s = true := by
  obtain ⟨cf, kf, fi, f, a, cell, h1, h2, h3, h4, h5, h6, h7, -⟩ := h
  have he : (Term.static C n d).eval args s none [] s = some v := by
    simp [Term.eval, State.fieldNamed?, h1, h2, h4, h5, h6, h7]
  simp only [Cond.before, Cond.holds, Cond.value, he]
  cases v <;> simp_all [Value.isRef]
theorem vx_isRefq {C n d : String} {A : Nat → Prop} {s : State} {args : Array Value} (h : va_Zq C n d A s s.heap) : (Cond.isRef (.static C n d)).before args s = true := by
  rcases h with h | ⟨t, h⟩
  · exact vx_isRef h rfl
  · exact vx_isRef h rfl
/-- the same frame, seen from here: as if the method were called anew in this heap -/
theorem vx_rebase {T : State} (X : Stand p l e R s m args below meth c T locs cells slots) {R' : Room} (hf : R'.frames ≤ R.frames) (hl : R'.locals ≤ R.locals) (hc : cells + R'.cells ≤ R.cells) (hs : slots + R'.slots ≤ R.slots) :
    Stand p l e R' ((T.setVm s.vm).setFrames (.invoking m args :: below)) m args below meth c T [] 0 0 := by
  have htop : (T.setVm s.vm).topJava?.isSome := X.here.top
  have hF : ((T.setVm s.vm).setFrames (.invoking m args :: below)).frames = .invoking m args :: below := State.frames_setFrames _ (State.cur_lt_of_top htop)
  obtain ⟨g₀, hg0⟩ := Option.isSome_iff_exists.mp htop
  obtain ⟨r, hr⟩ := State.topJava?_eq_some.mp hg0
  have hl9 : e.platform.stackLimits (T.setVm s.vm).me = e.platform.stackLimits s.me := X.limits
  have hb9 : (T.setVm s.vm).me.stackBytes = s.me.stackBytes := X.bytes
  refine ⟨X.admits, X.cas, X.clock, hF, ?_, X.hears, X.method, X.code, X.here, X.tail, X.warmed, ?_, ?_, ?_⟩
  · have h := X.room
    have hU : ((T.setVm s.vm).setFrames (.invoking m args :: below)).localsInUse = s.localsInUse := by
      rw [State.localsInUse_invoking hF (meth := meth) (c := c) X.method X.code, State.localsInUse_invoking X.frames X.method X.code]
    simp only [State.hasRoom, Bool.and_eq_true, decide_eq_true_eq] at h ⊢
    obtain ⟨⟨⟨⟨h1, h2, h3, h4, h5, h6⟩, h7⟩, h8⟩, h9⟩ := h
    rw [X.frames, List.length_cons] at h2 h3
    have q1 := X.heapSize
    have q2 := X.used
    simp only [hF, hU, List.length_cons, State.stackLimits_setFrames, State.stackBytes_setFrames, hl9, hb9]
    refine ⟨⟨⟨⟨by omega, by omega, by omega, by omega, by omega, h6⟩, ?_⟩, ?_⟩, X.book⟩
    · show T.heap.size + R'.cells ≤ e.platform.maxCells
      omega
    · show T.slotsUsed + R'.slots ≤ e.platform.maxSlots
      omega
  · rw [State.stackLimits_setFrames]; rfl
  · rw [State.stackBytes_setFrames]; rfl
  · refine ⟨?_, Nat.le_refl _, Nat.le_refl _, ?_, ?_, fun a c9 h9 => ⟨c9, h9, rfl, rfl, fun _ _ => rfl⟩⟩
    · obtain ⟨t, ht, -⟩ := State.frames_cons hr
      show T.setVm s.vm = { ((T.setVm s.vm).setFrames (.invoking m args :: below)).setFrames (T.setVm s.vm).frames with heap := T.heap, slotsUsed := T.slotsUsed }
      rw [State.setFrames_setFrames, State.setFrames_self ht]
      rfl
    · show T.slotsUsed = T.slotsUsed + ((T.heap.toList.drop T.heap.size).map (·.slots.size)).sum
      rw [List.drop_eq_nil_of_le (Nat.le_of_eq Array.length_toList)]
      rfl
    · show ((T.heap.toList.drop T.heap.size).map (·.slots.size)).sum ≤ 0
      rw [List.drop_eq_nil_of_le (Nat.le_of_eq Array.length_toList)]
      exact Nat.le_refl _
/-- 'throw new E()': new; dup; invokespecial; athrow -/
theorem vx_throw0 {cc : ByteArray} {pc : Nat} (hexec : p.tables.exec = Jvm.exec) (hb : c.code = cc) (hl : l.stackTraces = false) {own cls : String} {names : List String} {ik ic mc ms : Nat} {A : Nat → Prop}
    (hown : s.vm.findClass own = some m.cls) (hcls : Bundle.fit cls = true) (hnames : ∀ n ∈ names, Bundle.fit n = true)
    (hk : (Cond.classLink own ik cls).before args s = true) (hini : (Cond.initialized cls).before args s = true) (hat : ∀ w ∈ vx_at0 own ic cls names, w.before args s = true)
    (hgood : ∀ w ∈ Cond.classLink own ik cls :: Cond.initialized cls :: vx_at0 own ic cls names, vx_ot w = true)
    (hU : vx_Zq Bundle.tN "UNASSIGNED_STACK" Bundle.steD A s s.heap) (hN : vx_Zq Bundle.tN "SUPPRESSED_SENTINEL" Bundle.listD A s s.heap) (hS : va_S A s.heap H locs) (hsize : ls.size = c.maxLocals)
    (d0 : decode cc pc = .ok (.new ik, 3)) (d3 : decode cc (pc + 3) = .ok (.dup, 1)) (d4 : decode cc (pc + 4) = .ok (.invokespecial ic, 3)) (d7 : decode cc (pc + 7) = .ok (.athrow, 1))
    (hout : ∀ x ∈ c.exceptionTable.toList, covers x (pc + 7) = false)
    (hRframes : names.length + 3 < R.frames) (hRlocals : (rest.map fun v => v.category).sum + (13 * (names.length + 1) + 42) ≤ R.locals) (hRcells : cells + 1 ≤ R.cells) (hRslots : slots + 6 ≤ R.slots) (hlocks : meth.locks = false)
    (hx : ∀ t : State, s.vm.Alike t.vm → H.size ≤ t.heap.size → (∀ q : Nat, q < H.size → t.heap[q]? = H[q]?) → XC cls s t)
    (hf : ∀ z ∈ locs, free z.base) (hc : cells + 1 ≤ mc) (hs : slots + 6 ≤ ms) :
    W p l e R s m args below meth c H locs cells slots (vx_MQ below Qc XC args s mc ms free) (F0 m pc ls rest) := by
  intro T hT X
  have htr : e.platform.stackTraces = false := (show e.platform.stackTraces = l.stackTraces by rw [X.admits.platform]).trans hl
  have Y := vx_rebase X (R' := { frames := R.frames, locals := R.locals, cells := 1, slots := 6 }) (Nat.le_refl _) (Nat.le_refl _) hRcells hRslots
  obtain ⟨s', hA⟩ : ∃ z, z = (T.setVm s.vm).setFrames (.invoking m args :: below) := ⟨_, rfl⟩
  rw [← hA] at Y
  have hvm : s'.vm = s.vm := by rw [hA]; rfl
  have hhp : s'.heap = H := by rw [hA]; exact hT
  have hW0 : s.WarmedH s'.vm := by rw [hvm]; exact State.WarmedH.refl s
  have hat' : ∀ w ∈ vx_at0 own ic cls names, w.before args s' = true := fun w hw => vx_ot_at hW0 hvm.symm (hgood w (List.mem_cons_of_mem _ (List.mem_cons_of_mem _ hw))) (hat w hw)
  have hk' : (Cond.classLink own ik cls).before args s' = true := vx_ot_at hW0 hvm.symm (hgood _ List.mem_cons_self) hk
  have hini' : (Cond.initialized cls).before args s' = true := vx_ot_at hW0 hvm.symm (hgood _ (List.mem_cons_of_mem _ List.mem_cons_self)) hini
  have hU' : vx_Zq Bundle.tN "UNASSIGNED_STACK" Bundle.steD A s' s'.heap := by rw [hhp]; exact vx_Zq.moved hW0.alike (hU.kept hS.2.1)
  have hN' : vx_Zq Bundle.tN "SUPPRESSED_SENTINEL" Bundle.listD A s' s'.heap := by rw [hhp]; exact vx_Zq.moved hW0.alike (hN.kept hS.2.1)
  have h : ∀ w ∈ Bundle.ownAtoms0 own ic cls names, w.before args s' = true := vx_own hat' (vx_isRefq hU'.1) (vx_isRefq hN'.1) hU'.2.word hN'.2.word
  have hown' : s'.vm.findClass own = some m.cls := by rw [hvm]; exact hown
  have hins : (Cond.instantiable cls 6).before args s' = true := h _ (by simp [Bundle.ownAtoms0])
  obtain ⟨vm₁, cX, kX, hfX, hkX, -, -, X₁, st1⟩ := Y.newCold hexec (own := own) (C := cls) (index := ik) (n := 6) hown' hk' hins hini'
    (g := F0 m pc ls rest) rfl (by rw [hb]; exact d0) (Nat.le_refl _) (Nat.le_refl _)
  generalize hT1 : (T.setVm vm₁).pushCell { cls := cX, slots := kX.instanceTypes.map defaultValue, vm := .none } = T1 at X₁ st1
  have hcat : (Value.ref T.heap.size).category = 1 := rfl
  have hcellA : T1.heap[T.heap.size]? = some (freshCell cX kX) := by rw [← hT1]; exact State.heap_pushCell_size _ _
  have d3' : decode c.code (pc + 3) = .ok (.dup, 1) := by rw [hb]; exact d3
  obtain ⟨U, hsteps, hrun, hend, hW, hsame, ce, hce, hO⟩ := X₁.ctorThrow0 hexec htr (own := own) (cls := cls) (names := names) (ic := ic) hown' hcls hnames h (fun x hx => nomatch hx) hfX hkX hcellA (by rw [hhp, hT]; exact Nat.le_refl _)
    (g := { method := m, pc := pc + 4, locals := ls, stack := .ref T.heap.size :: .ref T.heap.size :: rest, locked := none }) rfl hsize rfl rfl (rest := rest) rfl
    (by rw [hb]; exact d4) (by rw [hb]; exact d7) hout hRframes (by simp only [List.map_cons, List.sum_cons, hcat]; omega) hlocks
  obtain ⟨f1, f2⟩ := vx_frame hsame
  rw [hhp] at f1 f2
  have hWs : s.WarmedH U.vm := State.WarmedH.trans hW0 hW
  have hcl : s.vm.findClass cls = some ce.cls := by
    have h9 := hO.cls
    rw [hvm] at h9
    exact h9
  have hall : s.sameButNew ({ U with vm := s.vm } : State) locs mc ms := by
    subst hA
    obtain ⟨e1, e2⟩ := hsame
    rw [State.setFrames_setFrames] at e1
    have h2 : (T.setVm s.vm).sameButNew ({ U with vm := s.vm } : State) [] (0 + 1) (0 + 6) := ⟨e1, e2⟩
    have h3 := X.same.trans h2
    rw [List.append_nil] at h3
    exact h3.mono hc hs
  refine ⟨U, ?_, .threw T.heap.size, hrun, hend, Or.inr ⟨T.heap.size, rfl, cls, ce, locs, hx U hWs.alike f1 (fun q hq => f2 q hq (fun z hz => nomatch hz)), hce, hO.vm, hcl, hWs, hall, hf⟩⟩
  refine st1 _ ?_
  show Steps p.tables e below (T1.setTop { method := m, pc := pc + 3, locals := ls, stack := .ref T.heap.size :: rest, locked := none }) _
  jvm_step X₁.here [X₁.here.top, hexec, d3', Value.category]
  exact hsteps
/-- 'throw new E("text")': new; dup; ldc; invokespecial; athrow -/
theorem vx_throwS {cc : ByteArray} {pc : Nat} (hexec : p.tables.exec = Jvm.exec) (hb : c.code = cc) (hl : l.stackTraces = false) {own cls text : String} {names : List String} {ik is ic mc ms sa : Nat} {A : Nat → Prop}
    (hown : s.vm.findClass own = some m.cls) (hcls : Bundle.fit cls = true) (hnames : ∀ n ∈ names, Bundle.fit n = true)
    (hk : (Cond.classLink own ik cls).before args s = true) (hini : (Cond.initialized cls).before args s = true) (hstr : vk_R own is text sa s) (hat : ∀ w ∈ vx_atS own ic cls names, w.before args s = true)
    (hgood : ∀ w ∈ Cond.classLink own ik cls :: Cond.initialized cls :: vx_atS own ic cls names, vx_ot w = true)
    (hU : vx_Zq Bundle.tN "UNASSIGNED_STACK" Bundle.steD A s s.heap) (hN : vx_Zq Bundle.tN "SUPPRESSED_SENTINEL" Bundle.listD A s s.heap) (hS : va_S A s.heap H locs) (hsize : ls.size = c.maxLocals)
    (d0 : decode cc pc = .ok (.new ik, 3)) (d3 : decode cc (pc + 3) = .ok (.dup, 1)) (d4 : decode cc (pc + 4) = .ok (.ldc is, 2)) (d6 : decode cc (pc + 6) = .ok (.invokespecial ic, 3)) (d9 : decode cc (pc + 9) = .ok (.athrow, 1))
    (hout : ∀ x ∈ c.exceptionTable.toList, covers x (pc + 9) = false)
    (hRframes : names.length + 3 < R.frames) (hRlocals : (rest.map fun v => v.category).sum + (13 * (names.length + 1) + 43) ≤ R.locals) (hRcells : cells + 1 ≤ R.cells) (hRslots : slots + 6 ≤ R.slots) (hlocks : meth.locks = false)
    (hx : ∀ t : State, s.vm.Alike t.vm → H.size ≤ t.heap.size → (∀ q : Nat, q < H.size → t.heap[q]? = H[q]?) → XC cls s t)
    (hf : ∀ z ∈ locs, free z.base) (hc : cells + 1 ≤ mc) (hs : slots + 6 ≤ ms) :
    W p l e R s m args below meth c H locs cells slots (vx_MQ below Qc XC args s mc ms free) (F0 m pc ls rest) := by
  intro T hT X
  have htr : e.platform.stackTraces = false := (show e.platform.stackTraces = l.stackTraces by rw [X.admits.platform]).trans hl
  have Y := vx_rebase X (R' := { frames := R.frames, locals := R.locals, cells := 1, slots := 6 }) (Nat.le_refl _) (Nat.le_refl _) hRcells hRslots
  obtain ⟨s', hA⟩ : ∃ z, z = (T.setVm s.vm).setFrames (.invoking m args :: below) := ⟨_, rfl⟩
  rw [← hA] at Y
  have hvm : s'.vm = s.vm := by rw [hA]; rfl
  have hhp : s'.heap = H := by rw [hA]; exact hT
  have hW0 : s.WarmedH s'.vm := by rw [hvm]; exact State.WarmedH.refl s
  have hat' : ∀ w ∈ vx_atS own ic cls names, w.before args s' = true := fun w hw => vx_ot_at hW0 hvm.symm (hgood w (List.mem_cons_of_mem _ (List.mem_cons_of_mem _ hw))) (hat w hw)
  have hk' : (Cond.classLink own ik cls).before args s' = true := vx_ot_at hW0 hvm.symm (hgood _ List.mem_cons_self) hk
  have hini' : (Cond.initialized cls).before args s' = true := vx_ot_at hW0 hvm.symm (hgood _ (List.mem_cons_of_mem _ List.mem_cons_self)) hini
  have hU' : vx_Zq Bundle.tN "UNASSIGNED_STACK" Bundle.steD A s' s'.heap := by rw [hhp]; exact vx_Zq.moved hW0.alike (hU.kept hS.2.1)
  have hN' : vx_Zq Bundle.tN "SUPPRESSED_SENTINEL" Bundle.listD A s' s'.heap := by rw [hhp]; exact vx_Zq.moved hW0.alike (hN.kept hS.2.1)
  have h : ∀ w ∈ Bundle.ownAtoms own ic cls names, w.before args s' = true := vx_own hat' (vx_isRefq hU'.1) (vx_isRefq hN'.1) hU'.2.word hN'.2.word
  have hown' : s'.vm.findClass own = some m.cls := by rw [hvm]; exact hown
  have hins : (Cond.instantiable cls 6).before args s' = true := h _ (by simp [Bundle.ownAtoms])
  obtain ⟨vm₁, cX, kX, hfX, hkX, -, -, X₁, st1⟩ := Y.newCold hexec (own := own) (C := cls) (index := ik) (n := 6) hown' hk' hins hini'
    (g := F0 m pc ls rest) rfl (by rw [hb]; exact d0) (Nat.le_refl _) (Nat.le_refl _)
  generalize hT1 : (T.setVm vm₁).pushCell { cls := cX, slots := kX.instanceTypes.map defaultValue, vm := .none } = T1 at X₁ st1
  have hcat : (Value.ref T.heap.size).category = 1 := rfl
  have hcellA : T1.heap[T.heap.size]? = some (freshCell cX kX) := by rw [← hT1]; exact State.heap_pushCell_size _ _
  have d3' : decode c.code (pc + 3) = .ok (.dup, 1) := by rw [hb]; exact d3
  have d4' : decode c.code (pc + 4) = .ok (.ldc is, 2) := by rw [hb]; exact d4
  have hstr' : vk_R own is text sa s' := vk_R.warm hW0 hstr
  obtain ⟨U, hsteps, hrun, hend, hW, hsame, ce, hce, hO⟩ := X₁.ctorThrowS hexec htr (own := own) (cls := cls) (names := names) (ic := ic) hown' hcls hnames h (fun x hx => nomatch hx) hfX hkX hcellA (by rw [hhp, hT]; exact Nat.le_refl _) (msg := .ref sa) rfl
    (g := { method := m, pc := pc + 6, locals := ls, stack := .ref sa :: .ref T.heap.size :: .ref T.heap.size :: rest, locked := none }) rfl hsize rfl rfl (rest := rest) rfl
    (by rw [hb]; exact d6) (by rw [hb]; exact d9) hout hRframes (by simp only [List.map_cons, List.sum_cons, hcat]; omega) hlocks
  obtain ⟨f1, f2⟩ := vx_frame hsame
  rw [hhp] at f1 f2
  have hWs : s.WarmedH U.vm := State.WarmedH.trans hW0 hW
  have hcl : s.vm.findClass cls = some ce.cls := by
    have h9 := hO.cls
    rw [hvm] at h9
    exact h9
  have hall : s.sameButNew ({ U with vm := s.vm } : State) locs mc ms := by
    subst hA
    obtain ⟨e1, e2⟩ := hsame
    rw [State.setFrames_setFrames] at e1
    have h2 : (T.setVm s.vm).sameButNew ({ U with vm := s.vm } : State) [] (0 + 1) (0 + 6) := ⟨e1, e2⟩
    have h3 := X.same.trans h2
    rw [List.append_nil] at h3
    exact h3.mono hc hs
  refine ⟨U, ?_, .threw T.heap.size, hrun, hend, Or.inr ⟨T.heap.size, rfl, cls, ce, locs, hx U hWs.alike f1 (fun q hq => f2 q hq (fun z hz => nomatch hz)), hce, hO.vm, hcl, hWs, hall, hf⟩⟩
  refine st1 _ ?_
  show Steps p.tables e below (T1.setTop { method := m, pc := pc + 3, locals := ls, stack := .ref T.heap.size :: rest, locked := none }) _
  jvm_step X₁.here [X₁.here.top, hexec, d3', Value.category]
  exact X₁.ldcString hexec (own := own) (text := text) (index := is) (a := sa) hown' hstr'.1 hstr'.2
    (g := { method := m, pc := pc + 4, locals := ls, stack := .ref T.heap.size :: .ref T.heap.size :: rest, locked := none }) rfl d4' _ hsteps
/-- 'throw new E("text")', the text by a wide index -/
theorem vx_throwSW {cc : ByteArray} {pc : Nat} (hexec : p.tables.exec = Jvm.exec) (hb : c.code = cc) (hl : l.stackTraces = false) {own cls text : String} {names : List String} {ik is ic mc ms sa : Nat} {A : Nat → Prop}
    (hown : s.vm.findClass own = some m.cls) (hcls : Bundle.fit cls = true) (hnames : ∀ n ∈ names, Bundle.fit n = true)
    (hk : (Cond.classLink own ik cls).before args s = true) (hini : (Cond.initialized cls).before args s = true) (hstr : vk_R own is text sa s) (hat : ∀ w ∈ vx_atS own ic cls names, w.before args s = true)
    (hgood : ∀ w ∈ Cond.classLink own ik cls :: Cond.initialized cls :: vx_atS own ic cls names, vx_ot w = true)
    (hU : vx_Zq Bundle.tN "UNASSIGNED_STACK" Bundle.steD A s s.heap) (hN : vx_Zq Bundle.tN "SUPPRESSED_SENTINEL" Bundle.listD A s s.heap) (hS : va_S A s.heap H locs) (hsize : ls.size = c.maxLocals)
    (d0 : decode cc pc = .ok (.new ik, 3)) (d3 : decode cc (pc + 3) = .ok (.dup, 1)) (d4 : decode cc (pc + 4) = .ok (.ldc_w is, 3)) (d7 : decode cc (pc + 7) = .ok (.invokespecial ic, 3)) (d10 : decode cc (pc + 10) = .ok (.athrow, 1))
    (hout : ∀ x ∈ c.exceptionTable.toList, covers x (pc + 10) = false)
    (hRframes : names.length + 3 < R.frames) (hRlocals : (rest.map fun v => v.category).sum + (13 * (names.length + 1) + 43) ≤ R.locals) (hRcells : cells + 1 ≤ R.cells) (hRslots : slots + 6 ≤ R.slots) (hlocks : meth.locks = false)
    (hx : ∀ t : State, s.vm.Alike t.vm → H.size ≤ t.heap.size → (∀ q : Nat, q < H.size → t.heap[q]? = H[q]?) → XC cls s t)
    (hf : ∀ z ∈ locs, free z.base) (hc : cells + 1 ≤ mc) (hs : slots + 6 ≤ ms) :
    W p l e R s m args below meth c H locs cells slots (vx_MQ below Qc XC args s mc ms free) (F0 m pc ls rest) := by
  intro T hT X
  have htr : e.platform.stackTraces = false := (show e.platform.stackTraces = l.stackTraces by rw [X.admits.platform]).trans hl
  have Y := vx_rebase X (R' := { frames := R.frames, locals := R.locals, cells := 1, slots := 6 }) (Nat.le_refl _) (Nat.le_refl _) hRcells hRslots
  obtain ⟨s', hA⟩ : ∃ z, z = (T.setVm s.vm).setFrames (.invoking m args :: below) := ⟨_, rfl⟩
  rw [← hA] at Y
  have hvm : s'.vm = s.vm := by rw [hA]; rfl
  have hhp : s'.heap = H := by rw [hA]; exact hT
  have hW0 : s.WarmedH s'.vm := by rw [hvm]; exact State.WarmedH.refl s
  have hat' : ∀ w ∈ vx_atS own ic cls names, w.before args s' = true := fun w hw => vx_ot_at hW0 hvm.symm (hgood w (List.mem_cons_of_mem _ (List.mem_cons_of_mem _ hw))) (hat w hw)
  have hk' : (Cond.classLink own ik cls).before args s' = true := vx_ot_at hW0 hvm.symm (hgood _ List.mem_cons_self) hk
  have hini' : (Cond.initialized cls).before args s' = true := vx_ot_at hW0 hvm.symm (hgood _ (List.mem_cons_of_mem _ List.mem_cons_self)) hini
  have hU' : vx_Zq Bundle.tN "UNASSIGNED_STACK" Bundle.steD A s' s'.heap := by rw [hhp]; exact vx_Zq.moved hW0.alike (hU.kept hS.2.1)
  have hN' : vx_Zq Bundle.tN "SUPPRESSED_SENTINEL" Bundle.listD A s' s'.heap := by rw [hhp]; exact vx_Zq.moved hW0.alike (hN.kept hS.2.1)
  have h : ∀ w ∈ Bundle.ownAtoms own ic cls names, w.before args s' = true := vx_own hat' (vx_isRefq hU'.1) (vx_isRefq hN'.1) hU'.2.word hN'.2.word
  have hown' : s'.vm.findClass own = some m.cls := by rw [hvm]; exact hown
  have hins : (Cond.instantiable cls 6).before args s' = true := h _ (by simp [Bundle.ownAtoms])
  obtain ⟨vm₁, cX, kX, hfX, hkX, -, -, X₁, st1⟩ := Y.newCold hexec (own := own) (C := cls) (index := ik) (n := 6) hown' hk' hins hini'
    (g := F0 m pc ls rest) rfl (by rw [hb]; exact d0) (Nat.le_refl _) (Nat.le_refl _)
  generalize hT1 : (T.setVm vm₁).pushCell { cls := cX, slots := kX.instanceTypes.map defaultValue, vm := .none } = T1 at X₁ st1
  have hcat : (Value.ref T.heap.size).category = 1 := rfl
  have hcellA : T1.heap[T.heap.size]? = some (freshCell cX kX) := by rw [← hT1]; exact State.heap_pushCell_size _ _
  have d3' : decode c.code (pc + 3) = .ok (.dup, 1) := by rw [hb]; exact d3
  have d4' : decode c.code (pc + 4) = .ok (.ldc_w is, 3) := by rw [hb]; exact d4
  have hstr' : vk_R own is text sa s' := vk_R.warm hW0 hstr
  obtain ⟨U, hsteps, hrun, hend, hW, hsame, ce, hce, hO⟩ := X₁.ctorThrowS hexec htr (own := own) (cls := cls) (names := names) (ic := ic) hown' hcls hnames h (fun x hx => nomatch hx) hfX hkX hcellA (by rw [hhp, hT]; exact Nat.le_refl _) (msg := .ref sa) rfl
    (g := { method := m, pc := pc + 7, locals := ls, stack := .ref sa :: .ref T.heap.size :: .ref T.heap.size :: rest, locked := none }) rfl hsize rfl rfl (rest := rest) rfl
    (by rw [hb]; exact d7) (by rw [hb]; exact d10) hout hRframes (by simp only [List.map_cons, List.sum_cons, hcat]; omega) hlocks
  obtain ⟨f1, f2⟩ := vx_frame hsame
  rw [hhp] at f1 f2
  have hWs : s.WarmedH U.vm := State.WarmedH.trans hW0 hW
  have hcl : s.vm.findClass cls = some ce.cls := by
    have h9 := hO.cls
    rw [hvm] at h9
    exact h9
  have hall : s.sameButNew ({ U with vm := s.vm } : State) locs mc ms := by
    subst hA
    obtain ⟨e1, e2⟩ := hsame
    rw [State.setFrames_setFrames] at e1
    have h2 : (T.setVm s.vm).sameButNew ({ U with vm := s.vm } : State) [] (0 + 1) (0 + 6) := ⟨e1, e2⟩
    have h3 := X.same.trans h2
    rw [List.append_nil] at h3
    exact h3.mono hc hs
  refine ⟨U, ?_, .threw T.heap.size, hrun, hend, Or.inr ⟨T.heap.size, rfl, cls, ce, locs, hx U hWs.alike f1 (fun q hq => f2 q hq (fun z hz => nomatch hz)), hce, hO.vm, hcl, hWs, hall, hf⟩⟩
  refine st1 _ ?_
  show Steps p.tables e below (T1.setTop { method := m, pc := pc + 3, locals := ls, stack := .ref T.heap.size :: rest, locked := none }) _
  jvm_step X₁.here [X₁.here.top, hexec, d3', Value.category]
  exact X₁.ldcStringW hexec (own := own) (text := text) (index := is) (a := sa) hown' hstr'.1 hstr'.2
    (g := { method := m, pc := pc + 4, locals := ls, stack := .ref T.heap.size :: .ref T.heap.size :: rest, locked := none }) rfl d4' _ hsteps
end Ends
section Bodies
variable {l : Launch}
theorem vx_ofW {y : MethodName} {ws ws' : List Cond} {rm : Room} {Pc : Array Value → State → Prop} {Qc : Array Value → State → Outcome → State → Prop} {XC : String → State → State → Prop} {mc ms : Nat} {free : Addr → Prop} {cc : ByteArray} {maxL : Nat} {ret : Option FieldType}
    (hy : plainName y.cls = true) (hw : ws = Cond.code y cc maxL ret :: ws')
    (body : ∀ p e s m args below meth c s₁, BodyLoose p l y (headSpec ws rm) cc maxL ret e s m args below meth c s₁ → c.maxLocals = maxL → (∀ x ∈ c.exceptionTable.toList, False) → Pc args s →
      W p l e (headSpec ws rm).room s m args below meth c s.heap [] 0 0 (vx_MQ below Qc XC args s mc ms free) (entryFrame m args maxL)) : vx_Met l y ws rm Pc Qc XC mc ms free := by
  refine MetFree.of_bodyS (code := cc) (maxLocals := maxL) (ret := ret) hy ?_ ?_
  · intro args s m h hn
    obtain ⟨meth, c, h1, h2, h3, h4, h5, h6, -, -⟩ := Cond.code_spec hn (atoms_spec (ws := ws) h _ (by rw [hw]; exact List.mem_cons_self))
    exact ⟨meth, c, h1, h2, h3, h4, h5, h6⟩
  · intro p e s m args below meth c s₁ B hml hP _
    have hh0 : s₁.heap = s.heap := by rw [B.state]; rfl
    have ht : ∀ x ∈ c.exceptionTable.toList, False := by
      obtain ⟨meth9, c9, h1, h2, -, -, -, -, h7, -⟩ := Cond.code_spec B.named (atoms_spec (ws := ws) B.pre _ (by rw [hw]; exact List.mem_cons_self))
      cases Option.some.inj (h1.symm.trans B.method)
      cases Option.some.inj (h2.symm.trans (Stand.of_body B).code)
      intro x hx
      rw [Array.isEmpty_iff.mp h7] at hx
      cases hx
    obtain ⟨t, a1, o, b1, b2, b3⟩ := body p e s m args below meth c s₁ B hml ht hP s₁ hh0 (Stand.of_body B)
    exact ⟨t, o, a1, b1, b2, b3⟩
/-- the table of a body with handlers -/
theorem vx_table {p : Program} {x y : MethodName} {S : Spec} {cc bytes : ByteArray} {maxL maxL' : Nat} {ret ret' : Option FieldType} {e : Env} {s s₁ : State} {m : MethodId} {args : Array Value} {below : List Frame} {meth : Method} {c : Code} {hh : List (Nat × Nat × Nat × Nat)}
    (B : BodyLoose p l y S cc maxL ret e s m args below meth c s₁) (h : (Cond.codeWith y bytes maxL' ret' hh).before args s = true) : c.exceptionTable.toList = tableOf hh := by
  obtain ⟨m9, meth9, c9, hn9, h1, h2, -, -, h6, -⟩ := Cond.codeWith_spec h
  cases Option.some.inj (hn9.symm.trans B.named)
  cases Option.some.inj (h1.symm.trans B.method)
  cases Option.some.inj (h2.symm.trans (Stand.of_body B).code)
  rw [← h6, table_eq]
end Bodies
end VXA
/-! ===== END ===== -/
/-! ===== BEGIN a static call of a method with an exception table ===== -/
section VXS
variable {p : Program} {l : Launch} {e : Env} {R : Room} {s : State} {m : MethodId} {args : Array Value} {below : List Frame} {meth : Method} {c : Code} {T : State} {H : Heap} {locs : List Loc} {cells slots : Nat}
abbrev vx_CSW (R : Room) (s : State) (args : Array Value) (own : String) (index : Nat) (y : MethodName) (bytes : ByteArray) (maxL : Nat) (ret : Option FieldType) (hh : List (Nat × Nat × Nat × Nat)) (ws : List Cond) (rm : Room) (mc ms n : Nat) : Prop :=
  (rm.cells = mc ∧ rm.slots = ms ∧ rm.frames + 1 ≤ R.frames ∧ 8 + (maxL + 11) + rm.locals ≤ R.locals ∧ (∀ w ∈ ws, ∀ (a' : Array Value) (U : State), s.WarmedH U.vm → w.before a' U = true) ∧ Cond.codeWith y bytes maxL ret hh ∈ ws) ∧
  (Cond.codeWith y bytes maxL ret hh).before args s = true ∧ (Cond.initialized y.cls).before args s = true ∧ (y.cls ≠ "java/lang/invoke/MethodHandle" ∧ y.cls ≠ "java/lang/invoke/VarHandle") ∧
  (∀ sig, parseMethodDescriptor y.desc = some sig → n = sig.parameters.length) ∧ (Cond.methodLink own index y).before args s = true ∧ (Cond.static y).before args s = true
theorem vx_cwSW {own : String} {index maxL mc ms : Nat} {y : MethodName} {bytes : ByteArray} {ret : Option FieldType} {hh : List (Nat × Nat × Nat × Nat)} {Ts ws ws' : List Cond} {rm : Room} (n : Nat) (ht : ∀ w ∈ Ts, w.before args s = true) (hT : GoodIn Ts (va_wsS own index y ws)) (hw : ws = Cond.codeWith y bytes maxL ret hh :: ws') (hrc : rm.cells = mc) (hrs : rm.slots = ms)
    (hd : y.cls ≠ "java/lang/invoke/MethodHandle" ∧ y.cls ≠ "java/lang/invoke/VarHandle" ∧ (parseMethodDescriptor y.desc).map (fun d => d.parameters.length) = some n) (hR : rm.frames + 1 ≤ R.frames ∧ 8 + (maxL + 11) + rm.locals ≤ R.locals) :
    vx_CSW R s args own index y bytes maxL ret hh ws rm mc ms n := by
  have ok : ∀ w ∈ va_wsS own index y ws, w.before args s = true := fun w h => ht w (hT w h).1
  have hG : GoodIn Ts ws := fun w h => hT w (by unfold va_wsS; exact List.mem_append_right _ h)
  have hc : Cond.codeWith y bytes maxL ret hh ∈ ws := by rw [hw]; exact List.mem_cons_self
  refine ⟨⟨hrc, hrs, hR.1, hR.2, pay_in ht hG, hc⟩, ht _ (hG _ hc).1, ok _ (by simp [va_wsS]), ⟨hd.1, hd.2.1⟩, fun sig h => ?_, ok _ (by simp [va_wsS]), ok _ (by simp [va_wsS])⟩
  have h2 := hd.2.2
  rw [h] at h2
  exact (Option.some.inj h2).symm
theorem vx_callSW (X : Stand p l e R s m args below meth c T locs cells slots) (hexec : p.tables.exec = Jvm.exec) {own : String} {index : Nat} {y : MethodName} {bytes : ByteArray} {maxL : Nat} {ret : Option FieldType} {hh : List (Nat × Nat × Nat × Nat)}
    (hown : s.vm.findClass own = some m.cls) (hlink : (Cond.methodLink own index y).before args s = true) (hstat : (Cond.static y).before args s = true) (hinit : (Cond.initialized y.cls).before args s = true)
    (hcode : (Cond.codeWith y bytes maxL ret hh).before args s = true) (hy : y.cls ≠ "java/lang/invoke/MethodHandle" ∧ y.cls ≠ "java/lang/invoke/VarHandle")
    {W9 : Nat} {Pre : Pt → Array Value → Prop} {Post : Pt → Array Value → Option Value → Pt → Prop} (hK : Back l R p e below s args y 3 W9 Pre Post)
    {g : JFrame} (hg : g.method = m) (hsize : g.locals.size = c.maxLocals) {argsL rest : List Value} (hlen : ∀ sig, parseMethodDescriptor y.desc = some sig → argsL.length = sig.parameters.length)
    (hstack : g.stack = argsL.reverse ++ rest) (hW : 2 * g.monitorRoom + (rest.map fun v => v.category).sum ≤ W9) (hdg : decode c.code g.pc = .ok (.invokestatic index, 3))
    (hpre : ∀ vm₁, s.WarmedH vm₁ → Pre ⟨T.setVm vm₁, locs, cells, slots⟩ argsL.toArray) :
    ∃ (v : Option Value) (vm₁ : Vm) (B : Pt), s.WarmedH vm₁ ∧ Stand p l e R s m args below meth c B.U B.locs B.cells B.slots ∧ Post ⟨T.setVm vm₁, locs, cells, slots⟩ argsL.toArray v B ∧
      ∀ target, Steps p.tables e below (B.U.setTop { g with pc := g.pc + 3, stack := v.toList ++ rest }) target → Steps p.tables e below (T.setTop g) target := by
  obtain ⟨mk, methM, cM, hnamed, hmethM, -, -, -, -, -, -, hsigM⟩ := Cond.codeWith_spec hcode
  have hstatic : methM.isStatic = true := Cond.static_spec hnamed hmethM hstat
  obtain ⟨kP, hkP, -⟩ := className_of_methodNamed hnamed
  have hinitP : kP.init = .initialized := Cond.initialized_spec (findClass_of_methodNamed hnamed) hkP hinit
  obtain ⟨vm₁, X₁, hstep₁⟩ := X.invokestatic hexec hown hlink hnamed hmethM hstatic hkP hinitP hy (g := g) hg (argsL := argsL) (rest := rest) (hlen _ hsigM) hstack hdg
  obtain ⟨v, B, X', hpost, hsteps⟩ := hK m meth c ⟨T.setVm vm₁, locs, cells, slots⟩ { g with stack := rest } (.invokestatic index) mk argsL.toArray X₁ hg hsize hdg hW (X₁.named hnamed) (hpre vm₁ X₁.warmed)
  exact ⟨v, vm₁, B, X₁.warmed, X', hpost, fun target h => hstep₁ _ fun acts => by rw [doInvoke_state]; exact hsteps.trans h⟩
theorem vx_runSW {y : MethodName} {bytes cc : ByteArray} {maxL nL mc ms n index : Nat} {ret : Option FieldType} {hh : List (Nat × Nat × Nat × Nat)} {ws : List Cond} {rm : Room} {Pc : Array Value → State → Prop} {Qc : Array Value → State → Outcome → State → Prop} {free : Addr → Prop} {Ts : List Cond} {own : String} {As rest : List Value} {g : JFrame}
    (S : CallFix p m c cc nL s args Ts own) (hM : Met l y ws rm Pc Qc mc ms free) (cw : vx_CSW R s args own index y bytes maxL ret hh ws rm mc ms n) (hp : PreS s H Pc As)
    (hg : g.method = m) (hn : As.length = n) (hsize : g.locals.size = nL) (hstack : g.stack = As.reverse ++ rest) (hW : 2 * g.monitorRoom + (rest.map fun v => v.category).sum ≤ 8) (hdg : decode cc g.pc = .ok (.invokestatic index, 3)) (hf : cells + mc ≤ R.cells ∧ slots + ms ≤ R.slots) :
    va_Run p l e R s m args below meth c H locs cells slots mc ms g rest (Qc As.toArray) (free) := by
  obtain ⟨⟨hrc, hrs, hfr, hlo, hws, hcw⟩, hcode, hini, hy, hlen, hl, hstt⟩ := cw
  have hK : Back l R p e below s args y 3 8 (PreOf R mc ms Pc) (PostOf Qc mc ms free) := va_backW (hh := hh) (bytes := bytes) (maxL := maxL) (ret := ret) hM hp.1 hrc hrs hfr hlo hws hcw (fun a' U hW => word_at hW (Or.inl (by first | rfl | simp [Cond.onTables, Cond.keeps, Cond.steady])) hini)
  obtain ⟨hx, hb, hml, ho, -⟩ := S
  intro T hT X
  obtain ⟨v, vm₁, ⟨U', l2, c2, s2⟩, hW₁, X', ⟨g', mk, t, L, e1, e2, hq, h1, hL, h2, h3⟩, st⟩ := vx_callSW X hx (hh := hh) (bytes := bytes) (maxL := maxL) (ret := ret) ho hl hstt hini hcode hy hK hg (hsize.trans hml.symm) (argsL := As) (rest := rest) (fun sig h => hn.trans (hlen sig h)) hstack hW (by rw [hb]; exact hdg)
    (fun vm₁ hW₁ => ⟨hf.1, hf.2, hp.2 (T.setVm vm₁) hT hW₁⟩)
  dsimp only [Pt.U, Pt.locs, Pt.cells, Pt.slots] at X' e1 e2 h1 h2 h3 st
  subst h1; subst h2; subst h3
  exact ⟨v, (T.setVm vm₁).calling g' mk As.toArray, t, U', L, hT, X', hL, e1, e2, hq, st⟩
/-- not caught here, past rows that name other classes: it goes on to the caller -/
theorem vx_outP {p : Program} {l : Launch} {e : Env} {R : Room} {s : State} {m : MethodId} {args : Array Value} {below : List Frame} {meth : Method} {c : Code} {H : Heap} {locs : List Loc} {cells slots : Nat} {free : Addr → Prop} {ls : Array Slot} {rest : List Value} {Qc : Array Value → State → Outcome → State → Prop} {XC : String → State → State → Prop}
    {pc : Nat} {own E : String} {ce : Cell} {q : Addr} {mc ms : Nat} (hown : s.vm.findClass own = some m.cls) (hlocks : meth.locks = false)
    (hpass : ∀ z ∈ c.exceptionTable.toList, covers z pc = false ∨ (z.catchType ≠ 0 ∧ ∃ nm : String, (Cond.classLink own z.catchType nm).before args s = true ∧ va_Nc E nm s)) (hcell : H[q]? = some ce) (hv : ce.vm = .none) (hcl : s.vm.findClass E = some ce.cls)
    (hx : ∀ t : State, t.heap = H → s.vm.Alike t.vm → XC E s t) (hf : ∀ z ∈ locs, free z.base) (hc : cells ≤ mc) (hs : slots ≤ ms) :
    vx_W p l e R s m args below meth c H locs cells slots (vx_MQ below Qc XC args s mc ms free) (F0 m pc ls rest) q := by
  intro T hT X
  have hpl : e.platform.magicAccessors = ({} : Platform).magicAccessors := by rw [X.admits.platform]
  obtain ⟨vm', hW', X', st⟩ := X.outThrough hlocks q (g := F0 m pc ls rest) rfl rfl rfl (cell := ce) (by rw [hT]; exact hcell) (by rw [hv]; rfl)
    (by obtain ⟨k9, h9, -⟩ := Vm.findClass_spec hcl; exact ⟨k9, h9⟩) (fun z hz => by
      rcases hpass z hz with h | ⟨hz0, nm, hl1, hn1⟩
      · exact Or.inl h
      · obtain ⟨c6, hc6, hcl6⟩ := Cond.classLink_spec hown hl1 e.platform hpl
        obtain ⟨a8, b8, h1, h2, h3⟩ := hn1
        cases Option.some.inj (h1.symm.trans hcl)
        cases Option.some.inj (h2.symm.trans hc6)
        exact Or.inr ⟨hz0, _, hcl6, h3⟩)
  obtain ⟨g₀, hfr⟩ := X'.frames_eq
  have hcell9 : ((T.setVm vm').setFrames (.throwing q :: below)).heap[q]? = some ce := by
    show T.heap[q]? = some ce
    rw [hT]; exact hcell
  have hend : Ended ((T.setVm vm').setFrames (.throwing q :: below)) below (.threw q) := State.frames_setFrames _ (State.cur_lt_of_frames hfr)
  refine ⟨(T.setVm vm').setFrames (.throwing q :: below), ?_, .threw q, X'.here.running, hend, Or.inr ⟨q, rfl, E, ce, locs, hx _ hT (X'.ends _).1.alike, hcell9, hv, hcl, (X'.ends _).1, (X'.ends _).2.mono hc hs, hf⟩⟩
  rw [X.pushThrowing_eq]
  exact st
/-- a thing of a world lies in the heap -/
theorem vx_lt {D : va_G} {cl : List vw_C} {ws : va_W} {H1 : Heap} (h : va_P D cl ws H1) {k : Nat} {q : Nat × va_E} (hk : ws[k]? = some q) : q.1 < H1.size := (h k q hk).lt
end VXS
/-! ===== END ===== -/
/-! ===== BEGIN methods with a table of their own: called by a name, returning or throwing ===== -/
section VXH
/-! vx_backW, vx_callVX, vx_callSX, vx_callVW, vx_runVW, vx_runVX, vx_runSX, vx_ofWH follow the same proofs as their sisters above (Free/Laws.lean, Shelf42/LK1.lean); vx_outP calls Shelf42/NT130.lean (outThrough). -/
section
variable {l : Launch} {R : Room} {p : Program} {e : Env} {below : List Frame} {s : State} {sargs : Array Value} {y : MethodName} {len W9 : Nat}
theorem vx_backW {ws : List Cond} {rm : Room} {Pc : Array Value → State → Prop} {Qc : Array Value → State → Outcome → State → Prop} {XC : String → State → State → Prop} {mc ms : Nat} {free : Addr → Prop} {bytes : ByteArray} {maxL : Nat} {ret : Option FieldType} {hh : List (Nat × Nat × Nat × Nat)}
    (hM : vx_Met l y ws rm Pc Qc XC mc ms free) (hblind : FrameBlind Pc) (hrc : rm.cells = mc) (hrs : rm.slots = ms)
    (hframes : rm.frames + 1 ≤ R.frames) (hlocals : W9 + (maxL + 11) + rm.locals ≤ R.locals)
    (hws : ∀ w ∈ ws, ∀ a' U, s.WarmedH U.vm → w.before a' U = true) (hcode : Cond.codeWith y bytes maxL ret hh ∈ ws) (hinit : ∀ a' U, s.WarmedH U.vm → (Cond.initialized y.cls).before a' U = true) :
    vx_Back l R p e below s sargs y len W9 (PreOf R mc ms Pc) (PostOf Qc mc ms free) (vx_Post XC mc ms free) := by
  intro m meth c A g ig mk a X hg hsize hdg hW hn hp
  have h1 : (headSpec ws rm).pre.before a A.U = true := atoms_intro fun w hw => hws w hw _ _ X.warmed
  have h2 : (Cond.codeWith y bytes maxL ret hh).before a A.U = true := hws _ hcode _ _ X.warmed
  have h3 : (Cond.initialized y.cls).before a A.U = true := hinit _ _ X.warmed
  have h4 : A.cells + (headSpec ws rm).room.cells ≤ R.cells := by rw [show (headSpec ws rm).room.cells = mc from hrc]; exact hp.1
  have h5 : A.slots + (headSpec ws rm).room.slots ≤ R.slots := by rw [show (headSpec ws rm).room.slots = ms from hrs]; exact hp.2.1
  have hPc : Pc a (A.U.calling g mk a) := hblind _ _ _ _ hp.2.2
  obtain ⟨U, Ls, c0, s0⟩ := A
  dsimp only [Pt.U, Pt.locs, Pt.cells, Pt.slots] at h1 h2 h3 h4 h5 X hn hPc ⊢
  obtain ⟨m9, methY, cY, hn9, hmY, hcY, -, hlY, -⟩ := Cond.codeWith_spec h2
  cases Option.some.inj (hn9.symm.trans hn)
  obtain ⟨kY, hkY, -⟩ := className_of_methodNamed hn
  have hinitY : kY.init = .initialized := Cond.initialized_spec (findClass_of_methodNamed hn) hkY h3
  have h : At U g.method c below := by rw [hg]; exact X.here
  have hlocals9 : W9 + (maxL + 11) + (headSpec ws rm).room.locals ≤ R.locals := hlocals
  have happ : (headSpec ws rm).appliesLoose y e.platform (U.calling g mk a) = true :=
    Spec.appliesLoose_calling (g := g) h hdg hn hkY hinitY
      (X.room_calling (g := g) (R' := (headSpec ws rm).room) hsize hmY hcY hframes (by rw [hlY]; omega) h4 h5) h1
  obtain ⟨mid, hmid⟩ := h.above
  have hfr : (U.setTop g).frames = (.java g :: mid) ++ below := by rw [State.frames_setTop' g h.top, hmid]; rfl
  obtain ⟨o, s₂, hsteps, -, hend, hq⟩ := Steps.callFree hM p X.admits X.cas X.clock (acts := []) hfr happ hPc trivial
  have hq' : vx_Q Qc XC mc ms free a (U.calling g mk a) o s₂ := hq
  rw [State.frames_setTop' g h.top] at hend
  obtain ⟨g₀, hg0⟩ := Option.isSome_iff_exists.mp h.top
  obtain ⟨r, hr⟩ := State.topJava?_eq_some.mp hg0
  have hr' : (({ U with heap := s₂.heap, slotsUsed := s₂.slotsUsed } : State).setVm s₂.vm).frames = .java g₀ :: r := hr
  rcases hq' with ⟨hqc, L, hfe, hL⟩ | ⟨q, rfl, E, ce, L, hx, hce, hcv, hcl, hW₂, hsm, hL⟩
  · obtain ⟨⟨v, rfl⟩, hW₂, e2, q2, q3, q4, q5, q6⟩ := id hfe
    have e3 : s₂ = ({ (U.calling g mk a).setFrames s₂.frames with heap := s₂.heap, slotsUsed := s₂.slotsUsed } : State).setVm s₂.vm := by
      have : s₂ = ({ s₂ with vm := (U.calling g mk a).vm } : State).setVm s₂.vm := rfl
      rw [e2] at this
      exact this
    obtain ⟨c₂, i₂, len₂, hc₂, hd₂, hf₂⟩ := hend
    have hW' : U.WarmedH s₂.vm := hW₂
    have hcc : c₂ = c := by
      have h1 : s₂.code? g.method = U.code? g.method := by
        rw [State.code?_eq, State.code?_eq, hW'.alike.method?]
      exact Option.some.inj (hc₂.symm.trans (h1.trans h.code))
    subst hcc
    have hlen : len₂ = len := by rw [hdg] at hd₂; cases hd₂; rfl
    subst hlen
    have hs₂ : s₂ = (({ U with heap := s₂.heap, slotsUsed := s₂.slotsUsed } : State).setVm s₂.vm).setTop { g with pc := g.pc + len₂, stack := v.toList ++ g.stack } := by
      refine e3.trans ?_
      rw [hf₂, State.calling_eq h.top, State.setFrames_setFrames, State.setTop_of_frames _ hr', hr]
      rfl
    have hsame : U.sameButNew ({ U with heap := s₂.heap, slotsUsed := s₂.slotsUsed } : State) L mc ms := by
      refine ⟨?_, q2, q3, q4, q5, q6⟩
      obtain ⟨t, ht, -⟩ := State.frames_cons hr
      show ({ U with heap := s₂.heap, slotsUsed := s₂.slotsUsed } : State) = { U.setFrames U.frames with heap := s₂.heap, slotsUsed := s₂.slotsUsed }
      rw [State.setFrames_self ht]
    subst hg
    refine Or.inl ⟨v, ⟨(({ U with heap := s₂.heap, slotsUsed := s₂.slotsUsed } : State).setVm s₂.vm), Ls ++ L, c0 + mc, s0 + ms⟩,
      ⟨X.admits, X.cas, X.clock, X.frames, X.room, X.hears, X.method, X.code, (X.here.setHeapUsed s₂.heap s₂.slotsUsed).setVm hW'.alike, X.tail, State.WarmedH.trans X.warmed hW', X.limits, X.bytes, X.same.trans (hsame.setVm s.vm)⟩,
      ⟨g, mk, s₂, L, rfl, rfl, hqc, rfl, hL, rfl, rfl⟩, ?_⟩
    show Steps p.tables e below _ ((({ U with heap := s₂.heap, slotsUsed := s₂.slotsUsed } : State).setVm s₂.vm).setTop { g with pc := g.pc + len₂, stack := v.toList ++ g.stack })
    rw [← hs₂]
    exact hsteps
  · obtain ⟨e2, q2, q3, q4, q5, q6⟩ := id hsm
    have e3 : s₂ = ({ (U.calling g mk a).setFrames s₂.frames with heap := s₂.heap, slotsUsed := s₂.slotsUsed } : State).setVm s₂.vm := by
      have : s₂ = ({ s₂ with vm := (U.calling g mk a).vm } : State).setVm s₂.vm := rfl
      rw [e2] at this
      exact this
    have hf₂ : s₂.frames = .throwing q :: .java g :: U.frames.tail := hend
    have hW' : U.WarmedH s₂.vm := hW₂
    have hs₂ : s₂ = ((({ U with heap := s₂.heap, slotsUsed := s₂.slotsUsed } : State).setVm s₂.vm).setTop g).pushFrame (.throwing q) := by
      refine e3.trans ?_
      rw [hf₂, State.calling_eq h.top, State.setFrames_setFrames, State.pushFrame, State.frames_setTop _ hr', State.setTop_of_frames _ hr', State.setFrames_setFrames, hr]
      rfl
    have hsame : U.sameButNew ({ U with heap := s₂.heap, slotsUsed := s₂.slotsUsed } : State) L mc ms := by
      refine ⟨?_, q2, q3, q4, q5, q6⟩
      obtain ⟨t, ht, -⟩ := State.frames_cons hr
      show ({ U with heap := s₂.heap, slotsUsed := s₂.slotsUsed } : State) = { U.setFrames U.frames with heap := s₂.heap, slotsUsed := s₂.slotsUsed }
      rw [State.setFrames_self ht]
    subst hg
    refine Or.inr ⟨q, ⟨(({ U with heap := s₂.heap, slotsUsed := s₂.slotsUsed } : State).setVm s₂.vm), Ls ++ L, c0 + mc, s0 + ms⟩,
      ⟨X.admits, X.cas, X.clock, X.frames, X.room, X.hears, X.method, X.code, (X.here.setHeapUsed s₂.heap s₂.slotsUsed).setVm hW'.alike, X.tail, State.WarmedH.trans X.warmed hW', X.limits, X.bytes, X.same.trans (hsame.setVm s.vm)⟩,
      ⟨g, mk, s₂, L, E, ce, rfl, rfl, hx, hce, hcv, hcl, rfl, hL, rfl, rfl⟩, ?_⟩
    show Steps p.tables e below _ (((({ U with heap := s₂.heap, slotsUsed := s₂.slotsUsed } : State).setVm s₂.vm).setTop g).pushFrame (.throwing q))
    rw [← hs₂]
    exact hsteps
end
variable {p : Program} {l : Launch} {e : Env} {R : Room} {s : State} {m : MethodId} {args : Array Value} {below : List Frame} {meth : Method} {c : Code} {T : State} {H : Heap} {locs : List Loc} {cells slots : Nat}
theorem vx_callVX (X : Stand p l e R s m args below meth c T locs cells slots) (hexec : p.tables.exec = Jvm.exec) {own C : String} {index : Nat} {y : MethodName} {bytes : ByteArray} {maxL : Nat} {ret : Option FieldType} {hh : List (Nat × Nat × Nat × Nat)}
    (hown : s.vm.findClass own = some m.cls) (hlink : (Cond.methodLink own index y).before args s = true) (hinst : (Cond.instanceMethod y).before args s = true) (hsel : (Cond.selects C y y).before args s = true)
    (hcode : (Cond.codeWith y bytes maxL ret hh).before args s = true) (hy : y.cls ≠ "java/lang/invoke/MethodHandle" ∧ y.cls ≠ "java/lang/invoke/VarHandle")
    {W9 : Nat} {Pre : Pt → Array Value → Prop} {Post : Pt → Array Value → Option Value → Pt → Prop} {PostX : Pt → Array Value → Addr → Pt → Prop} (hK : vx_Back l R p e below s args y 3 W9 Pre Post PostX)
    {b : Addr} {cellB : Cell} (hcell : T.heap[b]? = some cellB) (hobj : cellB.vm.isStatics = false) (hcls : s.vm.findClass C = some cellB.cls)
    {g : JFrame} (hg : g.method = m) (hsize : g.locals.size = c.maxLocals) {argsL rest : List Value} (hlen : ∀ sig, parseMethodDescriptor y.desc = some sig → argsL.length = sig.parameters.length)
    (hstack : g.stack = argsL.reverse ++ .ref b :: rest) (hW : 2 * g.monitorRoom + (rest.map fun v => v.category).sum ≤ W9) (hdg : decode c.code g.pc = .ok (.invokevirtual index, 3))
    (hpre : ∀ vm₁, s.WarmedH vm₁ → Pre ⟨T.setVm vm₁, locs, cells, slots⟩ (Value.ref b :: argsL).toArray) :
    (∃ (v : Option Value) (vm₁ : Vm) (B : Pt), s.WarmedH vm₁ ∧ Stand p l e R s m args below meth c B.U B.locs B.cells B.slots ∧ Post ⟨T.setVm vm₁, locs, cells, slots⟩ (Value.ref b :: argsL).toArray v B ∧
      ∀ target, Steps p.tables e below (B.U.setTop { g with pc := g.pc + 3, stack := v.toList ++ rest }) target → Steps p.tables e below (T.setTop g) target) ∨
    (∃ (q : Addr) (vm₁ : Vm) (B : Pt), s.WarmedH vm₁ ∧ Stand p l e R s m args below meth c B.U B.locs B.cells B.slots ∧ PostX ⟨T.setVm vm₁, locs, cells, slots⟩ (Value.ref b :: argsL).toArray q B ∧
      Steps p.tables e below (T.setTop g) ((B.U.setTop { g with stack := rest }).pushFrame (.throwing q))) := by
  obtain ⟨mk, methM, hnamed, hmethM, hstM, habM⟩ := Cond.instanceMethod_spec hinst
  obtain ⟨m8, methM', cM, hn8, hmethM', -, -, -, -, -, -, hsigM⟩ := Cond.codeWith_spec hcode
  cases Option.some.inj (hn8.symm.trans hnamed)
  cases hmethM.symm.trans hmethM'
  obtain ⟨c2, r2, m2, q1, q2, q3, q4, kP, hkP, hkPi⟩ := Cond.selects_spec hsel
  cases hcls.symm.trans q1
  cases (State.methodFound?_of_named hnamed hy).symm.trans q2
  cases hnamed.symm.trans q3
  have hselP : selectMethod e.platform s.vm cellB.cls mk = .method mk := by rw [Launch.admits_selectMethod X.admits]; exact q4
  obtain ⟨vm₁, X₁, hstep₁⟩ := X.invokevirtual hexec hown hlink hnamed hmethM hstM hkP hkPi hy (a := b) (cell := cellB) hcell
    (fun z h => by rw [h] at hobj; cases hobj) hselP hmethM habM hkP hkPi (g := g) hg (argsL := argsL) (rest := rest) (hlen _ hsigM) hstack hdg
  rcases hK m meth c ⟨T.setVm vm₁, locs, cells, slots⟩ { g with stack := rest } (.invokevirtual index) mk (Value.ref b :: argsL).toArray X₁ hg hsize hdg hW (X₁.named hnamed) (hpre vm₁ X₁.warmed) with ⟨v, B, X', hpost, hsteps⟩ | ⟨q, B, X', hpost, hsteps⟩
  · exact Or.inl ⟨v, vm₁, B, X₁.warmed, X', hpost, fun target h => hstep₁ _ fun acts => by rw [doInvoke_state]; exact hsteps.trans h⟩
  · exact Or.inr ⟨q, vm₁, B, X₁.warmed, X', hpost, hstep₁ _ fun acts => by rw [doInvoke_state]; exact hsteps⟩
theorem vx_callSX (X : Stand p l e R s m args below meth c T locs cells slots) (hexec : p.tables.exec = Jvm.exec) {own : String} {index : Nat} {y : MethodName} {bytes : ByteArray} {maxL : Nat} {ret : Option FieldType} {hh : List (Nat × Nat × Nat × Nat)}
    (hown : s.vm.findClass own = some m.cls) (hlink : (Cond.methodLink own index y).before args s = true) (hstat : (Cond.static y).before args s = true) (hinit : (Cond.initialized y.cls).before args s = true)
    (hcode : (Cond.codeWith y bytes maxL ret hh).before args s = true) (hy : y.cls ≠ "java/lang/invoke/MethodHandle" ∧ y.cls ≠ "java/lang/invoke/VarHandle")
    {W9 : Nat} {Pre : Pt → Array Value → Prop} {Post : Pt → Array Value → Option Value → Pt → Prop} {PostX : Pt → Array Value → Addr → Pt → Prop} (hK : vx_Back l R p e below s args y 3 W9 Pre Post PostX)
    {g : JFrame} (hg : g.method = m) (hsize : g.locals.size = c.maxLocals) {argsL rest : List Value} (hlen : ∀ sig, parseMethodDescriptor y.desc = some sig → argsL.length = sig.parameters.length)
    (hstack : g.stack = argsL.reverse ++ rest) (hW : 2 * g.monitorRoom + (rest.map fun v => v.category).sum ≤ W9) (hdg : decode c.code g.pc = .ok (.invokestatic index, 3))
    (hpre : ∀ vm₁, s.WarmedH vm₁ → Pre ⟨T.setVm vm₁, locs, cells, slots⟩ argsL.toArray) :
    (∃ (v : Option Value) (vm₁ : Vm) (B : Pt), s.WarmedH vm₁ ∧ Stand p l e R s m args below meth c B.U B.locs B.cells B.slots ∧ Post ⟨T.setVm vm₁, locs, cells, slots⟩ argsL.toArray v B ∧
      ∀ target, Steps p.tables e below (B.U.setTop { g with pc := g.pc + 3, stack := v.toList ++ rest }) target → Steps p.tables e below (T.setTop g) target) ∨
    (∃ (q : Addr) (vm₁ : Vm) (B : Pt), s.WarmedH vm₁ ∧ Stand p l e R s m args below meth c B.U B.locs B.cells B.slots ∧ PostX ⟨T.setVm vm₁, locs, cells, slots⟩ argsL.toArray q B ∧
      Steps p.tables e below (T.setTop g) ((B.U.setTop { g with stack := rest }).pushFrame (.throwing q))) := by
  obtain ⟨mk, methM, cM, hnamed, hmethM, -, -, -, -, -, -, hsigM⟩ := Cond.codeWith_spec hcode
  have hstatic : methM.isStatic = true := Cond.static_spec hnamed hmethM hstat
  obtain ⟨kP, hkP, -⟩ := className_of_methodNamed hnamed
  have hinitP : kP.init = .initialized := Cond.initialized_spec (findClass_of_methodNamed hnamed) hkP hinit
  obtain ⟨vm₁, X₁, hstep₁⟩ := X.invokestatic hexec hown hlink hnamed hmethM hstatic hkP hinitP hy (g := g) hg (argsL := argsL) (rest := rest) (hlen _ hsigM) hstack hdg
  rcases hK m meth c ⟨T.setVm vm₁, locs, cells, slots⟩ { g with stack := rest } (.invokestatic index) mk argsL.toArray X₁ hg hsize hdg hW (X₁.named hnamed) (hpre vm₁ X₁.warmed) with ⟨v, B, X', hpost, hsteps⟩ | ⟨q, B, X', hpost, hsteps⟩
  · exact Or.inl ⟨v, vm₁, B, X₁.warmed, X', hpost, fun target h => hstep₁ _ fun acts => by rw [doInvoke_state]; exact hsteps.trans h⟩
  · exact Or.inr ⟨q, vm₁, B, X₁.warmed, X', hpost, hstep₁ _ fun acts => by rw [doInvoke_state]; exact hsteps⟩
theorem vx_callVW (X : Stand p l e R s m args below meth c T locs cells slots) (hexec : p.tables.exec = Jvm.exec) {own C : String} {index : Nat} {y : MethodName} {bytes : ByteArray} {maxL : Nat} {ret : Option FieldType} {hh : List (Nat × Nat × Nat × Nat)}
    (hown : s.vm.findClass own = some m.cls) (hlink : (Cond.methodLink own index y).before args s = true) (hinst : (Cond.instanceMethod y).before args s = true) (hsel : (Cond.selects C y y).before args s = true)
    (hcode : (Cond.codeWith y bytes maxL ret hh).before args s = true) (hy : y.cls ≠ "java/lang/invoke/MethodHandle" ∧ y.cls ≠ "java/lang/invoke/VarHandle")
    {W9 : Nat} {Pre : Pt → Array Value → Prop} {Post : Pt → Array Value → Option Value → Pt → Prop} (hK : Back l R p e below s args y 3 W9 Pre Post)
    {b : Addr} {cellB : Cell} (hcell : T.heap[b]? = some cellB) (hobj : cellB.vm.isStatics = false) (hcls : s.vm.findClass C = some cellB.cls)
    {g : JFrame} (hg : g.method = m) (hsize : g.locals.size = c.maxLocals) {argsL rest : List Value} (hlen : ∀ sig, parseMethodDescriptor y.desc = some sig → argsL.length = sig.parameters.length)
    (hstack : g.stack = argsL.reverse ++ .ref b :: rest) (hW : 2 * g.monitorRoom + (rest.map fun v => v.category).sum ≤ W9) (hdg : decode c.code g.pc = .ok (.invokevirtual index, 3))
    (hpre : ∀ vm₁, s.WarmedH vm₁ → Pre ⟨T.setVm vm₁, locs, cells, slots⟩ (Value.ref b :: argsL).toArray) :
    ∃ (v : Option Value) (vm₁ : Vm) (B : Pt), s.WarmedH vm₁ ∧ Stand p l e R s m args below meth c B.U B.locs B.cells B.slots ∧ Post ⟨T.setVm vm₁, locs, cells, slots⟩ (Value.ref b :: argsL).toArray v B ∧
      ∀ target, Steps p.tables e below (B.U.setTop { g with pc := g.pc + 3, stack := v.toList ++ rest }) target → Steps p.tables e below (T.setTop g) target := by
  obtain ⟨mk, methM, hnamed, hmethM, hstM, habM⟩ := Cond.instanceMethod_spec hinst
  obtain ⟨m8, methM', cM, hn8, hmethM', -, -, -, -, -, -, hsigM⟩ := Cond.codeWith_spec hcode
  cases Option.some.inj (hn8.symm.trans hnamed)
  cases hmethM.symm.trans hmethM'
  obtain ⟨c2, r2, m2, q1, q2, q3, q4, kP, hkP, hkPi⟩ := Cond.selects_spec hsel
  cases hcls.symm.trans q1
  cases (State.methodFound?_of_named hnamed hy).symm.trans q2
  cases hnamed.symm.trans q3
  have hselP : selectMethod e.platform s.vm cellB.cls mk = .method mk := by rw [Launch.admits_selectMethod X.admits]; exact q4
  obtain ⟨vm₁, X₁, hstep₁⟩ := X.invokevirtual hexec hown hlink hnamed hmethM hstM hkP hkPi hy (a := b) (cell := cellB) hcell
    (fun z h => by rw [h] at hobj; cases hobj) hselP hmethM habM hkP hkPi (g := g) hg (argsL := argsL) (rest := rest) (hlen _ hsigM) hstack hdg
  obtain ⟨v, B, X', hpost, hsteps⟩ := hK m meth c ⟨T.setVm vm₁, locs, cells, slots⟩ { g with stack := rest } (.invokevirtual index) mk (Value.ref b :: argsL).toArray X₁ hg hsize hdg hW (X₁.named hnamed) (hpre vm₁ X₁.warmed)
  exact ⟨v, vm₁, B, X₁.warmed, X', hpost, fun target h => hstep₁ _ fun acts => by rw [doInvoke_state]; exact hsteps.trans h⟩
abbrev vx_CVW (R : Room) (s : State) (args : Array Value) (own C : String) (index : Nat) (y : MethodName) (bytes : ByteArray) (maxL : Nat) (ret : Option FieldType) (hh : List (Nat × Nat × Nat × Nat)) (ws : List Cond) (rm : Room) (mc ms n : Nat) : Prop :=
  (rm.cells = mc ∧ rm.slots = ms ∧ rm.frames + 1 ≤ R.frames ∧ 8 + (maxL + 11) + rm.locals ≤ R.locals ∧ (∀ w ∈ ws, ∀ (a' : Array Value) (U : State), s.WarmedH U.vm → w.before a' U = true) ∧ Cond.codeWith y bytes maxL ret hh ∈ ws) ∧
  (Cond.codeWith y bytes maxL ret hh).before args s = true ∧ (Cond.initialized y.cls).before args s = true ∧ (y.cls ≠ "java/lang/invoke/MethodHandle" ∧ y.cls ≠ "java/lang/invoke/VarHandle") ∧
  (∀ sig, parseMethodDescriptor y.desc = some sig → n = sig.parameters.length) ∧ (Cond.methodLink own index y).before args s = true ∧ (Cond.instanceMethod y).before args s = true ∧ (Cond.selects C y y).before args s = true
theorem vx_cwVW {own C : String} {index maxL mc ms : Nat} {y : MethodName} {bytes : ByteArray} {ret : Option FieldType} {hh : List (Nat × Nat × Nat × Nat)} {Ts ws ws' : List Cond} {rm : Room} (n : Nat) (ht : ∀ w ∈ Ts, w.before args s = true) (hT : GoodIn Ts (wsV own index C y ws)) (hw : ws = Cond.codeWith y bytes maxL ret hh :: ws') (hrc : rm.cells = mc) (hrs : rm.slots = ms)
    (hd : y.cls = C ∧ y.cls ≠ "java/lang/invoke/MethodHandle" ∧ y.cls ≠ "java/lang/invoke/VarHandle" ∧ (parseMethodDescriptor y.desc).map (fun d => d.parameters.length) = some n) (hR : rm.frames + 1 ≤ R.frames ∧ 8 + (maxL + 11) + rm.locals ≤ R.locals) :
    vx_CVW R s args own C index y bytes maxL ret hh ws rm mc ms n := by
  obtain ⟨hC, hd⟩ := hd
  subst hC
  have ok : ∀ w ∈ wsV own index y.cls y ws, w.before args s = true := fun w h => ht w (hT w h).1
  have hG : GoodIn Ts ws := fun w h => hT w (by unfold wsV; exact List.mem_append_right _ h)
  have hc : Cond.codeWith y bytes maxL ret hh ∈ ws := by rw [hw]; exact List.mem_cons_self
  refine ⟨⟨hrc, hrs, hR.1, hR.2, pay_in ht hG, hc⟩, ht _ (hG _ hc).1, ok _ (by simp [wsV]), ⟨hd.1, hd.2.1⟩, fun sig h => ?_, ok _ (by simp [wsV]), ok _ (by simp [wsV]), ok _ (by simp [wsV])⟩
  have h2 := hd.2.2
  rw [h] at h2
  exact (Option.some.inj h2).symm
theorem vx_runVW {y : MethodName} {bytes cc : ByteArray} {maxL nL mc ms n index : Nat} {ret : Option FieldType} {hh : List (Nat × Nat × Nat × Nat)} {ws : List Cond} {rm : Room} {Pc : Array Value → State → Prop} {Qc : Array Value → State → Outcome → State → Prop} {free : Addr → Prop} {Ts : List Cond} {own C : String} {b : Addr} {As rest : List Value} {g : JFrame}
    (S : CallFix p m c cc nL s args Ts own) (hM : Met l y ws rm Pc Qc mc ms free) (cw : vx_CVW R s args own C index y bytes maxL ret hh ws rm mc ms n) (hp : PreV s H C b Pc As)
    (hg : g.method = m) (hn : As.length = n) (hsize : g.locals.size = nL) (hstack : g.stack = As.reverse ++ .ref b :: rest) (hW : 2 * g.monitorRoom + (rest.map fun v => v.category).sum ≤ 8) (hdg : decode cc g.pc = .ok (.invokevirtual index, 3)) (hf : cells + mc ≤ R.cells ∧ slots + ms ≤ R.slots) :
    va_Run p l e R s m args below meth c H locs cells slots mc ms g rest (Qc (Value.ref b :: As).toArray) free := by
  obtain ⟨⟨hrc, hrs, hfr, hlo, hws, hcw⟩, hcode, hini, hy, hlen, hl, hin, hse⟩ := cw
  have hK : Back l R p e below s args y 3 8 (PreOf R mc ms Pc) (PostOf Qc mc ms free) := va_backW (hh := hh) (bytes := bytes) (maxL := maxL) (ret := ret) hM hp.1 hrc hrs hfr hlo hws hcw (fun a' U hW => word_at hW (Or.inl (by first | rfl | simp [Cond.onTables, Cond.keeps, Cond.steady])) hini)
  obtain ⟨hx, hb, hml, ho, -⟩ := S
  obtain ⟨-, ⟨cellB, hcB, hoB, hclB⟩, hPc⟩ := hp
  intro T hT X
  obtain ⟨v, vm₁, ⟨U', l2, c2, s2⟩, hW₁, X', ⟨g', mk, t, L, e1, e2, hq, h1, hL, h2, h3⟩, st⟩ := vx_callVW X hx (C := C) (hh := hh) (bytes := bytes) (maxL := maxL) (ret := ret) ho hl hin hse hcode hy hK (by rw [hT]; exact hcB) hoB hclB hg (hsize.trans hml.symm) (argsL := As) (rest := rest) (fun sig h => hn.trans (hlen sig h)) hstack hW (by rw [hb]; exact hdg)
    (fun vm₁ hW₁ => ⟨hf.1, hf.2, hPc (T.setVm vm₁) hT hW₁⟩)
  dsimp only [Pt.U, Pt.locs, Pt.cells, Pt.slots] at X' e1 e2 h1 h2 h3 st
  subst h1; subst h2; subst h3
  exact ⟨v, (T.setVm vm₁).calling g' mk (Value.ref b :: As).toArray, t, U', L, hT, X', hL, e1, e2, hq, st⟩
section
variable {y : MethodName} {bytes cc : ByteArray} {maxL nL mc ms n index : Nat} {ret : Option FieldType} {ws : List Cond} {rm : Room} {Pc : Array Value → State → Prop} {Qc : Array Value → State → Outcome → State → Prop} {XC : String → State → State → Prop} {free : Addr → Prop} {Ts : List Cond} {own C : String} {b : Addr} {As rest : List Value} {g : JFrame}
theorem vx_runVX {hh : List (Nat × Nat × Nat × Nat)} (S : CallFix p m c cc nL s args Ts own) (hM : vx_Met l y ws rm Pc Qc XC mc ms free) (cw : vx_CVW R s args own C index y bytes maxL ret hh ws rm mc ms n) (hp : PreV s H C b Pc As)
    (hg : g.method = m) (hn : As.length = n) (hsize : g.locals.size = nL) (hstack : g.stack = As.reverse ++ .ref b :: rest) (hW : 2 * g.monitorRoom + (rest.map fun v => v.category).sum ≤ 8) (hdg : decode cc g.pc = .ok (.invokevirtual index, 3)) (hf : cells + mc ≤ R.cells ∧ slots + ms ≤ R.slots) :
    vx_Run p l e R s m args below meth c H locs cells slots mc ms g rest (Qc (Value.ref b :: As).toArray) XC free := by
  obtain ⟨⟨hrc, hrs, hfr, hlo, hws, hcw⟩, hcode, hini, hy, hlen, hl, hin, hse⟩ := cw
  have hK : vx_Back l R p e below s args y 3 8 (PreOf R mc ms Pc) (PostOf Qc mc ms free) (vx_Post XC mc ms free) := vx_backW (hh := hh) (bytes := bytes) (maxL := maxL) (ret := ret) hM hp.1 hrc hrs hfr hlo hws hcw (fun a' U hW => word_at hW (Or.inl (by first | rfl | simp [Cond.onTables, Cond.keeps, Cond.steady])) hini)
  obtain ⟨hx, hb, hml, ho, -⟩ := S
  obtain ⟨-, ⟨cellB, hcB, hoB, hclB⟩, hPc⟩ := hp
  intro T hT X
  rcases vx_callVX X hx (C := C) (hh := hh) (bytes := bytes) (maxL := maxL) (ret := ret) ho hl hin hse hcode hy hK (by rw [hT]; exact hcB) hoB hclB hg (hsize.trans hml.symm) (argsL := As) (rest := rest) (fun sig h => hn.trans (hlen sig h)) hstack hW (by rw [hb]; exact hdg)
    (fun vm₁ hW₁ => ⟨hf.1, hf.2, hPc (T.setVm vm₁) hT hW₁⟩) with ⟨v, vm₁, ⟨U', l2, c2, s2⟩, hW₁, X', ⟨g', mk, t, L, e1, e2, hq, h1, hL, h2, h3⟩, st⟩ | ⟨q, vm₁, ⟨U', l2, c2, s2⟩, hW₁, X', ⟨g', mk, t, L, E, ce, e1, e2, hq, hce, hcv, hcl, h1, hL, h2, h3⟩, st⟩
  · dsimp only [Pt.U, Pt.locs, Pt.cells, Pt.slots] at X' e1 e2 h1 h2 h3 st
    subst h1; subst h2; subst h3
    exact Or.inl ⟨v, (T.setVm vm₁).calling g' mk (Value.ref b :: As).toArray, t, U', L, hT, X', hL, e1, e2, hq, st⟩
  · dsimp only [Pt.U, Pt.locs, Pt.cells, Pt.slots] at X' e1 e2 h1 h2 h3 st hcl
    subst h1; subst h2; subst h3
    exact Or.inr ⟨q, (T.setVm vm₁).calling g' mk (Value.ref b :: As).toArray, t, U', L, E, ce, hT, X', hL, e1, e2, hq, hce, hcv, vx_cls hW₁ hcl, st⟩
theorem vx_runSX {hh : List (Nat × Nat × Nat × Nat)} (S : CallFix p m c cc nL s args Ts own) (hM : vx_Met l y ws rm Pc Qc XC mc ms free) (cw : vx_CSW R s args own index y bytes maxL ret hh ws rm mc ms n) (hp : PreS s H Pc As)
    (hg : g.method = m) (hn : As.length = n) (hsize : g.locals.size = nL) (hstack : g.stack = As.reverse ++ rest) (hW : 2 * g.monitorRoom + (rest.map fun v => v.category).sum ≤ 8) (hdg : decode cc g.pc = .ok (.invokestatic index, 3)) (hf : cells + mc ≤ R.cells ∧ slots + ms ≤ R.slots) :
    vx_Run p l e R s m args below meth c H locs cells slots mc ms g rest (Qc As.toArray) XC free := by
  obtain ⟨⟨hrc, hrs, hfr, hlo, hws, hcw⟩, hcode, hini, hy, hlen, hl, hstt⟩ := cw
  have hK : vx_Back l R p e below s args y 3 8 (PreOf R mc ms Pc) (PostOf Qc mc ms free) (vx_Post XC mc ms free) := vx_backW (hh := hh) (bytes := bytes) (maxL := maxL) (ret := ret) hM hp.1 hrc hrs hfr hlo hws hcw (fun a' U hW => word_at hW (Or.inl (by first | rfl | simp [Cond.onTables, Cond.keeps, Cond.steady])) hini)
  obtain ⟨hx, hb, hml, ho, -⟩ := S
  intro T hT X
  rcases vx_callSX X hx (hh := hh) (bytes := bytes) (maxL := maxL) (ret := ret) ho hl hstt hini hcode hy hK hg (hsize.trans hml.symm) (argsL := As) (rest := rest) (fun sig h => hn.trans (hlen sig h)) hstack hW (by rw [hb]; exact hdg)
    (fun vm₁ hW₁ => ⟨hf.1, hf.2, hp.2 (T.setVm vm₁) hT hW₁⟩) with ⟨v, vm₁, ⟨U', l2, c2, s2⟩, hW₁, X', ⟨g', mk, t, L, e1, e2, hq, h1, hL, h2, h3⟩, st⟩ | ⟨q, vm₁, ⟨U', l2, c2, s2⟩, hW₁, X', ⟨g', mk, t, L, E, ce, e1, e2, hq, hce, hcv, hcl, h1, hL, h2, h3⟩, st⟩
  · dsimp only [Pt.U, Pt.locs, Pt.cells, Pt.slots] at X' e1 e2 h1 h2 h3 st
    subst h1; subst h2; subst h3
    exact Or.inl ⟨v, (T.setVm vm₁).calling g' mk As.toArray, t, U', L, hT, X', hL, e1, e2, hq, st⟩
  · dsimp only [Pt.U, Pt.locs, Pt.cells, Pt.slots] at X' e1 e2 h1 h2 h3 st hcl
    subst h1; subst h2; subst h3
    exact Or.inr ⟨q, (T.setVm vm₁).calling g' mk As.toArray, t, U', L, E, ce, hT, X', hL, e1, e2, hq, hce, hcv, vx_cls hW₁ hcl, st⟩
end
end VXH
theorem vx_ofWH {l : Launch} {y : MethodName} {ws ws' : List Cond} {rm : Room} {Pc : Array Value → State → Prop} {Qc : Array Value → State → Outcome → State → Prop} {XC : String → State → State → Prop} {mc ms : Nat} {free : Addr → Prop} {cc : ByteArray} {maxL : Nat} {ret : Option FieldType} {hh : List (Nat × Nat × Nat × Nat)}
    (hy : plainName y.cls = true) (hw : ws = Cond.codeWith y cc maxL ret hh :: ws')
    (body : ∀ p e s m args below meth c s₁, BodyLoose p l y (headSpec ws rm) cc maxL ret e s m args below meth c s₁ → c.maxLocals = maxL → Pc args s →
      W p l e (headSpec ws rm).room s m args below meth c s.heap [] 0 0 (vx_MQ below Qc XC args s mc ms free) (entryFrame m args maxL)) : vx_Met l y ws rm Pc Qc XC mc ms free := by
  refine MetFree.of_bodyS (code := cc) (maxLocals := maxL) (ret := ret) hy ?_ ?_
  · intro args s m h hn
    obtain ⟨m9, meth, c, hn9, h1, h2, h3, h4, -, h5, h6, -⟩ := Cond.codeWith_spec (atoms_spec (ws := ws) h _ (by rw [hw]; exact List.mem_cons_self))
    cases hn.symm.trans hn9
    exact ⟨meth, c, h1, h2, h3, h4, h5, h6⟩
  · intro p e s m args below meth c s₁ B hml hP _
    have hh0 : s₁.heap = s.heap := by rw [B.state]; rfl
    obtain ⟨t, a1, o, b1, b2, b3⟩ := body p e s m args below meth c s₁ B hml hP s₁ hh0 (Stand.of_body B)
    exact ⟨t, o, a1, b1, b2, b3⟩
/-! ===== END ===== -/
end
section
def RX0 : String := "PeerStores$Code"
def TX0 : u_T := fun k => match k with
  | _ => ("", "", "", false)
def tyX0 : Nat → FieldType := fun k => match k with
  | _ => .int
abbrev wsX00 : List Cond := u_ws RX0 TX0 0
theorem nmX0 : ∀ a, a < 0 → ∀ b, b < 0 → a ≠ b → (TX0 a).2.1 ≠ (TX0 b).2.1 := by decide +kernel
theorem tyX0_ok : ∀ k, k < 0 → parseFieldDescriptor (TX0 k).2.2.1 = some (tyX0 k) := by decide +kernel
abbrev cX0_times : ByteArray := prog_2_method_2_code
def yX0_times : MethodName := ⟨RX0, "times", "(II)I"⟩
abbrev cX0_inverse : ByteArray := prog_2_method_3_code
def yX0_inverse : MethodName := ⟨RX0, "inverse", "(I)I"⟩
abbrev cX0_weighted : ByteArray := prog_2_method_4_code
def yX0_weighted : MethodName := ⟨RX0, "weighted", "(II)I"⟩
abbrev cX0_isIn : ByteArray := prog_2_method_5_code
def yX0_isIn : MethodName := ⟨RX0, "isIn", "(II)Z"⟩
abbrev cX0_pieces : ByteArray := prog_2_method_6_code
def yX0_pieces : MethodName := ⟨RX0, "pieces", "(I)[I"⟩
abbrev cX0_solve : ByteArray := prog_2_method_7_code
def yX0_solve : MethodName := ⟨RX0, "solve", "([II)I"⟩
abbrev cX0_solveTwo : ByteArray := prog_2_method_8_code
def yX0_solveTwo : MethodName := ⟨RX0, "solveTwo", "(IIII)I"⟩
def RX1 : String := "PeerStores$Contracts"
def TX1 : u_T := fun k => match k with
  | 0 => ("PeerStores$Contracts", "peers", "LPeerStores$Peers;", true)
  | 1 => ("PeerStores$Contracts", "search", "LPeerStores$Search;", true)
  | _ => ("PeerStores$Contracts", "ledger", "LPeerStores$Ledger;", true)
def tyX1 : Nat → FieldType := fun k => match k with
  | 0 => .object "PeerStores$Peers"
  | 1 => .object "PeerStores$Search"
  | _ => .object "PeerStores$Ledger"
abbrev wsX10 : List Cond := u_ws RX1 TX1 3
theorem nmX1 : ∀ a, a < 3 → ∀ b, b < 3 → a ≠ b → (TX1 a).2.1 ≠ (TX1 b).2.1 := by decide +kernel
theorem tyX1_ok : ∀ k, k < 3 → parseFieldDescriptor (TX1 k).2.2.1 = some (tyX1 k) := by decide +kernel
abbrev cX1_init : ByteArray := prog_3_method_1_code
def yX1_init : MethodName := ⟨RX1, "<init>", "(LPeerStores$Peers;LPeerStores$Search;LPeerStores$Ledger;)V"⟩
abbrev cX1_storeMissing : ByteArray := prog_3_method_2_code
def yX1_storeMissing : MethodName := ⟨RX1, "storeMissing", "(LPeerStores$StoredFile;)V"⟩
abbrev cX1_firstFree : ByteArray := prog_3_method_3_code
def yX1_firstFree : MethodName := ⟨RX1, "firstFree", "(LPeerStores$StoredFile;)I"⟩
abbrev cX1_isAtHand : ByteArray := prog_3_method_4_code
def yX1_isAtHand : MethodName := ⟨RX1, "isAtHand", "(LPeerStores$StoredFile;I)Z"⟩
abbrev cX1_challenge : ByteArray := prog_3_method_5_code
def yX1_challenge : MethodName := ⟨RX1, "challenge", "(LPeerStores$StoredFile;)V"⟩
abbrev cX1_challengePiece : ByteArray := prog_3_method_6_code
def yX1_challengePiece : MethodName := ⟨RX1, "challengePiece", "(LPeerStores$StoredFile;I)V"⟩
abbrev cX1_isToRepair : ByteArray := prog_3_method_7_code
def yX1_isToRepair : MethodName := ⟨RX1, "isToRepair", "(LPeerStores$StoredFile;)Z"⟩
abbrev cX1_give : ByteArray := prog_3_method_8_code
def yX1_give : MethodName := ⟨RX1, "give", "(LPeerStores$StoredFile;I)I"⟩
def RX2 : String := "PeerStores$Ledger"
def TX2 : u_T := fun k => match k with
  | _ => ("PeerStores$Ledger", "debts", "[[I", true)
def tyX2 : Nat → FieldType := fun k => match k with
  | _ => .array (.array .int)
abbrev wsX20 : List Cond := u_ws RX2 TX2 1
theorem nmX2 : ∀ a, a < 1 → ∀ b, b < 1 → a ≠ b → (TX2 a).2.1 ≠ (TX2 b).2.1 := by decide +kernel
theorem tyX2_ok : ∀ k, k < 1 → parseFieldDescriptor (TX2 k).2.2.1 = some (tyX2 k) := by decide +kernel
abbrev cX2_init : ByteArray := prog_4_method_1_code
def yX2_init : MethodName := ⟨RX2, "<init>", "()V"⟩
abbrev cX2_isPlace : ByteArray := prog_4_method_2_code
def yX2_isPlace : MethodName := ⟨RX2, "isPlace", "(II)Z"⟩
abbrev cX2_debt : ByteArray := prog_4_method_3_code
def yX2_debt : MethodName := ⟨RX2, "debt", "(II)I"⟩
abbrev cX2_owe : ByteArray := prog_4_method_4_code
def yX2_owe : MethodName := ⟨RX2, "owe", "(III)V"⟩
abbrev cX2_balance : ByteArray := prog_4_method_5_code
def yX2_balance : MethodName := ⟨RX2, "balance", "(I)I"⟩
abbrev cX2_lessenRings : ByteArray := prog_4_method_6_code
def yX2_lessenRings : MethodName := ⟨RX2, "lessenRings", "()I"⟩
abbrev cX2_lessenTwo : ByteArray := prog_4_method_7_code
def yX2_lessenTwo : MethodName := ⟨RX2, "lessenTwo", "(II)I"⟩
abbrev cX2_lessenThrees : ByteArray := prog_4_method_8_code
def yX2_lessenThrees : MethodName := ⟨RX2, "lessenThrees", "(II)I"⟩
def RX3 : String := "PeerStores$Message"
def TX3 : u_T := fun k => match k with
  | 0 => ("PeerStores$Message", "peers", "LPeerStores$Peers;", true)
  | 1 => ("PeerStores$Message", "gotIn", "[I", true)
  | _ => ("PeerStores$Message", "roundCount", "I", false)
def tyX3 : Nat → FieldType := fun k => match k with
  | 0 => .object "PeerStores$Peers"
  | 1 => .array .int
  | _ => .int
abbrev wsX30 : List Cond := u_ws RX3 TX3 3
theorem nmX3 : ∀ a, a < 3 → ∀ b, b < 3 → a ≠ b → (TX3 a).2.1 ≠ (TX3 b).2.1 := by decide +kernel
theorem tyX3_ok : ∀ k, k < 3 → parseFieldDescriptor (TX3 k).2.2.1 = some (tyX3 k) := by decide +kernel
abbrev cX3_init : ByteArray := prog_5_method_1_code
def yX3_init : MethodName := ⟨RX3, "<init>", "(LPeerStores$Peers;)V"⟩
abbrev cX3_roundCount : ByteArray := prog_5_method_2_code
def yX3_roundCount : MethodName := ⟨RX3, "roundCount", "()I"⟩
abbrev cX3_run : ByteArray := prog_5_method_3_code
def yX3_run : MethodName := ⟨RX3, "run", "(I)I"⟩
abbrev cX3_tellInRound : ByteArray := prog_5_method_4_code
def yX3_tellInRound : MethodName := ⟨RX3, "tellInRound", "(I)I"⟩
abbrev cX3_tellAll : ByteArray := prog_5_method_5_code
def yX3_tellAll : MethodName := ⟨RX3, "tellAll", "(II)I"⟩
def RX4 : String := "PeerStores$Names"
def TX4 : u_T := fun k => match k with
  | 0 => ("PeerStores$Names", "tellers", "[I", true)
  | _ => ("PeerStores$Names", "kept", "[[I", true)
def tyX4 : Nat → FieldType := fun k => match k with
  | 0 => .array .int
  | _ => .array (.array .int)
abbrev wsX40 : List Cond := u_ws RX4 TX4 2
theorem nmX4 : ∀ a, a < 2 → ∀ b, b < 2 → a ≠ b → (TX4 a).2.1 ≠ (TX4 b).2.1 := by decide +kernel
theorem tyX4_ok : ∀ k, k < 2 → parseFieldDescriptor (TX4 k).2.2.1 = some (tyX4 k) := by decide +kernel
abbrev cX4_init : ByteArray := prog_6_method_1_code
def yX4_init : MethodName := ⟨RX4, "<init>", "()V"⟩
abbrev cX4_mayTell : ByteArray := prog_6_method_2_code
def yX4_mayTell : MethodName := ⟨RX4, "mayTell", "(II)Z"⟩
abbrev cX4_claim : ByteArray := prog_6_method_3_code
def yX4_claim : MethodName := ⟨RX4, "claim", "(II)V"⟩
abbrev cX4_keep : ByteArray := prog_6_method_4_code
def yX4_keep : MethodName := ⟨RX4, "keep", "(IIII)Z"⟩
abbrev cX4_keptBy : ByteArray := prog_6_method_5_code
def yX4_keptBy : MethodName := ⟨RX4, "keptBy", "(II)I"⟩
abbrev cX4_isNewer : ByteArray := prog_6_method_6_code
def yX4_isNewer : MethodName := ⟨RX4, "isNewer", "(II)Z"⟩
abbrev cX4_isKey : ByteArray := prog_6_method_7_code
def yX4_isKey : MethodName := ⟨RX4, "isKey", "(I)Z"⟩
abbrev cX4_isPlace : ByteArray := prog_6_method_8_code
def yX4_isPlace : MethodName := ⟨RX4, "isPlace", "(II)Z"⟩
def RX5 : String := "PeerStores$Peers"
def TX5 : u_T := fun k => match k with
  | 0 => ("PeerStores$Peers", "ids", "[I", true)
  | 1 => ("PeerStores$Peers", "sorts", "[I", true)
  | 2 => ("PeerStores$Peers", "online", "[Z", true)
  | 3 => ("PeerStores$Peers", "kept", "[[I", true)
  | _ => ("PeerStores$Peers", "count", "I", false)
def tyX5 : Nat → FieldType := fun k => match k with
  | 0 => .array .int
  | 1 => .array .int
  | 2 => .array .boolean
  | 3 => .array (.array .int)
  | _ => .int
abbrev wsX50 : List Cond := u_ws RX5 TX5 5
theorem nmX5 : ∀ a, a < 5 → ∀ b, b < 5 → a ≠ b → (TX5 a).2.1 ≠ (TX5 b).2.1 := by decide +kernel
theorem tyX5_ok : ∀ k, k < 5 → parseFieldDescriptor (TX5 k).2.2.1 = some (tyX5 k) := by decide +kernel
abbrev cX5_init : ByteArray := prog_7_method_1_code
def yX5_init : MethodName := ⟨RX5, "<init>", "()V"⟩
abbrev cX5_has : ByteArray := prog_7_method_2_code
def yX5_has : MethodName := ⟨RX5, "has", "(I)Z"⟩
abbrev cX5_isFull : ByteArray := prog_7_method_3_code
def yX5_isFull : MethodName := ⟨RX5, "isFull", "()Z"⟩
abbrev cX5_hasId : ByteArray := prog_7_method_4_code
def yX5_hasId : MethodName := ⟨RX5, "hasId", "(I)Z"⟩
abbrev cX5_add : ByteArray := prog_7_method_5_code
def yX5_add : MethodName := ⟨RX5, "add", "(II)I"⟩
abbrev cX5_isOnline : ByteArray := prog_7_method_6_code
def yX5_isOnline : MethodName := ⟨RX5, "isOnline", "(I)Z"⟩
abbrev cX5_setOnline : ByteArray := prog_7_method_7_code
def yX5_setOnline : MethodName := ⟨RX5, "setOnline", "(IZ)V"⟩
abbrev cX5_isHonest : ByteArray := prog_7_method_8_code
def yX5_isHonest : MethodName := ⟨RX5, "isHonest", "(I)Z"⟩
abbrev cX5_answers : ByteArray := prog_7_method_9_code
def yX5_answers : MethodName := ⟨RX5, "answers", "(I)Z"⟩
abbrev cX5_distance : ByteArray := prog_7_method_10_code
def yX5_distance : MethodName := ⟨RX5, "distance", "(II)I"⟩
abbrev cX5_keptAt : ByteArray := prog_7_method_11_code
def yX5_keptAt : MethodName := ⟨RX5, "keptAt", "(II)I"⟩
abbrev cX5_gather : ByteArray := prog_7_method_12_code
def yX5_gather : MethodName := ⟨RX5, "gather", "(IIZLPeerStores$Row;)V"⟩
abbrev cX5_isOfBand : ByteArray := prog_7_method_13_code
def yX5_isOfBand : MethodName := ⟨RX5, "isOfBand", "(I)Z"⟩
abbrev cX5_hear : ByteArray := prog_7_method_14_code
def yX5_hear : MethodName := ⟨RX5, "hear", "(II)V"⟩
abbrev cX5_highestBit : ByteArray := prog_7_method_15_code
def yX5_highestBit : MethodName := ⟨RX5, "highestBit", "(I)I"⟩
def RX6 : String := "PeerStores$Row"
def TX6 : u_T := fun k => match k with
  | 0 => ("PeerStores$Row", "members", "[I", true)
  | 1 => ("PeerStores$Row", "distances", "[I", true)
  | _ => ("PeerStores$Row", "size", "I", false)
def tyX6 : Nat → FieldType := fun k => match k with
  | 0 => .array .int
  | 1 => .array .int
  | _ => .int
abbrev wsX60 : List Cond := u_ws RX6 TX6 3
theorem nmX6 : ∀ a, a < 3 → ∀ b, b < 3 → a ≠ b → (TX6 a).2.1 ≠ (TX6 b).2.1 := by decide +kernel
theorem tyX6_ok : ∀ k, k < 3 → parseFieldDescriptor (TX6 k).2.2.1 = some (tyX6 k) := by decide +kernel
abbrev cX6_init : ByteArray := prog_8_method_1_code
def yX6_init : MethodName := ⟨RX6, "<init>", "()V"⟩
abbrev cX6_clear : ByteArray := prog_8_method_2_code
def yX6_clear : MethodName := ⟨RX6, "clear", "()V"⟩
abbrev cX6_add : ByteArray := prog_8_method_3_code
def yX6_add : MethodName := ⟨RX6, "add", "(II)V"⟩
abbrev cX6_at : ByteArray := prog_8_method_4_code
def yX6_at : MethodName := ⟨RX6, "at", "(I)I"⟩
abbrev cX6_digits : ByteArray := prog_8_method_5_code
def yX6_digits : MethodName := ⟨RX6, "digits", "()I"⟩
def RX7 : String := "PeerStores$Search"
def TX7 : u_T := fun k => match k with
  | 0 => ("PeerStores$Search", "peers", "LPeerStores$Peers;", true)
  | 1 => ("PeerStores$Search", "firstWay", "LPeerStores$Row;", true)
  | 2 => ("PeerStores$Search", "secondWay", "LPeerStores$Row;", true)
  | 3 => ("PeerStores$Search", "answered", "LPeerStores$Row;", true)
  | 4 => ("PeerStores$Search", "spokenOf", "LPeerStores$Row;", true)
  | 5 => ("PeerStores$Search", "wasAsked", "[Z", true)
  | _ => ("PeerStores$Search", "askedCount", "I", false)
def tyX7 : Nat → FieldType := fun k => match k with
  | 0 => .object "PeerStores$Peers"
  | 1 => .object "PeerStores$Row"
  | 2 => .object "PeerStores$Row"
  | 3 => .object "PeerStores$Row"
  | 4 => .object "PeerStores$Row"
  | 5 => .array .boolean
  | _ => .int
abbrev wsX70 : List Cond := u_ws RX7 TX7 7
theorem nmX7 : ∀ a, a < 7 → ∀ b, b < 7 → a ≠ b → (TX7 a).2.1 ≠ (TX7 b).2.1 := by decide +kernel
theorem tyX7_ok : ∀ k, k < 7 → parseFieldDescriptor (TX7 k).2.2.1 = some (tyX7 k) := by decide +kernel
abbrev cX7_init : ByteArray := prog_9_method_1_code
def yX7_init : MethodName := ⟨RX7, "<init>", "(LPeerStores$Peers;)V"⟩
abbrev cX7_askedCount : ByteArray := prog_9_method_2_code
def yX7_askedCount : MethodName := ⟨RX7, "askedCount", "()I"⟩
abbrev cX7_result : ByteArray := prog_9_method_3_code
def yX7_result : MethodName := ⟨RX7, "result", "()LPeerStores$Row;"⟩
abbrev cX7_run : ByteArray := prog_9_method_4_code
def yX7_run : MethodName := ⟨RX7, "run", "(III)V"⟩
abbrev cX7_begin : ByteArray := prog_9_method_5_code
def yX7_begin : MethodName := ⟨RX7, "begin", "(III)V"⟩
abbrev cX7_askAlong : ByteArray := prog_9_method_6_code
def yX7_askAlong : MethodName := ⟨RX7, "askAlong", "(LPeerStores$Row;II)V"⟩
abbrev cX7_ask : ByteArray := prog_9_method_7_code
def yX7_ask : MethodName := ⟨RX7, "ask", "(ILPeerStores$Row;II)V"⟩
abbrev cX7_include : ByteArray := prog_9_method_8_code
def yX7_include : MethodName := ⟨RX7, "include", "(LPeerStores$Row;II)V"⟩
def RX8 : String := "PeerStores$StoredFile"
def TX8 : u_T := fun k => match k with
  | 0 => ("PeerStores$StoredFile", "owner", "I", true)
  | 1 => ("PeerStores$StoredFile", "values", "[I", true)
  | 2 => ("PeerStores$StoredFile", "tree", "LPeerStores$Tree;", true)
  | 3 => ("PeerStores$StoredFile", "holders", "[I", true)
  | 4 => ("PeerStores$StoredFile", "kept", "[Z", true)
  | _ => ("PeerStores$StoredFile", "misses", "[I", true)
def tyX8 : Nat → FieldType := fun k => match k with
  | 0 => .int
  | 1 => .array .int
  | 2 => .object "PeerStores$Tree"
  | 3 => .array .int
  | 4 => .array .boolean
  | _ => .array .int
abbrev wsX80 : List Cond := u_ws RX8 TX8 6
theorem nmX8 : ∀ a, a < 6 → ∀ b, b < 6 → a ≠ b → (TX8 a).2.1 ≠ (TX8 b).2.1 := by decide +kernel
theorem tyX8_ok : ∀ k, k < 6 → parseFieldDescriptor (TX8 k).2.2.1 = some (tyX8 k) := by decide +kernel
abbrev cX8_init : ByteArray := prog_10_method_1_code
def yX8_init : MethodName := ⟨RX8, "<init>", "(II)V"⟩
abbrev cX8_owner : ByteArray := prog_10_method_2_code
def yX8_owner : MethodName := ⟨RX8, "owner", "()I"⟩
abbrev cX8_tree : ByteArray := prog_10_method_3_code
def yX8_tree : MethodName := ⟨RX8, "tree", "()LPeerStores$Tree;"⟩
abbrev cX8_value : ByteArray := prog_10_method_4_code
def yX8_value : MethodName := ⟨RX8, "value", "(I)I"⟩
abbrev cX8_key : ByteArray := prog_10_method_5_code
def yX8_key : MethodName := ⟨RX8, "key", "(I)I"⟩
abbrev cX8_mended : ByteArray := prog_10_method_6_code
def yX8_mended : MethodName := ⟨RX8, "mended", "(I)I"⟩
abbrev cX8_holder : ByteArray := prog_10_method_7_code
def yX8_holder : MethodName := ⟨RX8, "holder", "(I)I"⟩
abbrev cX8_isHeld : ByteArray := prog_10_method_8_code
def yX8_isHeld : MethodName := ⟨RX8, "isHeld", "(I)Z"⟩
abbrev cX8_isHeldBy : ByteArray := prog_10_method_9_code
def yX8_isHeldBy : MethodName := ⟨RX8, "isHeldBy", "(I)Z"⟩
abbrev cX8_isKept : ByteArray := prog_10_method_10_code
def yX8_isKept : MethodName := ⟨RX8, "isKept", "(I)Z"⟩
abbrev cX8_missed : ByteArray := prog_10_method_11_code
def yX8_missed : MethodName := ⟨RX8, "missed", "(I)I"⟩
abbrev cX8_setMissed : ByteArray := prog_10_method_12_code
def yX8_setMissed : MethodName := ⟨RX8, "setMissed", "(II)V"⟩
abbrev cX8_throwAway : ByteArray := prog_10_method_13_code
def yX8_throwAway : MethodName := ⟨RX8, "throwAway", "(I)V"⟩
abbrev cX8_hand : ByteArray := prog_10_method_14_code
def yX8_hand : MethodName := ⟨RX8, "hand", "(IIZ)V"⟩
abbrev cX8_isPiece : ByteArray := prog_10_method_15_code
def yX8_isPiece : MethodName := ⟨RX8, "isPiece", "(I)Z"⟩
def RX9 : String := "PeerStores$Tree"
def TX9 : u_T := fun k => match k with
  | _ => ("PeerStores$Tree", "nodes", "[I", true)
def tyX9 : Nat → FieldType := fun k => match k with
  | _ => .array .int
abbrev wsX90 : List Cond := u_ws RX9 TX9 1
theorem nmX9 : ∀ a, a < 1 → ∀ b, b < 1 → a ≠ b → (TX9 a).2.1 ≠ (TX9 b).2.1 := by decide +kernel
theorem tyX9_ok : ∀ k, k < 1 → parseFieldDescriptor (TX9 k).2.2.1 = some (tyX9 k) := by decide +kernel
abbrev cX9_init : ByteArray := prog_11_method_1_code
def yX9_init : MethodName := ⟨RX9, "<init>", "([I)V"⟩
abbrev cX9_hash : ByteArray := prog_11_method_2_code
def yX9_hash : MethodName := ⟨RX9, "hash", "(II)I"⟩
abbrev cX9_climb : ByteArray := prog_11_method_3_code
def yX9_climb : MethodName := ⟨RX9, "climb", "(IIIII)I"⟩
abbrev cX9_above : ByteArray := prog_11_method_4_code
def yX9_above : MethodName := ⟨RX9, "above", "(III)I"⟩
abbrev cX9_top : ByteArray := prog_11_method_5_code
def yX9_top : MethodName := ⟨RX9, "top", "()I"⟩
abbrev cX9_leaf : ByteArray := prog_11_method_6_code
def yX9_leaf : MethodName := ⟨RX9, "leaf", "(I)I"⟩
abbrev cX9_neighbour : ByteArray := prog_11_method_7_code
def yX9_neighbour : MethodName := ⟨RX9, "neighbour", "(II)I"⟩
def RX10 : String := "PeerStores"
def TX10 : u_T := fun k => match k with
  | 0 => ("PeerStores", "peers", "LPeerStores$Peers;", true)
  | 1 => ("PeerStores", "search", "LPeerStores$Search;", true)
  | 2 => ("PeerStores", "nearest", "LPeerStores$Row;", true)
  | 3 => ("PeerStores", "files", "[LPeerStores$StoredFile;", true)
  | 4 => ("PeerStores", "contracts", "LPeerStores$Contracts;", true)
  | 5 => ("PeerStores", "names", "LPeerStores$Names;", true)
  | 6 => ("PeerStores", "message", "LPeerStores$Message;", true)
  | 7 => ("PeerStores", "ledger", "LPeerStores$Ledger;", true)
  | 8 => ("PeerStores", "fileCount", "I", false)
  | _ => ("PeerStores", "day", "I", false)
def tyX10 : Nat → FieldType := fun k => match k with
  | 0 => .object "PeerStores$Peers"
  | 1 => .object "PeerStores$Search"
  | 2 => .object "PeerStores$Row"
  | 3 => .array (.object "PeerStores$StoredFile")
  | 4 => .object "PeerStores$Contracts"
  | 5 => .object "PeerStores$Names"
  | 6 => .object "PeerStores$Message"
  | 7 => .object "PeerStores$Ledger"
  | 8 => .int
  | _ => .int
abbrev wsX100 : List Cond := u_ws RX10 TX10 10
theorem nmX10 : ∀ a, a < 10 → ∀ b, b < 10 → a ≠ b → (TX10 a).2.1 ≠ (TX10 b).2.1 := by decide +kernel
theorem tyX10_ok : ∀ k, k < 10 → parseFieldDescriptor (TX10 k).2.2.1 = some (tyX10 k) := by decide +kernel
abbrev cX10_init : ByteArray := prog_1_method_1_code
def yX10_init : MethodName := ⟨RX10, "<init>", "()V"⟩
abbrev cX10_peer : ByteArray := prog_1_method_2_code
def yX10_peer : MethodName := ⟨RX10, "peer", "(III)I"⟩
abbrev cX10_turn : ByteArray := prog_1_method_3_code
def yX10_turn : MethodName := ⟨RX10, "turn", "(IZ)Z"⟩
abbrev cX10_bucket : ByteArray := prog_1_method_4_code
def yX10_bucket : MethodName := ⟨RX10, "bucket", "(III)I"⟩
abbrev cX10_lookup : ByteArray := prog_1_method_5_code
def yX10_lookup : MethodName := ⟨RX10, "lookup", "(III)I"⟩
abbrev cX10_asked : ByteArray := prog_1_method_6_code
def yX10_asked : MethodName := ⟨RX10, "asked", "()I"⟩
abbrev cX10_closest : ByteArray := prog_1_method_7_code
def yX10_closest : MethodName := ⟨RX10, "closest", "(II)I"⟩
abbrev cX10_file : ByteArray := prog_1_method_8_code
def yX10_file : MethodName := ⟨RX10, "file", "(II)I"⟩
abbrev cX10_piece : ByteArray := prog_1_method_9_code
def yX10_piece : MethodName := ⟨RX10, "piece", "(III)I"⟩
abbrev cX10_spoil : ByteArray := prog_1_method_10_code
def yX10_spoil : MethodName := ⟨RX10, "spoil", "(II)Z"⟩
abbrev cX10_root : ByteArray := prog_1_method_11_code
def yX10_root : MethodName := ⟨RX10, "root", "(I)I"⟩
abbrev cX10_proof : ByteArray := prog_1_method_12_code
def yX10_proof : MethodName := ⟨RX10, "proof", "(III)I"⟩
abbrev cX10_isProved : ByteArray := prog_1_method_13_code
def yX10_isProved : MethodName := ⟨RX10, "isProved", "(IIIIII)Z"⟩
abbrev cX10_mend : ByteArray := prog_1_method_14_code
def yX10_mend : MethodName := ⟨RX10, "mend", "(II)I"⟩
abbrev cX10_fetch : ByteArray := prog_1_method_15_code
def yX10_fetch : MethodName := ⟨RX10, "fetch", "(II)I"⟩
abbrev cX10_pass : ByteArray := prog_1_method_16_code
def yX10_pass : MethodName := ⟨RX10, "pass", "()I"⟩
abbrev cX10_tell : ByteArray := prog_1_method_17_code
def yX10_tell : MethodName := ⟨RX10, "tell", "(IIII)I"⟩
abbrev cX10_name : ByteArray := prog_1_method_18_code
def yX10_name : MethodName := ⟨RX10, "name", "(II)I"⟩
abbrev cX10_spread : ByteArray := prog_1_method_19_code
def yX10_spread : MethodName := ⟨RX10, "spread", "(I)I"⟩
abbrev cX10_rounds : ByteArray := prog_1_method_20_code
def yX10_rounds : MethodName := ⟨RX10, "rounds", "()I"⟩
abbrev cX10_owes : ByteArray := prog_1_method_21_code
def yX10_owes : MethodName := ⟨RX10, "owes", "(II)I"⟩
abbrev cX10_net : ByteArray := prog_1_method_22_code
def yX10_net : MethodName := ⟨RX10, "net", "()I"⟩
abbrev cX10_worth : ByteArray := prog_1_method_23_code
def yX10_worth : MethodName := ⟨RX10, "worth", "(I)I"⟩
abbrev cX10_needBelow : ByteArray := prog_1_method_24_code
def yX10_needBelow : MethodName := ⟨RX10, "needBelow", "(II)V"⟩
abbrev cX10_needPeer : ByteArray := prog_1_method_25_code
def yX10_needPeer : MethodName := ⟨RX10, "needPeer", "(I)V"⟩
abbrev cX10_needOnline : ByteArray := prog_1_method_26_code
def yX10_needOnline : MethodName := ⟨RX10, "needOnline", "(I)V"⟩
abbrev cX10_needPiece : ByteArray := prog_1_method_27_code
def yX10_needPiece : MethodName := ⟨RX10, "needPiece", "(I)V"⟩
abbrev cX10_fileAt : ByteArray := prog_1_method_28_code
def yX10_fileAt : MethodName := ⟨RX10, "fileAt", "(I)LPeerStores$StoredFile;"⟩
def RX11 : String := "PeerStoresModel"
def TX11 : u_T := fun k => match k with
  | 0 => ("PeerStoresModel", "thrown", "I", false)
  | 1 => ("PeerStoresModel", "day", "I", false)
  | 2 => ("PeerStoresModel", "peers", "I", false)
  | 3 => ("PeerStoresModel", "ids", "[I", true)
  | 4 => ("PeerStoresModel", "sorts", "[I", true)
  | 5 => ("PeerStoresModel", "online", "[Z", true)
  | 6 => ("PeerStoresModel", "kept", "[I", true)
  | 7 => ("PeerStoresModel", "keptMany", "[I", true)
  | 8 => ("PeerStoresModel", "inRow", "[Z", true)
  | 9 => ("PeerStoresModel", "wasAsked", "[Z", true)
  | 10 => ("PeerStoresModel", "answered", "[Z", true)
  | 11 => ("PeerStoresModel", "picked", "[I", true)
  | 12 => ("PeerStoresModel", "result", "[I", true)
  | 13 => ("PeerStoresModel", "results", "I", false)
  | 14 => ("PeerStoresModel", "asked", "I", false)
  | 15 => ("PeerStoresModel", "files", "I", false)
  | 16 => ("PeerStoresModel", "owner", "[I", true)
  | 17 => ("PeerStoresModel", "values", "[I", true)
  | 18 => ("PeerStoresModel", "holder", "[I", true)
  | 19 => ("PeerStoresModel", "keeps", "[Z", true)
  | 20 => ("PeerStoresModel", "misses", "[I", true)
  | 21 => ("PeerStoresModel", "tree", "[I", true)
  | 22 => ("PeerStoresModel", "nameOwner", "[I", true)
  | 23 => ("PeerStoresModel", "nameNumber", "[I", true)
  | 24 => ("PeerStoresModel", "nameValue", "[I", true)
  | 25 => ("PeerStoresModel", "gotIn", "[I", true)
  | 26 => ("PeerStoresModel", "rounds", "I", false)
  | _ => ("PeerStoresModel", "debts", "[I", true)
def tyX11 : Nat → FieldType := fun k => match k with
  | 0 => .int
  | 1 => .int
  | 2 => .int
  | 3 => .array .int
  | 4 => .array .int
  | 5 => .array .boolean
  | 6 => .array .int
  | 7 => .array .int
  | 8 => .array .boolean
  | 9 => .array .boolean
  | 10 => .array .boolean
  | 11 => .array .int
  | 12 => .array .int
  | 13 => .int
  | 14 => .int
  | 15 => .int
  | 16 => .array .int
  | 17 => .array .int
  | 18 => .array .int
  | 19 => .array .boolean
  | 20 => .array .int
  | 21 => .array .int
  | 22 => .array .int
  | 23 => .array .int
  | 24 => .array .int
  | 25 => .array .int
  | 26 => .int
  | _ => .array .int
abbrev wsX110 : List Cond := u_ws RX11 TX11 28
theorem nmX11 : ∀ a, a < 28 → ∀ b, b < 28 → a ≠ b → (TX11 a).2.1 ≠ (TX11 b).2.1 := by decide +kernel
theorem tyX11_ok : ∀ k, k < 28 → parseFieldDescriptor (TX11 k).2.2.1 = some (tyX11 k) := by decide +kernel
abbrev cX11_init : ByteArray := prog_13_method_1_code
def yX11_init : MethodName := ⟨RX11, "<init>", "()V"⟩
abbrev cX11_thrown : ByteArray := prog_13_method_2_code
def yX11_thrown : MethodName := ⟨RX11, "thrown", "()I"⟩
abbrev cX11_holds : ByteArray := prog_13_method_3_code
def yX11_holds : MethodName := ⟨RX11, "holds", "(I)Z"⟩
abbrev cX11_isIn : ByteArray := prog_13_method_4_code
def yX11_isIn : MethodName := ⟨RX11, "isIn", "(III)Z"⟩
abbrev cX11_isPeer : ByteArray := prog_13_method_5_code
def yX11_isPeer : MethodName := ⟨RX11, "isPeer", "(I)Z"⟩
abbrev cX11_isFile : ByteArray := prog_13_method_6_code
def yX11_isFile : MethodName := ⟨RX11, "isFile", "(I)Z"⟩
abbrev cX11_bucketOf : ByteArray := prog_13_method_7_code
def yX11_bucketOf : MethodName := ⟨RX11, "bucketOf", "(II)I"⟩
abbrev cX11_hears : ByteArray := prog_13_method_8_code
def yX11_hears : MethodName := ⟨RX11, "hears", "(II)V"⟩
abbrev cX11_keepsPeer : ByteArray := prog_13_method_9_code
def yX11_keepsPeer : MethodName := ⟨RX11, "keepsPeer", "(II)Z"⟩
abbrev cX11_picks : ByteArray := prog_13_method_10_code
def yX11_picks : MethodName := ⟨RX11, "picks", "(II)I"⟩
abbrev cX11_asks : ByteArray := prog_13_method_11_code
def yX11_asks : MethodName := ⟨RX11, "asks", "(IIII)V"⟩
abbrev cX11_looksUp : ByteArray := prog_13_method_12_code
def yX11_looksUp : MethodName := ⟨RX11, "looksUp", "(III)V"⟩
abbrev cX11_closestOf : ByteArray := prog_13_method_13_code
def yX11_closestOf : MethodName := ⟨RX11, "closestOf", "(I)V"⟩
abbrev cX11_told : ByteArray := prog_13_method_14_code
def yX11_told : MethodName := ⟨RX11, "told", "()I"⟩
abbrev cX11_isId : ByteArray := prog_13_method_15_code
def yX11_isId : MethodName := ⟨RX11, "isId", "(I)Z"⟩
abbrev cX11_peer : ByteArray := prog_13_method_16_code
def yX11_peer : MethodName := ⟨RX11, "peer", "(III)I"⟩
abbrev cX11_turn : ByteArray := prog_13_method_17_code
def yX11_turn : MethodName := ⟨RX11, "turn", "(IZ)Z"⟩
abbrev cX11_bucket : ByteArray := prog_13_method_18_code
def yX11_bucket : MethodName := ⟨RX11, "bucket", "(III)I"⟩
abbrev cX11_lookup : ByteArray := prog_13_method_19_code
def yX11_lookup : MethodName := ⟨RX11, "lookup", "(III)I"⟩
abbrev cX11_asked : ByteArray := prog_13_method_20_code
def yX11_asked : MethodName := ⟨RX11, "asked", "()I"⟩
abbrev cX11_closest : ByteArray := prog_13_method_21_code
def yX11_closest : MethodName := ⟨RX11, "closest", "(II)I"⟩
abbrev cX11_twice : ByteArray := prog_13_method_22_code
def yX11_twice : MethodName := ⟨RX11, "twice", "(I)I"⟩
abbrev cX11_times : ByteArray := prog_13_method_23_code
def yX11_times : MethodName := ⟨RX11, "times", "(II)I"⟩
abbrev cX11_hash : ByteArray := prog_13_method_24_code
def yX11_hash : MethodName := ⟨RX11, "hash", "(II)I"⟩
abbrev cX11_laysTree : ByteArray := prog_13_method_25_code
def yX11_laysTree : MethodName := ⟨RX11, "laysTree", "(I)V"⟩
abbrev cX11_stores : ByteArray := prog_13_method_26_code
def yX11_stores : MethodName := ⟨RX11, "stores", "(II)V"⟩
abbrev cX11_file : ByteArray := prog_13_method_27_code
def yX11_file : MethodName := ⟨RX11, "file", "(II)I"⟩
abbrev cX11_isAsked : ByteArray := prog_13_method_28_code
def yX11_isAsked : MethodName := ⟨RX11, "isAsked", "(II)Z"⟩
abbrev cX11_piece : ByteArray := prog_13_method_29_code
def yX11_piece : MethodName := ⟨RX11, "piece", "(III)I"⟩
abbrev cX11_spoil : ByteArray := prog_13_method_30_code
def yX11_spoil : MethodName := ⟨RX11, "spoil", "(II)Z"⟩
abbrev cX11_root : ByteArray := prog_13_method_31_code
def yX11_root : MethodName := ⟨RX11, "root", "(I)I"⟩
abbrev cX11_proof : ByteArray := prog_13_method_32_code
def yX11_proof : MethodName := ⟨RX11, "proof", "(III)I"⟩
abbrev cX11_isProved : ByteArray := prog_13_method_33_code
def yX11_isProved : MethodName := ⟨RX11, "isProved", "(IIIIII)Z"⟩
abbrev cX11_count : ByteArray := prog_13_method_34_code
def yX11_count : MethodName := ⟨RX11, "count", "(I)I"⟩
abbrev cX11_mend : ByteArray := prog_13_method_35_code
def yX11_mend : MethodName := ⟨RX11, "mend", "(II)I"⟩
abbrev cX11_isThere : ByteArray := prog_13_method_36_code
def yX11_isThere : MethodName := ⟨RX11, "isThere", "(I)Z"⟩
abbrev cX11_fetch : ByteArray := prog_13_method_37_code
def yX11_fetch : MethodName := ⟨RX11, "fetch", "(II)I"⟩
abbrev cX11_challenges : ByteArray := prog_13_method_38_code
def yX11_challenges : MethodName := ⟨RX11, "challenges", "(I)V"⟩
abbrev cX11_repairs : ByteArray := prog_13_method_39_code
def yX11_repairs : MethodName := ⟨RX11, "repairs", "(I)V"⟩
abbrev cX11_pass : ByteArray := prog_13_method_40_code
def yX11_pass : MethodName := ⟨RX11, "pass", "()I"⟩
abbrev cX11_tell : ByteArray := prog_13_method_41_code
def yX11_tell : MethodName := ⟨RX11, "tell", "(IIII)I"⟩
abbrev cX11_name : ByteArray := prog_13_method_42_code
def yX11_name : MethodName := ⟨RX11, "name", "(II)I"⟩
abbrev cX11_spread : ByteArray := prog_13_method_43_code
def yX11_spread : MethodName := ⟨RX11, "spread", "(I)I"⟩
abbrev cX11_rounds : ByteArray := prog_13_method_44_code
def yX11_rounds : MethodName := ⟨RX11, "rounds", "()I"⟩
abbrev cX11_owes : ByteArray := prog_13_method_45_code
def yX11_owes : MethodName := ⟨RX11, "owes", "(II)I"⟩
abbrev cX11_lessens : ByteArray := prog_13_method_46_code
def yX11_lessens : MethodName := ⟨RX11, "lessens", "(III)I"⟩
abbrev cX11_nets : ByteArray := prog_13_method_47_code
def yX11_nets : MethodName := ⟨RX11, "nets", "()I"⟩
abbrev cX11_net : ByteArray := prog_13_method_48_code
def yX11_net : MethodName := ⟨RX11, "net", "()I"⟩
abbrev cX11_worth : ByteArray := prog_13_method_49_code
def yX11_worth : MethodName := ⟨RX11, "worth", "(I)I"⟩
def RJ6 : String := "java/lang/Integer"
def TJ6 : u_T := fun k => match k with
  | _ => ("", "", "", false)
def tyJ6 : Nat → FieldType := fun k => match k with
  | _ => .int
abbrev wsJ60 : List Cond := u_ws RJ6 TJ6 0
theorem nmJ6 : ∀ a, a < 0 → ∀ b, b < 0 → a ≠ b → (TJ6 a).2.1 ≠ (TJ6 b).2.1 := by decide +kernel
theorem tyJ6_ok : ∀ k, k < 0 → parseFieldDescriptor (TJ6 k).2.2.1 = some (tyJ6 k) := by decide +kernel
abbrev cJ6_bitCount_0f7a4 : ByteArray := prog_18_method_49_code
def yJ6_bitCount_0f7a4 : MethodName := ⟨RJ6, "bitCount", "(I)I"⟩
def RJ9 : String := "java/lang/Math"
def TJ9 : u_T := fun k => match k with
  | _ => ("", "", "", false)
def tyJ9 : Nat → FieldType := fun k => match k with
  | _ => .int
abbrev wsJ90 : List Cond := u_ws RJ9 TJ9 0
theorem nmJ9 : ∀ a, a < 0 → ∀ b, b < 0 → a ≠ b → (TJ9 a).2.1 ≠ (TJ9 b).2.1 := by decide +kernel
theorem tyJ9_ok : ∀ k, k < 0 → parseFieldDescriptor (TJ9 k).2.2.1 = some (tyJ9 k) := by decide +kernel
abbrev cJ9_min_7cf53 : ByteArray := prog_19_method_69_code
def yJ9_min_7cf53 : MethodName := ⟨RJ9, "min", "(II)I"⟩
def RJ0 : String := "java/lang/String"
def TJ0 : u_T := fun k => match k with
  | _ => ("", "", "", false)
def tyJ0 : Nat → FieldType := fun k => match k with
  | _ => .int
abbrev wsJ00 : List Cond := u_ws RJ0 TJ0 0
theorem nmJ0 : ∀ a, a < 0 → ∀ b, b < 0 → a ≠ b → (TJ0 a).2.1 ≠ (TJ0 b).2.1 := by decide +kernel
theorem tyJ0_ok : ∀ k, k < 0 → parseFieldDescriptor (TJ0 k).2.2.1 = some (tyJ0 k) := by decide +kernel
def wsX0_times : List Cond := .code yX0_times cX0_times 5 (some .int) :: ([])
def wsX0_inverse : List Cond := .code yX0_inverse cX0_inverse 4 (some .int) :: ([.methodLink RX0 9 yX0_times, .static yX0_times, .initialized RX0, .code yX0_times cX0_times 5 (some .int)])
def wsX0_weighted : List Cond := .code yX0_weighted cX0_weighted 2 (some .int) :: ([.methodLink RX0 9 yX0_times, .static yX0_times, .initialized RX0, .code yX0_times cX0_times 5 (some .int)])
def wsX0_isIn : List Cond := .code yX0_isIn cX0_isIn 2 (some .boolean) :: ([])
def wsX0_pieces : List Cond := .code yX0_pieces cX0_pieces 6 (some (.array .int)) :: ([.arrayClass .int, .methodLink RX0 15 yX0_weighted, .static yX0_weighted, .initialized RX0, .code yX0_weighted cX0_weighted 2 (some .int), .methodLink RX0 9 yX0_times, .static yX0_times, .code yX0_times cX0_times 5 (some .int)])
def wsX0_solveTwo : List Cond := .code yX0_solveTwo cX0_solveTwo 7 (some .int) :: ([.methodLink RX0 15 yX0_weighted, .static yX0_weighted, .initialized RX0, .code yX0_weighted cX0_weighted 2 (some .int), .methodLink RX0 9 yX0_times, .static yX0_times, .code yX0_times cX0_times 5 (some .int), .methodLink RX0 26 yX0_inverse, .static yX0_inverse, .code yX0_inverse cX0_inverse 4 (some .int)])
def wsX0_solve : List Cond := .code yX0_solve cX0_solve 8 (some .int) :: ([.methodLink RX0 18 yX0_isIn, .static yX0_isIn, .initialized RX0, .code yX0_isIn cX0_isIn 2 (some .boolean), .methodLink RX0 15 yX0_weighted, .static yX0_weighted, .code yX0_weighted cX0_weighted 2 (some .int), .methodLink RX0 9 yX0_times, .static yX0_times, .code yX0_times cX0_times 5 (some .int), .methodLink RX0 22 yX0_solveTwo, .static yX0_solveTwo, .code yX0_solveTwo cX0_solveTwo 7 (some .int), .methodLink RX0 26 yX0_inverse, .static yX0_inverse, .code yX0_inverse cX0_inverse 4 (some .int)])
def wsX1_init : List Cond := .code yX1_init cX1_init 4 none :: ([.methodLink RX1 3 objectInit, .instanceMethod objectInit, .code objectInit ⟨#[0xb1]⟩ 1 none, .fieldLink RX1 9 "PeerStores$Contracts" "peers" "LPeerStores$Peers;", .fieldLink RX1 15 "PeerStores$Contracts" "search" "LPeerStores$Search;", .fieldLink RX1 19 "PeerStores$Contracts" "ledger" "LPeerStores$Ledger;"] ++ wsX10)
def wsX8_isPiece : List Cond := .code yX8_isPiece cX8_isPiece 1 (some .boolean) :: ([])
def wsX8_isHeld : List Cond := .code yX8_isHeld cX8_isHeld 2 (some .boolean) :: ([.fieldLink RX8 9 "PeerStores$StoredFile" "holders" "[I", .methodLink RX8 52 yX8_isPiece, .static yX8_isPiece, .initialized RX8, .code yX8_isPiece cX8_isPiece 1 (some .boolean)] ++ wsX80)
def wsX8_owner : List Cond := .code yX8_owner cX8_owner 1 (some .int) :: ([.fieldLink RX8 28 "PeerStores$StoredFile" "owner" "I"] ++ wsX80)
def wsX9_leaf : List Cond := .code yX9_leaf cX9_leaf 2 (some .int) :: ([.fieldLink RX9 9 "PeerStores$Tree" "nodes" "[I"] ++ wsX90)
def wsX8_key : List Cond := .code yX8_key cX8_key 2 (some .int) :: ([.fieldLink RX8 40 "PeerStores$StoredFile" "tree" "LPeerStores$Tree;", .methodLink RX8 44 yX9_leaf, .instanceMethod yX9_leaf, .selects RX9 yX9_leaf yX9_leaf, .initialized RX9, .code yX9_leaf cX9_leaf 2 (some .int), .fieldLink RX9 9 "PeerStores$Tree" "nodes" "[I"] ++ wsX80 ++ wsX90)
def wsX6_clear : List Cond := .code yX6_clear cX6_clear 1 none :: ([.fieldLink RX6 18 "PeerStores$Row" "size" "I"] ++ wsX60)
def wsX5_has : List Cond := .code yX5_has cX5_has 2 (some .boolean) :: ([.fieldLink RX5 27 "PeerStores$Peers" "count" "I"] ++ wsX50)
def wsX6_add : List Cond := .code yX6_add cX6_add 6 none :: ([.fieldLink RX6 18 "PeerStores$Row" "size" "I", .fieldLink RX6 15 "PeerStores$Row" "distances" "[I", .fieldLink RX6 9 "PeerStores$Row" "members" "[I"] ++ wsX60)
def wsX5_gather : List Cond := .code yX5_gather cX5_gather 9 none :: ([.fieldLink RX5 24 "PeerStores$Peers" "kept" "[[I", .fieldLink RX5 15 "PeerStores$Peers" "sorts" "[I", .fieldLink RX5 9 "PeerStores$Peers" "ids" "[I", .methodLink RX5 35 yX6_clear, .instanceMethod yX6_clear, .selects RX6 yX6_clear yX6_clear, .initialized RX6, .code yX6_clear cX6_clear 1 none, .fieldLink RX6 18 "PeerStores$Row" "size" "I", .methodLink RX5 31 yX5_has, .instanceMethod yX5_has, .selects RX5 yX5_has yX5_has, .initialized RX5, .code yX5_has cX5_has 2 (some .boolean), .fieldLink RX5 27 "PeerStores$Peers" "count" "I", .methodLink RX5 40 yX6_add, .instanceMethod yX6_add, .selects RX6 yX6_add yX6_add, .code yX6_add cX6_add 6 none, .fieldLink RX6 15 "PeerStores$Row" "distances" "[I", .fieldLink RX6 9 "PeerStores$Row" "members" "[I"] ++ wsX50 ++ wsX60)
def wsX6_at : List Cond := .code yX6_at cX6_at 2 (some .int) :: ([.fieldLink RX6 18 "PeerStores$Row" "size" "I", .fieldLink RX6 9 "PeerStores$Row" "members" "[I"] ++ wsX60)
def wsX5_distance : List Cond := .code yX5_distance cX5_distance 3 (some .int) :: ([.fieldLink RX5 27 "PeerStores$Peers" "count" "I", .fieldLink RX5 9 "PeerStores$Peers" "ids" "[I"] ++ wsX50)
def wsX7_include : List Cond := .code yX7_include cX7_include 4 none :: ([.fieldLink RX7 31 "PeerStores$Search" "peers" "LPeerStores$Peers;", .methodLink RX7 81 yX5_distance, .instanceMethod yX5_distance, .selects RX5 yX5_distance yX5_distance, .initialized RX5, .code yX5_distance cX5_distance 3 (some .int), .fieldLink RX5 27 "PeerStores$Peers" "count" "I", .fieldLink RX5 9 "PeerStores$Peers" "ids" "[I", .methodLink RX7 85 yX6_add, .instanceMethod yX6_add, .selects RX6 yX6_add yX6_add, .initialized RX6, .code yX6_add cX6_add 6 none, .fieldLink RX6 18 "PeerStores$Row" "size" "I", .fieldLink RX6 15 "PeerStores$Row" "distances" "[I", .fieldLink RX6 9 "PeerStores$Row" "members" "[I"] ++ wsX70 ++ wsX50 ++ wsX60)
def wsX7_begin_r1 : List Cond := [Cond.fieldLink RX7 12 "PeerStores$Search" "firstWay" "LPeerStores$Row;", Cond.fieldLink RX7 18 "PeerStores$Search" "secondWay" "LPeerStores$Row;", Cond.fieldLink RX7 21 "PeerStores$Search" "answered" "LPeerStores$Row;", Cond.fieldLink RX7 35 "PeerStores$Search" "askedCount" "I", Cond.fieldLink RX7 27 "PeerStores$Search" "wasAsked" "[Z", Cond.fieldLink RX7 31 "PeerStores$Search" "peers" "LPeerStores$Peers;", Cond.fieldLink RX7 24 "PeerStores$Search" "spokenOf" "LPeerStores$Row;", Cond.methodLink RX7 47 yX6_clear, Cond.instanceMethod yX6_clear, Cond.selects RX6 yX6_clear yX6_clear, Cond.initialized RX6, Cond.code yX6_clear cX6_clear 1 none, Cond.fieldLink RX6 18 "PeerStores$Row" "size" "I", Cond.methodLink RX7 50 yX5_gather, Cond.instanceMethod yX5_gather, Cond.selects RX5 yX5_gather yX5_gather, Cond.initialized RX5, Cond.code yX5_gather cX5_gather 9 none, Cond.fieldLink RX5 24 "PeerStores$Peers" "kept" "[[I", Cond.fieldLink RX5 15 "PeerStores$Peers" "sorts" "[I", Cond.fieldLink RX5 9 "PeerStores$Peers" "ids" "[I", Cond.methodLink RX5 35 yX6_clear, Cond.methodLink RX5 31 yX5_has, Cond.instanceMethod yX5_has]
def wsX7_begin_r2 : List Cond := [Cond.selects RX5 yX5_has yX5_has, Cond.code yX5_has cX5_has 2 (some .boolean), Cond.fieldLink RX5 27 "PeerStores$Peers" "count" "I", Cond.methodLink RX5 40 yX6_add, Cond.instanceMethod yX6_add, Cond.selects RX6 yX6_add yX6_add, Cond.code yX6_add cX6_add 6 none, Cond.fieldLink RX6 15 "PeerStores$Row" "distances" "[I", Cond.fieldLink RX6 9 "PeerStores$Row" "members" "[I", Cond.methodLink RX7 56 yX6_at, Cond.instanceMethod yX6_at, Cond.selects RX6 yX6_at yX6_at, Cond.code yX6_at cX6_at 2 (some .int), Cond.methodLink RX7 60 yX7_include, Cond.instanceMethod yX7_include, Cond.selects RX7 yX7_include yX7_include, Cond.initialized RX7, Cond.code yX7_include cX7_include 4 none, Cond.methodLink RX7 81 yX5_distance, Cond.instanceMethod yX5_distance, Cond.selects RX5 yX5_distance yX5_distance, Cond.code yX5_distance cX5_distance 3 (some .int), Cond.methodLink RX7 85 yX6_add]
def wsX7_begin : List Cond := .code yX7_begin cX7_begin 7 none :: ((wsX7_begin_r1 ++ wsX7_begin_r2) ++ wsX70 ++ wsX60 ++ wsX50)
def wsX5_answers : List Cond := .code yX5_answers cX5_answers 2 (some .boolean) :: ([.fieldLink RX5 18 "PeerStores$Peers" "online" "[Z", .fieldLink RX5 15 "PeerStores$Peers" "sorts" "[I", .methodLink RX5 31 yX5_has, .instanceMethod yX5_has, .selects RX5 yX5_has yX5_has, .initialized RX5, .code yX5_has cX5_has 2 (some .boolean), .fieldLink RX5 27 "PeerStores$Peers" "count" "I"] ++ wsX50)
def wsX5_highestBit : List Cond := .code yX5_highestBit cX5_highestBit 2 (some .int) :: ([])
def wsX5_hear : List Cond := .code yX5_hear cX5_hear 8 none :: ([.fieldLink RX5 24 "PeerStores$Peers" "kept" "[[I", .fieldLink RX5 9 "PeerStores$Peers" "ids" "[I", .fieldLink RX5 18 "PeerStores$Peers" "online" "[Z", .methodLink RX5 31 yX5_has, .instanceMethod yX5_has, .selects RX5 yX5_has yX5_has, .initialized RX5, .code yX5_has cX5_has 2 (some .boolean), .fieldLink RX5 27 "PeerStores$Peers" "count" "I", .methodLink RX5 44 yX5_highestBit, .static yX5_highestBit, .code yX5_highestBit cX5_highestBit 2 (some .int)] ++ wsX50)
def wsX5_isOfBand : List Cond := .code yX5_isOfBand cX5_isOfBand 2 (some .boolean) :: ([.fieldLink RX5 15 "PeerStores$Peers" "sorts" "[I", .methodLink RX5 31 yX5_has, .instanceMethod yX5_has, .selects RX5 yX5_has yX5_has, .initialized RX5, .code yX5_has cX5_has 2 (some .boolean), .fieldLink RX5 27 "PeerStores$Peers" "count" "I"] ++ wsX50)
def wsX7_ask_r1 : List Cond := [Cond.fieldLink RX7 31 "PeerStores$Search" "peers" "LPeerStores$Peers;", Cond.fieldLink RX7 27 "PeerStores$Search" "wasAsked" "[Z", Cond.fieldLink RX7 35 "PeerStores$Search" "askedCount" "I", Cond.fieldLink RX7 21 "PeerStores$Search" "answered" "LPeerStores$Row;", Cond.fieldLink RX7 24 "PeerStores$Search" "spokenOf" "LPeerStores$Row;", Cond.methodLink RX7 63 yX5_has, Cond.instanceMethod yX5_has, Cond.selects RX5 yX5_has yX5_has, Cond.initialized RX5, Cond.code yX5_has cX5_has 2 (some .boolean), Cond.fieldLink RX5 27 "PeerStores$Peers" "count" "I", Cond.methodLink RX7 71 yX5_answers, Cond.instanceMethod yX5_answers, Cond.selects RX5 yX5_answers yX5_answers, Cond.code yX5_answers cX5_answers 2 (some .boolean), Cond.fieldLink RX5 18 "PeerStores$Peers" "online" "[Z", Cond.fieldLink RX5 15 "PeerStores$Peers" "sorts" "[I", Cond.methodLink RX5 31 yX5_has, Cond.methodLink RX7 74 yX5_hear, Cond.instanceMethod yX5_hear, Cond.selects RX5 yX5_hear yX5_hear, Cond.code yX5_hear cX5_hear 8 none, Cond.fieldLink RX5 24 "PeerStores$Peers" "kept" "[[I", Cond.fieldLink RX5 9 "PeerStores$Peers" "ids" "[I"]
def wsX7_ask_r2 : List Cond := [Cond.methodLink RX5 44 yX5_highestBit, Cond.static yX5_highestBit, Cond.code yX5_highestBit cX5_highestBit 2 (some .int), Cond.methodLink RX7 60 yX7_include, Cond.instanceMethod yX7_include, Cond.selects RX7 yX7_include yX7_include, Cond.initialized RX7, Cond.code yX7_include cX7_include 4 none, Cond.methodLink RX7 81 yX5_distance, Cond.instanceMethod yX5_distance, Cond.selects RX5 yX5_distance yX5_distance, Cond.code yX5_distance cX5_distance 3 (some .int), Cond.methodLink RX7 85 yX6_add, Cond.instanceMethod yX6_add, Cond.selects RX6 yX6_add yX6_add, Cond.initialized RX6, Cond.code yX6_add cX6_add 6 none, Cond.fieldLink RX6 18 "PeerStores$Row" "size" "I", Cond.fieldLink RX6 15 "PeerStores$Row" "distances" "[I", Cond.fieldLink RX6 9 "PeerStores$Row" "members" "[I", Cond.methodLink RX7 78 yX5_isOfBand, Cond.instanceMethod yX5_isOfBand, Cond.selects RX5 yX5_isOfBand yX5_isOfBand, Cond.code yX5_isOfBand cX5_isOfBand 2 (some .boolean)]
def wsX7_ask_r3 : List Cond := [Cond.methodLink RX7 50 yX5_gather, Cond.instanceMethod yX5_gather, Cond.selects RX5 yX5_gather yX5_gather, Cond.code yX5_gather cX5_gather 9 none, Cond.methodLink RX5 35 yX6_clear, Cond.instanceMethod yX6_clear, Cond.selects RX6 yX6_clear yX6_clear, Cond.code yX6_clear cX6_clear 1 none, Cond.methodLink RX5 40 yX6_add, Cond.methodLink RX7 56 yX6_at, Cond.instanceMethod yX6_at, Cond.selects RX6 yX6_at yX6_at, Cond.code yX6_at cX6_at 2 (some .int)]
def wsX7_ask : List Cond := .code yX7_ask cX7_ask 7 none :: ((wsX7_ask_r1 ++ (wsX7_ask_r2 ++ wsX7_ask_r3)) ++ wsX70 ++ wsX50 ++ wsX60)
def wsX7_askAlong_r1 : List Cond := [Cond.fieldLink RX7 31 "PeerStores$Search" "peers" "LPeerStores$Peers;", Cond.fieldLink RX7 27 "PeerStores$Search" "wasAsked" "[Z", Cond.methodLink RX7 56 yX6_at, Cond.instanceMethod yX6_at, Cond.selects RX6 yX6_at yX6_at, Cond.initialized RX6, Cond.code yX6_at cX6_at 2 (some .int), Cond.fieldLink RX6 18 "PeerStores$Row" "size" "I", Cond.fieldLink RX6 9 "PeerStores$Row" "members" "[I", Cond.methodLink RX7 63 yX5_has, Cond.instanceMethod yX5_has, Cond.selects RX5 yX5_has yX5_has, Cond.initialized RX5, Cond.code yX5_has cX5_has 2 (some .boolean), Cond.fieldLink RX5 27 "PeerStores$Peers" "count" "I", Cond.methodLink RX7 67 yX7_ask, Cond.instanceMethod yX7_ask, Cond.selects RX7 yX7_ask yX7_ask, Cond.initialized RX7, Cond.code yX7_ask cX7_ask 7 none, Cond.fieldLink RX7 35 "PeerStores$Search" "askedCount" "I", Cond.fieldLink RX7 21 "PeerStores$Search" "answered" "LPeerStores$Row;", Cond.fieldLink RX7 24 "PeerStores$Search" "spokenOf" "LPeerStores$Row;", Cond.methodLink RX7 71 yX5_answers]
def wsX7_askAlong_r2 : List Cond := [Cond.instanceMethod yX5_answers, Cond.selects RX5 yX5_answers yX5_answers, Cond.code yX5_answers cX5_answers 2 (some .boolean), Cond.fieldLink RX5 18 "PeerStores$Peers" "online" "[Z", Cond.fieldLink RX5 15 "PeerStores$Peers" "sorts" "[I", Cond.methodLink RX5 31 yX5_has, Cond.methodLink RX7 74 yX5_hear, Cond.instanceMethod yX5_hear, Cond.selects RX5 yX5_hear yX5_hear, Cond.code yX5_hear cX5_hear 8 none, Cond.fieldLink RX5 24 "PeerStores$Peers" "kept" "[[I", Cond.fieldLink RX5 9 "PeerStores$Peers" "ids" "[I", Cond.methodLink RX5 44 yX5_highestBit, Cond.static yX5_highestBit, Cond.code yX5_highestBit cX5_highestBit 2 (some .int), Cond.methodLink RX7 60 yX7_include, Cond.instanceMethod yX7_include, Cond.selects RX7 yX7_include yX7_include, Cond.code yX7_include cX7_include 4 none, Cond.methodLink RX7 81 yX5_distance, Cond.instanceMethod yX5_distance, Cond.selects RX5 yX5_distance yX5_distance, Cond.code yX5_distance cX5_distance 3 (some .int), Cond.methodLink RX7 85 yX6_add]
def wsX7_askAlong_r3 : List Cond := [Cond.instanceMethod yX6_add, Cond.selects RX6 yX6_add yX6_add, Cond.code yX6_add cX6_add 6 none, Cond.fieldLink RX6 15 "PeerStores$Row" "distances" "[I", Cond.methodLink RX7 78 yX5_isOfBand, Cond.instanceMethod yX5_isOfBand, Cond.selects RX5 yX5_isOfBand yX5_isOfBand, Cond.code yX5_isOfBand cX5_isOfBand 2 (some .boolean), Cond.methodLink RX7 50 yX5_gather, Cond.instanceMethod yX5_gather, Cond.selects RX5 yX5_gather yX5_gather, Cond.code yX5_gather cX5_gather 9 none, Cond.methodLink RX5 35 yX6_clear, Cond.instanceMethod yX6_clear, Cond.selects RX6 yX6_clear yX6_clear, Cond.code yX6_clear cX6_clear 1 none, Cond.methodLink RX5 40 yX6_add]
def wsX7_askAlong : List Cond := .code yX7_askAlong cX7_askAlong 9 none :: ((wsX7_askAlong_r1 ++ (wsX7_askAlong_r2 ++ wsX7_askAlong_r3)) ++ wsX70 ++ wsX60 ++ wsX50)
def wsX7_run_r1 : List Cond := [Cond.fieldLink RX7 35 "PeerStores$Search" "askedCount" "I", Cond.fieldLink RX7 12 "PeerStores$Search" "firstWay" "LPeerStores$Row;", Cond.fieldLink RX7 18 "PeerStores$Search" "secondWay" "LPeerStores$Row;", Cond.methodLink RX7 39 yX7_begin, Cond.instanceMethod yX7_begin, Cond.selects RX7 yX7_begin yX7_begin, Cond.initialized RX7, Cond.code yX7_begin cX7_begin 7 none, Cond.fieldLink RX7 21 "PeerStores$Search" "answered" "LPeerStores$Row;", Cond.fieldLink RX7 27 "PeerStores$Search" "wasAsked" "[Z", Cond.fieldLink RX7 31 "PeerStores$Search" "peers" "LPeerStores$Peers;", Cond.fieldLink RX7 24 "PeerStores$Search" "spokenOf" "LPeerStores$Row;", Cond.methodLink RX7 47 yX6_clear, Cond.instanceMethod yX6_clear, Cond.selects RX6 yX6_clear yX6_clear, Cond.initialized RX6, Cond.code yX6_clear cX6_clear 1 none, Cond.fieldLink RX6 18 "PeerStores$Row" "size" "I", Cond.methodLink RX7 50 yX5_gather, Cond.instanceMethod yX5_gather, Cond.selects RX5 yX5_gather yX5_gather, Cond.initialized RX5, Cond.code yX5_gather cX5_gather 9 none, Cond.fieldLink RX5 24 "PeerStores$Peers" "kept" "[[I"]
def wsX7_run_r2 : List Cond := [Cond.fieldLink RX5 15 "PeerStores$Peers" "sorts" "[I", Cond.fieldLink RX5 9 "PeerStores$Peers" "ids" "[I", Cond.methodLink RX5 35 yX6_clear, Cond.methodLink RX5 31 yX5_has, Cond.instanceMethod yX5_has, Cond.selects RX5 yX5_has yX5_has, Cond.code yX5_has cX5_has 2 (some .boolean), Cond.fieldLink RX5 27 "PeerStores$Peers" "count" "I", Cond.methodLink RX5 40 yX6_add, Cond.instanceMethod yX6_add, Cond.selects RX6 yX6_add yX6_add, Cond.code yX6_add cX6_add 6 none, Cond.fieldLink RX6 15 "PeerStores$Row" "distances" "[I", Cond.fieldLink RX6 9 "PeerStores$Row" "members" "[I", Cond.methodLink RX7 56 yX6_at, Cond.instanceMethod yX6_at, Cond.selects RX6 yX6_at yX6_at, Cond.code yX6_at cX6_at 2 (some .int), Cond.methodLink RX7 60 yX7_include, Cond.instanceMethod yX7_include, Cond.selects RX7 yX7_include yX7_include, Cond.code yX7_include cX7_include 4 none, Cond.methodLink RX7 81 yX5_distance, Cond.instanceMethod yX5_distance]
def wsX7_run_r3 : List Cond := [Cond.selects RX5 yX5_distance yX5_distance, Cond.code yX5_distance cX5_distance 3 (some .int), Cond.methodLink RX7 85 yX6_add, Cond.methodLink RX7 43 yX7_askAlong, Cond.instanceMethod yX7_askAlong, Cond.selects RX7 yX7_askAlong yX7_askAlong, Cond.code yX7_askAlong cX7_askAlong 9 none, Cond.methodLink RX7 63 yX5_has, Cond.methodLink RX7 67 yX7_ask, Cond.instanceMethod yX7_ask, Cond.selects RX7 yX7_ask yX7_ask, Cond.code yX7_ask cX7_ask 7 none, Cond.methodLink RX7 71 yX5_answers, Cond.instanceMethod yX5_answers, Cond.selects RX5 yX5_answers yX5_answers, Cond.code yX5_answers cX5_answers 2 (some .boolean), Cond.fieldLink RX5 18 "PeerStores$Peers" "online" "[Z", Cond.methodLink RX7 74 yX5_hear, Cond.instanceMethod yX5_hear, Cond.selects RX5 yX5_hear yX5_hear, Cond.code yX5_hear cX5_hear 8 none, Cond.methodLink RX5 44 yX5_highestBit, Cond.static yX5_highestBit, Cond.code yX5_highestBit cX5_highestBit 2 (some .int)]
def wsX7_run_r4 : List Cond := [Cond.methodLink RX7 78 yX5_isOfBand, Cond.instanceMethod yX5_isOfBand, Cond.selects RX5 yX5_isOfBand yX5_isOfBand, Cond.code yX5_isOfBand cX5_isOfBand 2 (some .boolean)]
def wsX7_run : List Cond := .code yX7_run cX7_run 7 none :: ((wsX7_run_r1 ++ (wsX7_run_r2 ++ (wsX7_run_r3 ++ wsX7_run_r4))) ++ wsX70 ++ wsX60 ++ wsX50)
def wsX7_result : List Cond := .code yX7_result cX7_result 1 (some (.object "PeerStores$Row")) :: ([.fieldLink RX7 21 "PeerStores$Search" "answered" "LPeerStores$Row;"] ++ wsX70)
def wsX8_isHeldBy : List Cond := .code yX8_isHeldBy cX8_isHeldBy 6 (some .boolean) :: ([.fieldLink RX8 9 "PeerStores$StoredFile" "holders" "[I"] ++ wsX80)
def wsX1_firstFree_r1 : List Cond := [Cond.fieldLink RX1 15 "PeerStores$Contracts" "search" "LPeerStores$Search;", Cond.methodLink RX1 56 yX7_result, Cond.instanceMethod yX7_result, Cond.selects RX7 yX7_result yX7_result, Cond.initialized RX7, Cond.code yX7_result cX7_result 1 (some (.object "PeerStores$Row")), Cond.fieldLink RX7 21 "PeerStores$Search" "answered" "LPeerStores$Row;", Cond.methodLink RX1 60 yX6_at, Cond.instanceMethod yX6_at, Cond.selects RX6 yX6_at yX6_at, Cond.initialized RX6, Cond.code yX6_at cX6_at 2 (some .int), Cond.fieldLink RX6 18 "PeerStores$Row" "size" "I", Cond.fieldLink RX6 9 "PeerStores$Row" "members" "[I", Cond.methodLink RX1 29 yX8_owner, Cond.instanceMethod yX8_owner, Cond.selects RX8 yX8_owner yX8_owner, Cond.initialized RX8, Cond.code yX8_owner cX8_owner 1 (some .int), Cond.fieldLink RX8 28 "PeerStores$StoredFile" "owner" "I", Cond.methodLink RX1 65 yX8_isHeldBy, Cond.instanceMethod yX8_isHeldBy, Cond.selects RX8 yX8_isHeldBy yX8_isHeldBy, Cond.code yX8_isHeldBy cX8_isHeldBy 6 (some .boolean)]
def wsX1_firstFree_r2 : List Cond := [Cond.fieldLink RX8 9 "PeerStores$StoredFile" "holders" "[I"]
def wsX1_firstFree : List Cond := .code yX1_firstFree cX1_firstFree 4 (some .int) :: ((wsX1_firstFree_r1 ++ wsX1_firstFree_r2) ++ wsX10 ++ wsX70 ++ wsX60 ++ wsX80)
def wsX5_isHonest : List Cond := .code yX5_isHonest cX5_isHonest 2 (some .boolean) :: ([.fieldLink RX5 15 "PeerStores$Peers" "sorts" "[I", .methodLink RX5 31 yX5_has, .instanceMethod yX5_has, .selects RX5 yX5_has yX5_has, .initialized RX5, .code yX5_has cX5_has 2 (some .boolean), .fieldLink RX5 27 "PeerStores$Peers" "count" "I"] ++ wsX50)
def wsX8_hand : List Cond := .code yX8_hand cX8_hand 4 none :: ([.fieldLink RX8 9 "PeerStores$StoredFile" "holders" "[I", .fieldLink RX8 15 "PeerStores$StoredFile" "kept" "[Z", .fieldLink RX8 19 "PeerStores$StoredFile" "misses" "[I", .methodLink RX8 52 yX8_isPiece, .static yX8_isPiece, .initialized RX8, .code yX8_isPiece cX8_isPiece 1 (some .boolean)] ++ wsX80)
def wsX1_storeMissing_r1 : List Cond := [Cond.fieldLink RX1 15 "PeerStores$Contracts" "search" "LPeerStores$Search;", Cond.fieldLink RX1 9 "PeerStores$Contracts" "peers" "LPeerStores$Peers;", Cond.methodLink RX1 23 yX8_isHeld, Cond.instanceMethod yX8_isHeld, Cond.selects RX8 yX8_isHeld yX8_isHeld, Cond.initialized RX8, Cond.code yX8_isHeld cX8_isHeld 2 (some .boolean), Cond.fieldLink RX8 9 "PeerStores$StoredFile" "holders" "[I", Cond.methodLink RX8 52 yX8_isPiece, Cond.static yX8_isPiece, Cond.code yX8_isPiece cX8_isPiece 1 (some .boolean), Cond.methodLink RX1 29 yX8_owner, Cond.instanceMethod yX8_owner, Cond.selects RX8 yX8_owner yX8_owner, Cond.code yX8_owner cX8_owner 1 (some .int), Cond.fieldLink RX8 28 "PeerStores$StoredFile" "owner" "I", Cond.methodLink RX1 33 yX8_key, Cond.instanceMethod yX8_key, Cond.selects RX8 yX8_key yX8_key, Cond.code yX8_key cX8_key 2 (some .int), Cond.fieldLink RX8 40 "PeerStores$StoredFile" "tree" "LPeerStores$Tree;", Cond.methodLink RX8 44 yX9_leaf, Cond.instanceMethod yX9_leaf, Cond.selects RX9 yX9_leaf yX9_leaf]
def wsX1_storeMissing_r2 : List Cond := [Cond.initialized RX9, Cond.code yX9_leaf cX9_leaf 2 (some .int), Cond.fieldLink RX9 9 "PeerStores$Tree" "nodes" "[I", Cond.methodLink RX1 37 yX7_run, Cond.instanceMethod yX7_run, Cond.selects RX7 yX7_run yX7_run, Cond.initialized RX7, Cond.code yX7_run cX7_run 7 none, Cond.fieldLink RX7 35 "PeerStores$Search" "askedCount" "I", Cond.fieldLink RX7 12 "PeerStores$Search" "firstWay" "LPeerStores$Row;", Cond.fieldLink RX7 18 "PeerStores$Search" "secondWay" "LPeerStores$Row;", Cond.methodLink RX7 39 yX7_begin, Cond.instanceMethod yX7_begin, Cond.selects RX7 yX7_begin yX7_begin, Cond.code yX7_begin cX7_begin 7 none, Cond.fieldLink RX7 21 "PeerStores$Search" "answered" "LPeerStores$Row;", Cond.fieldLink RX7 27 "PeerStores$Search" "wasAsked" "[Z", Cond.fieldLink RX7 31 "PeerStores$Search" "peers" "LPeerStores$Peers;", Cond.fieldLink RX7 24 "PeerStores$Search" "spokenOf" "LPeerStores$Row;", Cond.methodLink RX7 47 yX6_clear, Cond.instanceMethod yX6_clear, Cond.selects RX6 yX6_clear yX6_clear, Cond.initialized RX6, Cond.code yX6_clear cX6_clear 1 none]
def wsX1_storeMissing_r3 : List Cond := [Cond.fieldLink RX6 18 "PeerStores$Row" "size" "I", Cond.methodLink RX7 50 yX5_gather, Cond.instanceMethod yX5_gather, Cond.selects RX5 yX5_gather yX5_gather, Cond.initialized RX5, Cond.code yX5_gather cX5_gather 9 none, Cond.fieldLink RX5 24 "PeerStores$Peers" "kept" "[[I", Cond.fieldLink RX5 15 "PeerStores$Peers" "sorts" "[I", Cond.fieldLink RX5 9 "PeerStores$Peers" "ids" "[I", Cond.methodLink RX5 35 yX6_clear, Cond.methodLink RX5 31 yX5_has, Cond.instanceMethod yX5_has, Cond.selects RX5 yX5_has yX5_has, Cond.code yX5_has cX5_has 2 (some .boolean), Cond.fieldLink RX5 27 "PeerStores$Peers" "count" "I", Cond.methodLink RX5 40 yX6_add, Cond.instanceMethod yX6_add, Cond.selects RX6 yX6_add yX6_add, Cond.code yX6_add cX6_add 6 none, Cond.fieldLink RX6 15 "PeerStores$Row" "distances" "[I", Cond.fieldLink RX6 9 "PeerStores$Row" "members" "[I", Cond.methodLink RX7 56 yX6_at, Cond.instanceMethod yX6_at, Cond.selects RX6 yX6_at yX6_at]
def wsX1_storeMissing_r4 : List Cond := [Cond.code yX6_at cX6_at 2 (some .int), Cond.methodLink RX7 60 yX7_include, Cond.instanceMethod yX7_include, Cond.selects RX7 yX7_include yX7_include, Cond.code yX7_include cX7_include 4 none, Cond.methodLink RX7 81 yX5_distance, Cond.instanceMethod yX5_distance, Cond.selects RX5 yX5_distance yX5_distance, Cond.code yX5_distance cX5_distance 3 (some .int), Cond.methodLink RX7 85 yX6_add, Cond.methodLink RX7 43 yX7_askAlong, Cond.instanceMethod yX7_askAlong, Cond.selects RX7 yX7_askAlong yX7_askAlong, Cond.code yX7_askAlong cX7_askAlong 9 none, Cond.methodLink RX7 63 yX5_has, Cond.methodLink RX7 67 yX7_ask, Cond.instanceMethod yX7_ask, Cond.selects RX7 yX7_ask yX7_ask, Cond.code yX7_ask cX7_ask 7 none, Cond.methodLink RX7 71 yX5_answers, Cond.instanceMethod yX5_answers, Cond.selects RX5 yX5_answers yX5_answers, Cond.code yX5_answers cX5_answers 2 (some .boolean), Cond.fieldLink RX5 18 "PeerStores$Peers" "online" "[Z"]
def wsX1_storeMissing_r5 : List Cond := [Cond.methodLink RX7 74 yX5_hear, Cond.instanceMethod yX5_hear, Cond.selects RX5 yX5_hear yX5_hear, Cond.code yX5_hear cX5_hear 8 none, Cond.methodLink RX5 44 yX5_highestBit, Cond.static yX5_highestBit, Cond.code yX5_highestBit cX5_highestBit 2 (some .int), Cond.methodLink RX7 78 yX5_isOfBand, Cond.instanceMethod yX5_isOfBand, Cond.selects RX5 yX5_isOfBand yX5_isOfBand, Cond.code yX5_isOfBand cX5_isOfBand 2 (some .boolean), Cond.methodLink RX1 43 yX1_firstFree, Cond.instanceMethod yX1_firstFree, Cond.selects RX1 yX1_firstFree yX1_firstFree, Cond.initialized RX1, Cond.code yX1_firstFree cX1_firstFree 4 (some .int), Cond.methodLink RX1 56 yX7_result, Cond.instanceMethod yX7_result, Cond.selects RX7 yX7_result yX7_result, Cond.code yX7_result cX7_result 1 (some (.object "PeerStores$Row")), Cond.methodLink RX1 60 yX6_at, Cond.methodLink RX1 65 yX8_isHeldBy, Cond.instanceMethod yX8_isHeldBy, Cond.selects RX8 yX8_isHeldBy yX8_isHeldBy]
def wsX1_storeMissing_r6 : List Cond := [Cond.code yX8_isHeldBy cX8_isHeldBy 6 (some .boolean), Cond.methodLink RX1 47 yX5_isHonest, Cond.instanceMethod yX5_isHonest, Cond.selects RX5 yX5_isHonest yX5_isHonest, Cond.code yX5_isHonest cX5_isHonest 2 (some .boolean), Cond.methodLink RX1 52 yX8_hand, Cond.instanceMethod yX8_hand, Cond.selects RX8 yX8_hand yX8_hand, Cond.code yX8_hand cX8_hand 4 none, Cond.fieldLink RX8 15 "PeerStores$StoredFile" "kept" "[Z", Cond.fieldLink RX8 19 "PeerStores$StoredFile" "misses" "[I"]
def wsX1_storeMissing : List Cond := .code yX1_storeMissing cX1_storeMissing 4 none :: ((wsX1_storeMissing_r1 ++ (wsX1_storeMissing_r2 ++ (wsX1_storeMissing_r3 ++ (wsX1_storeMissing_r4 ++ (wsX1_storeMissing_r5 ++ wsX1_storeMissing_r6))))) ++ wsX10 ++ wsX80 ++ wsX90 ++ wsX70 ++ wsX60 ++ wsX50)
def wsX8_isKept : List Cond := .code yX8_isKept cX8_isKept 2 (some .boolean) :: ([.fieldLink RX8 15 "PeerStores$StoredFile" "kept" "[Z", .methodLink RX8 52 yX8_isPiece, .static yX8_isPiece, .initialized RX8, .code yX8_isPiece cX8_isPiece 1 (some .boolean)] ++ wsX80)
def wsX8_holder : List Cond := .code yX8_holder cX8_holder 2 (some .int) :: ([.fieldLink RX8 9 "PeerStores$StoredFile" "holders" "[I", .methodLink RX8 52 yX8_isPiece, .static yX8_isPiece, .initialized RX8, .code yX8_isPiece cX8_isPiece 1 (some .boolean)] ++ wsX80)
def wsX5_isOnline : List Cond := .code yX5_isOnline cX5_isOnline 2 (some .boolean) :: ([.fieldLink RX5 18 "PeerStores$Peers" "online" "[Z", .methodLink RX5 31 yX5_has, .instanceMethod yX5_has, .selects RX5 yX5_has yX5_has, .initialized RX5, .code yX5_has cX5_has 2 (some .boolean), .fieldLink RX5 27 "PeerStores$Peers" "count" "I"] ++ wsX50)
def wsX1_isAtHand_r1 : List Cond := [Cond.fieldLink RX1 9 "PeerStores$Contracts" "peers" "LPeerStores$Peers;", Cond.methodLink RX1 68 yX8_isKept, Cond.instanceMethod yX8_isKept, Cond.selects RX8 yX8_isKept yX8_isKept, Cond.initialized RX8, Cond.code yX8_isKept cX8_isKept 2 (some .boolean), Cond.fieldLink RX8 15 "PeerStores$StoredFile" "kept" "[Z", Cond.methodLink RX8 52 yX8_isPiece, Cond.static yX8_isPiece, Cond.code yX8_isPiece cX8_isPiece 1 (some .boolean), Cond.methodLink RX1 71 yX8_holder, Cond.instanceMethod yX8_holder, Cond.selects RX8 yX8_holder yX8_holder, Cond.code yX8_holder cX8_holder 2 (some .int), Cond.fieldLink RX8 9 "PeerStores$StoredFile" "holders" "[I", Cond.methodLink RX1 74 yX5_isOnline, Cond.instanceMethod yX5_isOnline, Cond.selects RX5 yX5_isOnline yX5_isOnline, Cond.initialized RX5, Cond.code yX5_isOnline cX5_isOnline 2 (some .boolean), Cond.fieldLink RX5 18 "PeerStores$Peers" "online" "[Z", Cond.methodLink RX5 31 yX5_has, Cond.instanceMethod yX5_has, Cond.selects RX5 yX5_has yX5_has]
def wsX1_isAtHand_r2 : List Cond := [Cond.code yX5_has cX5_has 2 (some .boolean), Cond.fieldLink RX5 27 "PeerStores$Peers" "count" "I"]
def wsX1_isAtHand : List Cond := .code yX1_isAtHand cX1_isAtHand 3 (some .boolean) :: ((wsX1_isAtHand_r1 ++ wsX1_isAtHand_r2) ++ wsX10 ++ wsX80 ++ wsX50)
def wsX2_isPlace : List Cond := .code yX2_isPlace cX2_isPlace 2 (some .boolean) :: ([])
def wsX2_owe : List Cond := .code yX2_owe cX2_owe 4 none :: ([.fieldLink RX2 11 "PeerStores$Ledger" "debts" "[[I", .methodLink RX2 16 yX2_isPlace, .static yX2_isPlace, .initialized RX2, .code yX2_isPlace cX2_isPlace 2 (some .boolean)] ++ wsX20)
def wsX8_setMissed : List Cond := .code yX8_setMissed cX8_setMissed 3 none :: ([.fieldLink RX8 19 "PeerStores$StoredFile" "misses" "[I", .methodLink RX8 52 yX8_isPiece, .static yX8_isPiece, .initialized RX8, .code yX8_isPiece cX8_isPiece 1 (some .boolean)] ++ wsX80)
def wsX8_missed : List Cond := .code yX8_missed cX8_missed 2 (some .int) :: ([.fieldLink RX8 19 "PeerStores$StoredFile" "misses" "[I", .methodLink RX8 52 yX8_isPiece, .static yX8_isPiece, .initialized RX8, .code yX8_isPiece cX8_isPiece 1 (some .boolean)] ++ wsX80)
def wsX1_challengePiece_r1 : List Cond := [Cond.fieldLink RX1 19 "PeerStores$Contracts" "ledger" "LPeerStores$Ledger;", Cond.methodLink RX1 71 yX8_holder, Cond.instanceMethod yX8_holder, Cond.selects RX8 yX8_holder yX8_holder, Cond.initialized RX8, Cond.code yX8_holder cX8_holder 2 (some .int), Cond.fieldLink RX8 9 "PeerStores$StoredFile" "holders" "[I", Cond.methodLink RX8 52 yX8_isPiece, Cond.static yX8_isPiece, Cond.code yX8_isPiece cX8_isPiece 1 (some .boolean), Cond.methodLink RX1 81 yX1_isAtHand, Cond.instanceMethod yX1_isAtHand, Cond.selects RX1 yX1_isAtHand yX1_isAtHand, Cond.initialized RX1, Cond.code yX1_isAtHand cX1_isAtHand 3 (some .boolean), Cond.fieldLink RX1 9 "PeerStores$Contracts" "peers" "LPeerStores$Peers;", Cond.methodLink RX1 68 yX8_isKept, Cond.instanceMethod yX8_isKept, Cond.selects RX8 yX8_isKept yX8_isKept, Cond.code yX8_isKept cX8_isKept 2 (some .boolean), Cond.fieldLink RX8 15 "PeerStores$StoredFile" "kept" "[Z", Cond.methodLink RX1 74 yX5_isOnline, Cond.instanceMethod yX5_isOnline, Cond.selects RX5 yX5_isOnline yX5_isOnline]
def wsX1_challengePiece_r2 : List Cond := [Cond.initialized RX5, Cond.code yX5_isOnline cX5_isOnline 2 (some .boolean), Cond.fieldLink RX5 18 "PeerStores$Peers" "online" "[Z", Cond.methodLink RX5 31 yX5_has, Cond.instanceMethod yX5_has, Cond.selects RX5 yX5_has yX5_has, Cond.code yX5_has cX5_has 2 (some .boolean), Cond.fieldLink RX5 27 "PeerStores$Peers" "count" "I", Cond.methodLink RX1 29 yX8_owner, Cond.instanceMethod yX8_owner, Cond.selects RX8 yX8_owner yX8_owner, Cond.code yX8_owner cX8_owner 1 (some .int), Cond.fieldLink RX8 28 "PeerStores$StoredFile" "owner" "I", Cond.methodLink RX1 85 yX2_owe, Cond.instanceMethod yX2_owe, Cond.selects RX2 yX2_owe yX2_owe, Cond.initialized RX2, Cond.code yX2_owe cX2_owe 4 none, Cond.fieldLink RX2 11 "PeerStores$Ledger" "debts" "[[I", Cond.methodLink RX2 16 yX2_isPlace, Cond.static yX2_isPlace, Cond.code yX2_isPlace cX2_isPlace 2 (some .boolean), Cond.methodLink RX1 90 yX8_setMissed, Cond.instanceMethod yX8_setMissed]
def wsX1_challengePiece_r3 : List Cond := [Cond.selects RX8 yX8_setMissed yX8_setMissed, Cond.code yX8_setMissed cX8_setMissed 3 none, Cond.fieldLink RX8 19 "PeerStores$StoredFile" "misses" "[I", Cond.methodLink RX1 94 yX8_missed, Cond.instanceMethod yX8_missed, Cond.selects RX8 yX8_missed yX8_missed, Cond.code yX8_missed cX8_missed 2 (some .int), Cond.methodLink RX1 52 yX8_hand, Cond.instanceMethod yX8_hand, Cond.selects RX8 yX8_hand yX8_hand, Cond.code yX8_hand cX8_hand 4 none]
def wsX1_challengePiece : List Cond := .code yX1_challengePiece cX1_challengePiece 4 none :: ((wsX1_challengePiece_r1 ++ (wsX1_challengePiece_r2 ++ wsX1_challengePiece_r3)) ++ wsX10 ++ wsX80 ++ wsX50 ++ wsX20)
def wsX1_challenge_r1 : List Cond := [Cond.fieldLink RX1 9 "PeerStores$Contracts" "peers" "LPeerStores$Peers;", Cond.methodLink RX1 29 yX8_owner, Cond.instanceMethod yX8_owner, Cond.selects RX8 yX8_owner yX8_owner, Cond.initialized RX8, Cond.code yX8_owner cX8_owner 1 (some .int), Cond.fieldLink RX8 28 "PeerStores$StoredFile" "owner" "I", Cond.methodLink RX1 74 yX5_isOnline, Cond.instanceMethod yX5_isOnline, Cond.selects RX5 yX5_isOnline yX5_isOnline, Cond.initialized RX5, Cond.code yX5_isOnline cX5_isOnline 2 (some .boolean), Cond.fieldLink RX5 18 "PeerStores$Peers" "online" "[Z", Cond.methodLink RX5 31 yX5_has, Cond.instanceMethod yX5_has, Cond.selects RX5 yX5_has yX5_has, Cond.code yX5_has cX5_has 2 (some .boolean), Cond.fieldLink RX5 27 "PeerStores$Peers" "count" "I", Cond.methodLink RX1 23 yX8_isHeld, Cond.instanceMethod yX8_isHeld, Cond.selects RX8 yX8_isHeld yX8_isHeld, Cond.code yX8_isHeld cX8_isHeld 2 (some .boolean), Cond.fieldLink RX8 9 "PeerStores$StoredFile" "holders" "[I", Cond.methodLink RX8 52 yX8_isPiece]
def wsX1_challenge_r2 : List Cond := [Cond.static yX8_isPiece, Cond.code yX8_isPiece cX8_isPiece 1 (some .boolean), Cond.methodLink RX1 77 yX1_challengePiece, Cond.instanceMethod yX1_challengePiece, Cond.selects RX1 yX1_challengePiece yX1_challengePiece, Cond.initialized RX1, Cond.code yX1_challengePiece cX1_challengePiece 4 none, Cond.fieldLink RX1 19 "PeerStores$Contracts" "ledger" "LPeerStores$Ledger;", Cond.methodLink RX1 71 yX8_holder, Cond.instanceMethod yX8_holder, Cond.selects RX8 yX8_holder yX8_holder, Cond.code yX8_holder cX8_holder 2 (some .int), Cond.methodLink RX1 81 yX1_isAtHand, Cond.instanceMethod yX1_isAtHand, Cond.selects RX1 yX1_isAtHand yX1_isAtHand, Cond.code yX1_isAtHand cX1_isAtHand 3 (some .boolean), Cond.methodLink RX1 68 yX8_isKept, Cond.instanceMethod yX8_isKept, Cond.selects RX8 yX8_isKept yX8_isKept, Cond.code yX8_isKept cX8_isKept 2 (some .boolean), Cond.fieldLink RX8 15 "PeerStores$StoredFile" "kept" "[Z", Cond.methodLink RX1 85 yX2_owe, Cond.instanceMethod yX2_owe, Cond.selects RX2 yX2_owe yX2_owe]
def wsX1_challenge_r3 : List Cond := [Cond.initialized RX2, Cond.code yX2_owe cX2_owe 4 none, Cond.fieldLink RX2 11 "PeerStores$Ledger" "debts" "[[I", Cond.methodLink RX2 16 yX2_isPlace, Cond.static yX2_isPlace, Cond.code yX2_isPlace cX2_isPlace 2 (some .boolean), Cond.methodLink RX1 90 yX8_setMissed, Cond.instanceMethod yX8_setMissed, Cond.selects RX8 yX8_setMissed yX8_setMissed, Cond.code yX8_setMissed cX8_setMissed 3 none, Cond.fieldLink RX8 19 "PeerStores$StoredFile" "misses" "[I", Cond.methodLink RX1 94 yX8_missed, Cond.instanceMethod yX8_missed, Cond.selects RX8 yX8_missed yX8_missed, Cond.code yX8_missed cX8_missed 2 (some .int), Cond.methodLink RX1 52 yX8_hand, Cond.instanceMethod yX8_hand, Cond.selects RX8 yX8_hand yX8_hand, Cond.code yX8_hand cX8_hand 4 none]
def wsX1_challenge : List Cond := .code yX1_challenge cX1_challenge 3 none :: ((wsX1_challenge_r1 ++ (wsX1_challenge_r2 ++ wsX1_challenge_r3)) ++ wsX10 ++ wsX80 ++ wsX50 ++ wsX20)
def wsX1_isToRepair_r1 : List Cond := [Cond.fieldLink RX1 9 "PeerStores$Contracts" "peers" "LPeerStores$Peers;", Cond.methodLink RX1 23 yX8_isHeld, Cond.instanceMethod yX8_isHeld, Cond.selects RX8 yX8_isHeld yX8_isHeld, Cond.initialized RX8, Cond.code yX8_isHeld cX8_isHeld 2 (some .boolean), Cond.fieldLink RX8 9 "PeerStores$StoredFile" "holders" "[I", Cond.methodLink RX8 52 yX8_isPiece, Cond.static yX8_isPiece, Cond.code yX8_isPiece cX8_isPiece 1 (some .boolean), Cond.methodLink RX1 81 yX1_isAtHand, Cond.instanceMethod yX1_isAtHand, Cond.selects RX1 yX1_isAtHand yX1_isAtHand, Cond.initialized RX1, Cond.code yX1_isAtHand cX1_isAtHand 3 (some .boolean), Cond.methodLink RX1 68 yX8_isKept, Cond.instanceMethod yX8_isKept, Cond.selects RX8 yX8_isKept yX8_isKept, Cond.code yX8_isKept cX8_isKept 2 (some .boolean), Cond.fieldLink RX8 15 "PeerStores$StoredFile" "kept" "[Z", Cond.methodLink RX1 71 yX8_holder, Cond.instanceMethod yX8_holder, Cond.selects RX8 yX8_holder yX8_holder, Cond.code yX8_holder cX8_holder 2 (some .int)]
def wsX1_isToRepair_r2 : List Cond := [Cond.methodLink RX1 74 yX5_isOnline, Cond.instanceMethod yX5_isOnline, Cond.selects RX5 yX5_isOnline yX5_isOnline, Cond.initialized RX5, Cond.code yX5_isOnline cX5_isOnline 2 (some .boolean), Cond.fieldLink RX5 18 "PeerStores$Peers" "online" "[Z", Cond.methodLink RX5 31 yX5_has, Cond.instanceMethod yX5_has, Cond.selects RX5 yX5_has yX5_has, Cond.code yX5_has cX5_has 2 (some .boolean), Cond.fieldLink RX5 27 "PeerStores$Peers" "count" "I", Cond.methodLink RX1 29 yX8_owner, Cond.instanceMethod yX8_owner, Cond.selects RX8 yX8_owner yX8_owner, Cond.code yX8_owner cX8_owner 1 (some .int), Cond.fieldLink RX8 28 "PeerStores$StoredFile" "owner" "I"]
def wsX1_isToRepair : List Cond := .code yX1_isToRepair cX1_isToRepair 5 (some .boolean) :: ((wsX1_isToRepair_r1 ++ wsX1_isToRepair_r2) ++ wsX10 ++ wsX80 ++ wsX50)
def wsX1_give_r1 : List Cond := [Cond.fieldLink RX1 19 "PeerStores$Contracts" "ledger" "LPeerStores$Ledger;", Cond.methodLink RX1 81 yX1_isAtHand, Cond.instanceMethod yX1_isAtHand, Cond.selects RX1 yX1_isAtHand yX1_isAtHand, Cond.initialized RX1, Cond.code yX1_isAtHand cX1_isAtHand 3 (some .boolean), Cond.fieldLink RX1 9 "PeerStores$Contracts" "peers" "LPeerStores$Peers;", Cond.methodLink RX1 68 yX8_isKept, Cond.instanceMethod yX8_isKept, Cond.selects RX8 yX8_isKept yX8_isKept, Cond.initialized RX8, Cond.code yX8_isKept cX8_isKept 2 (some .boolean), Cond.fieldLink RX8 15 "PeerStores$StoredFile" "kept" "[Z", Cond.methodLink RX8 52 yX8_isPiece, Cond.static yX8_isPiece, Cond.code yX8_isPiece cX8_isPiece 1 (some .boolean), Cond.methodLink RX1 71 yX8_holder, Cond.instanceMethod yX8_holder, Cond.selects RX8 yX8_holder yX8_holder, Cond.code yX8_holder cX8_holder 2 (some .int), Cond.fieldLink RX8 9 "PeerStores$StoredFile" "holders" "[I", Cond.methodLink RX1 74 yX5_isOnline, Cond.instanceMethod yX5_isOnline, Cond.selects RX5 yX5_isOnline yX5_isOnline]
def wsX1_give_r2 : List Cond := [Cond.initialized RX5, Cond.code yX5_isOnline cX5_isOnline 2 (some .boolean), Cond.fieldLink RX5 18 "PeerStores$Peers" "online" "[Z", Cond.methodLink RX5 31 yX5_has, Cond.instanceMethod yX5_has, Cond.selects RX5 yX5_has yX5_has, Cond.code yX5_has cX5_has 2 (some .boolean), Cond.fieldLink RX5 27 "PeerStores$Peers" "count" "I", Cond.methodLink RX1 29 yX8_owner, Cond.instanceMethod yX8_owner, Cond.selects RX8 yX8_owner yX8_owner, Cond.code yX8_owner cX8_owner 1 (some .int), Cond.fieldLink RX8 28 "PeerStores$StoredFile" "owner" "I", Cond.methodLink RX1 85 yX2_owe, Cond.instanceMethod yX2_owe, Cond.selects RX2 yX2_owe yX2_owe, Cond.initialized RX2, Cond.code yX2_owe cX2_owe 4 none, Cond.fieldLink RX2 11 "PeerStores$Ledger" "debts" "[[I", Cond.methodLink RX2 16 yX2_isPlace, Cond.static yX2_isPlace, Cond.code yX2_isPlace cX2_isPlace 2 (some .boolean)]
def wsX1_give : List Cond := .code yX1_give cX1_give 6 (some .int) :: ((wsX1_give_r1 ++ wsX1_give_r2) ++ wsX10 ++ wsX80 ++ wsX50 ++ wsX20)
def wsX2_init : List Cond := .code yX2_init cX2_init 1 none :: ([.methodLink RX2 3 objectInit, .instanceMethod objectInit, .code objectInit ⟨#[0xb1]⟩ 1 none, .classLink RX2 9 "[[I", .arrayClass .int, .fieldLink RX2 11 "PeerStores$Ledger" "debts" "[[I"] ++ wsX20)
def wsX2_debt : List Cond := .code yX2_debt cX2_debt 3 (some .int) :: ([.fieldLink RX2 11 "PeerStores$Ledger" "debts" "[[I", .methodLink RX2 16 yX2_isPlace, .static yX2_isPlace, .initialized RX2, .code yX2_isPlace cX2_isPlace 2 (some .boolean)] ++ wsX20)
def wsX2_balance : List Cond := .code yX2_balance cX2_balance 4 (some .int) :: ([.methodLink RX2 20 yX2_debt, .instanceMethod yX2_debt, .selects RX2 yX2_debt yX2_debt, .initialized RX2, .code yX2_debt cX2_debt 3 (some .int), .fieldLink RX2 11 "PeerStores$Ledger" "debts" "[[I", .methodLink RX2 16 yX2_isPlace, .static yX2_isPlace, .code yX2_isPlace cX2_isPlace 2 (some .boolean)] ++ wsX20)
def wsX2_lessenTwo : List Cond := .code yX2_lessenTwo cX2_lessenTwo 4 (some .int) :: ([.methodLink RX2 30 Lib.Math.min.name, .static Lib.Math.min.name, .initialized "java/lang/Math", .code Lib.Math.min.name Lib.Math.min.code 2 (some .int), .methodLink RX2 20 yX2_debt, .instanceMethod yX2_debt, .selects RX2 yX2_debt yX2_debt, .initialized RX2, .code yX2_debt cX2_debt 3 (some .int), .fieldLink RX2 11 "PeerStores$Ledger" "debts" "[[I", .methodLink RX2 16 yX2_isPlace, .static yX2_isPlace, .code yX2_isPlace cX2_isPlace 2 (some .boolean), .methodLink RX2 35 yX2_owe, .instanceMethod yX2_owe, .selects RX2 yX2_owe yX2_owe, .code yX2_owe cX2_owe 4 none] ++ wsX20)
def wsX2_lessenThrees : List Cond := .code yX2_lessenThrees cX2_lessenThrees 6 (some .int) :: ([.methodLink RX2 30 Lib.Math.min.name, .static Lib.Math.min.name, .initialized "java/lang/Math", .code Lib.Math.min.name Lib.Math.min.code 2 (some .int), .methodLink RX2 20 yX2_debt, .instanceMethod yX2_debt, .selects RX2 yX2_debt yX2_debt, .initialized RX2, .code yX2_debt cX2_debt 3 (some .int), .fieldLink RX2 11 "PeerStores$Ledger" "debts" "[[I", .methodLink RX2 16 yX2_isPlace, .static yX2_isPlace, .code yX2_isPlace cX2_isPlace 2 (some .boolean), .methodLink RX2 35 yX2_owe, .instanceMethod yX2_owe, .selects RX2 yX2_owe yX2_owe, .code yX2_owe cX2_owe 4 none] ++ wsX20)
def wsX2_lessenRings_r1 : List Cond := [Cond.methodLink RX2 24 yX2_lessenTwo, Cond.instanceMethod yX2_lessenTwo, Cond.selects RX2 yX2_lessenTwo yX2_lessenTwo, Cond.initialized RX2, Cond.code yX2_lessenTwo cX2_lessenTwo 4 (some .int), Cond.methodLink RX2 30 Lib.Math.min.name, Cond.static Lib.Math.min.name, Cond.initialized "java/lang/Math", Cond.code Lib.Math.min.name Lib.Math.min.code 2 (some .int), Cond.methodLink RX2 20 yX2_debt, Cond.instanceMethod yX2_debt, Cond.selects RX2 yX2_debt yX2_debt, Cond.code yX2_debt cX2_debt 3 (some .int), Cond.fieldLink RX2 11 "PeerStores$Ledger" "debts" "[[I", Cond.methodLink RX2 16 yX2_isPlace, Cond.static yX2_isPlace, Cond.code yX2_isPlace cX2_isPlace 2 (some .boolean), Cond.methodLink RX2 35 yX2_owe, Cond.instanceMethod yX2_owe, Cond.selects RX2 yX2_owe yX2_owe, Cond.code yX2_owe cX2_owe 4 none, Cond.methodLink RX2 27 yX2_lessenThrees, Cond.instanceMethod yX2_lessenThrees, Cond.selects RX2 yX2_lessenThrees yX2_lessenThrees]
def wsX2_lessenRings_r2 : List Cond := [Cond.code yX2_lessenThrees cX2_lessenThrees 6 (some .int)]
def wsX2_lessenRings : List Cond := .code yX2_lessenRings cX2_lessenRings 4 (some .int) :: ((wsX2_lessenRings_r1 ++ wsX2_lessenRings_r2) ++ wsX20)
def wsX3_init : List Cond := .code yX3_init cX3_init 2 none :: ([.methodLink RX3 3 objectInit, .instanceMethod objectInit, .code objectInit ⟨#[0xb1]⟩ 1 none, .arrayClass .int, .fieldLink RX3 9 "PeerStores$Message" "gotIn" "[I", .fieldLink RX3 15 "PeerStores$Message" "peers" "LPeerStores$Peers;"] ++ wsX30)
def wsX3_roundCount : List Cond := .code yX3_roundCount cX3_roundCount 1 (some .int) :: ([.fieldLink RX3 19 "PeerStores$Message" "roundCount" "I"] ++ wsX30)
def wsX5_keptAt : List Cond := .code yX5_keptAt cX5_keptAt 3 (some .int) :: ([.fieldLink RX5 24 "PeerStores$Peers" "kept" "[[I", .methodLink RX5 31 yX5_has, .instanceMethod yX5_has, .selects RX5 yX5_has yX5_has, .initialized RX5, .code yX5_has cX5_has 2 (some .boolean), .fieldLink RX5 27 "PeerStores$Peers" "count" "I"] ++ wsX50)
def wsX3_tellAll : List Cond := .code yX3_tellAll cX3_tellAll 6 (some .int) :: ([.fieldLink RX3 15 "PeerStores$Message" "peers" "LPeerStores$Peers;", .fieldLink RX3 9 "PeerStores$Message" "gotIn" "[I", .methodLink RX3 37 yX5_keptAt, .instanceMethod yX5_keptAt, .selects RX5 yX5_keptAt yX5_keptAt, .initialized RX5, .code yX5_keptAt cX5_keptAt 3 (some .int), .fieldLink RX5 24 "PeerStores$Peers" "kept" "[[I", .methodLink RX5 31 yX5_has, .instanceMethod yX5_has, .selects RX5 yX5_has yX5_has, .code yX5_has cX5_has 2 (some .boolean), .fieldLink RX5 27 "PeerStores$Peers" "count" "I", .methodLink RX3 40 yX5_answers, .instanceMethod yX5_answers, .selects RX5 yX5_answers yX5_answers, .code yX5_answers cX5_answers 2 (some .boolean), .fieldLink RX5 18 "PeerStores$Peers" "online" "[Z", .fieldLink RX5 15 "PeerStores$Peers" "sorts" "[I"] ++ wsX30 ++ wsX50)
def wsX3_tellInRound_r1 : List Cond := [Cond.fieldLink RX3 15 "PeerStores$Message" "peers" "LPeerStores$Peers;", Cond.fieldLink RX3 9 "PeerStores$Message" "gotIn" "[I", Cond.methodLink RX3 27 yX5_isHonest, Cond.instanceMethod yX5_isHonest, Cond.selects RX5 yX5_isHonest yX5_isHonest, Cond.initialized RX5, Cond.code yX5_isHonest cX5_isHonest 2 (some .boolean), Cond.fieldLink RX5 15 "PeerStores$Peers" "sorts" "[I", Cond.methodLink RX5 31 yX5_has, Cond.instanceMethod yX5_has, Cond.selects RX5 yX5_has yX5_has, Cond.code yX5_has cX5_has 2 (some .boolean), Cond.fieldLink RX5 27 "PeerStores$Peers" "count" "I", Cond.methodLink RX3 33 yX3_tellAll, Cond.instanceMethod yX3_tellAll, Cond.selects RX3 yX3_tellAll yX3_tellAll, Cond.initialized RX3, Cond.code yX3_tellAll cX3_tellAll 6 (some .int), Cond.methodLink RX3 37 yX5_keptAt, Cond.instanceMethod yX5_keptAt, Cond.selects RX5 yX5_keptAt yX5_keptAt, Cond.code yX5_keptAt cX5_keptAt 3 (some .int), Cond.fieldLink RX5 24 "PeerStores$Peers" "kept" "[[I", Cond.methodLink RX3 40 yX5_answers]
def wsX3_tellInRound_r2 : List Cond := [Cond.instanceMethod yX5_answers, Cond.selects RX5 yX5_answers yX5_answers, Cond.code yX5_answers cX5_answers 2 (some .boolean), Cond.fieldLink RX5 18 "PeerStores$Peers" "online" "[Z"]
def wsX3_tellInRound : List Cond := .code yX3_tellInRound cX3_tellInRound 5 (some .int) :: ((wsX3_tellInRound_r1 ++ wsX3_tellInRound_r2) ++ wsX30 ++ wsX50)
def wsX3_run_r1 : List Cond := [Cond.fieldLink RX3 9 "PeerStores$Message" "gotIn" "[I", Cond.fieldLink RX3 19 "PeerStores$Message" "roundCount" "I", Cond.methodLink RX3 23 yX3_tellInRound, Cond.instanceMethod yX3_tellInRound, Cond.selects RX3 yX3_tellInRound yX3_tellInRound, Cond.initialized RX3, Cond.code yX3_tellInRound cX3_tellInRound 5 (some .int), Cond.fieldLink RX3 15 "PeerStores$Message" "peers" "LPeerStores$Peers;", Cond.methodLink RX3 27 yX5_isHonest, Cond.instanceMethod yX5_isHonest, Cond.selects RX5 yX5_isHonest yX5_isHonest, Cond.initialized RX5, Cond.code yX5_isHonest cX5_isHonest 2 (some .boolean), Cond.fieldLink RX5 15 "PeerStores$Peers" "sorts" "[I", Cond.methodLink RX5 31 yX5_has, Cond.instanceMethod yX5_has, Cond.selects RX5 yX5_has yX5_has, Cond.code yX5_has cX5_has 2 (some .boolean), Cond.fieldLink RX5 27 "PeerStores$Peers" "count" "I", Cond.methodLink RX3 33 yX3_tellAll, Cond.instanceMethod yX3_tellAll, Cond.selects RX3 yX3_tellAll yX3_tellAll, Cond.code yX3_tellAll cX3_tellAll 6 (some .int), Cond.methodLink RX3 37 yX5_keptAt]
def wsX3_run_r2 : List Cond := [Cond.instanceMethod yX5_keptAt, Cond.selects RX5 yX5_keptAt yX5_keptAt, Cond.code yX5_keptAt cX5_keptAt 3 (some .int), Cond.fieldLink RX5 24 "PeerStores$Peers" "kept" "[[I", Cond.methodLink RX3 40 yX5_answers, Cond.instanceMethod yX5_answers, Cond.selects RX5 yX5_answers yX5_answers, Cond.code yX5_answers cX5_answers 2 (some .boolean), Cond.fieldLink RX5 18 "PeerStores$Peers" "online" "[Z"]
def wsX3_run : List Cond := .code yX3_run cX3_run 6 (some .int) :: ((wsX3_run_r1 ++ wsX3_run_r2) ++ wsX30 ++ wsX50)
def wsX4_init : List Cond := .code yX4_init cX4_init 3 none :: ([.methodLink RX4 3 objectInit, .instanceMethod objectInit, .code objectInit ⟨#[0xb1]⟩ 1 none, .arrayClass .int, .fieldLink RX4 9 "PeerStores$Names" "tellers" "[I", .classLink RX4 15 "[[I", .fieldLink RX4 17 "PeerStores$Names" "kept" "[[I"] ++ wsX40)
def wsX4_isKey : List Cond := .code yX4_isKey cX4_isKey 1 (some .boolean) :: ([])
def wsX4_mayTell : List Cond := .code yX4_mayTell cX4_mayTell 3 (some .boolean) :: ([.fieldLink RX4 9 "PeerStores$Names" "tellers" "[I", .methodLink RX4 20 yX4_isKey, .static yX4_isKey, .initialized RX4, .code yX4_isKey cX4_isKey 1 (some .boolean)] ++ wsX40)
def wsX4_claim : List Cond := .code yX4_claim cX4_claim 3 none :: ([.fieldLink RX4 9 "PeerStores$Names" "tellers" "[I", .methodLink RX4 24 yX4_mayTell, .instanceMethod yX4_mayTell, .selects RX4 yX4_mayTell yX4_mayTell, .initialized RX4, .code yX4_mayTell cX4_mayTell 3 (some .boolean), .methodLink RX4 20 yX4_isKey, .static yX4_isKey, .code yX4_isKey cX4_isKey 1 (some .boolean)] ++ wsX40)
def wsX4_isPlace : List Cond := .code yX4_isPlace cX4_isPlace 2 (some .boolean) :: ([.methodLink RX4 20 yX4_isKey, .static yX4_isKey, .initialized RX4, .code yX4_isKey cX4_isKey 1 (some .boolean)])
def wsX4_isNewer : List Cond := .code yX4_isNewer cX4_isNewer 2 (some .boolean) :: ([])
def wsX4_keep : List Cond := .code yX4_keep cX4_keep 6 (some .boolean) :: ([.fieldLink RX4 17 "PeerStores$Names" "kept" "[[I", .methodLink RX4 28 yX4_isPlace, .static yX4_isPlace, .initialized RX4, .code yX4_isPlace cX4_isPlace 2 (some .boolean), .methodLink RX4 20 yX4_isKey, .static yX4_isKey, .code yX4_isKey cX4_isKey 1 (some .boolean), .methodLink RX4 31 yX4_isNewer, .static yX4_isNewer, .code yX4_isNewer cX4_isNewer 2 (some .boolean)] ++ wsX40)
def wsX4_keptBy : List Cond := .code yX4_keptBy cX4_keptBy 3 (some .int) :: ([.fieldLink RX4 17 "PeerStores$Names" "kept" "[[I", .methodLink RX4 28 yX4_isPlace, .static yX4_isPlace, .initialized RX4, .code yX4_isPlace cX4_isPlace 2 (some .boolean), .methodLink RX4 20 yX4_isKey, .static yX4_isKey, .code yX4_isKey cX4_isKey 1 (some .boolean)] ++ wsX40)
def wsX5_init : List Cond := .code yX5_init cX5_init 1 none :: ([.methodLink RX5 3 objectInit, .instanceMethod objectInit, .code objectInit ⟨#[0xb1]⟩ 1 none, .arrayClass .int, .fieldLink RX5 9 "PeerStores$Peers" "ids" "[I", .fieldLink RX5 15 "PeerStores$Peers" "sorts" "[I", .arrayClass .boolean, .fieldLink RX5 18 "PeerStores$Peers" "online" "[Z", .classLink RX5 22 "[[I", .fieldLink RX5 24 "PeerStores$Peers" "kept" "[[I"] ++ wsX50)
def wsX5_isFull : List Cond := .code yX5_isFull cX5_isFull 1 (some .boolean) :: ([.fieldLink RX5 27 "PeerStores$Peers" "count" "I"] ++ wsX50)
def wsX5_hasId : List Cond := .code yX5_hasId cX5_hasId 3 (some .boolean) :: ([.fieldLink RX5 27 "PeerStores$Peers" "count" "I", .fieldLink RX5 9 "PeerStores$Peers" "ids" "[I"] ++ wsX50)
def wsX5_add : List Cond := .code yX5_add cX5_add 6 (some .int) :: ([.fieldLink RX5 27 "PeerStores$Peers" "count" "I", .fieldLink RX5 9 "PeerStores$Peers" "ids" "[I", .fieldLink RX5 15 "PeerStores$Peers" "sorts" "[I", .fieldLink RX5 18 "PeerStores$Peers" "online" "[Z", .fieldLink RX5 24 "PeerStores$Peers" "kept" "[[I"] ++ wsX50)
def wsX5_setOnline : List Cond := .code yX5_setOnline cX5_setOnline 3 none :: ([.fieldLink RX5 18 "PeerStores$Peers" "online" "[Z", .methodLink RX5 31 yX5_has, .instanceMethod yX5_has, .selects RX5 yX5_has yX5_has, .initialized RX5, .code yX5_has cX5_has 2 (some .boolean), .fieldLink RX5 27 "PeerStores$Peers" "count" "I"] ++ wsX50)
def wsX6_init : List Cond := .code yX6_init cX6_init 1 none :: ([.methodLink RX6 3 objectInit, .instanceMethod objectInit, .code objectInit ⟨#[0xb1]⟩ 1 none, .arrayClass .int, .fieldLink RX6 9 "PeerStores$Row" "members" "[I", .fieldLink RX6 15 "PeerStores$Row" "distances" "[I"] ++ wsX60)
def wsX6_digits : List Cond := .code yX6_digits cX6_digits 3 (some .int) :: ([.methodLink RX6 22 yX6_at, .instanceMethod yX6_at, .selects RX6 yX6_at yX6_at, .initialized RX6, .code yX6_at cX6_at 2 (some .int), .fieldLink RX6 18 "PeerStores$Row" "size" "I", .fieldLink RX6 9 "PeerStores$Row" "members" "[I"] ++ wsX60)
def wsX7_init : List Cond := .code yX7_init cX7_init 2 none :: ([.methodLink RX7 3 objectInit, .instanceMethod objectInit, .code objectInit ⟨#[0xb1]⟩ 1 none, .classLink RX7 9 RX6, .instantiable RX6 3, .initialized RX6, .fieldLink RX7 12 "PeerStores$Search" "firstWay" "LPeerStores$Row;", .fieldLink RX7 18 "PeerStores$Search" "secondWay" "LPeerStores$Row;", .fieldLink RX7 21 "PeerStores$Search" "answered" "LPeerStores$Row;", .fieldLink RX7 24 "PeerStores$Search" "spokenOf" "LPeerStores$Row;", .arrayClass .boolean, .fieldLink RX7 27 "PeerStores$Search" "wasAsked" "[Z", .fieldLink RX7 31 "PeerStores$Search" "peers" "LPeerStores$Peers;", .instanceMethod yX6_init, .code yX6_init cX6_init 1 none, .methodLink RX6 3 objectInit, .arrayClass .int, .fieldLink RX6 9 "PeerStores$Row" "members" "[I", .fieldLink RX6 15 "PeerStores$Row" "distances" "[I"] ++ wsX60 ++ wsX70)
def wsX7_askedCount : List Cond := .code yX7_askedCount cX7_askedCount 1 (some .int) :: ([.fieldLink RX7 35 "PeerStores$Search" "askedCount" "I"] ++ wsX70)
def wsX9_hash : List Cond := .code yX9_hash cX9_hash 3 (some .int) :: ([.constant RX9 19 (1103515245)])
def wsX9_init : List Cond := .code yX9_init cX9_init 3 none :: ([.methodLink RX9 3 objectInit, .instanceMethod objectInit, .code objectInit ⟨#[0xb1]⟩ 1 none, .arrayClass .int, .fieldLink RX9 9 "PeerStores$Tree" "nodes" "[I", .methodLink RX9 15 yX9_hash, .static yX9_hash, .initialized RX9, .code yX9_hash cX9_hash 3 (some .int), .constant RX9 19 (1103515245)] ++ wsX90)
def wsX8_init_r1 : List Cond := [Cond.methodLink RX8 3 objectInit, Cond.instanceMethod objectInit, Cond.code objectInit ⟨#[0xb1]⟩ 1 none, Cond.arrayClass .int, Cond.fieldLink RX8 9 "PeerStores$StoredFile" "holders" "[I", Cond.arrayClass .boolean, Cond.fieldLink RX8 15 "PeerStores$StoredFile" "kept" "[Z", Cond.fieldLink RX8 19 "PeerStores$StoredFile" "misses" "[I", Cond.fieldLink RX8 28 "PeerStores$StoredFile" "owner" "I", Cond.fieldLink RX8 32 "PeerStores$StoredFile" "values" "[I", Cond.classLink RX8 35 RX9, Cond.instantiable RX9 1, Cond.initialized RX9, Cond.fieldLink RX8 40 "PeerStores$StoredFile" "tree" "LPeerStores$Tree;", Cond.methodLink RX8 22 yX0_pieces, Cond.static yX0_pieces, Cond.initialized RX0, Cond.code yX0_pieces cX0_pieces 6 (some (.array .int)), Cond.methodLink RX0 15 yX0_weighted, Cond.static yX0_weighted, Cond.code yX0_weighted cX0_weighted 2 (some .int), Cond.methodLink RX0 9 yX0_times, Cond.static yX0_times, Cond.code yX0_times cX0_times 5 (some .int)]
def wsX8_init_r2 : List Cond := [Cond.methodLink RX8 37 yX9_init, Cond.instanceMethod yX9_init, Cond.code yX9_init cX9_init 3 none, Cond.methodLink RX9 3 objectInit, Cond.fieldLink RX9 9 "PeerStores$Tree" "nodes" "[I", Cond.methodLink RX9 15 yX9_hash, Cond.static yX9_hash, Cond.code yX9_hash cX9_hash 3 (some .int), Cond.constant RX9 19 (1103515245)]
def wsX8_init : List Cond := .code yX8_init cX8_init 5 none :: ((wsX8_init_r1 ++ wsX8_init_r2) ++ wsX80 ++ wsX90)
def wsX8_tree : List Cond := .code yX8_tree cX8_tree 1 (some (.object "PeerStores$Tree")) :: ([.fieldLink RX8 40 "PeerStores$StoredFile" "tree" "LPeerStores$Tree;"] ++ wsX80)
def wsX8_value : List Cond := .code yX8_value cX8_value 2 (some .int) :: ([.fieldLink RX8 32 "PeerStores$StoredFile" "values" "[I"] ++ wsX80)
def wsX8_mended : List Cond := .code yX8_mended cX8_mended 2 (some .int) :: ([.fieldLink RX8 32 "PeerStores$StoredFile" "values" "[I", .methodLink RX8 48 yX0_solve, .static yX0_solve, .initialized RX0, .code yX0_solve cX0_solve 8 (some .int), .methodLink RX0 18 yX0_isIn, .static yX0_isIn, .code yX0_isIn cX0_isIn 2 (some .boolean), .methodLink RX0 15 yX0_weighted, .static yX0_weighted, .code yX0_weighted cX0_weighted 2 (some .int), .methodLink RX0 9 yX0_times, .static yX0_times, .code yX0_times cX0_times 5 (some .int), .methodLink RX0 22 yX0_solveTwo, .static yX0_solveTwo, .code yX0_solveTwo cX0_solveTwo 7 (some .int), .methodLink RX0 26 yX0_inverse, .static yX0_inverse, .code yX0_inverse cX0_inverse 4 (some .int)] ++ wsX80)
def wsX8_throwAway : List Cond := .code yX8_throwAway cX8_throwAway 2 none :: ([.fieldLink RX8 15 "PeerStores$StoredFile" "kept" "[Z", .methodLink RX8 52 yX8_isPiece, .static yX8_isPiece, .initialized RX8, .code yX8_isPiece cX8_isPiece 1 (some .boolean)] ++ wsX80)
def wsX9_above : List Cond := .code yX9_above cX9_above 3 (some .int) :: ([.methodLink RX9 15 yX9_hash, .static yX9_hash, .initialized RX9, .code yX9_hash cX9_hash 3 (some .int), .constant RX9 19 (1103515245)])
def wsX9_climb : List Cond := .code yX9_climb cX9_climb 8 (some .int) :: ([.methodLink RX9 15 yX9_hash, .static yX9_hash, .initialized RX9, .code yX9_hash cX9_hash 3 (some .int), .constant RX9 19 (1103515245), .methodLink RX9 20 yX9_above, .static yX9_above, .code yX9_above cX9_above 3 (some .int)])
def wsX9_top : List Cond := .code yX9_top cX9_top 1 (some .int) :: ([.fieldLink RX9 9 "PeerStores$Tree" "nodes" "[I"] ++ wsX90)
def wsX9_neighbour : List Cond := .code yX9_neighbour cX9_neighbour 3 (some .int) :: ([.fieldLink RX9 9 "PeerStores$Tree" "nodes" "[I"] ++ wsX90)
def wsX10_init_r1 : List Cond := [Cond.methodLink RX10 3 objectInit, Cond.instanceMethod objectInit, Cond.code objectInit ⟨#[0xb1]⟩ 1 none, Cond.classLink RX10 9 RX5, Cond.instantiable RX5 5, Cond.initialized RX5, Cond.classLink RX10 12 RX7, Cond.instantiable RX7 7, Cond.initialized RX7, Cond.classLink RX10 17 RX2, Cond.instantiable RX2 1, Cond.initialized RX2, Cond.fieldLink RX10 20 "PeerStores" "peers" "LPeerStores$Peers;", Cond.fieldLink RX10 24 "PeerStores" "search" "LPeerStores$Search;", Cond.fieldLink RX10 28 "PeerStores" "ledger" "LPeerStores$Ledger;", Cond.classLink RX10 32 RX6, Cond.instantiable RX6 3, Cond.initialized RX6, Cond.fieldLink RX10 35 "PeerStores" "nearest" "LPeerStores$Row;", Cond.classLink RX10 39 RX8, Cond.fieldLink RX10 41 "PeerStores" "files" "[LPeerStores$StoredFile;", Cond.classLink RX10 45 RX1, Cond.instantiable RX1 3, Cond.initialized RX1]
def wsX10_init_r2 : List Cond := [Cond.fieldLink RX10 50 "PeerStores" "contracts" "LPeerStores$Contracts;", Cond.classLink RX10 54 RX4, Cond.instantiable RX4 2, Cond.initialized RX4, Cond.fieldLink RX10 57 "PeerStores" "names" "LPeerStores$Names;", Cond.classLink RX10 61 RX3, Cond.instantiable RX3 3, Cond.initialized RX3, Cond.fieldLink RX10 64 "PeerStores" "message" "LPeerStores$Message;", Cond.instanceMethod yX5_init, Cond.code yX5_init cX5_init 1 none, Cond.methodLink RX5 3 objectInit, Cond.arrayClass .int, Cond.fieldLink RX5 9 "PeerStores$Peers" "ids" "[I", Cond.fieldLink RX5 15 "PeerStores$Peers" "sorts" "[I", Cond.arrayClass .boolean, Cond.fieldLink RX5 18 "PeerStores$Peers" "online" "[Z", Cond.classLink RX5 22 "[[I", Cond.fieldLink RX5 24 "PeerStores$Peers" "kept" "[[I", Cond.methodLink RX10 14 yX7_init, Cond.instanceMethod yX7_init, Cond.code yX7_init cX7_init 2 none, Cond.methodLink RX7 3 objectInit, Cond.classLink RX7 9 RX6]
def wsX10_init_r3 : List Cond := [Cond.fieldLink RX7 12 "PeerStores$Search" "firstWay" "LPeerStores$Row;", Cond.fieldLink RX7 18 "PeerStores$Search" "secondWay" "LPeerStores$Row;", Cond.fieldLink RX7 21 "PeerStores$Search" "answered" "LPeerStores$Row;", Cond.fieldLink RX7 24 "PeerStores$Search" "spokenOf" "LPeerStores$Row;", Cond.fieldLink RX7 27 "PeerStores$Search" "wasAsked" "[Z", Cond.fieldLink RX7 31 "PeerStores$Search" "peers" "LPeerStores$Peers;", Cond.instanceMethod yX6_init, Cond.code yX6_init cX6_init 1 none, Cond.methodLink RX6 3 objectInit, Cond.fieldLink RX6 9 "PeerStores$Row" "members" "[I", Cond.fieldLink RX6 15 "PeerStores$Row" "distances" "[I", Cond.instanceMethod yX2_init, Cond.code yX2_init cX2_init 1 none, Cond.methodLink RX2 3 objectInit, Cond.classLink RX2 9 "[[I", Cond.fieldLink RX2 11 "PeerStores$Ledger" "debts" "[[I", Cond.methodLink RX10 47 yX1_init, Cond.instanceMethod yX1_init, Cond.code yX1_init cX1_init 4 none, Cond.methodLink RX1 3 objectInit, Cond.fieldLink RX1 9 "PeerStores$Contracts" "peers" "LPeerStores$Peers;", Cond.fieldLink RX1 15 "PeerStores$Contracts" "search" "LPeerStores$Search;", Cond.fieldLink RX1 19 "PeerStores$Contracts" "ledger" "LPeerStores$Ledger;", Cond.methodLink RX10 56 yX4_init]
def wsX10_init_r4 : List Cond := [Cond.instanceMethod yX4_init, Cond.code yX4_init cX4_init 3 none, Cond.methodLink RX4 3 objectInit, Cond.fieldLink RX4 9 "PeerStores$Names" "tellers" "[I", Cond.classLink RX4 15 "[[I", Cond.fieldLink RX4 17 "PeerStores$Names" "kept" "[[I", Cond.methodLink RX10 63 yX3_init, Cond.instanceMethod yX3_init, Cond.code yX3_init cX3_init 2 none, Cond.methodLink RX3 3 objectInit, Cond.fieldLink RX3 9 "PeerStores$Message" "gotIn" "[I", Cond.fieldLink RX3 15 "PeerStores$Message" "peers" "LPeerStores$Peers;"]
def wsX10_init : List Cond := .code yX10_init cX10_init 4 none :: ((wsX10_init_r1 ++ (wsX10_init_r2 ++ (wsX10_init_r3 ++ wsX10_init_r4))) ++ wsX50 ++ wsX70 ++ wsX20 ++ wsX100 ++ wsX60 ++ wsX10 ++ wsX40 ++ wsX30)
def wsX10_needBelow : List Cond := .code yX10_needBelow cX10_needBelow 2 none :: ([.classLink RX10 120 "java/lang/IllegalArgumentException", .initialized "java/lang/IllegalArgumentException"] ++ (vx_atS RX10 124 "java/lang/IllegalArgumentException" ["java/lang/RuntimeException", "java/lang/Exception"]).filter goodWord)
def wsX10_needPeer : List Cond := .code yX10_needPeer cX10_needPeer 2 none :: ([.classLink RX10 112 "java/lang/IndexOutOfBoundsException", .initialized "java/lang/IndexOutOfBoundsException", .fieldLink RX10 20 "PeerStores" "peers" "LPeerStores$Peers;", .methodLink RX10 272 yX5_has, .instanceMethod yX5_has, .selects RX5 yX5_has yX5_has, .initialized RX5, .code yX5_has cX5_has 2 (some .boolean), .fieldLink RX5 27 "PeerStores$Peers" "count" "I"] ++ wsX100 ++ wsX50 ++ (vx_atS RX10 116 "java/lang/IndexOutOfBoundsException" ["java/lang/RuntimeException", "java/lang/Exception"]).filter goodWord)
def wsX10_needOnline : List Cond := .code yX10_needOnline cX10_needOnline 2 none :: ([.classLink RX10 84 "java/lang/IllegalStateException", .initialized "java/lang/IllegalStateException", .fieldLink RX10 20 "PeerStores" "peers" "LPeerStores$Peers;", .methodLink RX10 105 yX5_isOnline, .instanceMethod yX5_isOnline, .selects RX5 yX5_isOnline yX5_isOnline, .initialized RX5, .code yX5_isOnline cX5_isOnline 2 (some .boolean), .fieldLink RX5 18 "PeerStores$Peers" "online" "[Z", .methodLink RX5 31 yX5_has, .instanceMethod yX5_has, .selects RX5 yX5_has yX5_has, .code yX5_has cX5_has 2 (some .boolean), .fieldLink RX5 27 "PeerStores$Peers" "count" "I"] ++ wsX100 ++ wsX50 ++ (vx_atS RX10 88 "java/lang/IllegalStateException" ["java/lang/RuntimeException", "java/lang/Exception"]).filter goodWord)
def wsX10_peer_r1 : List Cond := [Cond.classLink RX10 84 "java/lang/IllegalStateException", Cond.initialized "java/lang/IllegalStateException", Cond.fieldLink RX10 20 "PeerStores" "peers" "LPeerStores$Peers;", Cond.fieldLink RX10 24 "PeerStores" "search" "LPeerStores$Search;", Cond.methodLink RX10 68 yX10_needBelow, Cond.static yX10_needBelow, Cond.initialized RX10, Cond.code yX10_needBelow cX10_needBelow 2 none, Cond.classLink RX10 120 "java/lang/IllegalArgumentException", Cond.initialized "java/lang/IllegalArgumentException", Cond.methodLink RX10 72 yX10_needPeer, Cond.instanceMethod yX10_needPeer, Cond.selects RX10 yX10_needPeer yX10_needPeer, Cond.code yX10_needPeer cX10_needPeer 2 none, Cond.classLink RX10 112 "java/lang/IndexOutOfBoundsException", Cond.initialized "java/lang/IndexOutOfBoundsException", Cond.methodLink RX10 272 yX5_has, Cond.instanceMethod yX5_has, Cond.selects RX5 yX5_has yX5_has, Cond.initialized RX5, Cond.code yX5_has cX5_has 2 (some .boolean), Cond.fieldLink RX5 27 "PeerStores$Peers" "count" "I", Cond.methodLink RX10 76 yX5_isFull, Cond.instanceMethod yX5_isFull]
def wsX10_peer_r2 : List Cond := [Cond.selects RX5 yX5_isFull yX5_isFull, Cond.code yX5_isFull cX5_isFull 1 (some .boolean), Cond.methodLink RX10 80 yX5_hasId, Cond.instanceMethod yX5_hasId, Cond.selects RX5 yX5_hasId yX5_hasId, Cond.code yX5_hasId cX5_hasId 3 (some .boolean), Cond.fieldLink RX5 9 "PeerStores$Peers" "ids" "[I", Cond.methodLink RX10 91 yX10_needOnline, Cond.instanceMethod yX10_needOnline, Cond.selects RX10 yX10_needOnline yX10_needOnline, Cond.code yX10_needOnline cX10_needOnline 2 none, Cond.methodLink RX10 105 yX5_isOnline, Cond.instanceMethod yX5_isOnline, Cond.selects RX5 yX5_isOnline yX5_isOnline, Cond.code yX5_isOnline cX5_isOnline 2 (some .boolean), Cond.fieldLink RX5 18 "PeerStores$Peers" "online" "[Z", Cond.methodLink RX5 31 yX5_has, Cond.methodLink RX10 94 yX5_add, Cond.instanceMethod yX5_add, Cond.selects RX5 yX5_add yX5_add, Cond.code yX5_add cX5_add 6 (some .int), Cond.fieldLink RX5 15 "PeerStores$Peers" "sorts" "[I", Cond.fieldLink RX5 24 "PeerStores$Peers" "kept" "[[I", Cond.methodLink RX10 98 yX5_hear]
def wsX10_peer_r3 : List Cond := [Cond.instanceMethod yX5_hear, Cond.selects RX5 yX5_hear yX5_hear, Cond.code yX5_hear cX5_hear 8 none, Cond.methodLink RX5 44 yX5_highestBit, Cond.static yX5_highestBit, Cond.code yX5_highestBit cX5_highestBit 2 (some .int), Cond.methodLink RX10 101 yX7_run, Cond.instanceMethod yX7_run, Cond.selects RX7 yX7_run yX7_run, Cond.initialized RX7, Cond.code yX7_run cX7_run 7 none, Cond.fieldLink RX7 35 "PeerStores$Search" "askedCount" "I", Cond.fieldLink RX7 12 "PeerStores$Search" "firstWay" "LPeerStores$Row;", Cond.fieldLink RX7 18 "PeerStores$Search" "secondWay" "LPeerStores$Row;", Cond.methodLink RX7 39 yX7_begin, Cond.instanceMethod yX7_begin, Cond.selects RX7 yX7_begin yX7_begin, Cond.code yX7_begin cX7_begin 7 none, Cond.fieldLink RX7 21 "PeerStores$Search" "answered" "LPeerStores$Row;", Cond.fieldLink RX7 27 "PeerStores$Search" "wasAsked" "[Z", Cond.fieldLink RX7 31 "PeerStores$Search" "peers" "LPeerStores$Peers;", Cond.fieldLink RX7 24 "PeerStores$Search" "spokenOf" "LPeerStores$Row;", Cond.methodLink RX7 47 yX6_clear, Cond.instanceMethod yX6_clear]
def wsX10_peer_r4 : List Cond := [Cond.selects RX6 yX6_clear yX6_clear, Cond.initialized RX6, Cond.code yX6_clear cX6_clear 1 none, Cond.fieldLink RX6 18 "PeerStores$Row" "size" "I", Cond.methodLink RX7 50 yX5_gather, Cond.instanceMethod yX5_gather, Cond.selects RX5 yX5_gather yX5_gather, Cond.code yX5_gather cX5_gather 9 none, Cond.methodLink RX5 35 yX6_clear, Cond.methodLink RX5 40 yX6_add, Cond.instanceMethod yX6_add, Cond.selects RX6 yX6_add yX6_add, Cond.code yX6_add cX6_add 6 none, Cond.fieldLink RX6 15 "PeerStores$Row" "distances" "[I", Cond.fieldLink RX6 9 "PeerStores$Row" "members" "[I", Cond.methodLink RX7 56 yX6_at, Cond.instanceMethod yX6_at, Cond.selects RX6 yX6_at yX6_at, Cond.code yX6_at cX6_at 2 (some .int), Cond.methodLink RX7 60 yX7_include, Cond.instanceMethod yX7_include, Cond.selects RX7 yX7_include yX7_include, Cond.code yX7_include cX7_include 4 none, Cond.methodLink RX7 81 yX5_distance]
def wsX10_peer_r5 : List Cond := [Cond.instanceMethod yX5_distance, Cond.selects RX5 yX5_distance yX5_distance, Cond.code yX5_distance cX5_distance 3 (some .int), Cond.methodLink RX7 85 yX6_add, Cond.methodLink RX7 43 yX7_askAlong, Cond.instanceMethod yX7_askAlong, Cond.selects RX7 yX7_askAlong yX7_askAlong, Cond.code yX7_askAlong cX7_askAlong 9 none, Cond.methodLink RX7 63 yX5_has, Cond.methodLink RX7 67 yX7_ask, Cond.instanceMethod yX7_ask, Cond.selects RX7 yX7_ask yX7_ask, Cond.code yX7_ask cX7_ask 7 none, Cond.methodLink RX7 71 yX5_answers, Cond.instanceMethod yX5_answers, Cond.selects RX5 yX5_answers yX5_answers, Cond.code yX5_answers cX5_answers 2 (some .boolean), Cond.methodLink RX7 74 yX5_hear, Cond.methodLink RX7 78 yX5_isOfBand, Cond.instanceMethod yX5_isOfBand, Cond.selects RX5 yX5_isOfBand yX5_isOfBand, Cond.code yX5_isOfBand cX5_isOfBand 2 (some .boolean)]
def wsX10_peer : List Cond := .code yX10_peer cX10_peer 5 (some .int) :: ((wsX10_peer_r1 ++ (wsX10_peer_r2 ++ (wsX10_peer_r3 ++ (wsX10_peer_r4 ++ wsX10_peer_r5)))) ++ wsX100 ++ wsX50 ++ wsX70 ++ wsX60 ++ (vx_atS RX10 88 "java/lang/IllegalStateException" ["java/lang/RuntimeException", "java/lang/Exception"]).filter goodWord ++ (vx_atS RX10 124 "java/lang/IllegalArgumentException" ["java/lang/RuntimeException", "java/lang/Exception"]).filter goodWord ++ (vx_atS RX10 116 "java/lang/IndexOutOfBoundsException" ["java/lang/RuntimeException", "java/lang/Exception"]).filter goodWord)
def wsX10_turn : List Cond := .code yX10_turn cX10_turn 4 (some .boolean) :: ([.fieldLink RX10 20 "PeerStores" "peers" "LPeerStores$Peers;", .methodLink RX10 72 yX10_needPeer, .instanceMethod yX10_needPeer, .selects RX10 yX10_needPeer yX10_needPeer, .initialized RX10, .code yX10_needPeer cX10_needPeer 2 none, .classLink RX10 112 "java/lang/IndexOutOfBoundsException", .initialized "java/lang/IndexOutOfBoundsException", .methodLink RX10 272 yX5_has, .instanceMethod yX5_has, .selects RX5 yX5_has yX5_has, .initialized RX5, .code yX5_has cX5_has 2 (some .boolean), .fieldLink RX5 27 "PeerStores$Peers" "count" "I", .methodLink RX10 105 yX5_isOnline, .instanceMethod yX5_isOnline, .selects RX5 yX5_isOnline yX5_isOnline, .code yX5_isOnline cX5_isOnline 2 (some .boolean), .fieldLink RX5 18 "PeerStores$Peers" "online" "[Z", .methodLink RX5 31 yX5_has, .methodLink RX10 108 yX5_setOnline, .instanceMethod yX5_setOnline, .selects RX5 yX5_setOnline yX5_setOnline, .code yX5_setOnline cX5_setOnline 3 none] ++ wsX100 ++ wsX50 ++ (vx_atS RX10 116 "java/lang/IndexOutOfBoundsException" ["java/lang/RuntimeException", "java/lang/Exception"]).filter goodWord)
def wsX10_bucket_r1 : List Cond := [Cond.classLink RX10 112 "java/lang/IndexOutOfBoundsException", Cond.initialized "java/lang/IndexOutOfBoundsException", Cond.fieldLink RX10 20 "PeerStores" "peers" "LPeerStores$Peers;", Cond.methodLink RX10 72 yX10_needPeer, Cond.instanceMethod yX10_needPeer, Cond.selects RX10 yX10_needPeer yX10_needPeer, Cond.initialized RX10, Cond.code yX10_needPeer cX10_needPeer 2 none, Cond.methodLink RX10 272 yX5_has, Cond.instanceMethod yX5_has, Cond.selects RX5 yX5_has yX5_has, Cond.initialized RX5, Cond.code yX5_has cX5_has 2 (some .boolean), Cond.fieldLink RX5 27 "PeerStores$Peers" "count" "I", Cond.methodLink RX10 68 yX10_needBelow, Cond.static yX10_needBelow, Cond.code yX10_needBelow cX10_needBelow 2 none, Cond.classLink RX10 120 "java/lang/IllegalArgumentException", Cond.initialized "java/lang/IllegalArgumentException", Cond.methodLink RX10 117 yX5_keptAt, Cond.instanceMethod yX5_keptAt, Cond.selects RX5 yX5_keptAt yX5_keptAt, Cond.code yX5_keptAt cX5_keptAt 3 (some .int), Cond.fieldLink RX5 24 "PeerStores$Peers" "kept" "[[I"]
def wsX10_bucket_r2 : List Cond := [Cond.methodLink RX5 31 yX5_has]
def wsX10_bucket : List Cond := .code yX10_bucket cX10_bucket 4 (some .int) :: ((wsX10_bucket_r1 ++ wsX10_bucket_r2) ++ wsX100 ++ wsX50 ++ (vx_atS RX10 116 "java/lang/IndexOutOfBoundsException" ["java/lang/RuntimeException", "java/lang/Exception"]).filter goodWord ++ (vx_atS RX10 124 "java/lang/IllegalArgumentException" ["java/lang/RuntimeException", "java/lang/Exception"]).filter goodWord)
def wsX10_lookup_r1 : List Cond := [Cond.classLink RX10 120 "java/lang/IllegalArgumentException", Cond.initialized "java/lang/IllegalArgumentException", Cond.fieldLink RX10 24 "PeerStores" "search" "LPeerStores$Search;", Cond.methodLink RX10 72 yX10_needPeer, Cond.instanceMethod yX10_needPeer, Cond.selects RX10 yX10_needPeer yX10_needPeer, Cond.initialized RX10, Cond.code yX10_needPeer cX10_needPeer 2 none, Cond.classLink RX10 112 "java/lang/IndexOutOfBoundsException", Cond.initialized "java/lang/IndexOutOfBoundsException", Cond.fieldLink RX10 20 "PeerStores" "peers" "LPeerStores$Peers;", Cond.methodLink RX10 272 yX5_has, Cond.instanceMethod yX5_has, Cond.selects RX5 yX5_has yX5_has, Cond.initialized RX5, Cond.code yX5_has cX5_has 2 (some .boolean), Cond.fieldLink RX5 27 "PeerStores$Peers" "count" "I", Cond.methodLink RX10 68 yX10_needBelow, Cond.static yX10_needBelow, Cond.code yX10_needBelow cX10_needBelow 2 none, Cond.methodLink RX10 91 yX10_needOnline, Cond.instanceMethod yX10_needOnline, Cond.selects RX10 yX10_needOnline yX10_needOnline, Cond.code yX10_needOnline cX10_needOnline 2 none]
def wsX10_lookup_r2 : List Cond := [Cond.classLink RX10 84 "java/lang/IllegalStateException", Cond.initialized "java/lang/IllegalStateException", Cond.methodLink RX10 105 yX5_isOnline, Cond.instanceMethod yX5_isOnline, Cond.selects RX5 yX5_isOnline yX5_isOnline, Cond.code yX5_isOnline cX5_isOnline 2 (some .boolean), Cond.fieldLink RX5 18 "PeerStores$Peers" "online" "[Z", Cond.methodLink RX5 31 yX5_has, Cond.methodLink RX10 101 yX7_run, Cond.instanceMethod yX7_run, Cond.selects RX7 yX7_run yX7_run, Cond.initialized RX7, Cond.code yX7_run cX7_run 7 none, Cond.fieldLink RX7 35 "PeerStores$Search" "askedCount" "I", Cond.fieldLink RX7 12 "PeerStores$Search" "firstWay" "LPeerStores$Row;", Cond.fieldLink RX7 18 "PeerStores$Search" "secondWay" "LPeerStores$Row;", Cond.methodLink RX7 39 yX7_begin, Cond.instanceMethod yX7_begin, Cond.selects RX7 yX7_begin yX7_begin, Cond.code yX7_begin cX7_begin 7 none, Cond.fieldLink RX7 21 "PeerStores$Search" "answered" "LPeerStores$Row;", Cond.fieldLink RX7 27 "PeerStores$Search" "wasAsked" "[Z", Cond.fieldLink RX7 31 "PeerStores$Search" "peers" "LPeerStores$Peers;", Cond.fieldLink RX7 24 "PeerStores$Search" "spokenOf" "LPeerStores$Row;"]
def wsX10_lookup_r3 : List Cond := [Cond.methodLink RX7 47 yX6_clear, Cond.instanceMethod yX6_clear, Cond.selects RX6 yX6_clear yX6_clear, Cond.initialized RX6, Cond.code yX6_clear cX6_clear 1 none, Cond.fieldLink RX6 18 "PeerStores$Row" "size" "I", Cond.methodLink RX7 50 yX5_gather, Cond.instanceMethod yX5_gather, Cond.selects RX5 yX5_gather yX5_gather, Cond.code yX5_gather cX5_gather 9 none, Cond.fieldLink RX5 24 "PeerStores$Peers" "kept" "[[I", Cond.fieldLink RX5 15 "PeerStores$Peers" "sorts" "[I", Cond.fieldLink RX5 9 "PeerStores$Peers" "ids" "[I", Cond.methodLink RX5 35 yX6_clear, Cond.methodLink RX5 40 yX6_add, Cond.instanceMethod yX6_add, Cond.selects RX6 yX6_add yX6_add, Cond.code yX6_add cX6_add 6 none, Cond.fieldLink RX6 15 "PeerStores$Row" "distances" "[I", Cond.fieldLink RX6 9 "PeerStores$Row" "members" "[I", Cond.methodLink RX7 56 yX6_at, Cond.instanceMethod yX6_at, Cond.selects RX6 yX6_at yX6_at, Cond.code yX6_at cX6_at 2 (some .int)]
def wsX10_lookup_r4 : List Cond := [Cond.methodLink RX7 60 yX7_include, Cond.instanceMethod yX7_include, Cond.selects RX7 yX7_include yX7_include, Cond.code yX7_include cX7_include 4 none, Cond.methodLink RX7 81 yX5_distance, Cond.instanceMethod yX5_distance, Cond.selects RX5 yX5_distance yX5_distance, Cond.code yX5_distance cX5_distance 3 (some .int), Cond.methodLink RX7 85 yX6_add, Cond.methodLink RX7 43 yX7_askAlong, Cond.instanceMethod yX7_askAlong, Cond.selects RX7 yX7_askAlong yX7_askAlong, Cond.code yX7_askAlong cX7_askAlong 9 none, Cond.methodLink RX7 63 yX5_has, Cond.methodLink RX7 67 yX7_ask, Cond.instanceMethod yX7_ask, Cond.selects RX7 yX7_ask yX7_ask, Cond.code yX7_ask cX7_ask 7 none, Cond.methodLink RX7 71 yX5_answers, Cond.instanceMethod yX5_answers, Cond.selects RX5 yX5_answers yX5_answers, Cond.code yX5_answers cX5_answers 2 (some .boolean), Cond.methodLink RX7 74 yX5_hear, Cond.instanceMethod yX5_hear]
def wsX10_lookup_r5 : List Cond := [Cond.selects RX5 yX5_hear yX5_hear, Cond.code yX5_hear cX5_hear 8 none, Cond.methodLink RX5 44 yX5_highestBit, Cond.static yX5_highestBit, Cond.code yX5_highestBit cX5_highestBit 2 (some .int), Cond.methodLink RX7 78 yX5_isOfBand, Cond.instanceMethod yX5_isOfBand, Cond.selects RX5 yX5_isOfBand yX5_isOfBand, Cond.code yX5_isOfBand cX5_isOfBand 2 (some .boolean), Cond.methodLink RX10 125 yX7_result, Cond.instanceMethod yX7_result, Cond.selects RX7 yX7_result yX7_result, Cond.code yX7_result cX7_result 1 (some (.object "PeerStores$Row")), Cond.methodLink RX10 129 yX6_digits, Cond.instanceMethod yX6_digits, Cond.selects RX6 yX6_digits yX6_digits, Cond.code yX6_digits cX6_digits 3 (some .int), Cond.methodLink RX6 22 yX6_at]
def wsX10_lookup : List Cond := .code yX10_lookup cX10_lookup 4 (some .int) :: ((wsX10_lookup_r1 ++ (wsX10_lookup_r2 ++ (wsX10_lookup_r3 ++ (wsX10_lookup_r4 ++ wsX10_lookup_r5)))) ++ wsX100 ++ wsX50 ++ wsX70 ++ wsX60 ++ (vx_atS RX10 124 "java/lang/IllegalArgumentException" ["java/lang/RuntimeException", "java/lang/Exception"]).filter goodWord ++ (vx_atS RX10 116 "java/lang/IndexOutOfBoundsException" ["java/lang/RuntimeException", "java/lang/Exception"]).filter goodWord ++ (vx_atS RX10 88 "java/lang/IllegalStateException" ["java/lang/RuntimeException", "java/lang/Exception"]).filter goodWord)
def wsX10_asked : List Cond := .code yX10_asked cX10_asked 1 (some .int) :: ([.fieldLink RX10 24 "PeerStores" "search" "LPeerStores$Search;", .methodLink RX10 133 yX7_askedCount, .instanceMethod yX7_askedCount, .selects RX7 yX7_askedCount yX7_askedCount, .initialized RX7, .code yX7_askedCount cX7_askedCount 1 (some .int), .fieldLink RX7 35 "PeerStores$Search" "askedCount" "I"] ++ wsX100 ++ wsX70)
def wsX10_closest_r1 : List Cond := [Cond.fieldLink RX10 35 "PeerStores" "nearest" "LPeerStores$Row;", Cond.fieldLink RX10 20 "PeerStores" "peers" "LPeerStores$Peers;", Cond.methodLink RX10 72 yX10_needPeer, Cond.instanceMethod yX10_needPeer, Cond.selects RX10 yX10_needPeer yX10_needPeer, Cond.initialized RX10, Cond.code yX10_needPeer cX10_needPeer 2 none, Cond.classLink RX10 112 "java/lang/IndexOutOfBoundsException", Cond.initialized "java/lang/IndexOutOfBoundsException", Cond.methodLink RX10 272 yX5_has, Cond.instanceMethod yX5_has, Cond.selects RX5 yX5_has yX5_has, Cond.initialized RX5, Cond.code yX5_has cX5_has 2 (some .boolean), Cond.fieldLink RX5 27 "PeerStores$Peers" "count" "I", Cond.methodLink RX10 68 yX10_needBelow, Cond.static yX10_needBelow, Cond.code yX10_needBelow cX10_needBelow 2 none, Cond.classLink RX10 120 "java/lang/IllegalArgumentException", Cond.initialized "java/lang/IllegalArgumentException", Cond.methodLink RX10 136 yX6_clear, Cond.instanceMethod yX6_clear, Cond.selects RX6 yX6_clear yX6_clear, Cond.initialized RX6]
def wsX10_closest_r2 : List Cond := [Cond.code yX6_clear cX6_clear 1 none, Cond.fieldLink RX6 18 "PeerStores$Row" "size" "I", Cond.methodLink RX10 139 yX5_answers, Cond.instanceMethod yX5_answers, Cond.selects RX5 yX5_answers yX5_answers, Cond.code yX5_answers cX5_answers 2 (some .boolean), Cond.fieldLink RX5 18 "PeerStores$Peers" "online" "[Z", Cond.fieldLink RX5 15 "PeerStores$Peers" "sorts" "[I", Cond.methodLink RX5 31 yX5_has, Cond.methodLink RX10 142 yX5_distance, Cond.instanceMethod yX5_distance, Cond.selects RX5 yX5_distance yX5_distance, Cond.code yX5_distance cX5_distance 3 (some .int), Cond.fieldLink RX5 9 "PeerStores$Peers" "ids" "[I", Cond.methodLink RX10 145 yX6_add, Cond.instanceMethod yX6_add, Cond.selects RX6 yX6_add yX6_add, Cond.code yX6_add cX6_add 6 none, Cond.fieldLink RX6 15 "PeerStores$Row" "distances" "[I", Cond.fieldLink RX6 9 "PeerStores$Row" "members" "[I", Cond.methodLink RX10 129 yX6_digits, Cond.instanceMethod yX6_digits, Cond.selects RX6 yX6_digits yX6_digits, Cond.code yX6_digits cX6_digits 3 (some .int)]
def wsX10_closest_r3 : List Cond := [Cond.methodLink RX6 22 yX6_at, Cond.instanceMethod yX6_at, Cond.selects RX6 yX6_at yX6_at, Cond.code yX6_at cX6_at 2 (some .int)]
def wsX10_closest : List Cond := .code yX10_closest cX10_closest 4 (some .int) :: ((wsX10_closest_r1 ++ (wsX10_closest_r2 ++ wsX10_closest_r3)) ++ wsX100 ++ wsX50 ++ wsX60 ++ (vx_atS RX10 116 "java/lang/IndexOutOfBoundsException" ["java/lang/RuntimeException", "java/lang/Exception"]).filter goodWord ++ (vx_atS RX10 124 "java/lang/IllegalArgumentException" ["java/lang/RuntimeException", "java/lang/Exception"]).filter goodWord)
def wsX10_file_r1 : List Cond := [Cond.classLink RX10 84 "java/lang/IllegalStateException", Cond.initialized "java/lang/IllegalStateException", Cond.fieldLink RX10 147 "PeerStores" "fileCount" "I", Cond.fieldLink RX10 41 "PeerStores" "files" "[LPeerStores$StoredFile;", Cond.classLink RX10 39 RX8, Cond.instantiable RX8 6, Cond.initialized RX8, Cond.fieldLink RX10 50 "PeerStores" "contracts" "LPeerStores$Contracts;", Cond.methodLink RX10 72 yX10_needPeer, Cond.instanceMethod yX10_needPeer, Cond.selects RX10 yX10_needPeer yX10_needPeer, Cond.initialized RX10, Cond.code yX10_needPeer cX10_needPeer 2 none, Cond.classLink RX10 112 "java/lang/IndexOutOfBoundsException", Cond.initialized "java/lang/IndexOutOfBoundsException", Cond.fieldLink RX10 20 "PeerStores" "peers" "LPeerStores$Peers;", Cond.methodLink RX10 272 yX5_has, Cond.instanceMethod yX5_has, Cond.selects RX5 yX5_has yX5_has, Cond.initialized RX5, Cond.code yX5_has cX5_has 2 (some .boolean), Cond.fieldLink RX5 27 "PeerStores$Peers" "count" "I", Cond.methodLink RX10 91 yX10_needOnline, Cond.instanceMethod yX10_needOnline]
def wsX10_file_r2 : List Cond := [Cond.selects RX10 yX10_needOnline yX10_needOnline, Cond.code yX10_needOnline cX10_needOnline 2 none, Cond.methodLink RX10 105 yX5_isOnline, Cond.instanceMethod yX5_isOnline, Cond.selects RX5 yX5_isOnline yX5_isOnline, Cond.code yX5_isOnline cX5_isOnline 2 (some .boolean), Cond.fieldLink RX5 18 "PeerStores$Peers" "online" "[Z", Cond.methodLink RX5 31 yX5_has, Cond.methodLink RX10 153 yX8_init, Cond.instanceMethod yX8_init, Cond.code yX8_init cX8_init 5 none, Cond.methodLink RX8 3 objectInit, Cond.instanceMethod objectInit, Cond.code objectInit ⟨#[0xb1]⟩ 1 none, Cond.arrayClass .int, Cond.fieldLink RX8 9 "PeerStores$StoredFile" "holders" "[I", Cond.arrayClass .boolean, Cond.fieldLink RX8 15 "PeerStores$StoredFile" "kept" "[Z", Cond.fieldLink RX8 19 "PeerStores$StoredFile" "misses" "[I", Cond.fieldLink RX8 28 "PeerStores$StoredFile" "owner" "I", Cond.fieldLink RX8 32 "PeerStores$StoredFile" "values" "[I", Cond.classLink RX8 35 RX9, Cond.instantiable RX9 1, Cond.initialized RX9]
def wsX10_file_r3 : List Cond := [Cond.fieldLink RX8 40 "PeerStores$StoredFile" "tree" "LPeerStores$Tree;", Cond.methodLink RX8 22 yX0_pieces, Cond.static yX0_pieces, Cond.initialized RX0, Cond.code yX0_pieces cX0_pieces 6 (some (.array .int)), Cond.methodLink RX0 15 yX0_weighted, Cond.static yX0_weighted, Cond.code yX0_weighted cX0_weighted 2 (some .int), Cond.methodLink RX0 9 yX0_times, Cond.static yX0_times, Cond.code yX0_times cX0_times 5 (some .int), Cond.methodLink RX8 37 yX9_init, Cond.instanceMethod yX9_init, Cond.code yX9_init cX9_init 3 none, Cond.methodLink RX9 3 objectInit, Cond.fieldLink RX9 9 "PeerStores$Tree" "nodes" "[I", Cond.methodLink RX9 15 yX9_hash, Cond.static yX9_hash, Cond.code yX9_hash cX9_hash 3 (some .int), Cond.constant RX9 19 (1103515245), Cond.methodLink RX10 155 yX1_storeMissing, Cond.instanceMethod yX1_storeMissing, Cond.selects RX1 yX1_storeMissing yX1_storeMissing, Cond.initialized RX1]
def wsX10_file_r4 : List Cond := [Cond.code yX1_storeMissing cX1_storeMissing 4 none, Cond.fieldLink RX1 15 "PeerStores$Contracts" "search" "LPeerStores$Search;", Cond.fieldLink RX1 9 "PeerStores$Contracts" "peers" "LPeerStores$Peers;", Cond.methodLink RX1 23 yX8_isHeld, Cond.instanceMethod yX8_isHeld, Cond.selects RX8 yX8_isHeld yX8_isHeld, Cond.code yX8_isHeld cX8_isHeld 2 (some .boolean), Cond.methodLink RX8 52 yX8_isPiece, Cond.static yX8_isPiece, Cond.code yX8_isPiece cX8_isPiece 1 (some .boolean), Cond.methodLink RX1 29 yX8_owner, Cond.instanceMethod yX8_owner, Cond.selects RX8 yX8_owner yX8_owner, Cond.code yX8_owner cX8_owner 1 (some .int), Cond.methodLink RX1 33 yX8_key, Cond.instanceMethod yX8_key, Cond.selects RX8 yX8_key yX8_key, Cond.code yX8_key cX8_key 2 (some .int), Cond.methodLink RX8 44 yX9_leaf, Cond.instanceMethod yX9_leaf, Cond.selects RX9 yX9_leaf yX9_leaf, Cond.code yX9_leaf cX9_leaf 2 (some .int), Cond.methodLink RX1 37 yX7_run, Cond.instanceMethod yX7_run]
def wsX10_file_r5 : List Cond := [Cond.selects RX7 yX7_run yX7_run, Cond.initialized RX7, Cond.code yX7_run cX7_run 7 none, Cond.fieldLink RX7 35 "PeerStores$Search" "askedCount" "I", Cond.fieldLink RX7 12 "PeerStores$Search" "firstWay" "LPeerStores$Row;", Cond.fieldLink RX7 18 "PeerStores$Search" "secondWay" "LPeerStores$Row;", Cond.methodLink RX7 39 yX7_begin, Cond.instanceMethod yX7_begin, Cond.selects RX7 yX7_begin yX7_begin, Cond.code yX7_begin cX7_begin 7 none, Cond.fieldLink RX7 21 "PeerStores$Search" "answered" "LPeerStores$Row;", Cond.fieldLink RX7 27 "PeerStores$Search" "wasAsked" "[Z", Cond.fieldLink RX7 31 "PeerStores$Search" "peers" "LPeerStores$Peers;", Cond.fieldLink RX7 24 "PeerStores$Search" "spokenOf" "LPeerStores$Row;", Cond.methodLink RX7 47 yX6_clear, Cond.instanceMethod yX6_clear, Cond.selects RX6 yX6_clear yX6_clear, Cond.initialized RX6, Cond.code yX6_clear cX6_clear 1 none, Cond.fieldLink RX6 18 "PeerStores$Row" "size" "I", Cond.methodLink RX7 50 yX5_gather, Cond.instanceMethod yX5_gather, Cond.selects RX5 yX5_gather yX5_gather, Cond.code yX5_gather cX5_gather 9 none]
def wsX10_file_r6 : List Cond := [Cond.fieldLink RX5 24 "PeerStores$Peers" "kept" "[[I", Cond.fieldLink RX5 15 "PeerStores$Peers" "sorts" "[I", Cond.fieldLink RX5 9 "PeerStores$Peers" "ids" "[I", Cond.methodLink RX5 35 yX6_clear, Cond.methodLink RX5 40 yX6_add, Cond.instanceMethod yX6_add, Cond.selects RX6 yX6_add yX6_add, Cond.code yX6_add cX6_add 6 none, Cond.fieldLink RX6 15 "PeerStores$Row" "distances" "[I", Cond.fieldLink RX6 9 "PeerStores$Row" "members" "[I", Cond.methodLink RX7 56 yX6_at, Cond.instanceMethod yX6_at, Cond.selects RX6 yX6_at yX6_at, Cond.code yX6_at cX6_at 2 (some .int), Cond.methodLink RX7 60 yX7_include, Cond.instanceMethod yX7_include, Cond.selects RX7 yX7_include yX7_include, Cond.code yX7_include cX7_include 4 none, Cond.methodLink RX7 81 yX5_distance, Cond.instanceMethod yX5_distance, Cond.selects RX5 yX5_distance yX5_distance, Cond.code yX5_distance cX5_distance 3 (some .int), Cond.methodLink RX7 85 yX6_add, Cond.methodLink RX7 43 yX7_askAlong]
def wsX10_file_r7 : List Cond := [Cond.instanceMethod yX7_askAlong, Cond.selects RX7 yX7_askAlong yX7_askAlong, Cond.code yX7_askAlong cX7_askAlong 9 none, Cond.methodLink RX7 63 yX5_has, Cond.methodLink RX7 67 yX7_ask, Cond.instanceMethod yX7_ask, Cond.selects RX7 yX7_ask yX7_ask, Cond.code yX7_ask cX7_ask 7 none, Cond.methodLink RX7 71 yX5_answers, Cond.instanceMethod yX5_answers, Cond.selects RX5 yX5_answers yX5_answers, Cond.code yX5_answers cX5_answers 2 (some .boolean), Cond.methodLink RX7 74 yX5_hear, Cond.instanceMethod yX5_hear, Cond.selects RX5 yX5_hear yX5_hear, Cond.code yX5_hear cX5_hear 8 none, Cond.methodLink RX5 44 yX5_highestBit, Cond.static yX5_highestBit, Cond.code yX5_highestBit cX5_highestBit 2 (some .int), Cond.methodLink RX7 78 yX5_isOfBand, Cond.instanceMethod yX5_isOfBand, Cond.selects RX5 yX5_isOfBand yX5_isOfBand, Cond.code yX5_isOfBand cX5_isOfBand 2 (some .boolean), Cond.methodLink RX1 43 yX1_firstFree]
def wsX10_file_r8 : List Cond := [Cond.instanceMethod yX1_firstFree, Cond.selects RX1 yX1_firstFree yX1_firstFree, Cond.code yX1_firstFree cX1_firstFree 4 (some .int), Cond.methodLink RX1 56 yX7_result, Cond.instanceMethod yX7_result, Cond.selects RX7 yX7_result yX7_result, Cond.code yX7_result cX7_result 1 (some (.object "PeerStores$Row")), Cond.methodLink RX1 60 yX6_at, Cond.methodLink RX1 65 yX8_isHeldBy, Cond.instanceMethod yX8_isHeldBy, Cond.selects RX8 yX8_isHeldBy yX8_isHeldBy, Cond.code yX8_isHeldBy cX8_isHeldBy 6 (some .boolean), Cond.methodLink RX1 47 yX5_isHonest, Cond.instanceMethod yX5_isHonest, Cond.selects RX5 yX5_isHonest yX5_isHonest, Cond.code yX5_isHonest cX5_isHonest 2 (some .boolean), Cond.methodLink RX1 52 yX8_hand, Cond.instanceMethod yX8_hand, Cond.selects RX8 yX8_hand yX8_hand, Cond.code yX8_hand cX8_hand 4 none]
def wsX10_file : List Cond := .code yX10_file cX10_file 5 (some .int) :: ((wsX10_file_r1 ++ (wsX10_file_r2 ++ (wsX10_file_r3 ++ (wsX10_file_r4 ++ (wsX10_file_r5 ++ (wsX10_file_r6 ++ (wsX10_file_r7 ++ wsX10_file_r8))))))) ++ wsX100 ++ wsX80 ++ wsX50 ++ wsX90 ++ wsX10 ++ wsX70 ++ wsX60 ++ (vx_atS RX10 88 "java/lang/IllegalStateException" ["java/lang/RuntimeException", "java/lang/Exception"]).filter goodWord ++ (vx_atS RX10 116 "java/lang/IndexOutOfBoundsException" ["java/lang/RuntimeException", "java/lang/Exception"]).filter goodWord)
def wsX10_fileAt : List Cond := .code yX10_fileAt cX10_fileAt 3 (some (.object "PeerStores$StoredFile")) :: ([.classLink RX10 112 "java/lang/IndexOutOfBoundsException", .initialized "java/lang/IndexOutOfBoundsException", .fieldLink RX10 41 "PeerStores" "files" "[LPeerStores$StoredFile;"] ++ wsX100 ++ (vx_atS RX10 116 "java/lang/IndexOutOfBoundsException" ["java/lang/RuntimeException", "java/lang/Exception"]).filter goodWord)
def wsX10_needPiece : List Cond := .code yX10_needPiece cX10_needPiece 1 none :: ([.classLink RX10 112 "java/lang/IndexOutOfBoundsException", .initialized "java/lang/IndexOutOfBoundsException"] ++ (vx_atS RX10 116 "java/lang/IndexOutOfBoundsException" ["java/lang/RuntimeException", "java/lang/Exception"]).filter goodWord)
def wsX10_piece_r1 : List Cond := [Cond.classLink RX10 120 "java/lang/IllegalArgumentException", Cond.initialized "java/lang/IllegalArgumentException", Cond.methodLink RX10 159 yX10_fileAt, Cond.instanceMethod yX10_fileAt, Cond.selects RX10 yX10_fileAt yX10_fileAt, Cond.initialized RX10, Cond.code yX10_fileAt cX10_fileAt 3 (some (.object "PeerStores$StoredFile")), Cond.classLink RX10 112 "java/lang/IndexOutOfBoundsException", Cond.initialized "java/lang/IndexOutOfBoundsException", Cond.fieldLink RX10 41 "PeerStores" "files" "[LPeerStores$StoredFile;", Cond.methodLink RX10 163 yX10_needPiece, Cond.static yX10_needPiece, Cond.code yX10_needPiece cX10_needPiece 1 none, Cond.methodLink RX10 166 yX8_value, Cond.instanceMethod yX8_value, Cond.selects RX8 yX8_value yX8_value, Cond.initialized RX8, Cond.code yX8_value cX8_value 2 (some .int), Cond.fieldLink RX8 32 "PeerStores$StoredFile" "values" "[I", Cond.methodLink RX10 170 yX8_holder, Cond.instanceMethod yX8_holder, Cond.selects RX8 yX8_holder yX8_holder, Cond.code yX8_holder cX8_holder 2 (some .int), Cond.fieldLink RX8 9 "PeerStores$StoredFile" "holders" "[I"]
def wsX10_piece_r2 : List Cond := [Cond.methodLink RX8 52 yX8_isPiece, Cond.static yX8_isPiece, Cond.code yX8_isPiece cX8_isPiece 1 (some .boolean), Cond.methodLink RX10 173 yX8_isKept, Cond.instanceMethod yX8_isKept, Cond.selects RX8 yX8_isKept yX8_isKept, Cond.code yX8_isKept cX8_isKept 2 (some .boolean), Cond.fieldLink RX8 15 "PeerStores$StoredFile" "kept" "[Z", Cond.methodLink RX10 176 yX8_missed, Cond.instanceMethod yX8_missed, Cond.selects RX8 yX8_missed yX8_missed, Cond.code yX8_missed cX8_missed 2 (some .int), Cond.fieldLink RX8 19 "PeerStores$StoredFile" "misses" "[I"]
def wsX10_piece : List Cond := .code yX10_piece cX10_piece 5 (some .int) :: ((wsX10_piece_r1 ++ wsX10_piece_r2) ++ wsX100 ++ wsX80 ++ (vx_atS RX10 124 "java/lang/IllegalArgumentException" ["java/lang/RuntimeException", "java/lang/Exception"]).filter goodWord ++ (vx_atS RX10 116 "java/lang/IndexOutOfBoundsException" ["java/lang/RuntimeException", "java/lang/Exception"]).filter goodWord)
def wsX10_spoil_r1 : List Cond := [Cond.classLink RX10 84 "java/lang/IllegalStateException", Cond.initialized "java/lang/IllegalStateException", Cond.methodLink RX10 159 yX10_fileAt, Cond.instanceMethod yX10_fileAt, Cond.selects RX10 yX10_fileAt yX10_fileAt, Cond.initialized RX10, Cond.code yX10_fileAt cX10_fileAt 3 (some (.object "PeerStores$StoredFile")), Cond.classLink RX10 112 "java/lang/IndexOutOfBoundsException", Cond.initialized "java/lang/IndexOutOfBoundsException", Cond.fieldLink RX10 41 "PeerStores" "files" "[LPeerStores$StoredFile;", Cond.methodLink RX10 163 yX10_needPiece, Cond.static yX10_needPiece, Cond.code yX10_needPiece cX10_needPiece 1 none, Cond.methodLink RX10 181 yX8_isHeld, Cond.instanceMethod yX8_isHeld, Cond.selects RX8 yX8_isHeld yX8_isHeld, Cond.initialized RX8, Cond.code yX8_isHeld cX8_isHeld 2 (some .boolean), Cond.fieldLink RX8 9 "PeerStores$StoredFile" "holders" "[I", Cond.methodLink RX8 52 yX8_isPiece, Cond.static yX8_isPiece, Cond.code yX8_isPiece cX8_isPiece 1 (some .boolean), Cond.methodLink RX10 173 yX8_isKept, Cond.instanceMethod yX8_isKept]
def wsX10_spoil_r2 : List Cond := [Cond.selects RX8 yX8_isKept yX8_isKept, Cond.code yX8_isKept cX8_isKept 2 (some .boolean), Cond.fieldLink RX8 15 "PeerStores$StoredFile" "kept" "[Z", Cond.methodLink RX10 186 yX8_throwAway, Cond.instanceMethod yX8_throwAway, Cond.selects RX8 yX8_throwAway yX8_throwAway, Cond.code yX8_throwAway cX8_throwAway 2 none]
def wsX10_spoil : List Cond := .code yX10_spoil cX10_spoil 5 (some .boolean) :: ((wsX10_spoil_r1 ++ wsX10_spoil_r2) ++ wsX100 ++ wsX80 ++ (vx_atS RX10 88 "java/lang/IllegalStateException" ["java/lang/RuntimeException", "java/lang/Exception"]).filter goodWord ++ (vx_atS RX10 116 "java/lang/IndexOutOfBoundsException" ["java/lang/RuntimeException", "java/lang/Exception"]).filter goodWord)
def wsX10_root : List Cond := .code yX10_root cX10_root 2 (some .int) :: ([.methodLink RX10 159 yX10_fileAt, .instanceMethod yX10_fileAt, .selects RX10 yX10_fileAt yX10_fileAt, .initialized RX10, .code yX10_fileAt cX10_fileAt 3 (some (.object "PeerStores$StoredFile")), .classLink RX10 112 "java/lang/IndexOutOfBoundsException", .initialized "java/lang/IndexOutOfBoundsException", .fieldLink RX10 41 "PeerStores" "files" "[LPeerStores$StoredFile;", .methodLink RX10 189 yX8_tree, .instanceMethod yX8_tree, .selects RX8 yX8_tree yX8_tree, .initialized RX8, .code yX8_tree cX8_tree 1 (some (.object "PeerStores$Tree")), .fieldLink RX8 40 "PeerStores$StoredFile" "tree" "LPeerStores$Tree;", .methodLink RX10 193 yX9_top, .instanceMethod yX9_top, .selects RX9 yX9_top yX9_top, .initialized RX9, .code yX9_top cX9_top 1 (some .int), .fieldLink RX9 9 "PeerStores$Tree" "nodes" "[I"] ++ wsX100 ++ wsX80 ++ wsX90 ++ (vx_atS RX10 116 "java/lang/IndexOutOfBoundsException" ["java/lang/RuntimeException", "java/lang/Exception"]).filter goodWord)
def wsX10_proof_r1 : List Cond := [Cond.methodLink RX10 159 yX10_fileAt, Cond.instanceMethod yX10_fileAt, Cond.selects RX10 yX10_fileAt yX10_fileAt, Cond.initialized RX10, Cond.code yX10_fileAt cX10_fileAt 3 (some (.object "PeerStores$StoredFile")), Cond.classLink RX10 112 "java/lang/IndexOutOfBoundsException", Cond.initialized "java/lang/IndexOutOfBoundsException", Cond.fieldLink RX10 41 "PeerStores" "files" "[LPeerStores$StoredFile;", Cond.methodLink RX10 163 yX10_needPiece, Cond.static yX10_needPiece, Cond.code yX10_needPiece cX10_needPiece 1 none, Cond.methodLink RX10 68 yX10_needBelow, Cond.static yX10_needBelow, Cond.code yX10_needBelow cX10_needBelow 2 none, Cond.classLink RX10 120 "java/lang/IllegalArgumentException", Cond.initialized "java/lang/IllegalArgumentException", Cond.methodLink RX10 189 yX8_tree, Cond.instanceMethod yX8_tree, Cond.selects RX8 yX8_tree yX8_tree, Cond.initialized RX8, Cond.code yX8_tree cX8_tree 1 (some (.object "PeerStores$Tree")), Cond.fieldLink RX8 40 "PeerStores$StoredFile" "tree" "LPeerStores$Tree;", Cond.methodLink RX10 198 yX9_neighbour, Cond.instanceMethod yX9_neighbour]
def wsX10_proof_r2 : List Cond := [Cond.selects RX9 yX9_neighbour yX9_neighbour, Cond.initialized RX9, Cond.code yX9_neighbour cX9_neighbour 3 (some .int), Cond.fieldLink RX9 9 "PeerStores$Tree" "nodes" "[I"]
def wsX10_proof : List Cond := .code yX10_proof cX10_proof 5 (some .int) :: ((wsX10_proof_r1 ++ wsX10_proof_r2) ++ wsX100 ++ wsX80 ++ wsX90 ++ (vx_atS RX10 116 "java/lang/IndexOutOfBoundsException" ["java/lang/RuntimeException", "java/lang/Exception"]).filter goodWord ++ (vx_atS RX10 124 "java/lang/IllegalArgumentException" ["java/lang/RuntimeException", "java/lang/Exception"]).filter goodWord)
def wsX10_isProved_r1 : List Cond := [Cond.methodLink RX10 159 yX10_fileAt, Cond.instanceMethod yX10_fileAt, Cond.selects RX10 yX10_fileAt yX10_fileAt, Cond.initialized RX10, Cond.code yX10_fileAt cX10_fileAt 3 (some (.object "PeerStores$StoredFile")), Cond.classLink RX10 112 "java/lang/IndexOutOfBoundsException", Cond.initialized "java/lang/IndexOutOfBoundsException", Cond.fieldLink RX10 41 "PeerStores" "files" "[LPeerStores$StoredFile;", Cond.methodLink RX10 163 yX10_needPiece, Cond.static yX10_needPiece, Cond.code yX10_needPiece cX10_needPiece 1 none, Cond.methodLink RX10 68 yX10_needBelow, Cond.static yX10_needBelow, Cond.code yX10_needBelow cX10_needBelow 2 none, Cond.classLink RX10 120 "java/lang/IllegalArgumentException", Cond.initialized "java/lang/IllegalArgumentException", Cond.methodLink RX10 189 yX8_tree, Cond.instanceMethod yX8_tree, Cond.selects RX8 yX8_tree yX8_tree, Cond.initialized RX8, Cond.code yX8_tree cX8_tree 1 (some (.object "PeerStores$Tree")), Cond.fieldLink RX8 40 "PeerStores$StoredFile" "tree" "LPeerStores$Tree;", Cond.methodLink RX10 193 yX9_top, Cond.instanceMethod yX9_top]
def wsX10_isProved_r2 : List Cond := [Cond.selects RX9 yX9_top yX9_top, Cond.initialized RX9, Cond.code yX9_top cX9_top 1 (some .int), Cond.fieldLink RX9 9 "PeerStores$Tree" "nodes" "[I", Cond.methodLink RX10 201 yX9_climb, Cond.static yX9_climb, Cond.code yX9_climb cX9_climb 8 (some .int), Cond.methodLink RX9 15 yX9_hash, Cond.static yX9_hash, Cond.code yX9_hash cX9_hash 3 (some .int), Cond.constant RX9 19 (1103515245), Cond.methodLink RX9 20 yX9_above, Cond.static yX9_above, Cond.code yX9_above cX9_above 3 (some .int)]
def wsX10_isProved : List Cond := .code yX10_isProved cX10_isProved 8 (some .boolean) :: ((wsX10_isProved_r1 ++ wsX10_isProved_r2) ++ wsX100 ++ wsX80 ++ wsX90 ++ (vx_atS RX10 116 "java/lang/IndexOutOfBoundsException" ["java/lang/RuntimeException", "java/lang/Exception"]).filter goodWord ++ (vx_atS RX10 124 "java/lang/IllegalArgumentException" ["java/lang/RuntimeException", "java/lang/Exception"]).filter goodWord)
def wsJ6_bitCount_0f7a4 : List Cond := .code yJ6_bitCount_0f7a4 cJ6_bitCount_0f7a4 1 (some .int) :: ([.constant RJ6 265 (1431655765), .constant RJ6 266 (858993459), .constant RJ6 267 (252645135)])
def wsX10_mend_r1 : List Cond := [Cond.classLink RX10 120 "java/lang/IllegalArgumentException", Cond.initialized "java/lang/IllegalArgumentException", Cond.methodLink RX10 159 yX10_fileAt, Cond.instanceMethod yX10_fileAt, Cond.selects RX10 yX10_fileAt yX10_fileAt, Cond.initialized RX10, Cond.code yX10_fileAt cX10_fileAt 3 (some (.object "PeerStores$StoredFile")), Cond.classLink RX10 112 "java/lang/IndexOutOfBoundsException", Cond.initialized "java/lang/IndexOutOfBoundsException", Cond.fieldLink RX10 41 "PeerStores" "files" "[LPeerStores$StoredFile;", Cond.methodLink RX10 68 yX10_needBelow, Cond.static yX10_needBelow, Cond.code yX10_needBelow cX10_needBelow 2 none, Cond.methodLink RX10 205 yJ6_bitCount_0f7a4, Cond.static yJ6_bitCount_0f7a4, Cond.initialized RJ6, Cond.code yJ6_bitCount_0f7a4 cJ6_bitCount_0f7a4 1 (some .int), Cond.constant RJ6 265 (1431655765), Cond.constant RJ6 266 (858993459), Cond.constant RJ6 267 (252645135), Cond.methodLink RX10 212 yX8_mended, Cond.instanceMethod yX8_mended, Cond.selects RX8 yX8_mended yX8_mended, Cond.initialized RX8]
def wsX10_mend_r2 : List Cond := [Cond.code yX8_mended cX8_mended 2 (some .int), Cond.fieldLink RX8 32 "PeerStores$StoredFile" "values" "[I", Cond.methodLink RX8 48 yX0_solve, Cond.static yX0_solve, Cond.initialized RX0, Cond.code yX0_solve cX0_solve 8 (some .int), Cond.methodLink RX0 18 yX0_isIn, Cond.static yX0_isIn, Cond.code yX0_isIn cX0_isIn 2 (some .boolean), Cond.methodLink RX0 15 yX0_weighted, Cond.static yX0_weighted, Cond.code yX0_weighted cX0_weighted 2 (some .int), Cond.methodLink RX0 9 yX0_times, Cond.static yX0_times, Cond.code yX0_times cX0_times 5 (some .int), Cond.methodLink RX0 22 yX0_solveTwo, Cond.static yX0_solveTwo, Cond.code yX0_solveTwo cX0_solveTwo 7 (some .int), Cond.methodLink RX0 26 yX0_inverse, Cond.static yX0_inverse, Cond.code yX0_inverse cX0_inverse 4 (some .int)]
def wsX10_mend : List Cond := .code yX10_mend cX10_mend 4 (some .int) :: ((wsX10_mend_r1 ++ wsX10_mend_r2) ++ wsX100 ++ wsX80 ++ (vx_atS RX10 124 "java/lang/IllegalArgumentException" ["java/lang/RuntimeException", "java/lang/Exception"]).filter goodWord ++ (vx_atS RX10 116 "java/lang/IndexOutOfBoundsException" ["java/lang/RuntimeException", "java/lang/Exception"]).filter goodWord)
def wsX10_fetch_r1 : List Cond := [Cond.fieldLink RX10 50 "PeerStores" "contracts" "LPeerStores$Contracts;", Cond.methodLink RX10 72 yX10_needPeer, Cond.instanceMethod yX10_needPeer, Cond.selects RX10 yX10_needPeer yX10_needPeer, Cond.initialized RX10, Cond.code yX10_needPeer cX10_needPeer 2 none, Cond.classLink RX10 112 "java/lang/IndexOutOfBoundsException", Cond.initialized "java/lang/IndexOutOfBoundsException", Cond.fieldLink RX10 20 "PeerStores" "peers" "LPeerStores$Peers;", Cond.methodLink RX10 272 yX5_has, Cond.instanceMethod yX5_has, Cond.selects RX5 yX5_has yX5_has, Cond.initialized RX5, Cond.code yX5_has cX5_has 2 (some .boolean), Cond.fieldLink RX5 27 "PeerStores$Peers" "count" "I", Cond.methodLink RX10 159 yX10_fileAt, Cond.instanceMethod yX10_fileAt, Cond.selects RX10 yX10_fileAt yX10_fileAt, Cond.code yX10_fileAt cX10_fileAt 3 (some (.object "PeerStores$StoredFile")), Cond.fieldLink RX10 41 "PeerStores" "files" "[LPeerStores$StoredFile;", Cond.methodLink RX10 91 yX10_needOnline, Cond.instanceMethod yX10_needOnline, Cond.selects RX10 yX10_needOnline yX10_needOnline, Cond.code yX10_needOnline cX10_needOnline 2 none]
def wsX10_fetch_r2 : List Cond := [Cond.classLink RX10 84 "java/lang/IllegalStateException", Cond.initialized "java/lang/IllegalStateException", Cond.methodLink RX10 105 yX5_isOnline, Cond.instanceMethod yX5_isOnline, Cond.selects RX5 yX5_isOnline yX5_isOnline, Cond.code yX5_isOnline cX5_isOnline 2 (some .boolean), Cond.fieldLink RX5 18 "PeerStores$Peers" "online" "[Z", Cond.methodLink RX5 31 yX5_has, Cond.methodLink RX10 215 yX1_give, Cond.instanceMethod yX1_give, Cond.selects RX1 yX1_give yX1_give, Cond.initialized RX1, Cond.code yX1_give cX1_give 6 (some .int), Cond.fieldLink RX1 19 "PeerStores$Contracts" "ledger" "LPeerStores$Ledger;", Cond.methodLink RX1 81 yX1_isAtHand, Cond.instanceMethod yX1_isAtHand, Cond.selects RX1 yX1_isAtHand yX1_isAtHand, Cond.code yX1_isAtHand cX1_isAtHand 3 (some .boolean), Cond.fieldLink RX1 9 "PeerStores$Contracts" "peers" "LPeerStores$Peers;", Cond.methodLink RX1 68 yX8_isKept, Cond.instanceMethod yX8_isKept, Cond.selects RX8 yX8_isKept yX8_isKept, Cond.initialized RX8, Cond.code yX8_isKept cX8_isKept 2 (some .boolean)]
def wsX10_fetch_r3 : List Cond := [Cond.fieldLink RX8 15 "PeerStores$StoredFile" "kept" "[Z", Cond.methodLink RX8 52 yX8_isPiece, Cond.static yX8_isPiece, Cond.code yX8_isPiece cX8_isPiece 1 (some .boolean), Cond.methodLink RX1 71 yX8_holder, Cond.instanceMethod yX8_holder, Cond.selects RX8 yX8_holder yX8_holder, Cond.code yX8_holder cX8_holder 2 (some .int), Cond.fieldLink RX8 9 "PeerStores$StoredFile" "holders" "[I", Cond.methodLink RX1 74 yX5_isOnline, Cond.methodLink RX1 29 yX8_owner, Cond.instanceMethod yX8_owner, Cond.selects RX8 yX8_owner yX8_owner, Cond.code yX8_owner cX8_owner 1 (some .int), Cond.fieldLink RX8 28 "PeerStores$StoredFile" "owner" "I", Cond.methodLink RX1 85 yX2_owe, Cond.instanceMethod yX2_owe, Cond.selects RX2 yX2_owe yX2_owe, Cond.initialized RX2, Cond.code yX2_owe cX2_owe 4 none, Cond.fieldLink RX2 11 "PeerStores$Ledger" "debts" "[[I", Cond.methodLink RX2 16 yX2_isPlace, Cond.static yX2_isPlace, Cond.code yX2_isPlace cX2_isPlace 2 (some .boolean)]
def wsX10_fetch : List Cond := .code yX10_fetch cX10_fetch 4 (some .int) :: ((wsX10_fetch_r1 ++ (wsX10_fetch_r2 ++ wsX10_fetch_r3)) ++ wsX100 ++ wsX50 ++ wsX10 ++ wsX80 ++ wsX20 ++ (vx_atS RX10 116 "java/lang/IndexOutOfBoundsException" ["java/lang/RuntimeException", "java/lang/Exception"]).filter goodWord ++ (vx_atS RX10 88 "java/lang/IllegalStateException" ["java/lang/RuntimeException", "java/lang/Exception"]).filter goodWord)
def wsX10_pass_r1 : List Cond := [Cond.classLink RX10 84 "java/lang/IllegalStateException", Cond.initialized "java/lang/IllegalStateException", Cond.fieldLink RX10 219 "PeerStores" "day" "I", Cond.fieldLink RX10 41 "PeerStores" "files" "[LPeerStores$StoredFile;", Cond.fieldLink RX10 50 "PeerStores" "contracts" "LPeerStores$Contracts;", Cond.methodLink RX10 224 yX1_challenge, Cond.instanceMethod yX1_challenge, Cond.selects RX1 yX1_challenge yX1_challenge, Cond.initialized RX1, Cond.code yX1_challenge cX1_challenge 3 none, Cond.fieldLink RX1 9 "PeerStores$Contracts" "peers" "LPeerStores$Peers;", Cond.methodLink RX1 29 yX8_owner, Cond.instanceMethod yX8_owner, Cond.selects RX8 yX8_owner yX8_owner, Cond.initialized RX8, Cond.code yX8_owner cX8_owner 1 (some .int), Cond.fieldLink RX8 28 "PeerStores$StoredFile" "owner" "I", Cond.methodLink RX1 74 yX5_isOnline, Cond.instanceMethod yX5_isOnline, Cond.selects RX5 yX5_isOnline yX5_isOnline, Cond.initialized RX5, Cond.code yX5_isOnline cX5_isOnline 2 (some .boolean), Cond.fieldLink RX5 18 "PeerStores$Peers" "online" "[Z", Cond.methodLink RX5 31 yX5_has]
def wsX10_pass_r2 : List Cond := [Cond.instanceMethod yX5_has, Cond.selects RX5 yX5_has yX5_has, Cond.code yX5_has cX5_has 2 (some .boolean), Cond.fieldLink RX5 27 "PeerStores$Peers" "count" "I", Cond.methodLink RX1 23 yX8_isHeld, Cond.instanceMethod yX8_isHeld, Cond.selects RX8 yX8_isHeld yX8_isHeld, Cond.code yX8_isHeld cX8_isHeld 2 (some .boolean), Cond.fieldLink RX8 9 "PeerStores$StoredFile" "holders" "[I", Cond.methodLink RX8 52 yX8_isPiece, Cond.static yX8_isPiece, Cond.code yX8_isPiece cX8_isPiece 1 (some .boolean), Cond.methodLink RX1 77 yX1_challengePiece, Cond.instanceMethod yX1_challengePiece, Cond.selects RX1 yX1_challengePiece yX1_challengePiece, Cond.code yX1_challengePiece cX1_challengePiece 4 none, Cond.fieldLink RX1 19 "PeerStores$Contracts" "ledger" "LPeerStores$Ledger;", Cond.methodLink RX1 71 yX8_holder, Cond.instanceMethod yX8_holder, Cond.selects RX8 yX8_holder yX8_holder, Cond.code yX8_holder cX8_holder 2 (some .int), Cond.methodLink RX1 81 yX1_isAtHand, Cond.instanceMethod yX1_isAtHand, Cond.selects RX1 yX1_isAtHand yX1_isAtHand]
def wsX10_pass_r3 : List Cond := [Cond.code yX1_isAtHand cX1_isAtHand 3 (some .boolean), Cond.methodLink RX1 68 yX8_isKept, Cond.instanceMethod yX8_isKept, Cond.selects RX8 yX8_isKept yX8_isKept, Cond.code yX8_isKept cX8_isKept 2 (some .boolean), Cond.fieldLink RX8 15 "PeerStores$StoredFile" "kept" "[Z", Cond.methodLink RX1 85 yX2_owe, Cond.instanceMethod yX2_owe, Cond.selects RX2 yX2_owe yX2_owe, Cond.initialized RX2, Cond.code yX2_owe cX2_owe 4 none, Cond.fieldLink RX2 11 "PeerStores$Ledger" "debts" "[[I", Cond.methodLink RX2 16 yX2_isPlace, Cond.static yX2_isPlace, Cond.code yX2_isPlace cX2_isPlace 2 (some .boolean), Cond.methodLink RX1 90 yX8_setMissed, Cond.instanceMethod yX8_setMissed, Cond.selects RX8 yX8_setMissed yX8_setMissed, Cond.code yX8_setMissed cX8_setMissed 3 none, Cond.fieldLink RX8 19 "PeerStores$StoredFile" "misses" "[I", Cond.methodLink RX1 94 yX8_missed, Cond.instanceMethod yX8_missed, Cond.selects RX8 yX8_missed yX8_missed, Cond.code yX8_missed cX8_missed 2 (some .int)]
def wsX10_pass_r4 : List Cond := [Cond.methodLink RX1 52 yX8_hand, Cond.instanceMethod yX8_hand, Cond.selects RX8 yX8_hand yX8_hand, Cond.code yX8_hand cX8_hand 4 none, Cond.methodLink RX10 227 yX1_isToRepair, Cond.instanceMethod yX1_isToRepair, Cond.selects RX1 yX1_isToRepair yX1_isToRepair, Cond.code yX1_isToRepair cX1_isToRepair 5 (some .boolean), Cond.methodLink RX10 155 yX1_storeMissing, Cond.instanceMethod yX1_storeMissing, Cond.selects RX1 yX1_storeMissing yX1_storeMissing, Cond.code yX1_storeMissing cX1_storeMissing 4 none, Cond.fieldLink RX1 15 "PeerStores$Contracts" "search" "LPeerStores$Search;", Cond.methodLink RX1 33 yX8_key, Cond.instanceMethod yX8_key, Cond.selects RX8 yX8_key yX8_key, Cond.code yX8_key cX8_key 2 (some .int), Cond.fieldLink RX8 40 "PeerStores$StoredFile" "tree" "LPeerStores$Tree;", Cond.methodLink RX8 44 yX9_leaf, Cond.instanceMethod yX9_leaf, Cond.selects RX9 yX9_leaf yX9_leaf, Cond.initialized RX9, Cond.code yX9_leaf cX9_leaf 2 (some .int), Cond.fieldLink RX9 9 "PeerStores$Tree" "nodes" "[I"]
def wsX10_pass_r5 : List Cond := [Cond.methodLink RX1 37 yX7_run, Cond.instanceMethod yX7_run, Cond.selects RX7 yX7_run yX7_run, Cond.initialized RX7, Cond.code yX7_run cX7_run 7 none, Cond.fieldLink RX7 35 "PeerStores$Search" "askedCount" "I", Cond.fieldLink RX7 12 "PeerStores$Search" "firstWay" "LPeerStores$Row;", Cond.fieldLink RX7 18 "PeerStores$Search" "secondWay" "LPeerStores$Row;", Cond.methodLink RX7 39 yX7_begin, Cond.instanceMethod yX7_begin, Cond.selects RX7 yX7_begin yX7_begin, Cond.code yX7_begin cX7_begin 7 none, Cond.fieldLink RX7 21 "PeerStores$Search" "answered" "LPeerStores$Row;", Cond.fieldLink RX7 27 "PeerStores$Search" "wasAsked" "[Z", Cond.fieldLink RX7 31 "PeerStores$Search" "peers" "LPeerStores$Peers;", Cond.fieldLink RX7 24 "PeerStores$Search" "spokenOf" "LPeerStores$Row;", Cond.methodLink RX7 47 yX6_clear, Cond.instanceMethod yX6_clear, Cond.selects RX6 yX6_clear yX6_clear, Cond.initialized RX6, Cond.code yX6_clear cX6_clear 1 none, Cond.fieldLink RX6 18 "PeerStores$Row" "size" "I", Cond.methodLink RX7 50 yX5_gather, Cond.instanceMethod yX5_gather]
def wsX10_pass_r6 : List Cond := [Cond.selects RX5 yX5_gather yX5_gather, Cond.code yX5_gather cX5_gather 9 none, Cond.fieldLink RX5 24 "PeerStores$Peers" "kept" "[[I", Cond.fieldLink RX5 15 "PeerStores$Peers" "sorts" "[I", Cond.fieldLink RX5 9 "PeerStores$Peers" "ids" "[I", Cond.methodLink RX5 35 yX6_clear, Cond.methodLink RX5 40 yX6_add, Cond.instanceMethod yX6_add, Cond.selects RX6 yX6_add yX6_add, Cond.code yX6_add cX6_add 6 none, Cond.fieldLink RX6 15 "PeerStores$Row" "distances" "[I", Cond.fieldLink RX6 9 "PeerStores$Row" "members" "[I", Cond.methodLink RX7 56 yX6_at, Cond.instanceMethod yX6_at, Cond.selects RX6 yX6_at yX6_at, Cond.code yX6_at cX6_at 2 (some .int), Cond.methodLink RX7 60 yX7_include, Cond.instanceMethod yX7_include, Cond.selects RX7 yX7_include yX7_include, Cond.code yX7_include cX7_include 4 none, Cond.methodLink RX7 81 yX5_distance, Cond.instanceMethod yX5_distance, Cond.selects RX5 yX5_distance yX5_distance, Cond.code yX5_distance cX5_distance 3 (some .int)]
def wsX10_pass_r7 : List Cond := [Cond.methodLink RX7 85 yX6_add, Cond.methodLink RX7 43 yX7_askAlong, Cond.instanceMethod yX7_askAlong, Cond.selects RX7 yX7_askAlong yX7_askAlong, Cond.code yX7_askAlong cX7_askAlong 9 none, Cond.methodLink RX7 63 yX5_has, Cond.methodLink RX7 67 yX7_ask, Cond.instanceMethod yX7_ask, Cond.selects RX7 yX7_ask yX7_ask, Cond.code yX7_ask cX7_ask 7 none, Cond.methodLink RX7 71 yX5_answers, Cond.instanceMethod yX5_answers, Cond.selects RX5 yX5_answers yX5_answers, Cond.code yX5_answers cX5_answers 2 (some .boolean), Cond.methodLink RX7 74 yX5_hear, Cond.instanceMethod yX5_hear, Cond.selects RX5 yX5_hear yX5_hear, Cond.code yX5_hear cX5_hear 8 none, Cond.methodLink RX5 44 yX5_highestBit, Cond.static yX5_highestBit, Cond.code yX5_highestBit cX5_highestBit 2 (some .int), Cond.methodLink RX7 78 yX5_isOfBand, Cond.instanceMethod yX5_isOfBand, Cond.selects RX5 yX5_isOfBand yX5_isOfBand]
def wsX10_pass_r8 : List Cond := [Cond.code yX5_isOfBand cX5_isOfBand 2 (some .boolean), Cond.methodLink RX1 43 yX1_firstFree, Cond.instanceMethod yX1_firstFree, Cond.selects RX1 yX1_firstFree yX1_firstFree, Cond.code yX1_firstFree cX1_firstFree 4 (some .int), Cond.methodLink RX1 56 yX7_result, Cond.instanceMethod yX7_result, Cond.selects RX7 yX7_result yX7_result, Cond.code yX7_result cX7_result 1 (some (.object "PeerStores$Row")), Cond.methodLink RX1 60 yX6_at, Cond.methodLink RX1 65 yX8_isHeldBy, Cond.instanceMethod yX8_isHeldBy, Cond.selects RX8 yX8_isHeldBy yX8_isHeldBy, Cond.code yX8_isHeldBy cX8_isHeldBy 6 (some .boolean), Cond.methodLink RX1 47 yX5_isHonest, Cond.instanceMethod yX5_isHonest, Cond.selects RX5 yX5_isHonest yX5_isHonest, Cond.code yX5_isHonest cX5_isHonest 2 (some .boolean)]
def wsX10_pass : List Cond := .code yX10_pass cX10_pass 3 (some .int) :: ((wsX10_pass_r1 ++ (wsX10_pass_r2 ++ (wsX10_pass_r3 ++ (wsX10_pass_r4 ++ (wsX10_pass_r5 ++ (wsX10_pass_r6 ++ (wsX10_pass_r7 ++ wsX10_pass_r8))))))) ++ wsX100 ++ wsX10 ++ wsX80 ++ wsX50 ++ wsX20 ++ wsX90 ++ wsX70 ++ wsX60 ++ (vx_atS RX10 88 "java/lang/IllegalStateException" ["java/lang/RuntimeException", "java/lang/Exception"]).filter goodWord)
def wsX10_tell_r1 : List Cond := [Cond.classLink RX10 84 "java/lang/IllegalStateException", Cond.initialized "java/lang/IllegalStateException", Cond.fieldLink RX10 57 "PeerStores" "names" "LPeerStores$Names;", Cond.fieldLink RX10 24 "PeerStores" "search" "LPeerStores$Search;", Cond.fieldLink RX10 20 "PeerStores" "peers" "LPeerStores$Peers;", Cond.methodLink RX10 72 yX10_needPeer, Cond.instanceMethod yX10_needPeer, Cond.selects RX10 yX10_needPeer yX10_needPeer, Cond.initialized RX10, Cond.code yX10_needPeer cX10_needPeer 2 none, Cond.classLink RX10 112 "java/lang/IndexOutOfBoundsException", Cond.initialized "java/lang/IndexOutOfBoundsException", Cond.methodLink RX10 272 yX5_has, Cond.instanceMethod yX5_has, Cond.selects RX5 yX5_has yX5_has, Cond.initialized RX5, Cond.code yX5_has cX5_has 2 (some .boolean), Cond.fieldLink RX5 27 "PeerStores$Peers" "count" "I", Cond.methodLink RX10 68 yX10_needBelow, Cond.static yX10_needBelow, Cond.code yX10_needBelow cX10_needBelow 2 none, Cond.classLink RX10 120 "java/lang/IllegalArgumentException", Cond.initialized "java/lang/IllegalArgumentException", Cond.methodLink RX10 91 yX10_needOnline]
def wsX10_tell_r2 : List Cond := [Cond.instanceMethod yX10_needOnline, Cond.selects RX10 yX10_needOnline yX10_needOnline, Cond.code yX10_needOnline cX10_needOnline 2 none, Cond.methodLink RX10 105 yX5_isOnline, Cond.instanceMethod yX5_isOnline, Cond.selects RX5 yX5_isOnline yX5_isOnline, Cond.code yX5_isOnline cX5_isOnline 2 (some .boolean), Cond.fieldLink RX5 18 "PeerStores$Peers" "online" "[Z", Cond.methodLink RX5 31 yX5_has, Cond.methodLink RX10 231 yX4_mayTell, Cond.instanceMethod yX4_mayTell, Cond.selects RX4 yX4_mayTell yX4_mayTell, Cond.initialized RX4, Cond.code yX4_mayTell cX4_mayTell 3 (some .boolean), Cond.fieldLink RX4 9 "PeerStores$Names" "tellers" "[I", Cond.methodLink RX4 20 yX4_isKey, Cond.static yX4_isKey, Cond.code yX4_isKey cX4_isKey 1 (some .boolean), Cond.methodLink RX10 237 yX4_claim, Cond.instanceMethod yX4_claim, Cond.selects RX4 yX4_claim yX4_claim, Cond.code yX4_claim cX4_claim 3 none, Cond.methodLink RX4 24 yX4_mayTell, Cond.methodLink RX10 101 yX7_run]
def wsX10_tell_r3 : List Cond := [Cond.instanceMethod yX7_run, Cond.selects RX7 yX7_run yX7_run, Cond.initialized RX7, Cond.code yX7_run cX7_run 7 none, Cond.fieldLink RX7 35 "PeerStores$Search" "askedCount" "I", Cond.fieldLink RX7 12 "PeerStores$Search" "firstWay" "LPeerStores$Row;", Cond.fieldLink RX7 18 "PeerStores$Search" "secondWay" "LPeerStores$Row;", Cond.methodLink RX7 39 yX7_begin, Cond.instanceMethod yX7_begin, Cond.selects RX7 yX7_begin yX7_begin, Cond.code yX7_begin cX7_begin 7 none, Cond.fieldLink RX7 21 "PeerStores$Search" "answered" "LPeerStores$Row;", Cond.fieldLink RX7 27 "PeerStores$Search" "wasAsked" "[Z", Cond.fieldLink RX7 31 "PeerStores$Search" "peers" "LPeerStores$Peers;", Cond.fieldLink RX7 24 "PeerStores$Search" "spokenOf" "LPeerStores$Row;", Cond.methodLink RX7 47 yX6_clear, Cond.instanceMethod yX6_clear, Cond.selects RX6 yX6_clear yX6_clear, Cond.initialized RX6, Cond.code yX6_clear cX6_clear 1 none, Cond.fieldLink RX6 18 "PeerStores$Row" "size" "I", Cond.methodLink RX7 50 yX5_gather, Cond.instanceMethod yX5_gather, Cond.selects RX5 yX5_gather yX5_gather]
def wsX10_tell_r4 : List Cond := [Cond.code yX5_gather cX5_gather 9 none, Cond.fieldLink RX5 24 "PeerStores$Peers" "kept" "[[I", Cond.fieldLink RX5 15 "PeerStores$Peers" "sorts" "[I", Cond.fieldLink RX5 9 "PeerStores$Peers" "ids" "[I", Cond.methodLink RX5 35 yX6_clear, Cond.methodLink RX5 40 yX6_add, Cond.instanceMethod yX6_add, Cond.selects RX6 yX6_add yX6_add, Cond.code yX6_add cX6_add 6 none, Cond.fieldLink RX6 15 "PeerStores$Row" "distances" "[I", Cond.fieldLink RX6 9 "PeerStores$Row" "members" "[I", Cond.methodLink RX7 56 yX6_at, Cond.instanceMethod yX6_at, Cond.selects RX6 yX6_at yX6_at, Cond.code yX6_at cX6_at 2 (some .int), Cond.methodLink RX7 60 yX7_include, Cond.instanceMethod yX7_include, Cond.selects RX7 yX7_include yX7_include, Cond.code yX7_include cX7_include 4 none, Cond.methodLink RX7 81 yX5_distance, Cond.instanceMethod yX5_distance, Cond.selects RX5 yX5_distance yX5_distance, Cond.code yX5_distance cX5_distance 3 (some .int), Cond.methodLink RX7 85 yX6_add]
def wsX10_tell_r5 : List Cond := [Cond.methodLink RX7 43 yX7_askAlong, Cond.instanceMethod yX7_askAlong, Cond.selects RX7 yX7_askAlong yX7_askAlong, Cond.code yX7_askAlong cX7_askAlong 9 none, Cond.methodLink RX7 63 yX5_has, Cond.methodLink RX7 67 yX7_ask, Cond.instanceMethod yX7_ask, Cond.selects RX7 yX7_ask yX7_ask, Cond.code yX7_ask cX7_ask 7 none, Cond.methodLink RX7 71 yX5_answers, Cond.instanceMethod yX5_answers, Cond.selects RX5 yX5_answers yX5_answers, Cond.code yX5_answers cX5_answers 2 (some .boolean), Cond.methodLink RX7 74 yX5_hear, Cond.instanceMethod yX5_hear, Cond.selects RX5 yX5_hear yX5_hear, Cond.code yX5_hear cX5_hear 8 none, Cond.methodLink RX5 44 yX5_highestBit, Cond.static yX5_highestBit, Cond.code yX5_highestBit cX5_highestBit 2 (some .int), Cond.methodLink RX7 78 yX5_isOfBand, Cond.instanceMethod yX5_isOfBand, Cond.selects RX5 yX5_isOfBand yX5_isOfBand, Cond.code yX5_isOfBand cX5_isOfBand 2 (some .boolean)]
def wsX10_tell_r6 : List Cond := [Cond.methodLink RX10 125 yX7_result, Cond.instanceMethod yX7_result, Cond.selects RX7 yX7_result yX7_result, Cond.code yX7_result cX7_result 1 (some (.object "PeerStores$Row")), Cond.methodLink RX10 240 yX6_at, Cond.methodLink RX10 243 yX5_isHonest, Cond.instanceMethod yX5_isHonest, Cond.selects RX5 yX5_isHonest yX5_isHonest, Cond.code yX5_isHonest cX5_isHonest 2 (some .boolean), Cond.methodLink RX10 246 yX4_keep, Cond.instanceMethod yX4_keep, Cond.selects RX4 yX4_keep yX4_keep, Cond.code yX4_keep cX4_keep 6 (some .boolean), Cond.fieldLink RX4 17 "PeerStores$Names" "kept" "[[I", Cond.methodLink RX4 28 yX4_isPlace, Cond.static yX4_isPlace, Cond.code yX4_isPlace cX4_isPlace 2 (some .boolean), Cond.methodLink RX4 31 yX4_isNewer, Cond.static yX4_isNewer, Cond.code yX4_isNewer cX4_isNewer 2 (some .boolean)]
def wsX10_tell : List Cond := .code yX10_tell cX10_tell 8 (some .int) :: ((wsX10_tell_r1 ++ (wsX10_tell_r2 ++ (wsX10_tell_r3 ++ (wsX10_tell_r4 ++ (wsX10_tell_r5 ++ wsX10_tell_r6))))) ++ wsX100 ++ wsX50 ++ wsX40 ++ wsX70 ++ wsX60 ++ (vx_atS RX10 88 "java/lang/IllegalStateException" ["java/lang/RuntimeException", "java/lang/Exception"]).filter goodWord ++ (vx_atS RX10 116 "java/lang/IndexOutOfBoundsException" ["java/lang/RuntimeException", "java/lang/Exception"]).filter goodWord ++ (vx_atS RX10 124 "java/lang/IllegalArgumentException" ["java/lang/RuntimeException", "java/lang/Exception"]).filter goodWord)
def wsX10_name_r1 : List Cond := [Cond.fieldLink RX10 24 "PeerStores" "search" "LPeerStores$Search;", Cond.fieldLink RX10 20 "PeerStores" "peers" "LPeerStores$Peers;", Cond.fieldLink RX10 57 "PeerStores" "names" "LPeerStores$Names;", Cond.methodLink RX10 72 yX10_needPeer, Cond.instanceMethod yX10_needPeer, Cond.selects RX10 yX10_needPeer yX10_needPeer, Cond.initialized RX10, Cond.code yX10_needPeer cX10_needPeer 2 none, Cond.classLink RX10 112 "java/lang/IndexOutOfBoundsException", Cond.initialized "java/lang/IndexOutOfBoundsException", Cond.methodLink RX10 272 yX5_has, Cond.instanceMethod yX5_has, Cond.selects RX5 yX5_has yX5_has, Cond.initialized RX5, Cond.code yX5_has cX5_has 2 (some .boolean), Cond.fieldLink RX5 27 "PeerStores$Peers" "count" "I", Cond.methodLink RX10 68 yX10_needBelow, Cond.static yX10_needBelow, Cond.code yX10_needBelow cX10_needBelow 2 none, Cond.classLink RX10 120 "java/lang/IllegalArgumentException", Cond.initialized "java/lang/IllegalArgumentException", Cond.methodLink RX10 91 yX10_needOnline, Cond.instanceMethod yX10_needOnline, Cond.selects RX10 yX10_needOnline yX10_needOnline]
def wsX10_name_r2 : List Cond := [Cond.code yX10_needOnline cX10_needOnline 2 none, Cond.classLink RX10 84 "java/lang/IllegalStateException", Cond.initialized "java/lang/IllegalStateException", Cond.methodLink RX10 105 yX5_isOnline, Cond.instanceMethod yX5_isOnline, Cond.selects RX5 yX5_isOnline yX5_isOnline, Cond.code yX5_isOnline cX5_isOnline 2 (some .boolean), Cond.fieldLink RX5 18 "PeerStores$Peers" "online" "[Z", Cond.methodLink RX5 31 yX5_has, Cond.methodLink RX10 101 yX7_run, Cond.instanceMethod yX7_run, Cond.selects RX7 yX7_run yX7_run, Cond.initialized RX7, Cond.code yX7_run cX7_run 7 none, Cond.fieldLink RX7 35 "PeerStores$Search" "askedCount" "I", Cond.fieldLink RX7 12 "PeerStores$Search" "firstWay" "LPeerStores$Row;", Cond.fieldLink RX7 18 "PeerStores$Search" "secondWay" "LPeerStores$Row;", Cond.methodLink RX7 39 yX7_begin, Cond.instanceMethod yX7_begin, Cond.selects RX7 yX7_begin yX7_begin, Cond.code yX7_begin cX7_begin 7 none, Cond.fieldLink RX7 21 "PeerStores$Search" "answered" "LPeerStores$Row;", Cond.fieldLink RX7 27 "PeerStores$Search" "wasAsked" "[Z", Cond.fieldLink RX7 31 "PeerStores$Search" "peers" "LPeerStores$Peers;"]
def wsX10_name_r3 : List Cond := [Cond.fieldLink RX7 24 "PeerStores$Search" "spokenOf" "LPeerStores$Row;", Cond.methodLink RX7 47 yX6_clear, Cond.instanceMethod yX6_clear, Cond.selects RX6 yX6_clear yX6_clear, Cond.initialized RX6, Cond.code yX6_clear cX6_clear 1 none, Cond.fieldLink RX6 18 "PeerStores$Row" "size" "I", Cond.methodLink RX7 50 yX5_gather, Cond.instanceMethod yX5_gather, Cond.selects RX5 yX5_gather yX5_gather, Cond.code yX5_gather cX5_gather 9 none, Cond.fieldLink RX5 24 "PeerStores$Peers" "kept" "[[I", Cond.fieldLink RX5 15 "PeerStores$Peers" "sorts" "[I", Cond.fieldLink RX5 9 "PeerStores$Peers" "ids" "[I", Cond.methodLink RX5 35 yX6_clear, Cond.methodLink RX5 40 yX6_add, Cond.instanceMethod yX6_add, Cond.selects RX6 yX6_add yX6_add, Cond.code yX6_add cX6_add 6 none, Cond.fieldLink RX6 15 "PeerStores$Row" "distances" "[I", Cond.fieldLink RX6 9 "PeerStores$Row" "members" "[I", Cond.methodLink RX7 56 yX6_at, Cond.instanceMethod yX6_at, Cond.selects RX6 yX6_at yX6_at]
def wsX10_name_r4 : List Cond := [Cond.code yX6_at cX6_at 2 (some .int), Cond.methodLink RX7 60 yX7_include, Cond.instanceMethod yX7_include, Cond.selects RX7 yX7_include yX7_include, Cond.code yX7_include cX7_include 4 none, Cond.methodLink RX7 81 yX5_distance, Cond.instanceMethod yX5_distance, Cond.selects RX5 yX5_distance yX5_distance, Cond.code yX5_distance cX5_distance 3 (some .int), Cond.methodLink RX7 85 yX6_add, Cond.methodLink RX7 43 yX7_askAlong, Cond.instanceMethod yX7_askAlong, Cond.selects RX7 yX7_askAlong yX7_askAlong, Cond.code yX7_askAlong cX7_askAlong 9 none, Cond.methodLink RX7 63 yX5_has, Cond.methodLink RX7 67 yX7_ask, Cond.instanceMethod yX7_ask, Cond.selects RX7 yX7_ask yX7_ask, Cond.code yX7_ask cX7_ask 7 none, Cond.methodLink RX7 71 yX5_answers, Cond.instanceMethod yX5_answers, Cond.selects RX5 yX5_answers yX5_answers, Cond.code yX5_answers cX5_answers 2 (some .boolean), Cond.methodLink RX7 74 yX5_hear]
def wsX10_name_r5 : List Cond := [Cond.instanceMethod yX5_hear, Cond.selects RX5 yX5_hear yX5_hear, Cond.code yX5_hear cX5_hear 8 none, Cond.methodLink RX5 44 yX5_highestBit, Cond.static yX5_highestBit, Cond.code yX5_highestBit cX5_highestBit 2 (some .int), Cond.methodLink RX7 78 yX5_isOfBand, Cond.instanceMethod yX5_isOfBand, Cond.selects RX5 yX5_isOfBand yX5_isOfBand, Cond.code yX5_isOfBand cX5_isOfBand 2 (some .boolean), Cond.methodLink RX10 125 yX7_result, Cond.instanceMethod yX7_result, Cond.selects RX7 yX7_result yX7_result, Cond.code yX7_result cX7_result 1 (some (.object "PeerStores$Row")), Cond.methodLink RX10 240 yX6_at, Cond.methodLink RX10 243 yX5_isHonest, Cond.instanceMethod yX5_isHonest, Cond.selects RX5 yX5_isHonest yX5_isHonest, Cond.code yX5_isHonest cX5_isHonest 2 (some .boolean), Cond.methodLink RX10 250 yX4_keptBy, Cond.instanceMethod yX4_keptBy, Cond.selects RX4 yX4_keptBy yX4_keptBy, Cond.initialized RX4, Cond.code yX4_keptBy cX4_keptBy 3 (some .int)]
def wsX10_name_r6 : List Cond := [Cond.fieldLink RX4 17 "PeerStores$Names" "kept" "[[I", Cond.methodLink RX4 28 yX4_isPlace, Cond.static yX4_isPlace, Cond.code yX4_isPlace cX4_isPlace 2 (some .boolean), Cond.methodLink RX4 20 yX4_isKey, Cond.static yX4_isKey, Cond.code yX4_isKey cX4_isKey 1 (some .boolean), Cond.methodLink RX10 253 yX4_isNewer, Cond.static yX4_isNewer, Cond.code yX4_isNewer cX4_isNewer 2 (some .boolean)]
def wsX10_name : List Cond := .code yX10_name cX10_name 7 (some .int) :: ((wsX10_name_r1 ++ (wsX10_name_r2 ++ (wsX10_name_r3 ++ (wsX10_name_r4 ++ (wsX10_name_r5 ++ wsX10_name_r6))))) ++ wsX100 ++ wsX50 ++ wsX70 ++ wsX60 ++ wsX40 ++ (vx_atS RX10 116 "java/lang/IndexOutOfBoundsException" ["java/lang/RuntimeException", "java/lang/Exception"]).filter goodWord ++ (vx_atS RX10 124 "java/lang/IllegalArgumentException" ["java/lang/RuntimeException", "java/lang/Exception"]).filter goodWord ++ (vx_atS RX10 88 "java/lang/IllegalStateException" ["java/lang/RuntimeException", "java/lang/Exception"]).filter goodWord)
def wsX10_spread_r1 : List Cond := [Cond.fieldLink RX10 64 "PeerStores" "message" "LPeerStores$Message;", Cond.methodLink RX10 72 yX10_needPeer, Cond.instanceMethod yX10_needPeer, Cond.selects RX10 yX10_needPeer yX10_needPeer, Cond.initialized RX10, Cond.code yX10_needPeer cX10_needPeer 2 none, Cond.classLink RX10 112 "java/lang/IndexOutOfBoundsException", Cond.initialized "java/lang/IndexOutOfBoundsException", Cond.fieldLink RX10 20 "PeerStores" "peers" "LPeerStores$Peers;", Cond.methodLink RX10 272 yX5_has, Cond.instanceMethod yX5_has, Cond.selects RX5 yX5_has yX5_has, Cond.initialized RX5, Cond.code yX5_has cX5_has 2 (some .boolean), Cond.fieldLink RX5 27 "PeerStores$Peers" "count" "I", Cond.methodLink RX10 91 yX10_needOnline, Cond.instanceMethod yX10_needOnline, Cond.selects RX10 yX10_needOnline yX10_needOnline, Cond.code yX10_needOnline cX10_needOnline 2 none, Cond.classLink RX10 84 "java/lang/IllegalStateException", Cond.initialized "java/lang/IllegalStateException", Cond.methodLink RX10 105 yX5_isOnline, Cond.instanceMethod yX5_isOnline, Cond.selects RX5 yX5_isOnline yX5_isOnline]
def wsX10_spread_r2 : List Cond := [Cond.code yX5_isOnline cX5_isOnline 2 (some .boolean), Cond.fieldLink RX5 18 "PeerStores$Peers" "online" "[Z", Cond.methodLink RX5 31 yX5_has, Cond.methodLink RX10 256 yX3_run, Cond.instanceMethod yX3_run, Cond.selects RX3 yX3_run yX3_run, Cond.initialized RX3, Cond.code yX3_run cX3_run 6 (some .int), Cond.fieldLink RX3 9 "PeerStores$Message" "gotIn" "[I", Cond.fieldLink RX3 19 "PeerStores$Message" "roundCount" "I", Cond.methodLink RX3 23 yX3_tellInRound, Cond.instanceMethod yX3_tellInRound, Cond.selects RX3 yX3_tellInRound yX3_tellInRound, Cond.code yX3_tellInRound cX3_tellInRound 5 (some .int), Cond.fieldLink RX3 15 "PeerStores$Message" "peers" "LPeerStores$Peers;", Cond.methodLink RX3 27 yX5_isHonest, Cond.instanceMethod yX5_isHonest, Cond.selects RX5 yX5_isHonest yX5_isHonest, Cond.code yX5_isHonest cX5_isHonest 2 (some .boolean), Cond.fieldLink RX5 15 "PeerStores$Peers" "sorts" "[I", Cond.methodLink RX3 33 yX3_tellAll, Cond.instanceMethod yX3_tellAll, Cond.selects RX3 yX3_tellAll yX3_tellAll, Cond.code yX3_tellAll cX3_tellAll 6 (some .int)]
def wsX10_spread_r3 : List Cond := [Cond.methodLink RX3 37 yX5_keptAt, Cond.instanceMethod yX5_keptAt, Cond.selects RX5 yX5_keptAt yX5_keptAt, Cond.code yX5_keptAt cX5_keptAt 3 (some .int), Cond.fieldLink RX5 24 "PeerStores$Peers" "kept" "[[I", Cond.methodLink RX3 40 yX5_answers, Cond.instanceMethod yX5_answers, Cond.selects RX5 yX5_answers yX5_answers, Cond.code yX5_answers cX5_answers 2 (some .boolean)]
def wsX10_spread : List Cond := .code yX10_spread cX10_spread 2 (some .int) :: ((wsX10_spread_r1 ++ (wsX10_spread_r2 ++ wsX10_spread_r3)) ++ wsX100 ++ wsX50 ++ wsX30 ++ (vx_atS RX10 116 "java/lang/IndexOutOfBoundsException" ["java/lang/RuntimeException", "java/lang/Exception"]).filter goodWord ++ (vx_atS RX10 88 "java/lang/IllegalStateException" ["java/lang/RuntimeException", "java/lang/Exception"]).filter goodWord)
def wsX10_rounds : List Cond := .code yX10_rounds cX10_rounds 1 (some .int) :: ([.fieldLink RX10 64 "PeerStores" "message" "LPeerStores$Message;", .methodLink RX10 258 yX3_roundCount, .instanceMethod yX3_roundCount, .selects RX3 yX3_roundCount yX3_roundCount, .initialized RX3, .code yX3_roundCount cX3_roundCount 1 (some .int), .fieldLink RX3 19 "PeerStores$Message" "roundCount" "I"] ++ wsX100 ++ wsX30)
def wsX10_owes : List Cond := .code yX10_owes cX10_owes 3 (some .int) :: ([.fieldLink RX10 28 "PeerStores" "ledger" "LPeerStores$Ledger;", .methodLink RX10 72 yX10_needPeer, .instanceMethod yX10_needPeer, .selects RX10 yX10_needPeer yX10_needPeer, .initialized RX10, .code yX10_needPeer cX10_needPeer 2 none, .classLink RX10 112 "java/lang/IndexOutOfBoundsException", .initialized "java/lang/IndexOutOfBoundsException", .fieldLink RX10 20 "PeerStores" "peers" "LPeerStores$Peers;", .methodLink RX10 272 yX5_has, .instanceMethod yX5_has, .selects RX5 yX5_has yX5_has, .initialized RX5, .code yX5_has cX5_has 2 (some .boolean), .fieldLink RX5 27 "PeerStores$Peers" "count" "I", .methodLink RX10 261 yX2_debt, .instanceMethod yX2_debt, .selects RX2 yX2_debt yX2_debt, .initialized RX2, .code yX2_debt cX2_debt 3 (some .int), .fieldLink RX2 11 "PeerStores$Ledger" "debts" "[[I", .methodLink RX2 16 yX2_isPlace, .static yX2_isPlace, .code yX2_isPlace cX2_isPlace 2 (some .boolean)] ++ wsX100 ++ wsX50 ++ wsX20 ++ (vx_atS RX10 116 "java/lang/IndexOutOfBoundsException" ["java/lang/RuntimeException", "java/lang/Exception"]).filter goodWord)
def wsX10_net_r1 : List Cond := [Cond.fieldLink RX10 28 "PeerStores" "ledger" "LPeerStores$Ledger;", Cond.methodLink RX10 264 yX2_lessenRings, Cond.instanceMethod yX2_lessenRings, Cond.selects RX2 yX2_lessenRings yX2_lessenRings, Cond.initialized RX2, Cond.code yX2_lessenRings cX2_lessenRings 4 (some .int), Cond.methodLink RX2 24 yX2_lessenTwo, Cond.instanceMethod yX2_lessenTwo, Cond.selects RX2 yX2_lessenTwo yX2_lessenTwo, Cond.code yX2_lessenTwo cX2_lessenTwo 4 (some .int), Cond.methodLink RX2 30 Lib.Math.min.name, Cond.static Lib.Math.min.name, Cond.initialized "java/lang/Math", Cond.code Lib.Math.min.name Lib.Math.min.code 2 (some .int), Cond.methodLink RX2 20 yX2_debt, Cond.instanceMethod yX2_debt, Cond.selects RX2 yX2_debt yX2_debt, Cond.code yX2_debt cX2_debt 3 (some .int), Cond.fieldLink RX2 11 "PeerStores$Ledger" "debts" "[[I", Cond.methodLink RX2 16 yX2_isPlace, Cond.static yX2_isPlace, Cond.code yX2_isPlace cX2_isPlace 2 (some .boolean), Cond.methodLink RX2 35 yX2_owe, Cond.instanceMethod yX2_owe]
def wsX10_net_r2 : List Cond := [Cond.selects RX2 yX2_owe yX2_owe, Cond.code yX2_owe cX2_owe 4 none, Cond.methodLink RX2 27 yX2_lessenThrees, Cond.instanceMethod yX2_lessenThrees, Cond.selects RX2 yX2_lessenThrees yX2_lessenThrees, Cond.code yX2_lessenThrees cX2_lessenThrees 6 (some .int)]
def wsX10_net : List Cond := .code yX10_net cX10_net 1 (some .int) :: ((wsX10_net_r1 ++ wsX10_net_r2) ++ wsX100 ++ wsX20)
def wsX10_worth_r1 : List Cond := [Cond.fieldLink RX10 28 "PeerStores" "ledger" "LPeerStores$Ledger;", Cond.methodLink RX10 72 yX10_needPeer, Cond.instanceMethod yX10_needPeer, Cond.selects RX10 yX10_needPeer yX10_needPeer, Cond.initialized RX10, Cond.code yX10_needPeer cX10_needPeer 2 none, Cond.classLink RX10 112 "java/lang/IndexOutOfBoundsException", Cond.initialized "java/lang/IndexOutOfBoundsException", Cond.fieldLink RX10 20 "PeerStores" "peers" "LPeerStores$Peers;", Cond.methodLink RX10 272 yX5_has, Cond.instanceMethod yX5_has, Cond.selects RX5 yX5_has yX5_has, Cond.initialized RX5, Cond.code yX5_has cX5_has 2 (some .boolean), Cond.fieldLink RX5 27 "PeerStores$Peers" "count" "I", Cond.methodLink RX10 267 yX2_balance, Cond.instanceMethod yX2_balance, Cond.selects RX2 yX2_balance yX2_balance, Cond.initialized RX2, Cond.code yX2_balance cX2_balance 4 (some .int), Cond.methodLink RX2 20 yX2_debt, Cond.instanceMethod yX2_debt, Cond.selects RX2 yX2_debt yX2_debt, Cond.code yX2_debt cX2_debt 3 (some .int)]
def wsX10_worth_r2 : List Cond := [Cond.fieldLink RX2 11 "PeerStores$Ledger" "debts" "[[I", Cond.methodLink RX2 16 yX2_isPlace, Cond.static yX2_isPlace, Cond.code yX2_isPlace cX2_isPlace 2 (some .boolean)]
def wsX10_worth : List Cond := .code yX10_worth cX10_worth 2 (some .int) :: ((wsX10_worth_r1 ++ wsX10_worth_r2) ++ wsX100 ++ wsX50 ++ wsX20 ++ (vx_atS RX10 116 "java/lang/IndexOutOfBoundsException" ["java/lang/RuntimeException", "java/lang/Exception"]).filter goodWord)
def wsX11_init_r1 : List Cond := [Cond.methodLink RX11 1 objectInit, Cond.instanceMethod objectInit, Cond.code objectInit ⟨#[0xb1]⟩ 1 none, Cond.arrayClass .int, Cond.fieldLink RX11 7 "PeerStoresModel" "ids" "[I", Cond.fieldLink RX11 13 "PeerStoresModel" "sorts" "[I", Cond.arrayClass .boolean, Cond.fieldLink RX11 16 "PeerStoresModel" "online" "[Z", Cond.fieldLink RX11 20 "PeerStoresModel" "kept" "[I", Cond.fieldLink RX11 23 "PeerStoresModel" "keptMany" "[I", Cond.fieldLink RX11 26 "PeerStoresModel" "inRow" "[Z", Cond.fieldLink RX11 29 "PeerStoresModel" "wasAsked" "[Z", Cond.fieldLink RX11 32 "PeerStoresModel" "answered" "[Z", Cond.fieldLink RX11 35 "PeerStoresModel" "picked" "[I", Cond.fieldLink RX11 38 "PeerStoresModel" "result" "[I", Cond.fieldLink RX11 41 "PeerStoresModel" "owner" "[I", Cond.fieldLink RX11 44 "PeerStoresModel" "values" "[I", Cond.fieldLink RX11 47 "PeerStoresModel" "holder" "[I", Cond.fieldLink RX11 50 "PeerStoresModel" "keeps" "[Z", Cond.fieldLink RX11 53 "PeerStoresModel" "misses" "[I", Cond.fieldLink RX11 56 "PeerStoresModel" "tree" "[I", Cond.fieldLink RX11 59 "PeerStoresModel" "nameOwner" "[I", Cond.fieldLink RX11 62 "PeerStoresModel" "nameNumber" "[I", Cond.fieldLink RX11 65 "PeerStoresModel" "nameValue" "[I"]
def wsX11_init_r2 : List Cond := [Cond.fieldLink RX11 68 "PeerStoresModel" "gotIn" "[I", Cond.fieldLink RX11 71 "PeerStoresModel" "debts" "[I"]
def wsX11_init : List Cond := .code yX11_init cX11_init 2 none :: ((wsX11_init_r1 ++ wsX11_init_r2) ++ wsX110)
def wsX11_thrown : List Cond := .code yX11_thrown cX11_thrown 1 (some .int) :: ([.fieldLink RX11 74 "PeerStoresModel" "thrown" "I"] ++ wsX110)
def wsX11_holds : List Cond := .code yX11_holds cX11_holds 2 (some .boolean) :: ([.fieldLink RX11 74 "PeerStoresModel" "thrown" "I"] ++ wsX110)
def wsX11_isIn : List Cond := .code yX11_isIn cX11_isIn 3 (some .boolean) :: ([])
def wsX11_isPeer : List Cond := .code yX11_isPeer cX11_isPeer 2 (some .boolean) :: ([.fieldLink RX11 78 "PeerStoresModel" "peers" "I", .methodLink RX11 81 yX11_isIn, .static yX11_isIn, .initialized RX11, .code yX11_isIn cX11_isIn 3 (some .boolean)] ++ wsX110)
def wsX11_isFile : List Cond := .code yX11_isFile cX11_isFile 2 (some .boolean) :: ([.fieldLink RX11 85 "PeerStoresModel" "files" "I", .methodLink RX11 81 yX11_isIn, .static yX11_isIn, .initialized RX11, .code yX11_isIn cX11_isIn 3 (some .boolean)] ++ wsX110)
def wsX11_bucketOf : List Cond := .code yX11_bucketOf cX11_bucketOf 4 (some .int) :: ([])
def wsX11_hears : List Cond := .code yX11_hears cX11_hears 8 none :: ([.fieldLink RX11 7 "PeerStoresModel" "ids" "[I", .fieldLink RX11 23 "PeerStoresModel" "keptMany" "[I", .fieldLink RX11 20 "PeerStoresModel" "kept" "[I", .fieldLink RX11 16 "PeerStoresModel" "online" "[Z", .methodLink RX11 88 yX11_bucketOf, .static yX11_bucketOf, .initialized RX11, .code yX11_bucketOf cX11_bucketOf 4 (some .int)] ++ wsX110)
def wsX11_keepsPeer : List Cond := .code yX11_keepsPeer cX11_keepsPeer 6 (some .boolean) :: ([.fieldLink RX11 23 "PeerStoresModel" "keptMany" "[I", .fieldLink RX11 20 "PeerStoresModel" "kept" "[I"] ++ wsX110)
def wsX11_picks : List Cond := .code yX11_picks cX11_picks 10 (some .int) :: ([.fieldLink RX11 78 "PeerStoresModel" "peers" "I", .fieldLink RX11 7 "PeerStoresModel" "ids" "[I", .fieldLink RX11 26 "PeerStoresModel" "inRow" "[Z", .fieldLink RX11 29 "PeerStoresModel" "wasAsked" "[Z", .fieldLink RX11 35 "PeerStoresModel" "picked" "[I"] ++ wsX110)
def wsX11_asks : List Cond := .code yX11_asks cX11_asks 11 none :: ([.fieldLink RX11 29 "PeerStoresModel" "wasAsked" "[Z", .fieldLink RX11 92 "PeerStoresModel" "asked" "I", .fieldLink RX11 16 "PeerStoresModel" "online" "[Z", .fieldLink RX11 13 "PeerStoresModel" "sorts" "[I", .fieldLink RX11 32 "PeerStoresModel" "answered" "[Z", .fieldLink RX11 78 "PeerStoresModel" "peers" "I", .fieldLink RX11 7 "PeerStoresModel" "ids" "[I", .fieldLink RX11 26 "PeerStoresModel" "inRow" "[Z", .methodLink RX11 95 yX11_hears, .instanceMethod yX11_hears, .selects RX11 yX11_hears yX11_hears, .initialized RX11, .code yX11_hears cX11_hears 8 none, .fieldLink RX11 23 "PeerStoresModel" "keptMany" "[I", .fieldLink RX11 20 "PeerStoresModel" "kept" "[I", .methodLink RX11 88 yX11_bucketOf, .static yX11_bucketOf, .code yX11_bucketOf cX11_bucketOf 4 (some .int), .methodLink RX11 99 yX11_keepsPeer, .instanceMethod yX11_keepsPeer, .selects RX11 yX11_keepsPeer yX11_keepsPeer, .code yX11_keepsPeer cX11_keepsPeer 6 (some .boolean)] ++ wsX110)
def wsX11_closestOf : List Cond := .code yX11_closestOf cX11_closestOf 8 none :: ([.fieldLink RX11 114 "PeerStoresModel" "results" "I", .fieldLink RX11 78 "PeerStoresModel" "peers" "I", .fieldLink RX11 7 "PeerStoresModel" "ids" "[I", .fieldLink RX11 32 "PeerStoresModel" "answered" "[Z", .fieldLink RX11 38 "PeerStoresModel" "result" "[I"] ++ wsX110)
def wsX11_looksUp_r1 : List Cond := [Cond.fieldLink RX11 92 "PeerStoresModel" "asked" "I", Cond.fieldLink RX11 26 "PeerStoresModel" "inRow" "[Z", Cond.fieldLink RX11 29 "PeerStoresModel" "wasAsked" "[Z", Cond.fieldLink RX11 32 "PeerStoresModel" "answered" "[Z", Cond.fieldLink RX11 78 "PeerStoresModel" "peers" "I", Cond.fieldLink RX11 7 "PeerStoresModel" "ids" "[I", Cond.fieldLink RX11 35 "PeerStoresModel" "picked" "[I", Cond.methodLink RX11 99 yX11_keepsPeer, Cond.instanceMethod yX11_keepsPeer, Cond.selects RX11 yX11_keepsPeer yX11_keepsPeer, Cond.initialized RX11, Cond.code yX11_keepsPeer cX11_keepsPeer 6 (some .boolean), Cond.fieldLink RX11 23 "PeerStoresModel" "keptMany" "[I", Cond.fieldLink RX11 20 "PeerStoresModel" "kept" "[I", Cond.methodLink RX11 103 yX11_picks, Cond.instanceMethod yX11_picks, Cond.selects RX11 yX11_picks yX11_picks, Cond.code yX11_picks cX11_picks 10 (some .int), Cond.methodLink RX11 106 yX11_asks, Cond.instanceMethod yX11_asks, Cond.selects RX11 yX11_asks yX11_asks, Cond.code yX11_asks cX11_asks 11 none, Cond.fieldLink RX11 16 "PeerStoresModel" "online" "[Z", Cond.fieldLink RX11 13 "PeerStoresModel" "sorts" "[I"]
def wsX11_looksUp_r2 : List Cond := [Cond.methodLink RX11 95 yX11_hears, Cond.instanceMethod yX11_hears, Cond.selects RX11 yX11_hears yX11_hears, Cond.code yX11_hears cX11_hears 8 none, Cond.methodLink RX11 88 yX11_bucketOf, Cond.static yX11_bucketOf, Cond.code yX11_bucketOf cX11_bucketOf 4 (some .int), Cond.methodLink RX11 110 yX11_closestOf, Cond.instanceMethod yX11_closestOf, Cond.selects RX11 yX11_closestOf yX11_closestOf, Cond.code yX11_closestOf cX11_closestOf 8 none, Cond.fieldLink RX11 114 "PeerStoresModel" "results" "I", Cond.fieldLink RX11 38 "PeerStoresModel" "result" "[I"]
def wsX11_looksUp : List Cond := .code yX11_looksUp cX11_looksUp 10 none :: ((wsX11_looksUp_r1 ++ wsX11_looksUp_r2) ++ wsX110)
def wsX11_told : List Cond := .code yX11_told cX11_told 3 (some .int) :: ([.fieldLink RX11 114 "PeerStoresModel" "results" "I", .fieldLink RX11 38 "PeerStoresModel" "result" "[I"] ++ wsX110)
def wsX11_isId : List Cond := .code yX11_isId cX11_isId 4 (some .boolean) :: ([.fieldLink RX11 78 "PeerStoresModel" "peers" "I", .fieldLink RX11 7 "PeerStoresModel" "ids" "[I"] ++ wsX110)
def wsX11_peer_r1 : List Cond := [Cond.fieldLink RX11 78 "PeerStoresModel" "peers" "I", Cond.fieldLink RX11 16 "PeerStoresModel" "online" "[Z", Cond.fieldLink RX11 7 "PeerStoresModel" "ids" "[I", Cond.fieldLink RX11 13 "PeerStoresModel" "sorts" "[I", Cond.methodLink RX11 81 yX11_isIn, Cond.static yX11_isIn, Cond.initialized RX11, Cond.code yX11_isIn cX11_isIn 3 (some .boolean), Cond.methodLink RX11 117 yX11_isPeer, Cond.instanceMethod yX11_isPeer, Cond.selects RX11 yX11_isPeer yX11_isPeer, Cond.code yX11_isPeer cX11_isPeer 2 (some .boolean), Cond.methodLink RX11 121 yX11_isId, Cond.instanceMethod yX11_isId, Cond.selects RX11 yX11_isId yX11_isId, Cond.code yX11_isId cX11_isId 4 (some .boolean), Cond.methodLink RX11 124 yX11_holds, Cond.instanceMethod yX11_holds, Cond.selects RX11 yX11_holds yX11_holds, Cond.code yX11_holds cX11_holds 2 (some .boolean), Cond.fieldLink RX11 74 "PeerStoresModel" "thrown" "I", Cond.methodLink RX11 95 yX11_hears, Cond.instanceMethod yX11_hears, Cond.selects RX11 yX11_hears yX11_hears]
def wsX11_peer_r2 : List Cond := [Cond.code yX11_hears cX11_hears 8 none, Cond.fieldLink RX11 23 "PeerStoresModel" "keptMany" "[I", Cond.fieldLink RX11 20 "PeerStoresModel" "kept" "[I", Cond.methodLink RX11 88 yX11_bucketOf, Cond.static yX11_bucketOf, Cond.code yX11_bucketOf cX11_bucketOf 4 (some .int), Cond.methodLink RX11 127 yX11_looksUp, Cond.instanceMethod yX11_looksUp, Cond.selects RX11 yX11_looksUp yX11_looksUp, Cond.code yX11_looksUp cX11_looksUp 10 none, Cond.fieldLink RX11 92 "PeerStoresModel" "asked" "I", Cond.fieldLink RX11 26 "PeerStoresModel" "inRow" "[Z", Cond.fieldLink RX11 29 "PeerStoresModel" "wasAsked" "[Z", Cond.fieldLink RX11 32 "PeerStoresModel" "answered" "[Z", Cond.fieldLink RX11 35 "PeerStoresModel" "picked" "[I", Cond.methodLink RX11 99 yX11_keepsPeer, Cond.instanceMethod yX11_keepsPeer, Cond.selects RX11 yX11_keepsPeer yX11_keepsPeer, Cond.code yX11_keepsPeer cX11_keepsPeer 6 (some .boolean), Cond.methodLink RX11 103 yX11_picks, Cond.instanceMethod yX11_picks, Cond.selects RX11 yX11_picks yX11_picks, Cond.code yX11_picks cX11_picks 10 (some .int), Cond.methodLink RX11 106 yX11_asks]
def wsX11_peer_r3 : List Cond := [Cond.instanceMethod yX11_asks, Cond.selects RX11 yX11_asks yX11_asks, Cond.code yX11_asks cX11_asks 11 none, Cond.methodLink RX11 110 yX11_closestOf, Cond.instanceMethod yX11_closestOf, Cond.selects RX11 yX11_closestOf yX11_closestOf, Cond.code yX11_closestOf cX11_closestOf 8 none, Cond.fieldLink RX11 114 "PeerStoresModel" "results" "I", Cond.fieldLink RX11 38 "PeerStoresModel" "result" "[I"]
def wsX11_peer : List Cond := .code yX11_peer cX11_peer 8 (some .int) :: ((wsX11_peer_r1 ++ (wsX11_peer_r2 ++ wsX11_peer_r3)) ++ wsX110)
def wsX11_turn : List Cond := .code yX11_turn cX11_turn 4 (some .boolean) :: ([.fieldLink RX11 16 "PeerStoresModel" "online" "[Z", .methodLink RX11 117 yX11_isPeer, .instanceMethod yX11_isPeer, .selects RX11 yX11_isPeer yX11_isPeer, .initialized RX11, .code yX11_isPeer cX11_isPeer 2 (some .boolean), .fieldLink RX11 78 "PeerStoresModel" "peers" "I", .methodLink RX11 81 yX11_isIn, .static yX11_isIn, .code yX11_isIn cX11_isIn 3 (some .boolean), .methodLink RX11 124 yX11_holds, .instanceMethod yX11_holds, .selects RX11 yX11_holds yX11_holds, .code yX11_holds cX11_holds 2 (some .boolean), .fieldLink RX11 74 "PeerStoresModel" "thrown" "I"] ++ wsX110)
def wsX11_bucket : List Cond := .code yX11_bucket cX11_bucket 5 (some .int) :: ([.fieldLink RX11 23 "PeerStoresModel" "keptMany" "[I", .fieldLink RX11 20 "PeerStoresModel" "kept" "[I", .methodLink RX11 117 yX11_isPeer, .instanceMethod yX11_isPeer, .selects RX11 yX11_isPeer yX11_isPeer, .initialized RX11, .code yX11_isPeer cX11_isPeer 2 (some .boolean), .fieldLink RX11 78 "PeerStoresModel" "peers" "I", .methodLink RX11 81 yX11_isIn, .static yX11_isIn, .code yX11_isIn cX11_isIn 3 (some .boolean), .methodLink RX11 124 yX11_holds, .instanceMethod yX11_holds, .selects RX11 yX11_holds yX11_holds, .code yX11_holds cX11_holds 2 (some .boolean), .fieldLink RX11 74 "PeerStoresModel" "thrown" "I"] ++ wsX110)
def wsX11_lookup_r1 : List Cond := [Cond.fieldLink RX11 16 "PeerStoresModel" "online" "[Z", Cond.methodLink RX11 117 yX11_isPeer, Cond.instanceMethod yX11_isPeer, Cond.selects RX11 yX11_isPeer yX11_isPeer, Cond.initialized RX11, Cond.code yX11_isPeer cX11_isPeer 2 (some .boolean), Cond.fieldLink RX11 78 "PeerStoresModel" "peers" "I", Cond.methodLink RX11 81 yX11_isIn, Cond.static yX11_isIn, Cond.code yX11_isIn cX11_isIn 3 (some .boolean), Cond.methodLink RX11 124 yX11_holds, Cond.instanceMethod yX11_holds, Cond.selects RX11 yX11_holds yX11_holds, Cond.code yX11_holds cX11_holds 2 (some .boolean), Cond.fieldLink RX11 74 "PeerStoresModel" "thrown" "I", Cond.methodLink RX11 127 yX11_looksUp, Cond.instanceMethod yX11_looksUp, Cond.selects RX11 yX11_looksUp yX11_looksUp, Cond.code yX11_looksUp cX11_looksUp 10 none, Cond.fieldLink RX11 92 "PeerStoresModel" "asked" "I", Cond.fieldLink RX11 26 "PeerStoresModel" "inRow" "[Z", Cond.fieldLink RX11 29 "PeerStoresModel" "wasAsked" "[Z", Cond.fieldLink RX11 32 "PeerStoresModel" "answered" "[Z", Cond.fieldLink RX11 7 "PeerStoresModel" "ids" "[I"]
def wsX11_lookup_r2 : List Cond := [Cond.fieldLink RX11 35 "PeerStoresModel" "picked" "[I", Cond.methodLink RX11 99 yX11_keepsPeer, Cond.instanceMethod yX11_keepsPeer, Cond.selects RX11 yX11_keepsPeer yX11_keepsPeer, Cond.code yX11_keepsPeer cX11_keepsPeer 6 (some .boolean), Cond.fieldLink RX11 23 "PeerStoresModel" "keptMany" "[I", Cond.fieldLink RX11 20 "PeerStoresModel" "kept" "[I", Cond.methodLink RX11 103 yX11_picks, Cond.instanceMethod yX11_picks, Cond.selects RX11 yX11_picks yX11_picks, Cond.code yX11_picks cX11_picks 10 (some .int), Cond.methodLink RX11 106 yX11_asks, Cond.instanceMethod yX11_asks, Cond.selects RX11 yX11_asks yX11_asks, Cond.code yX11_asks cX11_asks 11 none, Cond.fieldLink RX11 13 "PeerStoresModel" "sorts" "[I", Cond.methodLink RX11 95 yX11_hears, Cond.instanceMethod yX11_hears, Cond.selects RX11 yX11_hears yX11_hears, Cond.code yX11_hears cX11_hears 8 none, Cond.methodLink RX11 88 yX11_bucketOf, Cond.static yX11_bucketOf, Cond.code yX11_bucketOf cX11_bucketOf 4 (some .int), Cond.methodLink RX11 110 yX11_closestOf]
def wsX11_lookup_r3 : List Cond := [Cond.instanceMethod yX11_closestOf, Cond.selects RX11 yX11_closestOf yX11_closestOf, Cond.code yX11_closestOf cX11_closestOf 8 none, Cond.fieldLink RX11 114 "PeerStoresModel" "results" "I", Cond.fieldLink RX11 38 "PeerStoresModel" "result" "[I", Cond.methodLink RX11 131 yX11_told, Cond.instanceMethod yX11_told, Cond.selects RX11 yX11_told yX11_told, Cond.code yX11_told cX11_told 3 (some .int)]
def wsX11_lookup : List Cond := .code yX11_lookup cX11_lookup 6 (some .int) :: ((wsX11_lookup_r1 ++ (wsX11_lookup_r2 ++ wsX11_lookup_r3)) ++ wsX110)
def wsX11_asked : List Cond := .code yX11_asked cX11_asked 1 (some .int) :: ([.fieldLink RX11 74 "PeerStoresModel" "thrown" "I", .fieldLink RX11 92 "PeerStoresModel" "asked" "I"] ++ wsX110)
def wsX11_closest_r1 : List Cond := [Cond.fieldLink RX11 32 "PeerStoresModel" "answered" "[Z", Cond.fieldLink RX11 78 "PeerStoresModel" "peers" "I", Cond.fieldLink RX11 16 "PeerStoresModel" "online" "[Z", Cond.fieldLink RX11 13 "PeerStoresModel" "sorts" "[I", Cond.methodLink RX11 117 yX11_isPeer, Cond.instanceMethod yX11_isPeer, Cond.selects RX11 yX11_isPeer yX11_isPeer, Cond.initialized RX11, Cond.code yX11_isPeer cX11_isPeer 2 (some .boolean), Cond.methodLink RX11 81 yX11_isIn, Cond.static yX11_isIn, Cond.code yX11_isIn cX11_isIn 3 (some .boolean), Cond.methodLink RX11 124 yX11_holds, Cond.instanceMethod yX11_holds, Cond.selects RX11 yX11_holds yX11_holds, Cond.code yX11_holds cX11_holds 2 (some .boolean), Cond.fieldLink RX11 74 "PeerStoresModel" "thrown" "I", Cond.methodLink RX11 110 yX11_closestOf, Cond.instanceMethod yX11_closestOf, Cond.selects RX11 yX11_closestOf yX11_closestOf, Cond.code yX11_closestOf cX11_closestOf 8 none, Cond.fieldLink RX11 114 "PeerStoresModel" "results" "I", Cond.fieldLink RX11 7 "PeerStoresModel" "ids" "[I", Cond.fieldLink RX11 38 "PeerStoresModel" "result" "[I"]
def wsX11_closest_r2 : List Cond := [Cond.methodLink RX11 131 yX11_told, Cond.instanceMethod yX11_told, Cond.selects RX11 yX11_told yX11_told, Cond.code yX11_told cX11_told 3 (some .int)]
def wsX11_closest : List Cond := .code yX11_closest cX11_closest 4 (some .int) :: ((wsX11_closest_r1 ++ wsX11_closest_r2) ++ wsX110)
def wsX11_twice : List Cond := .code yX11_twice cX11_twice 1 (some .int) :: ([])
def wsX11_times : List Cond := .code yX11_times cX11_times 5 (some .int) :: ([.methodLink RX11 135 yX11_twice, .static yX11_twice, .initialized RX11, .code yX11_twice cX11_twice 1 (some .int)])
def wsX11_hash : List Cond := .code yX11_hash cX11_hash 3 (some .int) :: ([.constant RX11 139 (1103515245)])
def wsX11_laysTree : List Cond := .code yX11_laysTree cX11_laysTree 3 none :: ([.fieldLink RX11 56 "PeerStoresModel" "tree" "[I", .fieldLink RX11 44 "PeerStoresModel" "values" "[I", .methodLink RX11 140 yX11_hash, .static yX11_hash, .initialized RX11, .code yX11_hash cX11_hash 3 (some .int), .constant RX11 139 (1103515245)] ++ wsX110)
def wsX11_stores_r1 : List Cond := [Cond.fieldLink RX11 44 "PeerStoresModel" "values" "[I", Cond.fieldLink RX11 41 "PeerStoresModel" "owner" "[I", Cond.fieldLink RX11 47 "PeerStoresModel" "holder" "[I", Cond.fieldLink RX11 53 "PeerStoresModel" "misses" "[I", Cond.fieldLink RX11 50 "PeerStoresModel" "keeps" "[Z", Cond.fieldLink RX11 114 "PeerStoresModel" "results" "I", Cond.fieldLink RX11 38 "PeerStoresModel" "result" "[I", Cond.fieldLink RX11 13 "PeerStoresModel" "sorts" "[I", Cond.methodLink RX11 140 yX11_hash, Cond.static yX11_hash, Cond.initialized RX11, Cond.code yX11_hash cX11_hash 3 (some .int), Cond.constant RX11 139 (1103515245), Cond.methodLink RX11 127 yX11_looksUp, Cond.instanceMethod yX11_looksUp, Cond.selects RX11 yX11_looksUp yX11_looksUp, Cond.code yX11_looksUp cX11_looksUp 10 none, Cond.fieldLink RX11 92 "PeerStoresModel" "asked" "I", Cond.fieldLink RX11 26 "PeerStoresModel" "inRow" "[Z", Cond.fieldLink RX11 29 "PeerStoresModel" "wasAsked" "[Z", Cond.fieldLink RX11 32 "PeerStoresModel" "answered" "[Z", Cond.fieldLink RX11 78 "PeerStoresModel" "peers" "I", Cond.fieldLink RX11 7 "PeerStoresModel" "ids" "[I", Cond.fieldLink RX11 35 "PeerStoresModel" "picked" "[I"]
def wsX11_stores_r2 : List Cond := [Cond.methodLink RX11 99 yX11_keepsPeer, Cond.instanceMethod yX11_keepsPeer, Cond.selects RX11 yX11_keepsPeer yX11_keepsPeer, Cond.code yX11_keepsPeer cX11_keepsPeer 6 (some .boolean), Cond.fieldLink RX11 23 "PeerStoresModel" "keptMany" "[I", Cond.fieldLink RX11 20 "PeerStoresModel" "kept" "[I", Cond.methodLink RX11 103 yX11_picks, Cond.instanceMethod yX11_picks, Cond.selects RX11 yX11_picks yX11_picks, Cond.code yX11_picks cX11_picks 10 (some .int), Cond.methodLink RX11 106 yX11_asks, Cond.instanceMethod yX11_asks, Cond.selects RX11 yX11_asks yX11_asks, Cond.code yX11_asks cX11_asks 11 none, Cond.fieldLink RX11 16 "PeerStoresModel" "online" "[Z", Cond.methodLink RX11 95 yX11_hears, Cond.instanceMethod yX11_hears, Cond.selects RX11 yX11_hears yX11_hears, Cond.code yX11_hears cX11_hears 8 none, Cond.methodLink RX11 88 yX11_bucketOf, Cond.static yX11_bucketOf, Cond.code yX11_bucketOf cX11_bucketOf 4 (some .int), Cond.methodLink RX11 110 yX11_closestOf, Cond.instanceMethod yX11_closestOf]
def wsX11_stores_r3 : List Cond := [Cond.selects RX11 yX11_closestOf yX11_closestOf, Cond.code yX11_closestOf cX11_closestOf 8 none]
def wsX11_stores : List Cond := .code yX11_stores cX11_stores 8 none :: ((wsX11_stores_r1 ++ (wsX11_stores_r2 ++ wsX11_stores_r3)) ++ wsX110)
def wsX11_file_r1 : List Cond := [Cond.fieldLink RX11 16 "PeerStoresModel" "online" "[Z", Cond.fieldLink RX11 85 "PeerStoresModel" "files" "I", Cond.fieldLink RX11 41 "PeerStoresModel" "owner" "[I", Cond.fieldLink RX11 44 "PeerStoresModel" "values" "[I", Cond.fieldLink RX11 47 "PeerStoresModel" "holder" "[I", Cond.methodLink RX11 117 yX11_isPeer, Cond.instanceMethod yX11_isPeer, Cond.selects RX11 yX11_isPeer yX11_isPeer, Cond.initialized RX11, Cond.code yX11_isPeer cX11_isPeer 2 (some .boolean), Cond.fieldLink RX11 78 "PeerStoresModel" "peers" "I", Cond.methodLink RX11 81 yX11_isIn, Cond.static yX11_isIn, Cond.code yX11_isIn cX11_isIn 3 (some .boolean), Cond.methodLink RX11 124 yX11_holds, Cond.instanceMethod yX11_holds, Cond.selects RX11 yX11_holds yX11_holds, Cond.code yX11_holds cX11_holds 2 (some .boolean), Cond.fieldLink RX11 74 "PeerStoresModel" "thrown" "I", Cond.methodLink RX11 143 yX11_times, Cond.static yX11_times, Cond.code yX11_times cX11_times 5 (some .int), Cond.methodLink RX11 135 yX11_twice, Cond.static yX11_twice]
def wsX11_file_r2 : List Cond := [Cond.code yX11_twice cX11_twice 1 (some .int), Cond.methodLink RX11 146 yX11_stores, Cond.instanceMethod yX11_stores, Cond.selects RX11 yX11_stores yX11_stores, Cond.code yX11_stores cX11_stores 8 none, Cond.fieldLink RX11 53 "PeerStoresModel" "misses" "[I", Cond.fieldLink RX11 50 "PeerStoresModel" "keeps" "[Z", Cond.fieldLink RX11 114 "PeerStoresModel" "results" "I", Cond.fieldLink RX11 38 "PeerStoresModel" "result" "[I", Cond.fieldLink RX11 13 "PeerStoresModel" "sorts" "[I", Cond.methodLink RX11 140 yX11_hash, Cond.static yX11_hash, Cond.code yX11_hash cX11_hash 3 (some .int), Cond.constant RX11 139 (1103515245), Cond.methodLink RX11 127 yX11_looksUp, Cond.instanceMethod yX11_looksUp, Cond.selects RX11 yX11_looksUp yX11_looksUp, Cond.code yX11_looksUp cX11_looksUp 10 none, Cond.fieldLink RX11 92 "PeerStoresModel" "asked" "I", Cond.fieldLink RX11 26 "PeerStoresModel" "inRow" "[Z", Cond.fieldLink RX11 29 "PeerStoresModel" "wasAsked" "[Z", Cond.fieldLink RX11 32 "PeerStoresModel" "answered" "[Z", Cond.fieldLink RX11 7 "PeerStoresModel" "ids" "[I", Cond.fieldLink RX11 35 "PeerStoresModel" "picked" "[I"]
def wsX11_file_r3 : List Cond := [Cond.methodLink RX11 99 yX11_keepsPeer, Cond.instanceMethod yX11_keepsPeer, Cond.selects RX11 yX11_keepsPeer yX11_keepsPeer, Cond.code yX11_keepsPeer cX11_keepsPeer 6 (some .boolean), Cond.fieldLink RX11 23 "PeerStoresModel" "keptMany" "[I", Cond.fieldLink RX11 20 "PeerStoresModel" "kept" "[I", Cond.methodLink RX11 103 yX11_picks, Cond.instanceMethod yX11_picks, Cond.selects RX11 yX11_picks yX11_picks, Cond.code yX11_picks cX11_picks 10 (some .int), Cond.methodLink RX11 106 yX11_asks, Cond.instanceMethod yX11_asks, Cond.selects RX11 yX11_asks yX11_asks, Cond.code yX11_asks cX11_asks 11 none, Cond.methodLink RX11 95 yX11_hears, Cond.instanceMethod yX11_hears, Cond.selects RX11 yX11_hears yX11_hears, Cond.code yX11_hears cX11_hears 8 none, Cond.methodLink RX11 88 yX11_bucketOf, Cond.static yX11_bucketOf, Cond.code yX11_bucketOf cX11_bucketOf 4 (some .int), Cond.methodLink RX11 110 yX11_closestOf, Cond.instanceMethod yX11_closestOf, Cond.selects RX11 yX11_closestOf yX11_closestOf]
def wsX11_file_r4 : List Cond := [Cond.code yX11_closestOf cX11_closestOf 8 none]
def wsX11_file : List Cond := .code yX11_file cX11_file 8 (some .int) :: ((wsX11_file_r1 ++ (wsX11_file_r2 ++ (wsX11_file_r3 ++ wsX11_file_r4))) ++ wsX110)
def wsX11_isAsked : List Cond := .code yX11_isAsked cX11_isAsked 3 (some .boolean) :: ([.methodLink RX11 149 yX11_isFile, .instanceMethod yX11_isFile, .selects RX11 yX11_isFile yX11_isFile, .initialized RX11, .code yX11_isFile cX11_isFile 2 (some .boolean), .fieldLink RX11 85 "PeerStoresModel" "files" "I", .methodLink RX11 81 yX11_isIn, .static yX11_isIn, .code yX11_isIn cX11_isIn 3 (some .boolean)] ++ wsX110)
def wsX11_piece : List Cond := .code yX11_piece cX11_piece 5 (some .int) :: ([.fieldLink RX11 44 "PeerStoresModel" "values" "[I", .fieldLink RX11 47 "PeerStoresModel" "holder" "[I", .fieldLink RX11 50 "PeerStoresModel" "keeps" "[Z", .fieldLink RX11 53 "PeerStoresModel" "misses" "[I", .methodLink RX11 152 yX11_isAsked, .instanceMethod yX11_isAsked, .selects RX11 yX11_isAsked yX11_isAsked, .initialized RX11, .code yX11_isAsked cX11_isAsked 3 (some .boolean), .methodLink RX11 149 yX11_isFile, .instanceMethod yX11_isFile, .selects RX11 yX11_isFile yX11_isFile, .code yX11_isFile cX11_isFile 2 (some .boolean), .fieldLink RX11 85 "PeerStoresModel" "files" "I", .methodLink RX11 81 yX11_isIn, .static yX11_isIn, .code yX11_isIn cX11_isIn 3 (some .boolean), .methodLink RX11 124 yX11_holds, .instanceMethod yX11_holds, .selects RX11 yX11_holds yX11_holds, .code yX11_holds cX11_holds 2 (some .boolean), .fieldLink RX11 74 "PeerStoresModel" "thrown" "I"] ++ wsX110)
def wsX11_spoil : List Cond := .code yX11_spoil cX11_spoil 5 (some .boolean) :: ([.fieldLink RX11 47 "PeerStoresModel" "holder" "[I", .fieldLink RX11 50 "PeerStoresModel" "keeps" "[Z", .methodLink RX11 152 yX11_isAsked, .instanceMethod yX11_isAsked, .selects RX11 yX11_isAsked yX11_isAsked, .initialized RX11, .code yX11_isAsked cX11_isAsked 3 (some .boolean), .methodLink RX11 149 yX11_isFile, .instanceMethod yX11_isFile, .selects RX11 yX11_isFile yX11_isFile, .code yX11_isFile cX11_isFile 2 (some .boolean), .fieldLink RX11 85 "PeerStoresModel" "files" "I", .methodLink RX11 81 yX11_isIn, .static yX11_isIn, .code yX11_isIn cX11_isIn 3 (some .boolean), .methodLink RX11 124 yX11_holds, .instanceMethod yX11_holds, .selects RX11 yX11_holds yX11_holds, .code yX11_holds cX11_holds 2 (some .boolean), .fieldLink RX11 74 "PeerStoresModel" "thrown" "I"] ++ wsX110)
def wsX11_root : List Cond := .code yX11_root cX11_root 2 (some .int) :: ([.fieldLink RX11 56 "PeerStoresModel" "tree" "[I", .methodLink RX11 149 yX11_isFile, .instanceMethod yX11_isFile, .selects RX11 yX11_isFile yX11_isFile, .initialized RX11, .code yX11_isFile cX11_isFile 2 (some .boolean), .fieldLink RX11 85 "PeerStoresModel" "files" "I", .methodLink RX11 81 yX11_isIn, .static yX11_isIn, .code yX11_isIn cX11_isIn 3 (some .boolean), .methodLink RX11 124 yX11_holds, .instanceMethod yX11_holds, .selects RX11 yX11_holds yX11_holds, .code yX11_holds cX11_holds 2 (some .boolean), .fieldLink RX11 74 "PeerStoresModel" "thrown" "I", .methodLink RX11 155 yX11_laysTree, .instanceMethod yX11_laysTree, .selects RX11 yX11_laysTree yX11_laysTree, .code yX11_laysTree cX11_laysTree 3 none, .fieldLink RX11 44 "PeerStoresModel" "values" "[I", .methodLink RX11 140 yX11_hash, .static yX11_hash, .code yX11_hash cX11_hash 3 (some .int), .constant RX11 139 (1103515245)] ++ wsX110)
def wsX11_proof_r1 : List Cond := [Cond.fieldLink RX11 56 "PeerStoresModel" "tree" "[I", Cond.methodLink RX11 152 yX11_isAsked, Cond.instanceMethod yX11_isAsked, Cond.selects RX11 yX11_isAsked yX11_isAsked, Cond.initialized RX11, Cond.code yX11_isAsked cX11_isAsked 3 (some .boolean), Cond.methodLink RX11 149 yX11_isFile, Cond.instanceMethod yX11_isFile, Cond.selects RX11 yX11_isFile yX11_isFile, Cond.code yX11_isFile cX11_isFile 2 (some .boolean), Cond.fieldLink RX11 85 "PeerStoresModel" "files" "I", Cond.methodLink RX11 81 yX11_isIn, Cond.static yX11_isIn, Cond.code yX11_isIn cX11_isIn 3 (some .boolean), Cond.methodLink RX11 124 yX11_holds, Cond.instanceMethod yX11_holds, Cond.selects RX11 yX11_holds yX11_holds, Cond.code yX11_holds cX11_holds 2 (some .boolean), Cond.fieldLink RX11 74 "PeerStoresModel" "thrown" "I", Cond.methodLink RX11 155 yX11_laysTree, Cond.instanceMethod yX11_laysTree, Cond.selects RX11 yX11_laysTree yX11_laysTree, Cond.code yX11_laysTree cX11_laysTree 3 none, Cond.fieldLink RX11 44 "PeerStoresModel" "values" "[I"]
def wsX11_proof_r2 : List Cond := [Cond.methodLink RX11 140 yX11_hash, Cond.static yX11_hash, Cond.code yX11_hash cX11_hash 3 (some .int), Cond.constant RX11 139 (1103515245)]
def wsX11_proof : List Cond := .code yX11_proof cX11_proof 4 (some .int) :: ((wsX11_proof_r1 ++ wsX11_proof_r2) ++ wsX110)
def wsX11_isProved_r1 : List Cond := [Cond.fieldLink RX11 56 "PeerStoresModel" "tree" "[I", Cond.methodLink RX11 152 yX11_isAsked, Cond.instanceMethod yX11_isAsked, Cond.selects RX11 yX11_isAsked yX11_isAsked, Cond.initialized RX11, Cond.code yX11_isAsked cX11_isAsked 3 (some .boolean), Cond.methodLink RX11 149 yX11_isFile, Cond.instanceMethod yX11_isFile, Cond.selects RX11 yX11_isFile yX11_isFile, Cond.code yX11_isFile cX11_isFile 2 (some .boolean), Cond.fieldLink RX11 85 "PeerStoresModel" "files" "I", Cond.methodLink RX11 81 yX11_isIn, Cond.static yX11_isIn, Cond.code yX11_isIn cX11_isIn 3 (some .boolean), Cond.methodLink RX11 124 yX11_holds, Cond.instanceMethod yX11_holds, Cond.selects RX11 yX11_holds yX11_holds, Cond.code yX11_holds cX11_holds 2 (some .boolean), Cond.fieldLink RX11 74 "PeerStoresModel" "thrown" "I", Cond.methodLink RX11 155 yX11_laysTree, Cond.instanceMethod yX11_laysTree, Cond.selects RX11 yX11_laysTree yX11_laysTree, Cond.code yX11_laysTree cX11_laysTree 3 none, Cond.fieldLink RX11 44 "PeerStoresModel" "values" "[I"]
def wsX11_isProved_r2 : List Cond := [Cond.methodLink RX11 140 yX11_hash, Cond.static yX11_hash, Cond.code yX11_hash cX11_hash 3 (some .int), Cond.constant RX11 139 (1103515245)]
def wsX11_isProved : List Cond := .code yX11_isProved cX11_isProved 10 (some .boolean) :: ((wsX11_isProved_r1 ++ wsX11_isProved_r2) ++ wsX110)
def wsX11_count : List Cond := .code yX11_count cX11_count 3 (some .int) :: ([])
def wsX11_mend : List Cond := .code yX11_mend cX11_mend 4 (some .int) :: ([.fieldLink RX11 44 "PeerStoresModel" "values" "[I", .methodLink RX11 149 yX11_isFile, .instanceMethod yX11_isFile, .selects RX11 yX11_isFile yX11_isFile, .initialized RX11, .code yX11_isFile cX11_isFile 2 (some .boolean), .fieldLink RX11 85 "PeerStoresModel" "files" "I", .methodLink RX11 81 yX11_isIn, .static yX11_isIn, .code yX11_isIn cX11_isIn 3 (some .boolean), .methodLink RX11 158 yX11_count, .static yX11_count, .code yX11_count cX11_count 3 (some .int), .methodLink RX11 124 yX11_holds, .instanceMethod yX11_holds, .selects RX11 yX11_holds yX11_holds, .code yX11_holds cX11_holds 2 (some .boolean), .fieldLink RX11 74 "PeerStoresModel" "thrown" "I"] ++ wsX110)
def wsX11_isThere : List Cond := .code yX11_isThere cX11_isThere 2 (some .boolean) :: ([.fieldLink RX11 47 "PeerStoresModel" "holder" "[I", .fieldLink RX11 50 "PeerStoresModel" "keeps" "[Z", .fieldLink RX11 16 "PeerStoresModel" "online" "[Z"] ++ wsX110)
def wsX11_fetch_r1 : List Cond := [Cond.fieldLink RX11 16 "PeerStoresModel" "online" "[Z", Cond.fieldLink RX11 41 "PeerStoresModel" "owner" "[I", Cond.fieldLink RX11 71 "PeerStoresModel" "debts" "[I", Cond.fieldLink RX11 47 "PeerStoresModel" "holder" "[I", Cond.methodLink RX11 117 yX11_isPeer, Cond.instanceMethod yX11_isPeer, Cond.selects RX11 yX11_isPeer yX11_isPeer, Cond.initialized RX11, Cond.code yX11_isPeer cX11_isPeer 2 (some .boolean), Cond.fieldLink RX11 78 "PeerStoresModel" "peers" "I", Cond.methodLink RX11 81 yX11_isIn, Cond.static yX11_isIn, Cond.code yX11_isIn cX11_isIn 3 (some .boolean), Cond.methodLink RX11 149 yX11_isFile, Cond.instanceMethod yX11_isFile, Cond.selects RX11 yX11_isFile yX11_isFile, Cond.code yX11_isFile cX11_isFile 2 (some .boolean), Cond.fieldLink RX11 85 "PeerStoresModel" "files" "I", Cond.methodLink RX11 124 yX11_holds, Cond.instanceMethod yX11_holds, Cond.selects RX11 yX11_holds yX11_holds, Cond.code yX11_holds cX11_holds 2 (some .boolean), Cond.fieldLink RX11 74 "PeerStoresModel" "thrown" "I", Cond.methodLink RX11 161 yX11_isThere]
def wsX11_fetch_r2 : List Cond := [Cond.instanceMethod yX11_isThere, Cond.selects RX11 yX11_isThere yX11_isThere, Cond.code yX11_isThere cX11_isThere 2 (some .boolean), Cond.fieldLink RX11 50 "PeerStoresModel" "keeps" "[Z"]
def wsX11_fetch : List Cond := .code yX11_fetch cX11_fetch 6 (some .int) :: ((wsX11_fetch_r1 ++ wsX11_fetch_r2) ++ wsX110)
def wsX11_challenges : List Cond := .code yX11_challenges cX11_challenges 3 none :: ([.fieldLink RX11 41 "PeerStoresModel" "owner" "[I", .fieldLink RX11 47 "PeerStoresModel" "holder" "[I", .fieldLink RX11 16 "PeerStoresModel" "online" "[Z", .fieldLink RX11 71 "PeerStoresModel" "debts" "[I", .fieldLink RX11 53 "PeerStoresModel" "misses" "[I", .fieldLink RX11 50 "PeerStoresModel" "keeps" "[Z", .methodLink RX11 161 yX11_isThere, .instanceMethod yX11_isThere, .selects RX11 yX11_isThere yX11_isThere, .initialized RX11, .code yX11_isThere cX11_isThere 2 (some .boolean)] ++ wsX110)
def wsX11_repairs_r1 : List Cond := [Cond.fieldLink RX11 47 "PeerStoresModel" "holder" "[I", Cond.fieldLink RX11 16 "PeerStoresModel" "online" "[Z", Cond.fieldLink RX11 41 "PeerStoresModel" "owner" "[I", Cond.methodLink RX11 161 yX11_isThere, Cond.instanceMethod yX11_isThere, Cond.selects RX11 yX11_isThere yX11_isThere, Cond.initialized RX11, Cond.code yX11_isThere cX11_isThere 2 (some .boolean), Cond.fieldLink RX11 50 "PeerStoresModel" "keeps" "[Z", Cond.methodLink RX11 146 yX11_stores, Cond.instanceMethod yX11_stores, Cond.selects RX11 yX11_stores yX11_stores, Cond.code yX11_stores cX11_stores 8 none, Cond.fieldLink RX11 44 "PeerStoresModel" "values" "[I", Cond.fieldLink RX11 53 "PeerStoresModel" "misses" "[I", Cond.fieldLink RX11 114 "PeerStoresModel" "results" "I", Cond.fieldLink RX11 38 "PeerStoresModel" "result" "[I", Cond.fieldLink RX11 13 "PeerStoresModel" "sorts" "[I", Cond.methodLink RX11 140 yX11_hash, Cond.static yX11_hash, Cond.code yX11_hash cX11_hash 3 (some .int), Cond.constant RX11 139 (1103515245), Cond.methodLink RX11 127 yX11_looksUp, Cond.instanceMethod yX11_looksUp]
def wsX11_repairs_r2 : List Cond := [Cond.selects RX11 yX11_looksUp yX11_looksUp, Cond.code yX11_looksUp cX11_looksUp 10 none, Cond.fieldLink RX11 92 "PeerStoresModel" "asked" "I", Cond.fieldLink RX11 26 "PeerStoresModel" "inRow" "[Z", Cond.fieldLink RX11 29 "PeerStoresModel" "wasAsked" "[Z", Cond.fieldLink RX11 32 "PeerStoresModel" "answered" "[Z", Cond.fieldLink RX11 78 "PeerStoresModel" "peers" "I", Cond.fieldLink RX11 7 "PeerStoresModel" "ids" "[I", Cond.fieldLink RX11 35 "PeerStoresModel" "picked" "[I", Cond.methodLink RX11 99 yX11_keepsPeer, Cond.instanceMethod yX11_keepsPeer, Cond.selects RX11 yX11_keepsPeer yX11_keepsPeer, Cond.code yX11_keepsPeer cX11_keepsPeer 6 (some .boolean), Cond.fieldLink RX11 23 "PeerStoresModel" "keptMany" "[I", Cond.fieldLink RX11 20 "PeerStoresModel" "kept" "[I", Cond.methodLink RX11 103 yX11_picks, Cond.instanceMethod yX11_picks, Cond.selects RX11 yX11_picks yX11_picks, Cond.code yX11_picks cX11_picks 10 (some .int), Cond.methodLink RX11 106 yX11_asks, Cond.instanceMethod yX11_asks, Cond.selects RX11 yX11_asks yX11_asks, Cond.code yX11_asks cX11_asks 11 none, Cond.methodLink RX11 95 yX11_hears]
def wsX11_repairs_r3 : List Cond := [Cond.instanceMethod yX11_hears, Cond.selects RX11 yX11_hears yX11_hears, Cond.code yX11_hears cX11_hears 8 none, Cond.methodLink RX11 88 yX11_bucketOf, Cond.static yX11_bucketOf, Cond.code yX11_bucketOf cX11_bucketOf 4 (some .int), Cond.methodLink RX11 110 yX11_closestOf, Cond.instanceMethod yX11_closestOf, Cond.selects RX11 yX11_closestOf yX11_closestOf, Cond.code yX11_closestOf cX11_closestOf 8 none]
def wsX11_repairs : List Cond := .code yX11_repairs cX11_repairs 5 none :: ((wsX11_repairs_r1 ++ (wsX11_repairs_r2 ++ wsX11_repairs_r3)) ++ wsX110)
def wsX11_pass_r1 : List Cond := [Cond.fieldLink RX11 164 "PeerStoresModel" "day" "I", Cond.fieldLink RX11 85 "PeerStoresModel" "files" "I", Cond.methodLink RX11 124 yX11_holds, Cond.instanceMethod yX11_holds, Cond.selects RX11 yX11_holds yX11_holds, Cond.initialized RX11, Cond.code yX11_holds cX11_holds 2 (some .boolean), Cond.fieldLink RX11 74 "PeerStoresModel" "thrown" "I", Cond.methodLink RX11 167 yX11_challenges, Cond.instanceMethod yX11_challenges, Cond.selects RX11 yX11_challenges yX11_challenges, Cond.code yX11_challenges cX11_challenges 3 none, Cond.fieldLink RX11 41 "PeerStoresModel" "owner" "[I", Cond.fieldLink RX11 47 "PeerStoresModel" "holder" "[I", Cond.fieldLink RX11 16 "PeerStoresModel" "online" "[Z", Cond.fieldLink RX11 71 "PeerStoresModel" "debts" "[I", Cond.fieldLink RX11 53 "PeerStoresModel" "misses" "[I", Cond.fieldLink RX11 50 "PeerStoresModel" "keeps" "[Z", Cond.methodLink RX11 161 yX11_isThere, Cond.instanceMethod yX11_isThere, Cond.selects RX11 yX11_isThere yX11_isThere, Cond.code yX11_isThere cX11_isThere 2 (some .boolean), Cond.methodLink RX11 170 yX11_repairs, Cond.instanceMethod yX11_repairs]
def wsX11_pass_r2 : List Cond := [Cond.selects RX11 yX11_repairs yX11_repairs, Cond.code yX11_repairs cX11_repairs 5 none, Cond.methodLink RX11 146 yX11_stores, Cond.instanceMethod yX11_stores, Cond.selects RX11 yX11_stores yX11_stores, Cond.code yX11_stores cX11_stores 8 none, Cond.fieldLink RX11 44 "PeerStoresModel" "values" "[I", Cond.fieldLink RX11 114 "PeerStoresModel" "results" "I", Cond.fieldLink RX11 38 "PeerStoresModel" "result" "[I", Cond.fieldLink RX11 13 "PeerStoresModel" "sorts" "[I", Cond.methodLink RX11 140 yX11_hash, Cond.static yX11_hash, Cond.code yX11_hash cX11_hash 3 (some .int), Cond.constant RX11 139 (1103515245), Cond.methodLink RX11 127 yX11_looksUp, Cond.instanceMethod yX11_looksUp, Cond.selects RX11 yX11_looksUp yX11_looksUp, Cond.code yX11_looksUp cX11_looksUp 10 none, Cond.fieldLink RX11 92 "PeerStoresModel" "asked" "I", Cond.fieldLink RX11 26 "PeerStoresModel" "inRow" "[Z", Cond.fieldLink RX11 29 "PeerStoresModel" "wasAsked" "[Z", Cond.fieldLink RX11 32 "PeerStoresModel" "answered" "[Z", Cond.fieldLink RX11 78 "PeerStoresModel" "peers" "I", Cond.fieldLink RX11 7 "PeerStoresModel" "ids" "[I"]
def wsX11_pass_r3 : List Cond := [Cond.fieldLink RX11 35 "PeerStoresModel" "picked" "[I", Cond.methodLink RX11 99 yX11_keepsPeer, Cond.instanceMethod yX11_keepsPeer, Cond.selects RX11 yX11_keepsPeer yX11_keepsPeer, Cond.code yX11_keepsPeer cX11_keepsPeer 6 (some .boolean), Cond.fieldLink RX11 23 "PeerStoresModel" "keptMany" "[I", Cond.fieldLink RX11 20 "PeerStoresModel" "kept" "[I", Cond.methodLink RX11 103 yX11_picks, Cond.instanceMethod yX11_picks, Cond.selects RX11 yX11_picks yX11_picks, Cond.code yX11_picks cX11_picks 10 (some .int), Cond.methodLink RX11 106 yX11_asks, Cond.instanceMethod yX11_asks, Cond.selects RX11 yX11_asks yX11_asks, Cond.code yX11_asks cX11_asks 11 none, Cond.methodLink RX11 95 yX11_hears, Cond.instanceMethod yX11_hears, Cond.selects RX11 yX11_hears yX11_hears, Cond.code yX11_hears cX11_hears 8 none, Cond.methodLink RX11 88 yX11_bucketOf, Cond.static yX11_bucketOf, Cond.code yX11_bucketOf cX11_bucketOf 4 (some .int), Cond.methodLink RX11 110 yX11_closestOf, Cond.instanceMethod yX11_closestOf]
def wsX11_pass_r4 : List Cond := [Cond.selects RX11 yX11_closestOf yX11_closestOf, Cond.code yX11_closestOf cX11_closestOf 8 none]
def wsX11_pass : List Cond := .code yX11_pass cX11_pass 2 (some .int) :: ((wsX11_pass_r1 ++ (wsX11_pass_r2 ++ (wsX11_pass_r3 ++ wsX11_pass_r4))) ++ wsX110)
def wsX11_tell_r1 : List Cond := [Cond.fieldLink RX11 16 "PeerStoresModel" "online" "[Z", Cond.fieldLink RX11 59 "PeerStoresModel" "nameOwner" "[I", Cond.fieldLink RX11 114 "PeerStoresModel" "results" "I", Cond.fieldLink RX11 38 "PeerStoresModel" "result" "[I", Cond.fieldLink RX11 13 "PeerStoresModel" "sorts" "[I", Cond.fieldLink RX11 62 "PeerStoresModel" "nameNumber" "[I", Cond.fieldLink RX11 65 "PeerStoresModel" "nameValue" "[I", Cond.methodLink RX11 117 yX11_isPeer, Cond.instanceMethod yX11_isPeer, Cond.selects RX11 yX11_isPeer yX11_isPeer, Cond.initialized RX11, Cond.code yX11_isPeer cX11_isPeer 2 (some .boolean), Cond.fieldLink RX11 78 "PeerStoresModel" "peers" "I", Cond.methodLink RX11 81 yX11_isIn, Cond.static yX11_isIn, Cond.code yX11_isIn cX11_isIn 3 (some .boolean), Cond.methodLink RX11 124 yX11_holds, Cond.instanceMethod yX11_holds, Cond.selects RX11 yX11_holds yX11_holds, Cond.code yX11_holds cX11_holds 2 (some .boolean), Cond.fieldLink RX11 74 "PeerStoresModel" "thrown" "I", Cond.methodLink RX11 127 yX11_looksUp, Cond.instanceMethod yX11_looksUp, Cond.selects RX11 yX11_looksUp yX11_looksUp]
def wsX11_tell_r2 : List Cond := [Cond.code yX11_looksUp cX11_looksUp 10 none, Cond.fieldLink RX11 92 "PeerStoresModel" "asked" "I", Cond.fieldLink RX11 26 "PeerStoresModel" "inRow" "[Z", Cond.fieldLink RX11 29 "PeerStoresModel" "wasAsked" "[Z", Cond.fieldLink RX11 32 "PeerStoresModel" "answered" "[Z", Cond.fieldLink RX11 7 "PeerStoresModel" "ids" "[I", Cond.fieldLink RX11 35 "PeerStoresModel" "picked" "[I", Cond.methodLink RX11 99 yX11_keepsPeer, Cond.instanceMethod yX11_keepsPeer, Cond.selects RX11 yX11_keepsPeer yX11_keepsPeer, Cond.code yX11_keepsPeer cX11_keepsPeer 6 (some .boolean), Cond.fieldLink RX11 23 "PeerStoresModel" "keptMany" "[I", Cond.fieldLink RX11 20 "PeerStoresModel" "kept" "[I", Cond.methodLink RX11 103 yX11_picks, Cond.instanceMethod yX11_picks, Cond.selects RX11 yX11_picks yX11_picks, Cond.code yX11_picks cX11_picks 10 (some .int), Cond.methodLink RX11 106 yX11_asks, Cond.instanceMethod yX11_asks, Cond.selects RX11 yX11_asks yX11_asks, Cond.code yX11_asks cX11_asks 11 none, Cond.methodLink RX11 95 yX11_hears, Cond.instanceMethod yX11_hears, Cond.selects RX11 yX11_hears yX11_hears]
def wsX11_tell_r3 : List Cond := [Cond.code yX11_hears cX11_hears 8 none, Cond.methodLink RX11 88 yX11_bucketOf, Cond.static yX11_bucketOf, Cond.code yX11_bucketOf cX11_bucketOf 4 (some .int), Cond.methodLink RX11 110 yX11_closestOf, Cond.instanceMethod yX11_closestOf, Cond.selects RX11 yX11_closestOf yX11_closestOf, Cond.code yX11_closestOf cX11_closestOf 8 none]
def wsX11_tell : List Cond := .code yX11_tell cX11_tell 11 (some .int) :: ((wsX11_tell_r1 ++ (wsX11_tell_r2 ++ wsX11_tell_r3)) ++ wsX110)
def wsX11_name_r1 : List Cond := [Cond.fieldLink RX11 16 "PeerStoresModel" "online" "[Z", Cond.fieldLink RX11 114 "PeerStoresModel" "results" "I", Cond.fieldLink RX11 38 "PeerStoresModel" "result" "[I", Cond.fieldLink RX11 13 "PeerStoresModel" "sorts" "[I", Cond.fieldLink RX11 62 "PeerStoresModel" "nameNumber" "[I", Cond.fieldLink RX11 65 "PeerStoresModel" "nameValue" "[I", Cond.methodLink RX11 117 yX11_isPeer, Cond.instanceMethod yX11_isPeer, Cond.selects RX11 yX11_isPeer yX11_isPeer, Cond.initialized RX11, Cond.code yX11_isPeer cX11_isPeer 2 (some .boolean), Cond.fieldLink RX11 78 "PeerStoresModel" "peers" "I", Cond.methodLink RX11 81 yX11_isIn, Cond.static yX11_isIn, Cond.code yX11_isIn cX11_isIn 3 (some .boolean), Cond.methodLink RX11 124 yX11_holds, Cond.instanceMethod yX11_holds, Cond.selects RX11 yX11_holds yX11_holds, Cond.code yX11_holds cX11_holds 2 (some .boolean), Cond.fieldLink RX11 74 "PeerStoresModel" "thrown" "I", Cond.methodLink RX11 127 yX11_looksUp, Cond.instanceMethod yX11_looksUp, Cond.selects RX11 yX11_looksUp yX11_looksUp, Cond.code yX11_looksUp cX11_looksUp 10 none]
def wsX11_name_r2 : List Cond := [Cond.fieldLink RX11 92 "PeerStoresModel" "asked" "I", Cond.fieldLink RX11 26 "PeerStoresModel" "inRow" "[Z", Cond.fieldLink RX11 29 "PeerStoresModel" "wasAsked" "[Z", Cond.fieldLink RX11 32 "PeerStoresModel" "answered" "[Z", Cond.fieldLink RX11 7 "PeerStoresModel" "ids" "[I", Cond.fieldLink RX11 35 "PeerStoresModel" "picked" "[I", Cond.methodLink RX11 99 yX11_keepsPeer, Cond.instanceMethod yX11_keepsPeer, Cond.selects RX11 yX11_keepsPeer yX11_keepsPeer, Cond.code yX11_keepsPeer cX11_keepsPeer 6 (some .boolean), Cond.fieldLink RX11 23 "PeerStoresModel" "keptMany" "[I", Cond.fieldLink RX11 20 "PeerStoresModel" "kept" "[I", Cond.methodLink RX11 103 yX11_picks, Cond.instanceMethod yX11_picks, Cond.selects RX11 yX11_picks yX11_picks, Cond.code yX11_picks cX11_picks 10 (some .int), Cond.methodLink RX11 106 yX11_asks, Cond.instanceMethod yX11_asks, Cond.selects RX11 yX11_asks yX11_asks, Cond.code yX11_asks cX11_asks 11 none, Cond.methodLink RX11 95 yX11_hears, Cond.instanceMethod yX11_hears, Cond.selects RX11 yX11_hears yX11_hears, Cond.code yX11_hears cX11_hears 8 none]
def wsX11_name_r3 : List Cond := [Cond.methodLink RX11 88 yX11_bucketOf, Cond.static yX11_bucketOf, Cond.code yX11_bucketOf cX11_bucketOf 4 (some .int), Cond.methodLink RX11 110 yX11_closestOf, Cond.instanceMethod yX11_closestOf, Cond.selects RX11 yX11_closestOf yX11_closestOf, Cond.code yX11_closestOf cX11_closestOf 8 none]
def wsX11_name : List Cond := .code yX11_name cX11_name 9 (some .int) :: ((wsX11_name_r1 ++ (wsX11_name_r2 ++ wsX11_name_r3)) ++ wsX110)
def wsX11_spread : List Cond := .code yX11_spread cX11_spread 9 (some .int) :: ([.fieldLink RX11 16 "PeerStoresModel" "online" "[Z", .fieldLink RX11 68 "PeerStoresModel" "gotIn" "[I", .fieldLink RX11 173 "PeerStoresModel" "rounds" "I", .fieldLink RX11 78 "PeerStoresModel" "peers" "I", .fieldLink RX11 13 "PeerStoresModel" "sorts" "[I", .methodLink RX11 117 yX11_isPeer, .instanceMethod yX11_isPeer, .selects RX11 yX11_isPeer yX11_isPeer, .initialized RX11, .code yX11_isPeer cX11_isPeer 2 (some .boolean), .methodLink RX11 81 yX11_isIn, .static yX11_isIn, .code yX11_isIn cX11_isIn 3 (some .boolean), .methodLink RX11 124 yX11_holds, .instanceMethod yX11_holds, .selects RX11 yX11_holds yX11_holds, .code yX11_holds cX11_holds 2 (some .boolean), .fieldLink RX11 74 "PeerStoresModel" "thrown" "I", .methodLink RX11 99 yX11_keepsPeer, .instanceMethod yX11_keepsPeer, .selects RX11 yX11_keepsPeer yX11_keepsPeer, .code yX11_keepsPeer cX11_keepsPeer 6 (some .boolean), .fieldLink RX11 23 "PeerStoresModel" "keptMany" "[I", .fieldLink RX11 20 "PeerStoresModel" "kept" "[I"] ++ wsX110)
def wsX11_rounds : List Cond := .code yX11_rounds cX11_rounds 1 (some .int) :: ([.fieldLink RX11 74 "PeerStoresModel" "thrown" "I", .fieldLink RX11 173 "PeerStoresModel" "rounds" "I"] ++ wsX110)
def wsX11_owes : List Cond := .code yX11_owes cX11_owes 3 (some .int) :: ([.fieldLink RX11 71 "PeerStoresModel" "debts" "[I", .methodLink RX11 117 yX11_isPeer, .instanceMethod yX11_isPeer, .selects RX11 yX11_isPeer yX11_isPeer, .initialized RX11, .code yX11_isPeer cX11_isPeer 2 (some .boolean), .fieldLink RX11 78 "PeerStoresModel" "peers" "I", .methodLink RX11 81 yX11_isIn, .static yX11_isIn, .code yX11_isIn cX11_isIn 3 (some .boolean), .methodLink RX11 124 yX11_holds, .instanceMethod yX11_holds, .selects RX11 yX11_holds yX11_holds, .code yX11_holds cX11_holds 2 (some .boolean), .fieldLink RX11 74 "PeerStoresModel" "thrown" "I"] ++ wsX110)
def wsX11_lessens : List Cond := .code yX11_lessens cX11_lessens 8 (some .int) :: ([.fieldLink RX11 71 "PeerStoresModel" "debts" "[I"] ++ wsX110)
def wsX11_nets : List Cond := .code yX11_nets cX11_nets 5 (some .int) :: ([.fieldLink RX11 78 "PeerStoresModel" "peers" "I", .methodLink RX11 176 yX11_lessens, .instanceMethod yX11_lessens, .selects RX11 yX11_lessens yX11_lessens, .initialized RX11, .code yX11_lessens cX11_lessens 8 (some .int), .fieldLink RX11 71 "PeerStoresModel" "debts" "[I"] ++ wsX110)
def wsX11_net : List Cond := .code yX11_net cX11_net 3 (some .int) :: ([.fieldLink RX11 74 "PeerStoresModel" "thrown" "I", .methodLink RX11 180 yX11_nets, .instanceMethod yX11_nets, .selects RX11 yX11_nets yX11_nets, .initialized RX11, .code yX11_nets cX11_nets 5 (some .int), .fieldLink RX11 78 "PeerStoresModel" "peers" "I", .methodLink RX11 176 yX11_lessens, .instanceMethod yX11_lessens, .selects RX11 yX11_lessens yX11_lessens, .code yX11_lessens cX11_lessens 8 (some .int), .fieldLink RX11 71 "PeerStoresModel" "debts" "[I"] ++ wsX110)
def wsX11_worth : List Cond := .code yX11_worth cX11_worth 4 (some .int) :: ([.fieldLink RX11 78 "PeerStoresModel" "peers" "I", .fieldLink RX11 71 "PeerStoresModel" "debts" "[I", .methodLink RX11 117 yX11_isPeer, .instanceMethod yX11_isPeer, .selects RX11 yX11_isPeer yX11_isPeer, .initialized RX11, .code yX11_isPeer cX11_isPeer 2 (some .boolean), .methodLink RX11 81 yX11_isIn, .static yX11_isIn, .code yX11_isIn cX11_isIn 3 (some .boolean), .methodLink RX11 124 yX11_holds, .instanceMethod yX11_holds, .selects RX11 yX11_holds yX11_holds, .code yX11_holds cX11_holds 2 (some .boolean), .fieldLink RX11 74 "PeerStoresModel" "thrown" "I"] ++ wsX110)
def wsJ9_min_7cf53 : List Cond := .code yJ9_min_7cf53 cJ9_min_7cf53 2 (some .int) :: ([])
theorem inJ6 : ∀ w ∈ wsJ60, w ∈ lw_tbl := by decide +kernel
theorem inJ9 : ∀ w ∈ wsJ90, w ∈ lw_tbl := by decide +kernel
theorem inJ0 : ∀ w ∈ wsJ00, w ∈ lw_tbl := by decide +kernel
abbrev vwCl : List vw_C := [(RX1, TX1, 3), (RX2, TX2, 1), (RX3, TX3, 3), (RX4, TX4, 2), (RX5, TX5, 5), (RX6, TX6, 3), (RX7, TX7, 7), (RX8, TX8, 6), (RX9, TX9, 1), (RX10, TX10, 10), (RX11, TX11, 28)]
end
section
theorem dX0_times_0 : decode cX0_times 0 = .ok (.iconst 0, 1) := by decide +kernel
theorem dX0_times_1 : decode cX0_times 1 = .ok (.istore_n 2, 1) := by decide +kernel
theorem dX0_times_2 : decode cX0_times 2 = .ok (.iload_n 0, 1) := by decide +kernel
theorem dX0_times_3 : decode cX0_times 3 = .ok (.istore_n 3, 1) := by decide +kernel
theorem dX0_times_4 : decode cX0_times 4 = .ok (.iconst 0, 1) := by decide +kernel
theorem dX0_times_5 : decode cX0_times 5 = .ok (.istore 4, 2) := by decide +kernel
theorem dX0_times_7 : decode cX0_times 7 = .ok (.iload 4, 2) := by decide +kernel
theorem dX0_times_9 : decode cX0_times 9 = .ok (.bipush 8, 2) := by decide +kernel
theorem dX0_times_11 : decode cX0_times 11 = .ok (.if_icmp .ge 40, 3) := by decide +kernel
theorem dX0_times_14 : decode cX0_times 14 = .ok (.iload_n 1, 1) := by decide +kernel
theorem dX0_times_15 : decode cX0_times 15 = .ok (.iload 4, 2) := by decide +kernel
theorem dX0_times_17 : decode cX0_times 17 = .ok (.ishr, 1) := by decide +kernel
theorem dX0_times_18 : decode cX0_times 18 = .ok (.iconst 1, 1) := by decide +kernel
theorem dX0_times_19 : decode cX0_times 19 = .ok (.iand, 1) := by decide +kernel
theorem dX0_times_20 : decode cX0_times 20 = .ok (.iconst 1, 1) := by decide +kernel
theorem dX0_times_21 : decode cX0_times 21 = .ok (.if_icmp .ne 7, 3) := by decide +kernel
theorem dX0_times_24 : decode cX0_times 24 = .ok (.iload_n 2, 1) := by decide +kernel
theorem dX0_times_25 : decode cX0_times 25 = .ok (.iload_n 3, 1) := by decide +kernel
theorem dX0_times_26 : decode cX0_times 26 = .ok (.ixor, 1) := by decide +kernel
theorem dX0_times_27 : decode cX0_times 27 = .ok (.istore_n 2, 1) := by decide +kernel
theorem dX0_times_28 : decode cX0_times 28 = .ok (.iload_n 3, 1) := by decide +kernel
theorem dX0_times_29 : decode cX0_times 29 = .ok (.iconst 1, 1) := by decide +kernel
theorem dX0_times_30 : decode cX0_times 30 = .ok (.ishl, 1) := by decide +kernel
theorem dX0_times_31 : decode cX0_times 31 = .ok (.istore_n 3, 1) := by decide +kernel
theorem dX0_times_32 : decode cX0_times 32 = .ok (.iload_n 3, 1) := by decide +kernel
theorem dX0_times_33 : decode cX0_times 33 = .ok (.sipush 256, 3) := by decide +kernel
theorem dX0_times_36 : decode cX0_times 36 = .ok (.if_icmp .lt 9, 3) := by decide +kernel
theorem dX0_times_39 : decode cX0_times 39 = .ok (.iload_n 3, 1) := by decide +kernel
theorem dX0_times_40 : decode cX0_times 40 = .ok (.sipush 285, 3) := by decide +kernel
theorem dX0_times_43 : decode cX0_times 43 = .ok (.ixor, 1) := by decide +kernel
theorem dX0_times_44 : decode cX0_times 44 = .ok (.istore_n 3, 1) := by decide +kernel
theorem dX0_times_45 : decode cX0_times 45 = .ok (.iinc 4 1, 3) := by decide +kernel
theorem dX0_times_48 : decode cX0_times 48 = .ok (.goto (-41), 3) := by decide +kernel
theorem dX0_times_51 : decode cX0_times 51 = .ok (.iload_n 2, 1) := by decide +kernel
theorem dX0_times_52 : decode cX0_times 52 = .ok (.ireturn, 1) := by decide +kernel
set_option maxRecDepth 20000 in
theorem ggX0_inverse_X0_times : GoodIn wsX0_inverse wsX0_times := goodIn_r _ [4] (by decide +kernel) (by decide +kernel)
set_option maxRecDepth 20000 in
theorem gX0_inverse_X0_times : GoodIn wsX0_inverse (va_wsS RX0 9 yX0_times wsX0_times) := goodIn_app (goodIn_of _ (by decide +kernel)) ggX0_inverse_X0_times
theorem dX0_inverse_0 : decode cX0_inverse 0 = .ok (.iload_n 0, 1) := by decide +kernel
theorem dX0_inverse_1 : decode cX0_inverse 1 = .ok (.istore_n 1, 1) := by decide +kernel
theorem dX0_inverse_2 : decode cX0_inverse 2 = .ok (.iconst 1, 1) := by decide +kernel
theorem dX0_inverse_3 : decode cX0_inverse 3 = .ok (.istore_n 2, 1) := by decide +kernel
theorem dX0_inverse_4 : decode cX0_inverse 4 = .ok (.iconst 1, 1) := by decide +kernel
theorem dX0_inverse_5 : decode cX0_inverse 5 = .ok (.istore_n 3, 1) := by decide +kernel
theorem dX0_inverse_6 : decode cX0_inverse 6 = .ok (.iload_n 3, 1) := by decide +kernel
theorem dX0_inverse_7 : decode cX0_inverse 7 = .ok (.bipush 8, 2) := by decide +kernel
theorem dX0_inverse_9 : decode cX0_inverse 9 = .ok (.if_icmp .ge 21, 3) := by decide +kernel
theorem dX0_inverse_12 : decode cX0_inverse 12 = .ok (.iload_n 1, 1) := by decide +kernel
theorem dX0_inverse_13 : decode cX0_inverse 13 = .ok (.iload_n 1, 1) := by decide +kernel
theorem dX0_inverse_14 : decode cX0_inverse 14 = .ok (.invokestatic 9, 3) := by decide +kernel
theorem dX0_inverse_17 : decode cX0_inverse 17 = .ok (.istore_n 1, 1) := by decide +kernel
theorem dX0_inverse_18 : decode cX0_inverse 18 = .ok (.iload_n 2, 1) := by decide +kernel
theorem dX0_inverse_19 : decode cX0_inverse 19 = .ok (.iload_n 1, 1) := by decide +kernel
theorem dX0_inverse_20 : decode cX0_inverse 20 = .ok (.invokestatic 9, 3) := by decide +kernel
theorem dX0_inverse_23 : decode cX0_inverse 23 = .ok (.istore_n 2, 1) := by decide +kernel
theorem dX0_inverse_24 : decode cX0_inverse 24 = .ok (.iinc 3 1, 3) := by decide +kernel
theorem dX0_inverse_27 : decode cX0_inverse 27 = .ok (.goto (-21), 3) := by decide +kernel
theorem dX0_inverse_30 : decode cX0_inverse 30 = .ok (.iload_n 2, 1) := by decide +kernel
theorem dX0_inverse_31 : decode cX0_inverse 31 = .ok (.ireturn, 1) := by decide +kernel
set_option maxRecDepth 20000 in
theorem ggX0_weighted_X0_times : GoodIn wsX0_weighted wsX0_times := goodIn_r _ [4] (by decide +kernel) (by decide +kernel)
set_option maxRecDepth 20000 in
theorem gX0_weighted_X0_times : GoodIn wsX0_weighted (va_wsS RX0 9 yX0_times wsX0_times) := goodIn_app (goodIn_of _ (by decide +kernel)) ggX0_weighted_X0_times
theorem dX0_weighted_0 : decode cX0_weighted 0 = .ok (.iconst 1, 1) := by decide +kernel
theorem dX0_weighted_1 : decode cX0_weighted 1 = .ok (.iload_n 0, 1) := by decide +kernel
theorem dX0_weighted_2 : decode cX0_weighted 2 = .ok (.ishl, 1) := by decide +kernel
theorem dX0_weighted_3 : decode cX0_weighted 3 = .ok (.iload_n 1, 1) := by decide +kernel
theorem dX0_weighted_4 : decode cX0_weighted 4 = .ok (.invokestatic 9, 3) := by decide +kernel
theorem dX0_weighted_7 : decode cX0_weighted 7 = .ok (.ireturn, 1) := by decide +kernel
theorem dX0_isIn_0 : decode cX0_isIn 0 = .ok (.iload_n 0, 1) := by decide +kernel
theorem dX0_isIn_1 : decode cX0_isIn 1 = .ok (.iload_n 1, 1) := by decide +kernel
theorem dX0_isIn_2 : decode cX0_isIn 2 = .ok (.ishr, 1) := by decide +kernel
theorem dX0_isIn_3 : decode cX0_isIn 3 = .ok (.iconst 1, 1) := by decide +kernel
theorem dX0_isIn_4 : decode cX0_isIn 4 = .ok (.iand, 1) := by decide +kernel
theorem dX0_isIn_5 : decode cX0_isIn 5 = .ok (.iconst 1, 1) := by decide +kernel
theorem dX0_isIn_6 : decode cX0_isIn 6 = .ok (.if_icmp .ne 7, 3) := by decide +kernel
theorem dX0_isIn_9 : decode cX0_isIn 9 = .ok (.iconst 1, 1) := by decide +kernel
theorem dX0_isIn_10 : decode cX0_isIn 10 = .ok (.goto 4, 3) := by decide +kernel
theorem dX0_isIn_13 : decode cX0_isIn 13 = .ok (.iconst 0, 1) := by decide +kernel
theorem dX0_isIn_14 : decode cX0_isIn 14 = .ok (.ireturn, 1) := by decide +kernel
set_option maxRecDepth 20000 in
theorem ggX0_pieces_X0_weighted : GoodIn wsX0_pieces wsX0_weighted := goodIn_r _ [5, 6, 7, 4, 8] (by decide +kernel) (by decide +kernel)
set_option maxRecDepth 20000 in
theorem gX0_pieces_X0_weighted : GoodIn wsX0_pieces (va_wsS RX0 15 yX0_weighted wsX0_weighted) := goodIn_app (goodIn_of _ (by decide +kernel)) ggX0_pieces_X0_weighted
theorem dX0_pieces_0 : decode cX0_pieces 0 = .ok (.bipush 6, 2) := by decide +kernel
theorem dX0_pieces_2 : decode cX0_pieces 2 = .ok (.newarray .int, 2) := by decide +kernel
theorem dX0_pieces_4 : decode cX0_pieces 4 = .ok (.astore_n 1, 1) := by decide +kernel
theorem dX0_pieces_5 : decode cX0_pieces 5 = .ok (.iconst 0, 1) := by decide +kernel
theorem dX0_pieces_6 : decode cX0_pieces 6 = .ok (.istore_n 2, 1) := by decide +kernel
theorem dX0_pieces_7 : decode cX0_pieces 7 = .ok (.iconst 0, 1) := by decide +kernel
theorem dX0_pieces_8 : decode cX0_pieces 8 = .ok (.istore_n 3, 1) := by decide +kernel
theorem dX0_pieces_9 : decode cX0_pieces 9 = .ok (.iconst 0, 1) := by decide +kernel
theorem dX0_pieces_10 : decode cX0_pieces 10 = .ok (.istore 4, 2) := by decide +kernel
theorem dX0_pieces_12 : decode cX0_pieces 12 = .ok (.iload 4, 2) := by decide +kernel
theorem dX0_pieces_14 : decode cX0_pieces 14 = .ok (.iconst 4, 1) := by decide +kernel
theorem dX0_pieces_15 : decode cX0_pieces 15 = .ok (.if_icmp .ge 43, 3) := by decide +kernel
theorem dX0_pieces_18 : decode cX0_pieces 18 = .ok (.iload_n 0, 1) := by decide +kernel
theorem dX0_pieces_19 : decode cX0_pieces 19 = .ok (.bipush 8, 2) := by decide +kernel
theorem dX0_pieces_21 : decode cX0_pieces 21 = .ok (.iload 4, 2) := by decide +kernel
theorem dX0_pieces_23 : decode cX0_pieces 23 = .ok (.imul, 1) := by decide +kernel
theorem dX0_pieces_24 : decode cX0_pieces 24 = .ok (.ishr, 1) := by decide +kernel
theorem dX0_pieces_25 : decode cX0_pieces 25 = .ok (.sipush 255, 3) := by decide +kernel
theorem dX0_pieces_28 : decode cX0_pieces 28 = .ok (.iand, 1) := by decide +kernel
theorem dX0_pieces_29 : decode cX0_pieces 29 = .ok (.istore 5, 2) := by decide +kernel
theorem dX0_pieces_31 : decode cX0_pieces 31 = .ok (.aload_n 1, 1) := by decide +kernel
theorem dX0_pieces_32 : decode cX0_pieces 32 = .ok (.iload 4, 2) := by decide +kernel
theorem dX0_pieces_34 : decode cX0_pieces 34 = .ok (.iload 5, 2) := by decide +kernel
theorem dX0_pieces_36 : decode cX0_pieces 36 = .ok (.iastore, 1) := by decide +kernel
theorem dX0_pieces_37 : decode cX0_pieces 37 = .ok (.iload_n 2, 1) := by decide +kernel
theorem dX0_pieces_38 : decode cX0_pieces 38 = .ok (.iload 5, 2) := by decide +kernel
theorem dX0_pieces_40 : decode cX0_pieces 40 = .ok (.ixor, 1) := by decide +kernel
theorem dX0_pieces_41 : decode cX0_pieces 41 = .ok (.istore_n 2, 1) := by decide +kernel
theorem dX0_pieces_42 : decode cX0_pieces 42 = .ok (.iload_n 3, 1) := by decide +kernel
theorem dX0_pieces_43 : decode cX0_pieces 43 = .ok (.iload 4, 2) := by decide +kernel
theorem dX0_pieces_45 : decode cX0_pieces 45 = .ok (.iload 5, 2) := by decide +kernel
theorem dX0_pieces_47 : decode cX0_pieces 47 = .ok (.invokestatic 15, 3) := by decide +kernel
theorem dX0_pieces_50 : decode cX0_pieces 50 = .ok (.ixor, 1) := by decide +kernel
theorem dX0_pieces_51 : decode cX0_pieces 51 = .ok (.istore_n 3, 1) := by decide +kernel
theorem dX0_pieces_52 : decode cX0_pieces 52 = .ok (.iinc 4 1, 3) := by decide +kernel
theorem dX0_pieces_55 : decode cX0_pieces 55 = .ok (.goto (-43), 3) := by decide +kernel
theorem dX0_pieces_58 : decode cX0_pieces 58 = .ok (.aload_n 1, 1) := by decide +kernel
theorem dX0_pieces_59 : decode cX0_pieces 59 = .ok (.iconst 4, 1) := by decide +kernel
theorem dX0_pieces_60 : decode cX0_pieces 60 = .ok (.iload_n 2, 1) := by decide +kernel
theorem dX0_pieces_61 : decode cX0_pieces 61 = .ok (.iastore, 1) := by decide +kernel
theorem dX0_pieces_62 : decode cX0_pieces 62 = .ok (.aload_n 1, 1) := by decide +kernel
theorem dX0_pieces_63 : decode cX0_pieces 63 = .ok (.iconst 5, 1) := by decide +kernel
theorem dX0_pieces_64 : decode cX0_pieces 64 = .ok (.iload_n 3, 1) := by decide +kernel
theorem dX0_pieces_65 : decode cX0_pieces 65 = .ok (.iastore, 1) := by decide +kernel
theorem dX0_pieces_66 : decode cX0_pieces 66 = .ok (.aload_n 1, 1) := by decide +kernel
theorem dX0_pieces_67 : decode cX0_pieces 67 = .ok (.areturn, 1) := by decide +kernel
set_option maxRecDepth 20000 in
theorem ggX0_solve_X0_isIn : GoodIn wsX0_solve wsX0_isIn := goodIn_r _ [4] (by decide +kernel) (by decide +kernel)
set_option maxRecDepth 20000 in
theorem gX0_solve_X0_isIn : GoodIn wsX0_solve (va_wsS RX0 18 yX0_isIn wsX0_isIn) := goodIn_app (goodIn_of _ (by decide +kernel)) ggX0_solve_X0_isIn
set_option maxRecDepth 20000 in
theorem ggX0_solve_X0_weighted : GoodIn wsX0_solve wsX0_weighted := goodIn_r _ [7, 8, 9, 3, 10] (by decide +kernel) (by decide +kernel)
set_option maxRecDepth 20000 in
theorem gX0_solve_X0_weighted : GoodIn wsX0_solve (va_wsS RX0 15 yX0_weighted wsX0_weighted) := goodIn_app (goodIn_of _ (by decide +kernel)) ggX0_solve_X0_weighted
set_option maxRecDepth 20000 in
theorem ggX0_solve_X0_solveTwo : GoodIn wsX0_solve wsX0_solveTwo := goodIn_r _ [13, 5, 6, 3, 7, 8, 9, 10, 14, 15, 16] (by decide +kernel) (by decide +kernel)
set_option maxRecDepth 20000 in
theorem gX0_solve_X0_solveTwo : GoodIn wsX0_solve (va_wsS RX0 22 yX0_solveTwo wsX0_solveTwo) := goodIn_app (goodIn_of _ (by decide +kernel)) ggX0_solve_X0_solveTwo
set_option maxRecDepth 20000 in
theorem ggX0_solve_X0_inverse : GoodIn wsX0_solve wsX0_inverse := goodIn_r _ [16, 8, 9, 3, 10] (by decide +kernel) (by decide +kernel)
set_option maxRecDepth 20000 in
theorem gX0_solve_X0_inverse : GoodIn wsX0_solve (va_wsS RX0 26 yX0_inverse wsX0_inverse) := goodIn_app (goodIn_of _ (by decide +kernel)) ggX0_solve_X0_inverse
set_option maxRecDepth 20000 in
theorem ggX0_solve_X0_times : GoodIn wsX0_solve wsX0_times := goodIn_r _ [10] (by decide +kernel) (by decide +kernel)
set_option maxRecDepth 20000 in
theorem gX0_solve_X0_times : GoodIn wsX0_solve (va_wsS RX0 9 yX0_times wsX0_times) := goodIn_app (goodIn_of _ (by decide +kernel)) ggX0_solve_X0_times
theorem dX0_solve_0 : decode cX0_solve 0 = .ok (.iconst 0, 1) := by decide +kernel
theorem dX0_solve_1 : decode cX0_solve 1 = .ok (.istore_n 2, 1) := by decide +kernel
theorem dX0_solve_2 : decode cX0_solve 2 = .ok (.iload_n 1, 1) := by decide +kernel
theorem dX0_solve_3 : decode cX0_solve 3 = .ok (.iconst 4, 1) := by decide +kernel
theorem dX0_solve_4 : decode cX0_solve 4 = .ok (.invokestatic 18, 3) := by decide +kernel
theorem dX0_solve_7 : decode cX0_solve 7 = .ok (.ifCond .eq 15, 3) := by decide +kernel
theorem dX0_solve_10 : decode cX0_solve 10 = .ok (.iconst 4, 1) := by decide +kernel
theorem dX0_solve_11 : decode cX0_solve 11 = .ok (.aload_n 0, 1) := by decide +kernel
theorem dX0_solve_12 : decode cX0_solve 12 = .ok (.arraylength, 1) := by decide +kernel
theorem dX0_solve_13 : decode cX0_solve 13 = .ok (.if_icmp .ge 9, 3) := by decide +kernel
theorem dX0_solve_16 : decode cX0_solve 16 = .ok (.aload_n 0, 1) := by decide +kernel
theorem dX0_solve_17 : decode cX0_solve 17 = .ok (.iconst 4, 1) := by decide +kernel
theorem dX0_solve_18 : decode cX0_solve 18 = .ok (.iaload, 1) := by decide +kernel
theorem dX0_solve_19 : decode cX0_solve 19 = .ok (.goto 4, 3) := by decide +kernel
theorem dX0_solve_22 : decode cX0_solve 22 = .ok (.iconst 0, 1) := by decide +kernel
theorem dX0_solve_23 : decode cX0_solve 23 = .ok (.istore_n 3, 1) := by decide +kernel
theorem dX0_solve_24 : decode cX0_solve 24 = .ok (.iload_n 1, 1) := by decide +kernel
theorem dX0_solve_25 : decode cX0_solve 25 = .ok (.iconst 5, 1) := by decide +kernel
theorem dX0_solve_26 : decode cX0_solve 26 = .ok (.invokestatic 18, 3) := by decide +kernel
theorem dX0_solve_29 : decode cX0_solve 29 = .ok (.ifCond .eq 15, 3) := by decide +kernel
theorem dX0_solve_32 : decode cX0_solve 32 = .ok (.iconst 5, 1) := by decide +kernel
theorem dX0_solve_33 : decode cX0_solve 33 = .ok (.aload_n 0, 1) := by decide +kernel
theorem dX0_solve_34 : decode cX0_solve 34 = .ok (.arraylength, 1) := by decide +kernel
theorem dX0_solve_35 : decode cX0_solve 35 = .ok (.if_icmp .ge 9, 3) := by decide +kernel
theorem dX0_solve_38 : decode cX0_solve 38 = .ok (.aload_n 0, 1) := by decide +kernel
theorem dX0_solve_39 : decode cX0_solve 39 = .ok (.iconst 5, 1) := by decide +kernel
theorem dX0_solve_40 : decode cX0_solve 40 = .ok (.iaload, 1) := by decide +kernel
theorem dX0_solve_41 : decode cX0_solve 41 = .ok (.goto 4, 3) := by decide +kernel
theorem dX0_solve_44 : decode cX0_solve 44 = .ok (.iconst 0, 1) := by decide +kernel
theorem dX0_solve_45 : decode cX0_solve 45 = .ok (.istore 4, 2) := by decide +kernel
theorem dX0_solve_47 : decode cX0_solve 47 = .ok (.iconst (-1), 1) := by decide +kernel
theorem dX0_solve_48 : decode cX0_solve 48 = .ok (.istore 5, 2) := by decide +kernel
theorem dX0_solve_50 : decode cX0_solve 50 = .ok (.iconst (-1), 1) := by decide +kernel
theorem dX0_solve_51 : decode cX0_solve 51 = .ok (.istore 6, 2) := by decide +kernel
theorem dX0_solve_53 : decode cX0_solve 53 = .ok (.iconst 0, 1) := by decide +kernel
theorem dX0_solve_54 : decode cX0_solve 54 = .ok (.istore 7, 2) := by decide +kernel
theorem dX0_solve_56 : decode cX0_solve 56 = .ok (.iload 7, 2) := by decide +kernel
theorem dX0_solve_58 : decode cX0_solve 58 = .ok (.iconst 4, 1) := by decide +kernel
theorem dX0_solve_59 : decode cX0_solve 59 = .ok (.if_icmp .ge 79, 3) := by decide +kernel
theorem dX0_solve_62 : decode cX0_solve 62 = .ok (.iload 7, 2) := by decide +kernel
theorem dX0_solve_64 : decode cX0_solve 64 = .ok (.aload_n 0, 1) := by decide +kernel
theorem dX0_solve_65 : decode cX0_solve 65 = .ok (.arraylength, 1) := by decide +kernel
theorem dX0_solve_66 : decode cX0_solve 66 = .ok (.if_icmp .ge 72, 3) := by decide +kernel
theorem dX0_solve_69 : decode cX0_solve 69 = .ok (.iload_n 1, 1) := by decide +kernel
theorem dX0_solve_70 : decode cX0_solve 70 = .ok (.iload 7, 2) := by decide +kernel
theorem dX0_solve_72 : decode cX0_solve 72 = .ok (.invokestatic 18, 3) := by decide +kernel
theorem dX0_solve_75 : decode cX0_solve 75 = .ok (.ifCond .eq 40, 3) := by decide +kernel
theorem dX0_solve_78 : decode cX0_solve 78 = .ok (.iload_n 2, 1) := by decide +kernel
theorem dX0_solve_79 : decode cX0_solve 79 = .ok (.aload_n 0, 1) := by decide +kernel
theorem dX0_solve_80 : decode cX0_solve 80 = .ok (.iload 7, 2) := by decide +kernel
theorem dX0_solve_82 : decode cX0_solve 82 = .ok (.iaload, 1) := by decide +kernel
theorem dX0_solve_83 : decode cX0_solve 83 = .ok (.bipush 8, 2) := by decide +kernel
theorem dX0_solve_85 : decode cX0_solve 85 = .ok (.iload 7, 2) := by decide +kernel
theorem dX0_solve_87 : decode cX0_solve 87 = .ok (.imul, 1) := by decide +kernel
theorem dX0_solve_88 : decode cX0_solve 88 = .ok (.ishl, 1) := by decide +kernel
theorem dX0_solve_89 : decode cX0_solve 89 = .ok (.ior, 1) := by decide +kernel
theorem dX0_solve_90 : decode cX0_solve 90 = .ok (.istore_n 2, 1) := by decide +kernel
theorem dX0_solve_91 : decode cX0_solve 91 = .ok (.iload_n 3, 1) := by decide +kernel
theorem dX0_solve_92 : decode cX0_solve 92 = .ok (.aload_n 0, 1) := by decide +kernel
theorem dX0_solve_93 : decode cX0_solve 93 = .ok (.iload 7, 2) := by decide +kernel
theorem dX0_solve_95 : decode cX0_solve 95 = .ok (.iaload, 1) := by decide +kernel
theorem dX0_solve_96 : decode cX0_solve 96 = .ok (.ixor, 1) := by decide +kernel
theorem dX0_solve_97 : decode cX0_solve 97 = .ok (.istore_n 3, 1) := by decide +kernel
theorem dX0_solve_98 : decode cX0_solve 98 = .ok (.iload 4, 2) := by decide +kernel
theorem dX0_solve_100 : decode cX0_solve 100 = .ok (.iload 7, 2) := by decide +kernel
theorem dX0_solve_102 : decode cX0_solve 102 = .ok (.aload_n 0, 1) := by decide +kernel
theorem dX0_solve_103 : decode cX0_solve 103 = .ok (.iload 7, 2) := by decide +kernel
theorem dX0_solve_105 : decode cX0_solve 105 = .ok (.iaload, 1) := by decide +kernel
theorem dX0_solve_106 : decode cX0_solve 106 = .ok (.invokestatic 15, 3) := by decide +kernel
theorem dX0_solve_109 : decode cX0_solve 109 = .ok (.ixor, 1) := by decide +kernel
theorem dX0_solve_110 : decode cX0_solve 110 = .ok (.istore 4, 2) := by decide +kernel
theorem dX0_solve_112 : decode cX0_solve 112 = .ok (.goto 20, 3) := by decide +kernel
theorem dX0_solve_115 : decode cX0_solve 115 = .ok (.iload 5, 2) := by decide +kernel
theorem dX0_solve_117 : decode cX0_solve 117 = .ok (.iconst (-1), 1) := by decide +kernel
theorem dX0_solve_118 : decode cX0_solve 118 = .ok (.if_icmp .ne 10, 3) := by decide +kernel
theorem dX0_solve_121 : decode cX0_solve 121 = .ok (.iload 7, 2) := by decide +kernel
theorem dX0_solve_123 : decode cX0_solve 123 = .ok (.istore 5, 2) := by decide +kernel
theorem dX0_solve_125 : decode cX0_solve 125 = .ok (.goto 7, 3) := by decide +kernel
theorem dX0_solve_128 : decode cX0_solve 128 = .ok (.iload 7, 2) := by decide +kernel
theorem dX0_solve_130 : decode cX0_solve 130 = .ok (.istore 6, 2) := by decide +kernel
theorem dX0_solve_132 : decode cX0_solve 132 = .ok (.iinc 7 1, 3) := by decide +kernel
theorem dX0_solve_135 : decode cX0_solve 135 = .ok (.goto (-79), 3) := by decide +kernel
theorem dX0_solve_138 : decode cX0_solve 138 = .ok (.iload 5, 2) := by decide +kernel
theorem dX0_solve_140 : decode cX0_solve 140 = .ok (.iconst (-1), 1) := by decide +kernel
theorem dX0_solve_141 : decode cX0_solve 141 = .ok (.if_icmp .ne 5, 3) := by decide +kernel
theorem dX0_solve_144 : decode cX0_solve 144 = .ok (.iload_n 2, 1) := by decide +kernel
theorem dX0_solve_145 : decode cX0_solve 145 = .ok (.ireturn, 1) := by decide +kernel
theorem dX0_solve_146 : decode cX0_solve 146 = .ok (.iload 6, 2) := by decide +kernel
theorem dX0_solve_148 : decode cX0_solve 148 = .ok (.iconst (-1), 1) := by decide +kernel
theorem dX0_solve_149 : decode cX0_solve 149 = .ok (.if_icmp .eq 16, 3) := by decide +kernel
theorem dX0_solve_152 : decode cX0_solve 152 = .ok (.iload_n 2, 1) := by decide +kernel
theorem dX0_solve_153 : decode cX0_solve 153 = .ok (.iload 5, 2) := by decide +kernel
theorem dX0_solve_155 : decode cX0_solve 155 = .ok (.iload 6, 2) := by decide +kernel
theorem dX0_solve_157 : decode cX0_solve 157 = .ok (.iload_n 3, 1) := by decide +kernel
theorem dX0_solve_158 : decode cX0_solve 158 = .ok (.iload 4, 2) := by decide +kernel
theorem dX0_solve_160 : decode cX0_solve 160 = .ok (.invokestatic 22, 3) := by decide +kernel
theorem dX0_solve_163 : decode cX0_solve 163 = .ok (.ior, 1) := by decide +kernel
theorem dX0_solve_164 : decode cX0_solve 164 = .ok (.ireturn, 1) := by decide +kernel
theorem dX0_solve_165 : decode cX0_solve 165 = .ok (.iload_n 1, 1) := by decide +kernel
theorem dX0_solve_166 : decode cX0_solve 166 = .ok (.iconst 4, 1) := by decide +kernel
theorem dX0_solve_167 : decode cX0_solve 167 = .ok (.invokestatic 18, 3) := by decide +kernel
theorem dX0_solve_170 : decode cX0_solve 170 = .ok (.ifCond .eq 7, 3) := by decide +kernel
theorem dX0_solve_173 : decode cX0_solve 173 = .ok (.iload_n 3, 1) := by decide +kernel
theorem dX0_solve_174 : decode cX0_solve 174 = .ok (.goto 15, 3) := by decide +kernel
theorem dX0_solve_177 : decode cX0_solve 177 = .ok (.iload 4, 2) := by decide +kernel
theorem dX0_solve_179 : decode cX0_solve 179 = .ok (.iconst 1, 1) := by decide +kernel
theorem dX0_solve_180 : decode cX0_solve 180 = .ok (.iload 5, 2) := by decide +kernel
theorem dX0_solve_182 : decode cX0_solve 182 = .ok (.ishl, 1) := by decide +kernel
theorem dX0_solve_183 : decode cX0_solve 183 = .ok (.invokestatic 26, 3) := by decide +kernel
theorem dX0_solve_186 : decode cX0_solve 186 = .ok (.invokestatic 9, 3) := by decide +kernel
theorem dX0_solve_189 : decode cX0_solve 189 = .ok (.istore 7, 2) := by decide +kernel
theorem dX0_solve_191 : decode cX0_solve 191 = .ok (.iload_n 2, 1) := by decide +kernel
theorem dX0_solve_192 : decode cX0_solve 192 = .ok (.iload 7, 2) := by decide +kernel
theorem dX0_solve_194 : decode cX0_solve 194 = .ok (.bipush 8, 2) := by decide +kernel
theorem dX0_solve_196 : decode cX0_solve 196 = .ok (.iload 5, 2) := by decide +kernel
theorem dX0_solve_198 : decode cX0_solve 198 = .ok (.imul, 1) := by decide +kernel
theorem dX0_solve_199 : decode cX0_solve 199 = .ok (.ishl, 1) := by decide +kernel
theorem dX0_solve_200 : decode cX0_solve 200 = .ok (.ior, 1) := by decide +kernel
theorem dX0_solve_201 : decode cX0_solve 201 = .ok (.ireturn, 1) := by decide +kernel
set_option maxRecDepth 20000 in
theorem ggX0_solveTwo_X0_weighted : GoodIn wsX0_solveTwo wsX0_weighted := goodIn_r _ [4, 5, 6, 3, 7] (by decide +kernel) (by decide +kernel)
set_option maxRecDepth 20000 in
theorem gX0_solveTwo_X0_weighted : GoodIn wsX0_solveTwo (va_wsS RX0 15 yX0_weighted wsX0_weighted) := goodIn_app (goodIn_of _ (by decide +kernel)) ggX0_solveTwo_X0_weighted
set_option maxRecDepth 20000 in
theorem ggX0_solveTwo_X0_inverse : GoodIn wsX0_solveTwo wsX0_inverse := goodIn_r _ [10, 5, 6, 3, 7] (by decide +kernel) (by decide +kernel)
set_option maxRecDepth 20000 in
theorem gX0_solveTwo_X0_inverse : GoodIn wsX0_solveTwo (va_wsS RX0 26 yX0_inverse wsX0_inverse) := goodIn_app (goodIn_of _ (by decide +kernel)) ggX0_solveTwo_X0_inverse
set_option maxRecDepth 20000 in
theorem ggX0_solveTwo_X0_times : GoodIn wsX0_solveTwo wsX0_times := goodIn_r _ [7] (by decide +kernel) (by decide +kernel)
set_option maxRecDepth 20000 in
theorem gX0_solveTwo_X0_times : GoodIn wsX0_solveTwo (va_wsS RX0 9 yX0_times wsX0_times) := goodIn_app (goodIn_of _ (by decide +kernel)) ggX0_solveTwo_X0_times
theorem dX0_solveTwo_0 : decode cX0_solveTwo 0 = .ok (.iload_n 3, 1) := by decide +kernel
theorem dX0_solveTwo_1 : decode cX0_solveTwo 1 = .ok (.iload_n 0, 1) := by decide +kernel
theorem dX0_solveTwo_2 : decode cX0_solveTwo 2 = .ok (.iload_n 2, 1) := by decide +kernel
theorem dX0_solveTwo_3 : decode cX0_solveTwo 3 = .ok (.invokestatic 15, 3) := by decide +kernel
theorem dX0_solveTwo_6 : decode cX0_solveTwo 6 = .ok (.ixor, 1) := by decide +kernel
theorem dX0_solveTwo_7 : decode cX0_solveTwo 7 = .ok (.istore 4, 2) := by decide +kernel
theorem dX0_solveTwo_9 : decode cX0_solveTwo 9 = .ok (.iload 4, 2) := by decide +kernel
theorem dX0_solveTwo_11 : decode cX0_solveTwo 11 = .ok (.iconst 1, 1) := by decide +kernel
theorem dX0_solveTwo_12 : decode cX0_solveTwo 12 = .ok (.iload_n 0, 1) := by decide +kernel
theorem dX0_solveTwo_13 : decode cX0_solveTwo 13 = .ok (.ishl, 1) := by decide +kernel
theorem dX0_solveTwo_14 : decode cX0_solveTwo 14 = .ok (.iconst 1, 1) := by decide +kernel
theorem dX0_solveTwo_15 : decode cX0_solveTwo 15 = .ok (.iload_n 1, 1) := by decide +kernel
theorem dX0_solveTwo_16 : decode cX0_solveTwo 16 = .ok (.ishl, 1) := by decide +kernel
theorem dX0_solveTwo_17 : decode cX0_solveTwo 17 = .ok (.ixor, 1) := by decide +kernel
theorem dX0_solveTwo_18 : decode cX0_solveTwo 18 = .ok (.invokestatic 26, 3) := by decide +kernel
theorem dX0_solveTwo_21 : decode cX0_solveTwo 21 = .ok (.invokestatic 9, 3) := by decide +kernel
theorem dX0_solveTwo_24 : decode cX0_solveTwo 24 = .ok (.istore 5, 2) := by decide +kernel
theorem dX0_solveTwo_26 : decode cX0_solveTwo 26 = .ok (.iload_n 2, 1) := by decide +kernel
theorem dX0_solveTwo_27 : decode cX0_solveTwo 27 = .ok (.iload 5, 2) := by decide +kernel
theorem dX0_solveTwo_29 : decode cX0_solveTwo 29 = .ok (.ixor, 1) := by decide +kernel
theorem dX0_solveTwo_30 : decode cX0_solveTwo 30 = .ok (.istore 6, 2) := by decide +kernel
theorem dX0_solveTwo_32 : decode cX0_solveTwo 32 = .ok (.iload 6, 2) := by decide +kernel
theorem dX0_solveTwo_34 : decode cX0_solveTwo 34 = .ok (.bipush 8, 2) := by decide +kernel
theorem dX0_solveTwo_36 : decode cX0_solveTwo 36 = .ok (.iload_n 0, 1) := by decide +kernel
theorem dX0_solveTwo_37 : decode cX0_solveTwo 37 = .ok (.imul, 1) := by decide +kernel
theorem dX0_solveTwo_38 : decode cX0_solveTwo 38 = .ok (.ishl, 1) := by decide +kernel
theorem dX0_solveTwo_39 : decode cX0_solveTwo 39 = .ok (.iload 5, 2) := by decide +kernel
theorem dX0_solveTwo_41 : decode cX0_solveTwo 41 = .ok (.bipush 8, 2) := by decide +kernel
theorem dX0_solveTwo_43 : decode cX0_solveTwo 43 = .ok (.iload_n 1, 1) := by decide +kernel
theorem dX0_solveTwo_44 : decode cX0_solveTwo 44 = .ok (.imul, 1) := by decide +kernel
theorem dX0_solveTwo_45 : decode cX0_solveTwo 45 = .ok (.ishl, 1) := by decide +kernel
theorem dX0_solveTwo_46 : decode cX0_solveTwo 46 = .ok (.ior, 1) := by decide +kernel
theorem dX0_solveTwo_47 : decode cX0_solveTwo 47 = .ok (.ireturn, 1) := by decide +kernel
theorem dX1_init_0 : decode cX1_init 0 = .ok (.aload_n 0, 1) := by decide +kernel
theorem dX1_init_1 : decode cX1_init 1 = .ok (.invokespecial 3, 3) := by decide +kernel
theorem dX1_init_4 : decode cX1_init 4 = .ok (.aload_n 0, 1) := by decide +kernel
theorem dX1_init_5 : decode cX1_init 5 = .ok (.aload_n 1, 1) := by decide +kernel
theorem dX1_init_6 : decode cX1_init 6 = .ok (.putfield 9, 3) := by decide +kernel
theorem dX1_init_9 : decode cX1_init 9 = .ok (.aload_n 0, 1) := by decide +kernel
theorem dX1_init_10 : decode cX1_init 10 = .ok (.aload_n 2, 1) := by decide +kernel
theorem dX1_init_11 : decode cX1_init 11 = .ok (.putfield 15, 3) := by decide +kernel
theorem dX1_init_14 : decode cX1_init 14 = .ok (.aload_n 0, 1) := by decide +kernel
theorem dX1_init_15 : decode cX1_init 15 = .ok (.aload_n 3, 1) := by decide +kernel
theorem dX1_init_16 : decode cX1_init 16 = .ok (.putfield 19, 3) := by decide +kernel
theorem dX1_init_19 : decode cX1_init 19 = .ok (.return_, 1) := by decide +kernel
set_option maxRecDepth 20000 in
theorem ggX1_storeMissing_X8_isHeld : GoodIn wsX1_storeMissing wsX8_isHeld := goodIn_r _ [7, 8, 9, 10, 6, 11, 135, 136, 137, 138, 139, 140] (by decide +kernel) (by decide +kernel)
set_option maxRecDepth 20000 in
theorem gX1_storeMissing_X8_isHeld : GoodIn wsX1_storeMissing (wsV RX1 23 RX8 yX8_isHeld wsX8_isHeld) := goodIn_app (goodIn_of _ (by decide +kernel)) ggX1_storeMissing_X8_isHeld
set_option maxRecDepth 20000 in
theorem ggX1_storeMissing_X8_owner : GoodIn wsX1_storeMissing wsX8_owner := goodIn_r _ [15, 16, 135, 136, 137, 138, 139, 140] (by decide +kernel) (by decide +kernel)
set_option maxRecDepth 20000 in
theorem gX1_storeMissing_X8_owner : GoodIn wsX1_storeMissing (wsV RX1 29 RX8 yX8_owner wsX8_owner) := goodIn_app (goodIn_of _ (by decide +kernel)) ggX1_storeMissing_X8_owner
set_option maxRecDepth 20000 in
theorem ggX1_storeMissing_X8_key : GoodIn wsX1_storeMissing wsX8_key := goodIn_r _ [20, 21, 22, 23, 24, 25, 26, 27, 135, 136, 137, 138, 139, 140, 141] (by decide +kernel) (by decide +kernel)
set_option maxRecDepth 20000 in
theorem gX1_storeMissing_X8_key : GoodIn wsX1_storeMissing (wsV RX1 33 RX8 yX8_key wsX8_key) := goodIn_app (goodIn_of _ (by decide +kernel)) ggX1_storeMissing_X8_key
set_option maxRecDepth 20000 in
theorem ggX1_storeMissing_X7_run : GoodIn wsX1_storeMissing wsX7_run := goodIn_r _ [32, 33, 34, 35, 36, 37, 38, 31, 39, 40, 41, 42, 43, 44, 45, 46, 47, 48, 49, 50, 51, 52, 53, 54, 55, 56, 57, 58, 59, 60, 61, 62, 63, 64, 65, 66, 67, 68, 69, 70, 71, 72, 73, 74, 75, 76, 77, 78, 79, 80, 81, 82, 83, 84, 85, 86, 87, 88, 89, 90, 91, 92, 93, 94, 95, 96, 97, 98, 99, 100, 101, 102, 103, 104, 105, 106, 107, 142, 143, 144, 145, 146, 147, 148, 149, 150, 151, 152, 153, 154, 155, 156] (by decide +kernel) (by decide +kernel)
set_option maxRecDepth 20000 in
theorem gX1_storeMissing_X7_run : GoodIn wsX1_storeMissing (wsV RX1 37 RX7 yX7_run wsX7_run) := goodIn_app (goodIn_of _ (by decide +kernel)) ggX1_storeMissing_X7_run
set_option maxRecDepth 20000 in
theorem ggX1_storeMissing_X1_firstFree : GoodIn wsX1_storeMissing wsX1_firstFree := goodIn_r _ [112, 1, 113, 114, 115, 31, 116, 40, 117, 71, 72, 47, 73, 49, 69, 12, 13, 14, 6, 15, 16, 118, 119, 120, 121, 8, 132, 133, 134, 142, 143, 144, 145, 146, 147, 148, 149, 150, 151, 135, 136, 137, 138, 139, 140] (by decide +kernel) (by decide +kernel)
set_option maxRecDepth 20000 in
theorem gX1_storeMissing_X1_firstFree : GoodIn wsX1_storeMissing (wsV RX1 43 RX1 yX1_firstFree wsX1_firstFree) := goodIn_app (goodIn_of _ (by decide +kernel)) ggX1_storeMissing_X1_firstFree
set_option maxRecDepth 20000 in
theorem ggX1_storeMissing_X5_isHonest : GoodIn wsX1_storeMissing wsX5_isHonest := goodIn_r _ [125, 56, 59, 60, 61, 53, 62, 63, 152, 153, 154, 155, 156] (by decide +kernel) (by decide +kernel)
set_option maxRecDepth 20000 in
theorem gX1_storeMissing_X5_isHonest : GoodIn wsX1_storeMissing (wsV RX1 47 RX5 yX5_isHonest wsX5_isHonest) := goodIn_app (goodIn_of _ (by decide +kernel)) ggX1_storeMissing_X5_isHonest
set_option maxRecDepth 20000 in
theorem ggX1_storeMissing_X8_hand : GoodIn wsX1_storeMissing wsX8_hand := goodIn_r _ [129, 8, 130, 131, 9, 10, 6, 11, 135, 136, 137, 138, 139, 140] (by decide +kernel) (by decide +kernel)
set_option maxRecDepth 20000 in
theorem gX1_storeMissing_X8_hand : GoodIn wsX1_storeMissing (wsV RX1 52 RX8 yX8_hand wsX8_hand) := goodIn_app (goodIn_of _ (by decide +kernel)) ggX1_storeMissing_X8_hand
theorem dX1_storeMissing_0 : decode cX1_storeMissing 0 = .ok (.iconst 0, 1) := by decide +kernel
theorem dX1_storeMissing_1 : decode cX1_storeMissing 1 = .ok (.istore_n 2, 1) := by decide +kernel
theorem dX1_storeMissing_2 : decode cX1_storeMissing 2 = .ok (.iload_n 2, 1) := by decide +kernel
theorem dX1_storeMissing_3 : decode cX1_storeMissing 3 = .ok (.bipush 6, 2) := by decide +kernel
theorem dX1_storeMissing_5 : decode cX1_storeMissing 5 = .ok (.if_icmp .ge 54, 3) := by decide +kernel
theorem dX1_storeMissing_8 : decode cX1_storeMissing 8 = .ok (.aload_n 1, 1) := by decide +kernel
theorem dX1_storeMissing_9 : decode cX1_storeMissing 9 = .ok (.iload_n 2, 1) := by decide +kernel
theorem dX1_storeMissing_10 : decode cX1_storeMissing 10 = .ok (.invokevirtual 23, 3) := by decide +kernel
theorem dX1_storeMissing_13 : decode cX1_storeMissing 13 = .ok (.ifCond .ne 40, 3) := by decide +kernel
theorem dX1_storeMissing_16 : decode cX1_storeMissing 16 = .ok (.aload_n 0, 1) := by decide +kernel
theorem dX1_storeMissing_17 : decode cX1_storeMissing 17 = .ok (.getfield 15, 3) := by decide +kernel
theorem dX1_storeMissing_20 : decode cX1_storeMissing 20 = .ok (.aload_n 1, 1) := by decide +kernel
theorem dX1_storeMissing_21 : decode cX1_storeMissing 21 = .ok (.invokevirtual 29, 3) := by decide +kernel
theorem dX1_storeMissing_24 : decode cX1_storeMissing 24 = .ok (.aload_n 1, 1) := by decide +kernel
theorem dX1_storeMissing_25 : decode cX1_storeMissing 25 = .ok (.iload_n 2, 1) := by decide +kernel
theorem dX1_storeMissing_26 : decode cX1_storeMissing 26 = .ok (.invokevirtual 33, 3) := by decide +kernel
theorem dX1_storeMissing_29 : decode cX1_storeMissing 29 = .ok (.iconst 2, 1) := by decide +kernel
theorem dX1_storeMissing_30 : decode cX1_storeMissing 30 = .ok (.invokevirtual 37, 3) := by decide +kernel
theorem dX1_storeMissing_33 : decode cX1_storeMissing 33 = .ok (.aload_n 0, 1) := by decide +kernel
theorem dX1_storeMissing_34 : decode cX1_storeMissing 34 = .ok (.aload_n 1, 1) := by decide +kernel
theorem dX1_storeMissing_35 : decode cX1_storeMissing 35 = .ok (.invokevirtual 43, 3) := by decide +kernel
theorem dX1_storeMissing_38 : decode cX1_storeMissing 38 = .ok (.istore_n 3, 1) := by decide +kernel
theorem dX1_storeMissing_39 : decode cX1_storeMissing 39 = .ok (.aload_n 1, 1) := by decide +kernel
theorem dX1_storeMissing_40 : decode cX1_storeMissing 40 = .ok (.iload_n 2, 1) := by decide +kernel
theorem dX1_storeMissing_41 : decode cX1_storeMissing 41 = .ok (.iload_n 3, 1) := by decide +kernel
theorem dX1_storeMissing_42 : decode cX1_storeMissing 42 = .ok (.aload_n 0, 1) := by decide +kernel
theorem dX1_storeMissing_43 : decode cX1_storeMissing 43 = .ok (.getfield 9, 3) := by decide +kernel
theorem dX1_storeMissing_46 : decode cX1_storeMissing 46 = .ok (.iload_n 3, 1) := by decide +kernel
theorem dX1_storeMissing_47 : decode cX1_storeMissing 47 = .ok (.invokevirtual 47, 3) := by decide +kernel
theorem dX1_storeMissing_50 : decode cX1_storeMissing 50 = .ok (.invokevirtual 52, 3) := by decide +kernel
theorem dX1_storeMissing_53 : decode cX1_storeMissing 53 = .ok (.iinc 2 1, 3) := by decide +kernel
theorem dX1_storeMissing_56 : decode cX1_storeMissing 56 = .ok (.goto (-54), 3) := by decide +kernel
theorem dX1_storeMissing_59 : decode cX1_storeMissing 59 = .ok (.return_, 1) := by decide +kernel
set_option maxRecDepth 20000 in
theorem ggX1_firstFree_X7_result : GoodIn wsX1_firstFree wsX7_result := goodIn_r _ [6, 7, 29, 30, 31, 32, 33, 34, 35] (by decide +kernel) (by decide +kernel)
set_option maxRecDepth 20000 in
theorem gX1_firstFree_X7_result : GoodIn wsX1_firstFree (wsV RX1 56 RX7 yX7_result wsX7_result) := goodIn_app (goodIn_of _ (by decide +kernel)) ggX1_firstFree_X7_result
set_option maxRecDepth 20000 in
theorem ggX1_firstFree_X6_at : GoodIn wsX1_firstFree wsX6_at := goodIn_r _ [12, 13, 14, 36, 37, 38] (by decide +kernel) (by decide +kernel)
set_option maxRecDepth 20000 in
theorem gX1_firstFree_X6_at : GoodIn wsX1_firstFree (wsV RX1 60 RX6 yX6_at wsX6_at) := goodIn_app (goodIn_of _ (by decide +kernel)) ggX1_firstFree_X6_at
set_option maxRecDepth 20000 in
theorem ggX1_firstFree_X8_owner : GoodIn wsX1_firstFree wsX8_owner := goodIn_r _ [19, 20, 39, 40, 41, 42, 43, 44] (by decide +kernel) (by decide +kernel)
set_option maxRecDepth 20000 in
theorem gX1_firstFree_X8_owner : GoodIn wsX1_firstFree (wsV RX1 29 RX8 yX8_owner wsX8_owner) := goodIn_app (goodIn_of _ (by decide +kernel)) ggX1_firstFree_X8_owner
set_option maxRecDepth 20000 in
theorem ggX1_firstFree_X8_isHeldBy : GoodIn wsX1_firstFree wsX8_isHeldBy := goodIn_r _ [24, 25, 39, 40, 41, 42, 43, 44] (by decide +kernel) (by decide +kernel)
set_option maxRecDepth 20000 in
theorem gX1_firstFree_X8_isHeldBy : GoodIn wsX1_firstFree (wsV RX1 65 RX8 yX8_isHeldBy wsX8_isHeldBy) := goodIn_app (goodIn_of _ (by decide +kernel)) ggX1_firstFree_X8_isHeldBy
theorem dX1_firstFree_0 : decode cX1_firstFree 0 = .ok (.iconst 0, 1) := by decide +kernel
theorem dX1_firstFree_1 : decode cX1_firstFree 1 = .ok (.istore_n 2, 1) := by decide +kernel
theorem dX1_firstFree_2 : decode cX1_firstFree 2 = .ok (.iload_n 2, 1) := by decide +kernel
theorem dX1_firstFree_3 : decode cX1_firstFree 3 = .ok (.iconst 3, 1) := by decide +kernel
theorem dX1_firstFree_4 : decode cX1_firstFree 4 = .ok (.if_icmp .ge 44, 3) := by decide +kernel
theorem dX1_firstFree_7 : decode cX1_firstFree 7 = .ok (.aload_n 0, 1) := by decide +kernel
theorem dX1_firstFree_8 : decode cX1_firstFree 8 = .ok (.getfield 15, 3) := by decide +kernel
theorem dX1_firstFree_11 : decode cX1_firstFree 11 = .ok (.invokevirtual 56, 3) := by decide +kernel
theorem dX1_firstFree_14 : decode cX1_firstFree 14 = .ok (.iload_n 2, 1) := by decide +kernel
theorem dX1_firstFree_15 : decode cX1_firstFree 15 = .ok (.invokevirtual 60, 3) := by decide +kernel
theorem dX1_firstFree_18 : decode cX1_firstFree 18 = .ok (.istore_n 3, 1) := by decide +kernel
theorem dX1_firstFree_19 : decode cX1_firstFree 19 = .ok (.iload_n 3, 1) := by decide +kernel
theorem dX1_firstFree_20 : decode cX1_firstFree 20 = .ok (.iconst (-1), 1) := by decide +kernel
theorem dX1_firstFree_21 : decode cX1_firstFree 21 = .ok (.if_icmp .eq 21, 3) := by decide +kernel
theorem dX1_firstFree_24 : decode cX1_firstFree 24 = .ok (.iload_n 3, 1) := by decide +kernel
theorem dX1_firstFree_25 : decode cX1_firstFree 25 = .ok (.aload_n 1, 1) := by decide +kernel
theorem dX1_firstFree_26 : decode cX1_firstFree 26 = .ok (.invokevirtual 29, 3) := by decide +kernel
theorem dX1_firstFree_29 : decode cX1_firstFree 29 = .ok (.if_icmp .eq 13, 3) := by decide +kernel
theorem dX1_firstFree_32 : decode cX1_firstFree 32 = .ok (.aload_n 1, 1) := by decide +kernel
theorem dX1_firstFree_33 : decode cX1_firstFree 33 = .ok (.iload_n 3, 1) := by decide +kernel
theorem dX1_firstFree_34 : decode cX1_firstFree 34 = .ok (.invokevirtual 65, 3) := by decide +kernel
theorem dX1_firstFree_37 : decode cX1_firstFree 37 = .ok (.ifCond .ne 5, 3) := by decide +kernel
theorem dX1_firstFree_40 : decode cX1_firstFree 40 = .ok (.iload_n 3, 1) := by decide +kernel
theorem dX1_firstFree_41 : decode cX1_firstFree 41 = .ok (.ireturn, 1) := by decide +kernel
theorem dX1_firstFree_42 : decode cX1_firstFree 42 = .ok (.iinc 2 1, 3) := by decide +kernel
theorem dX1_firstFree_45 : decode cX1_firstFree 45 = .ok (.goto (-43), 3) := by decide +kernel
theorem dX1_firstFree_48 : decode cX1_firstFree 48 = .ok (.iconst (-1), 1) := by decide +kernel
theorem dX1_firstFree_49 : decode cX1_firstFree 49 = .ok (.ireturn, 1) := by decide +kernel
set_option maxRecDepth 20000 in
theorem ggX1_isAtHand_X8_isKept : GoodIn wsX1_isAtHand wsX8_isKept := goodIn_r _ [6, 7, 8, 9, 5, 10, 30, 31, 32, 33, 34, 35] (by decide +kernel) (by decide +kernel)
set_option maxRecDepth 20000 in
theorem gX1_isAtHand_X8_isKept : GoodIn wsX1_isAtHand (wsV RX1 68 RX8 yX8_isKept wsX8_isKept) := goodIn_app (goodIn_of _ (by decide +kernel)) ggX1_isAtHand_X8_isKept
set_option maxRecDepth 20000 in
theorem ggX1_isAtHand_X8_holder : GoodIn wsX1_isAtHand wsX8_holder := goodIn_r _ [14, 15, 8, 9, 5, 10, 30, 31, 32, 33, 34, 35] (by decide +kernel) (by decide +kernel)
set_option maxRecDepth 20000 in
theorem gX1_isAtHand_X8_holder : GoodIn wsX1_isAtHand (wsV RX1 71 RX8 yX8_holder wsX8_holder) := goodIn_app (goodIn_of _ (by decide +kernel)) ggX1_isAtHand_X8_holder
set_option maxRecDepth 20000 in
theorem ggX1_isAtHand_X5_isOnline : GoodIn wsX1_isAtHand wsX5_isOnline := goodIn_r _ [20, 21, 22, 23, 24, 19, 25, 26, 36, 37, 38, 39, 40] (by decide +kernel) (by decide +kernel)
set_option maxRecDepth 20000 in
theorem gX1_isAtHand_X5_isOnline : GoodIn wsX1_isAtHand (wsV RX1 74 RX5 yX5_isOnline wsX5_isOnline) := goodIn_app (goodIn_of _ (by decide +kernel)) ggX1_isAtHand_X5_isOnline
theorem dX1_isAtHand_0 : decode cX1_isAtHand 0 = .ok (.aload_n 1, 1) := by decide +kernel
theorem dX1_isAtHand_1 : decode cX1_isAtHand 1 = .ok (.iload_n 2, 1) := by decide +kernel
theorem dX1_isAtHand_2 : decode cX1_isAtHand 2 = .ok (.invokevirtual 68, 3) := by decide +kernel
theorem dX1_isAtHand_5 : decode cX1_isAtHand 5 = .ok (.ifCond .eq 22, 3) := by decide +kernel
theorem dX1_isAtHand_8 : decode cX1_isAtHand 8 = .ok (.aload_n 0, 1) := by decide +kernel
theorem dX1_isAtHand_9 : decode cX1_isAtHand 9 = .ok (.getfield 9, 3) := by decide +kernel
theorem dX1_isAtHand_12 : decode cX1_isAtHand 12 = .ok (.aload_n 1, 1) := by decide +kernel
theorem dX1_isAtHand_13 : decode cX1_isAtHand 13 = .ok (.iload_n 2, 1) := by decide +kernel
theorem dX1_isAtHand_14 : decode cX1_isAtHand 14 = .ok (.invokevirtual 71, 3) := by decide +kernel
theorem dX1_isAtHand_17 : decode cX1_isAtHand 17 = .ok (.invokevirtual 74, 3) := by decide +kernel
theorem dX1_isAtHand_20 : decode cX1_isAtHand 20 = .ok (.ifCond .eq 7, 3) := by decide +kernel
theorem dX1_isAtHand_23 : decode cX1_isAtHand 23 = .ok (.iconst 1, 1) := by decide +kernel
theorem dX1_isAtHand_24 : decode cX1_isAtHand 24 = .ok (.goto 4, 3) := by decide +kernel
theorem dX1_isAtHand_27 : decode cX1_isAtHand 27 = .ok (.iconst 0, 1) := by decide +kernel
theorem dX1_isAtHand_28 : decode cX1_isAtHand 28 = .ok (.ireturn, 1) := by decide +kernel
set_option maxRecDepth 20000 in
theorem ggX1_challenge_X8_owner : GoodIn wsX1_challenge wsX8_owner := goodIn_r _ [6, 7, 71, 72, 73, 74, 75, 76] (by decide +kernel) (by decide +kernel)
set_option maxRecDepth 20000 in
theorem gX1_challenge_X8_owner : GoodIn wsX1_challenge (wsV RX1 29 RX8 yX8_owner wsX8_owner) := goodIn_app (goodIn_of _ (by decide +kernel)) ggX1_challenge_X8_owner
set_option maxRecDepth 20000 in
theorem ggX1_challenge_X5_isOnline : GoodIn wsX1_challenge wsX5_isOnline := goodIn_r _ [12, 13, 14, 15, 16, 11, 17, 18, 77, 78, 79, 80, 81] (by decide +kernel) (by decide +kernel)
set_option maxRecDepth 20000 in
theorem gX1_challenge_X5_isOnline : GoodIn wsX1_challenge (wsV RX1 74 RX5 yX5_isOnline wsX5_isOnline) := goodIn_app (goodIn_of _ (by decide +kernel)) ggX1_challenge_X5_isOnline
set_option maxRecDepth 20000 in
theorem ggX1_challenge_X8_isHeld : GoodIn wsX1_challenge wsX8_isHeld := goodIn_r _ [22, 23, 24, 25, 5, 26, 71, 72, 73, 74, 75, 76] (by decide +kernel) (by decide +kernel)
set_option maxRecDepth 20000 in
theorem gX1_challenge_X8_isHeld : GoodIn wsX1_challenge (wsV RX1 23 RX8 yX8_isHeld wsX8_isHeld) := goodIn_app (goodIn_of _ (by decide +kernel)) ggX1_challenge_X8_isHeld
set_option maxRecDepth 20000 in
theorem ggX1_challenge_X1_challengePiece : GoodIn wsX1_challenge wsX1_challengePiece := goodIn_r _ [31, 32, 33, 34, 35, 5, 36, 23, 24, 25, 26, 37, 38, 39, 30, 40, 1, 41, 42, 43, 44, 45, 8, 9, 10, 11, 12, 13, 14, 15, 16, 17, 18, 2, 3, 4, 6, 7, 46, 47, 48, 49, 50, 51, 52, 53, 54, 55, 56, 57, 58, 59, 60, 61, 62, 63, 64, 65, 66, 67, 68, 69, 70, 71, 72, 73, 74, 75, 76, 77, 78, 79, 80, 81, 82] (by decide +kernel) (by decide +kernel)
set_option maxRecDepth 20000 in
theorem gX1_challenge_X1_challengePiece : GoodIn wsX1_challenge (wsV RX1 77 RX1 yX1_challengePiece wsX1_challengePiece) := goodIn_app (goodIn_of _ (by decide +kernel)) ggX1_challenge_X1_challengePiece
theorem dX1_challenge_0 : decode cX1_challenge 0 = .ok (.aload_n 0, 1) := by decide +kernel
theorem dX1_challenge_1 : decode cX1_challenge 1 = .ok (.getfield 9, 3) := by decide +kernel
theorem dX1_challenge_4 : decode cX1_challenge 4 = .ok (.aload_n 1, 1) := by decide +kernel
theorem dX1_challenge_5 : decode cX1_challenge 5 = .ok (.invokevirtual 29, 3) := by decide +kernel
theorem dX1_challenge_8 : decode cX1_challenge 8 = .ok (.invokevirtual 74, 3) := by decide +kernel
theorem dX1_challenge_11 : decode cX1_challenge 11 = .ok (.ifCond .ne 4, 3) := by decide +kernel
theorem dX1_challenge_14 : decode cX1_challenge 14 = .ok (.return_, 1) := by decide +kernel
theorem dX1_challenge_15 : decode cX1_challenge 15 = .ok (.iconst 0, 1) := by decide +kernel
theorem dX1_challenge_16 : decode cX1_challenge 16 = .ok (.istore_n 2, 1) := by decide +kernel
theorem dX1_challenge_17 : decode cX1_challenge 17 = .ok (.iload_n 2, 1) := by decide +kernel
theorem dX1_challenge_18 : decode cX1_challenge 18 = .ok (.bipush 6, 2) := by decide +kernel
theorem dX1_challenge_20 : decode cX1_challenge 20 = .ok (.if_icmp .ge 23, 3) := by decide +kernel
theorem dX1_challenge_23 : decode cX1_challenge 23 = .ok (.aload_n 1, 1) := by decide +kernel
theorem dX1_challenge_24 : decode cX1_challenge 24 = .ok (.iload_n 2, 1) := by decide +kernel
theorem dX1_challenge_25 : decode cX1_challenge 25 = .ok (.invokevirtual 23, 3) := by decide +kernel
theorem dX1_challenge_28 : decode cX1_challenge 28 = .ok (.ifCond .eq 9, 3) := by decide +kernel
theorem dX1_challenge_31 : decode cX1_challenge 31 = .ok (.aload_n 0, 1) := by decide +kernel
theorem dX1_challenge_32 : decode cX1_challenge 32 = .ok (.aload_n 1, 1) := by decide +kernel
theorem dX1_challenge_33 : decode cX1_challenge 33 = .ok (.iload_n 2, 1) := by decide +kernel
theorem dX1_challenge_34 : decode cX1_challenge 34 = .ok (.invokevirtual 77, 3) := by decide +kernel
theorem dX1_challenge_37 : decode cX1_challenge 37 = .ok (.iinc 2 1, 3) := by decide +kernel
theorem dX1_challenge_40 : decode cX1_challenge 40 = .ok (.goto (-23), 3) := by decide +kernel
theorem dX1_challenge_43 : decode cX1_challenge 43 = .ok (.return_, 1) := by decide +kernel
set_option maxRecDepth 20000 in
theorem ggX1_challengePiece_X8_holder : GoodIn wsX1_challengePiece wsX8_holder := goodIn_r _ [6, 7, 8, 9, 5, 10, 63, 64, 65, 66, 67, 68] (by decide +kernel) (by decide +kernel)
set_option maxRecDepth 20000 in
theorem gX1_challengePiece_X8_holder : GoodIn wsX1_challengePiece (wsV RX1 71 RX8 yX8_holder wsX8_holder) := goodIn_app (goodIn_of _ (by decide +kernel)) ggX1_challengePiece_X8_holder
set_option maxRecDepth 20000 in
theorem ggX1_challengePiece_X1_isAtHand : GoodIn wsX1_challengePiece wsX1_isAtHand := goodIn_r _ [15, 16, 17, 18, 19, 5, 20, 21, 8, 9, 10, 2, 3, 4, 6, 7, 22, 23, 24, 25, 26, 27, 28, 29, 30, 31, 32, 60, 61, 62, 63, 64, 65, 66, 67, 68, 69, 70, 71, 72, 73] (by decide +kernel) (by decide +kernel)
set_option maxRecDepth 20000 in
theorem gX1_challengePiece_X1_isAtHand : GoodIn wsX1_challengePiece (wsV RX1 81 RX1 yX1_isAtHand wsX1_isAtHand) := goodIn_app (goodIn_of _ (by decide +kernel)) ggX1_challengePiece_X1_isAtHand
set_option maxRecDepth 20000 in
theorem ggX1_challengePiece_X8_owner : GoodIn wsX1_challengePiece wsX8_owner := goodIn_r _ [36, 37, 63, 64, 65, 66, 67, 68] (by decide +kernel) (by decide +kernel)
set_option maxRecDepth 20000 in
theorem gX1_challengePiece_X8_owner : GoodIn wsX1_challengePiece (wsV RX1 29 RX8 yX8_owner wsX8_owner) := goodIn_app (goodIn_of _ (by decide +kernel)) ggX1_challengePiece_X8_owner
set_option maxRecDepth 20000 in
theorem ggX1_challengePiece_X2_owe : GoodIn wsX1_challengePiece wsX2_owe := goodIn_r _ [42, 43, 44, 45, 41, 46, 74] (by decide +kernel) (by decide +kernel)
set_option maxRecDepth 20000 in
theorem gX1_challengePiece_X2_owe : GoodIn wsX1_challengePiece (wsV RX1 85 RX2 yX2_owe wsX2_owe) := goodIn_app (goodIn_of _ (by decide +kernel)) ggX1_challengePiece_X2_owe
set_option maxRecDepth 20000 in
theorem ggX1_challengePiece_X8_setMissed : GoodIn wsX1_challengePiece wsX8_setMissed := goodIn_r _ [50, 51, 8, 9, 5, 10, 63, 64, 65, 66, 67, 68] (by decide +kernel) (by decide +kernel)
set_option maxRecDepth 20000 in
theorem gX1_challengePiece_X8_setMissed : GoodIn wsX1_challengePiece (wsV RX1 90 RX8 yX8_setMissed wsX8_setMissed) := goodIn_app (goodIn_of _ (by decide +kernel)) ggX1_challengePiece_X8_setMissed
set_option maxRecDepth 20000 in
theorem ggX1_challengePiece_X8_missed : GoodIn wsX1_challengePiece wsX8_missed := goodIn_r _ [55, 51, 8, 9, 5, 10, 63, 64, 65, 66, 67, 68] (by decide +kernel) (by decide +kernel)
set_option maxRecDepth 20000 in
theorem gX1_challengePiece_X8_missed : GoodIn wsX1_challengePiece (wsV RX1 94 RX8 yX8_missed wsX8_missed) := goodIn_app (goodIn_of _ (by decide +kernel)) ggX1_challengePiece_X8_missed
set_option maxRecDepth 20000 in
theorem ggX1_challengePiece_X8_hand : GoodIn wsX1_challengePiece wsX8_hand := goodIn_r _ [59, 7, 21, 51, 8, 9, 5, 10, 63, 64, 65, 66, 67, 68] (by decide +kernel) (by decide +kernel)
set_option maxRecDepth 20000 in
theorem gX1_challengePiece_X8_hand : GoodIn wsX1_challengePiece (wsV RX1 52 RX8 yX8_hand wsX8_hand) := goodIn_app (goodIn_of _ (by decide +kernel)) ggX1_challengePiece_X8_hand
theorem dX1_challengePiece_0 : decode cX1_challengePiece 0 = .ok (.aload_n 1, 1) := by decide +kernel
theorem dX1_challengePiece_1 : decode cX1_challengePiece 1 = .ok (.iload_n 2, 1) := by decide +kernel
theorem dX1_challengePiece_2 : decode cX1_challengePiece 2 = .ok (.invokevirtual 71, 3) := by decide +kernel
theorem dX1_challengePiece_5 : decode cX1_challengePiece 5 = .ok (.istore_n 3, 1) := by decide +kernel
theorem dX1_challengePiece_6 : decode cX1_challengePiece 6 = .ok (.aload_n 0, 1) := by decide +kernel
theorem dX1_challengePiece_7 : decode cX1_challengePiece 7 = .ok (.aload_n 1, 1) := by decide +kernel
theorem dX1_challengePiece_8 : decode cX1_challengePiece 8 = .ok (.iload_n 2, 1) := by decide +kernel
theorem dX1_challengePiece_9 : decode cX1_challengePiece 9 = .ok (.invokevirtual 81, 3) := by decide +kernel
theorem dX1_challengePiece_12 : decode cX1_challengePiece 12 = .ok (.ifCond .eq 25, 3) := by decide +kernel
theorem dX1_challengePiece_15 : decode cX1_challengePiece 15 = .ok (.aload_n 0, 1) := by decide +kernel
theorem dX1_challengePiece_16 : decode cX1_challengePiece 16 = .ok (.getfield 19, 3) := by decide +kernel
theorem dX1_challengePiece_19 : decode cX1_challengePiece 19 = .ok (.aload_n 1, 1) := by decide +kernel
theorem dX1_challengePiece_20 : decode cX1_challengePiece 20 = .ok (.invokevirtual 29, 3) := by decide +kernel
theorem dX1_challengePiece_23 : decode cX1_challengePiece 23 = .ok (.iload_n 3, 1) := by decide +kernel
theorem dX1_challengePiece_24 : decode cX1_challengePiece 24 = .ok (.iconst 3, 1) := by decide +kernel
theorem dX1_challengePiece_25 : decode cX1_challengePiece 25 = .ok (.invokevirtual 85, 3) := by decide +kernel
theorem dX1_challengePiece_28 : decode cX1_challengePiece 28 = .ok (.aload_n 1, 1) := by decide +kernel
theorem dX1_challengePiece_29 : decode cX1_challengePiece 29 = .ok (.iload_n 2, 1) := by decide +kernel
theorem dX1_challengePiece_30 : decode cX1_challengePiece 30 = .ok (.iconst 0, 1) := by decide +kernel
theorem dX1_challengePiece_31 : decode cX1_challengePiece 31 = .ok (.invokevirtual 90, 3) := by decide +kernel
theorem dX1_challengePiece_34 : decode cX1_challengePiece 34 = .ok (.goto 50, 3) := by decide +kernel
theorem dX1_challengePiece_37 : decode cX1_challengePiece 37 = .ok (.aload_n 1, 1) := by decide +kernel
theorem dX1_challengePiece_38 : decode cX1_challengePiece 38 = .ok (.iload_n 2, 1) := by decide +kernel
theorem dX1_challengePiece_39 : decode cX1_challengePiece 39 = .ok (.invokevirtual 94, 3) := by decide +kernel
theorem dX1_challengePiece_42 : decode cX1_challengePiece 42 = .ok (.iconst 1, 1) := by decide +kernel
theorem dX1_challengePiece_43 : decode cX1_challengePiece 43 = .ok (.iadd, 1) := by decide +kernel
theorem dX1_challengePiece_44 : decode cX1_challengePiece 44 = .ok (.iconst 3, 1) := by decide +kernel
theorem dX1_challengePiece_45 : decode cX1_challengePiece 45 = .ok (.if_icmp .ge 18, 3) := by decide +kernel
theorem dX1_challengePiece_48 : decode cX1_challengePiece 48 = .ok (.aload_n 1, 1) := by decide +kernel
theorem dX1_challengePiece_49 : decode cX1_challengePiece 49 = .ok (.iload_n 2, 1) := by decide +kernel
theorem dX1_challengePiece_50 : decode cX1_challengePiece 50 = .ok (.aload_n 1, 1) := by decide +kernel
theorem dX1_challengePiece_51 : decode cX1_challengePiece 51 = .ok (.iload_n 2, 1) := by decide +kernel
theorem dX1_challengePiece_52 : decode cX1_challengePiece 52 = .ok (.invokevirtual 94, 3) := by decide +kernel
theorem dX1_challengePiece_55 : decode cX1_challengePiece 55 = .ok (.iconst 1, 1) := by decide +kernel
theorem dX1_challengePiece_56 : decode cX1_challengePiece 56 = .ok (.iadd, 1) := by decide +kernel
theorem dX1_challengePiece_57 : decode cX1_challengePiece 57 = .ok (.invokevirtual 90, 3) := by decide +kernel
theorem dX1_challengePiece_60 : decode cX1_challengePiece 60 = .ok (.goto 24, 3) := by decide +kernel
theorem dX1_challengePiece_63 : decode cX1_challengePiece 63 = .ok (.aload_n 0, 1) := by decide +kernel
theorem dX1_challengePiece_64 : decode cX1_challengePiece 64 = .ok (.getfield 19, 3) := by decide +kernel
theorem dX1_challengePiece_67 : decode cX1_challengePiece 67 = .ok (.iload_n 3, 1) := by decide +kernel
theorem dX1_challengePiece_68 : decode cX1_challengePiece 68 = .ok (.aload_n 1, 1) := by decide +kernel
theorem dX1_challengePiece_69 : decode cX1_challengePiece 69 = .ok (.invokevirtual 29, 3) := by decide +kernel
theorem dX1_challengePiece_72 : decode cX1_challengePiece 72 = .ok (.bipush 10, 2) := by decide +kernel
theorem dX1_challengePiece_74 : decode cX1_challengePiece 74 = .ok (.invokevirtual 85, 3) := by decide +kernel
theorem dX1_challengePiece_77 : decode cX1_challengePiece 77 = .ok (.aload_n 1, 1) := by decide +kernel
theorem dX1_challengePiece_78 : decode cX1_challengePiece 78 = .ok (.iload_n 2, 1) := by decide +kernel
theorem dX1_challengePiece_79 : decode cX1_challengePiece 79 = .ok (.iconst (-1), 1) := by decide +kernel
theorem dX1_challengePiece_80 : decode cX1_challengePiece 80 = .ok (.iconst 0, 1) := by decide +kernel
theorem dX1_challengePiece_81 : decode cX1_challengePiece 81 = .ok (.invokevirtual 52, 3) := by decide +kernel
theorem dX1_challengePiece_84 : decode cX1_challengePiece 84 = .ok (.return_, 1) := by decide +kernel
set_option maxRecDepth 20000 in
theorem ggX1_isToRepair_X8_isHeld : GoodIn wsX1_isToRepair wsX8_isHeld := goodIn_r _ [6, 7, 8, 9, 5, 10, 44, 45, 46, 47, 48, 49] (by decide +kernel) (by decide +kernel)
set_option maxRecDepth 20000 in
theorem gX1_isToRepair_X8_isHeld : GoodIn wsX1_isToRepair (wsV RX1 23 RX8 yX8_isHeld wsX8_isHeld) := goodIn_app (goodIn_of _ (by decide +kernel)) ggX1_isToRepair_X8_isHeld
set_option maxRecDepth 20000 in
theorem ggX1_isToRepair_X1_isAtHand : GoodIn wsX1_isToRepair wsX1_isAtHand := goodIn_r _ [15, 1, 16, 17, 18, 5, 19, 20, 8, 9, 10, 21, 22, 23, 24, 7, 25, 26, 27, 28, 29, 30, 31, 32, 33, 34, 35, 41, 42, 43, 44, 45, 46, 47, 48, 49, 50, 51, 52, 53, 54] (by decide +kernel) (by decide +kernel)
set_option maxRecDepth 20000 in
theorem gX1_isToRepair_X1_isAtHand : GoodIn wsX1_isToRepair (wsV RX1 81 RX1 yX1_isAtHand wsX1_isAtHand) := goodIn_app (goodIn_of _ (by decide +kernel)) ggX1_isToRepair_X1_isAtHand
set_option maxRecDepth 20000 in
theorem ggX1_isToRepair_X8_owner : GoodIn wsX1_isToRepair wsX8_owner := goodIn_r _ [39, 40, 44, 45, 46, 47, 48, 49] (by decide +kernel) (by decide +kernel)
set_option maxRecDepth 20000 in
theorem gX1_isToRepair_X8_owner : GoodIn wsX1_isToRepair (wsV RX1 29 RX8 yX8_owner wsX8_owner) := goodIn_app (goodIn_of _ (by decide +kernel)) ggX1_isToRepair_X8_owner
set_option maxRecDepth 20000 in
theorem ggX1_isToRepair_X5_isOnline : GoodIn wsX1_isToRepair wsX5_isOnline := goodIn_r _ [29, 30, 31, 32, 33, 28, 34, 35, 50, 51, 52, 53, 54] (by decide +kernel) (by decide +kernel)
set_option maxRecDepth 20000 in
theorem gX1_isToRepair_X5_isOnline : GoodIn wsX1_isToRepair (wsV RX1 74 RX5 yX5_isOnline wsX5_isOnline) := goodIn_app (goodIn_of _ (by decide +kernel)) ggX1_isToRepair_X5_isOnline
theorem dX1_isToRepair_0 : decode cX1_isToRepair 0 = .ok (.iconst 0, 1) := by decide +kernel
theorem dX1_isToRepair_1 : decode cX1_isToRepair 1 = .ok (.istore_n 2, 1) := by decide +kernel
theorem dX1_isToRepair_2 : decode cX1_isToRepair 2 = .ok (.iconst 0, 1) := by decide +kernel
theorem dX1_isToRepair_3 : decode cX1_isToRepair 3 = .ok (.istore_n 3, 1) := by decide +kernel
theorem dX1_isToRepair_4 : decode cX1_isToRepair 4 = .ok (.iconst 0, 1) := by decide +kernel
theorem dX1_isToRepair_5 : decode cX1_isToRepair 5 = .ok (.istore 4, 2) := by decide +kernel
theorem dX1_isToRepair_7 : decode cX1_isToRepair 7 = .ok (.iload 4, 2) := by decide +kernel
theorem dX1_isToRepair_9 : decode cX1_isToRepair 9 = .ok (.bipush 6, 2) := by decide +kernel
theorem dX1_isToRepair_11 : decode cX1_isToRepair 11 = .ok (.if_icmp .ge 44, 3) := by decide +kernel
theorem dX1_isToRepair_14 : decode cX1_isToRepair 14 = .ok (.iload_n 2, 1) := by decide +kernel
theorem dX1_isToRepair_15 : decode cX1_isToRepair 15 = .ok (.aload_n 1, 1) := by decide +kernel
theorem dX1_isToRepair_16 : decode cX1_isToRepair 16 = .ok (.iload 4, 2) := by decide +kernel
theorem dX1_isToRepair_18 : decode cX1_isToRepair 18 = .ok (.invokevirtual 23, 3) := by decide +kernel
theorem dX1_isToRepair_21 : decode cX1_isToRepair 21 = .ok (.ifCond .eq 7, 3) := by decide +kernel
theorem dX1_isToRepair_24 : decode cX1_isToRepair 24 = .ok (.iconst 1, 1) := by decide +kernel
theorem dX1_isToRepair_25 : decode cX1_isToRepair 25 = .ok (.goto 4, 3) := by decide +kernel
theorem dX1_isToRepair_28 : decode cX1_isToRepair 28 = .ok (.iconst 0, 1) := by decide +kernel
theorem dX1_isToRepair_29 : decode cX1_isToRepair 29 = .ok (.iadd, 1) := by decide +kernel
theorem dX1_isToRepair_30 : decode cX1_isToRepair 30 = .ok (.istore_n 2, 1) := by decide +kernel
theorem dX1_isToRepair_31 : decode cX1_isToRepair 31 = .ok (.iload_n 3, 1) := by decide +kernel
theorem dX1_isToRepair_32 : decode cX1_isToRepair 32 = .ok (.aload_n 0, 1) := by decide +kernel
theorem dX1_isToRepair_33 : decode cX1_isToRepair 33 = .ok (.aload_n 1, 1) := by decide +kernel
theorem dX1_isToRepair_34 : decode cX1_isToRepair 34 = .ok (.iload 4, 2) := by decide +kernel
theorem dX1_isToRepair_36 : decode cX1_isToRepair 36 = .ok (.invokevirtual 81, 3) := by decide +kernel
theorem dX1_isToRepair_39 : decode cX1_isToRepair 39 = .ok (.ifCond .eq 7, 3) := by decide +kernel
theorem dX1_isToRepair_42 : decode cX1_isToRepair 42 = .ok (.iconst 1, 1) := by decide +kernel
theorem dX1_isToRepair_43 : decode cX1_isToRepair 43 = .ok (.goto 4, 3) := by decide +kernel
theorem dX1_isToRepair_46 : decode cX1_isToRepair 46 = .ok (.iconst 0, 1) := by decide +kernel
theorem dX1_isToRepair_47 : decode cX1_isToRepair 47 = .ok (.iadd, 1) := by decide +kernel
theorem dX1_isToRepair_48 : decode cX1_isToRepair 48 = .ok (.istore_n 3, 1) := by decide +kernel
theorem dX1_isToRepair_49 : decode cX1_isToRepair 49 = .ok (.iinc 4 1, 3) := by decide +kernel
theorem dX1_isToRepair_52 : decode cX1_isToRepair 52 = .ok (.goto (-45), 3) := by decide +kernel
theorem dX1_isToRepair_55 : decode cX1_isToRepair 55 = .ok (.aload_n 0, 1) := by decide +kernel
theorem dX1_isToRepair_56 : decode cX1_isToRepair 56 = .ok (.getfield 9, 3) := by decide +kernel
theorem dX1_isToRepair_59 : decode cX1_isToRepair 59 = .ok (.aload_n 1, 1) := by decide +kernel
theorem dX1_isToRepair_60 : decode cX1_isToRepair 60 = .ok (.invokevirtual 29, 3) := by decide +kernel
theorem dX1_isToRepair_63 : decode cX1_isToRepair 63 = .ok (.invokevirtual 74, 3) := by decide +kernel
theorem dX1_isToRepair_66 : decode cX1_isToRepair 66 = .ok (.ifCond .eq 17, 3) := by decide +kernel
theorem dX1_isToRepair_69 : decode cX1_isToRepair 69 = .ok (.iload_n 2, 1) := by decide +kernel
theorem dX1_isToRepair_70 : decode cX1_isToRepair 70 = .ok (.iconst 4, 1) := by decide +kernel
theorem dX1_isToRepair_71 : decode cX1_isToRepair 71 = .ok (.if_icmp .gt 12, 3) := by decide +kernel
theorem dX1_isToRepair_74 : decode cX1_isToRepair 74 = .ok (.iload_n 3, 1) := by decide +kernel
theorem dX1_isToRepair_75 : decode cX1_isToRepair 75 = .ok (.iconst 4, 1) := by decide +kernel
theorem dX1_isToRepair_76 : decode cX1_isToRepair 76 = .ok (.if_icmp .lt 7, 3) := by decide +kernel
theorem dX1_isToRepair_79 : decode cX1_isToRepair 79 = .ok (.iconst 1, 1) := by decide +kernel
theorem dX1_isToRepair_80 : decode cX1_isToRepair 80 = .ok (.goto 4, 3) := by decide +kernel
theorem dX1_isToRepair_83 : decode cX1_isToRepair 83 = .ok (.iconst 0, 1) := by decide +kernel
theorem dX1_isToRepair_84 : decode cX1_isToRepair 84 = .ok (.ireturn, 1) := by decide +kernel
set_option maxRecDepth 20000 in
theorem ggX1_give_X1_isAtHand : GoodIn wsX1_give wsX1_isAtHand := goodIn_r _ [6, 7, 8, 9, 10, 11, 12, 13, 14, 15, 16, 17, 18, 19, 20, 21, 22, 23, 24, 25, 26, 27, 28, 29, 30, 31, 32, 47, 48, 49, 50, 51, 52, 53, 54, 55, 56, 57, 58, 59, 60] (by decide +kernel) (by decide +kernel)
set_option maxRecDepth 20000 in
theorem gX1_give_X1_isAtHand : GoodIn wsX1_give (wsV RX1 81 RX1 yX1_isAtHand wsX1_isAtHand) := goodIn_app (goodIn_of _ (by decide +kernel)) ggX1_give_X1_isAtHand
set_option maxRecDepth 20000 in
theorem ggX1_give_X8_owner : GoodIn wsX1_give wsX8_owner := goodIn_r _ [36, 37, 50, 51, 52, 53, 54, 55] (by decide +kernel) (by decide +kernel)
set_option maxRecDepth 20000 in
theorem gX1_give_X8_owner : GoodIn wsX1_give (wsV RX1 29 RX8 yX8_owner wsX8_owner) := goodIn_app (goodIn_of _ (by decide +kernel)) ggX1_give_X8_owner
set_option maxRecDepth 20000 in
theorem ggX1_give_X8_holder : GoodIn wsX1_give wsX8_holder := goodIn_r _ [20, 21, 14, 15, 11, 16, 50, 51, 52, 53, 54, 55] (by decide +kernel) (by decide +kernel)
set_option maxRecDepth 20000 in
theorem gX1_give_X8_holder : GoodIn wsX1_give (wsV RX1 71 RX8 yX8_holder wsX8_holder) := goodIn_app (goodIn_of _ (by decide +kernel)) ggX1_give_X8_holder
set_option maxRecDepth 20000 in
theorem ggX1_give_X2_owe : GoodIn wsX1_give wsX2_owe := goodIn_r _ [42, 43, 44, 45, 41, 46, 61] (by decide +kernel) (by decide +kernel)
set_option maxRecDepth 20000 in
theorem gX1_give_X2_owe : GoodIn wsX1_give (wsV RX1 85 RX2 yX2_owe wsX2_owe) := goodIn_app (goodIn_of _ (by decide +kernel)) ggX1_give_X2_owe
theorem dX1_give_0 : decode cX1_give 0 = .ok (.iconst 0, 1) := by decide +kernel
theorem dX1_give_1 : decode cX1_give 1 = .ok (.istore_n 3, 1) := by decide +kernel
theorem dX1_give_2 : decode cX1_give 2 = .ok (.iconst 0, 1) := by decide +kernel
theorem dX1_give_3 : decode cX1_give 3 = .ok (.istore 4, 2) := by decide +kernel
theorem dX1_give_5 : decode cX1_give 5 = .ok (.iload 4, 2) := by decide +kernel
theorem dX1_give_7 : decode cX1_give 7 = .ok (.bipush 6, 2) := by decide +kernel
theorem dX1_give_9 : decode cX1_give 9 = .ok (.if_icmp .ge 27, 3) := by decide +kernel
theorem dX1_give_12 : decode cX1_give 12 = .ok (.iload_n 3, 1) := by decide +kernel
theorem dX1_give_13 : decode cX1_give 13 = .ok (.aload_n 0, 1) := by decide +kernel
theorem dX1_give_14 : decode cX1_give 14 = .ok (.aload_n 1, 1) := by decide +kernel
theorem dX1_give_15 : decode cX1_give 15 = .ok (.iload 4, 2) := by decide +kernel
theorem dX1_give_17 : decode cX1_give 17 = .ok (.invokevirtual 81, 3) := by decide +kernel
theorem dX1_give_20 : decode cX1_give 20 = .ok (.ifCond .eq 7, 3) := by decide +kernel
theorem dX1_give_23 : decode cX1_give 23 = .ok (.iconst 1, 1) := by decide +kernel
theorem dX1_give_24 : decode cX1_give 24 = .ok (.goto 4, 3) := by decide +kernel
theorem dX1_give_27 : decode cX1_give 27 = .ok (.iconst 0, 1) := by decide +kernel
theorem dX1_give_28 : decode cX1_give 28 = .ok (.iadd, 1) := by decide +kernel
theorem dX1_give_29 : decode cX1_give 29 = .ok (.istore_n 3, 1) := by decide +kernel
theorem dX1_give_30 : decode cX1_give 30 = .ok (.iinc 4 1, 3) := by decide +kernel
theorem dX1_give_33 : decode cX1_give 33 = .ok (.goto (-28), 3) := by decide +kernel
theorem dX1_give_36 : decode cX1_give 36 = .ok (.iload_n 2, 1) := by decide +kernel
theorem dX1_give_37 : decode cX1_give 37 = .ok (.aload_n 1, 1) := by decide +kernel
theorem dX1_give_38 : decode cX1_give 38 = .ok (.invokevirtual 29, 3) := by decide +kernel
theorem dX1_give_41 : decode cX1_give 41 = .ok (.if_icmp .eq 8, 3) := by decide +kernel
theorem dX1_give_44 : decode cX1_give 44 = .ok (.iload_n 3, 1) := by decide +kernel
theorem dX1_give_45 : decode cX1_give 45 = .ok (.iconst 4, 1) := by decide +kernel
theorem dX1_give_46 : decode cX1_give 46 = .ok (.if_icmp .ge 5, 3) := by decide +kernel
theorem dX1_give_49 : decode cX1_give 49 = .ok (.iconst 0, 1) := by decide +kernel
theorem dX1_give_50 : decode cX1_give 50 = .ok (.ireturn, 1) := by decide +kernel
theorem dX1_give_51 : decode cX1_give 51 = .ok (.iconst 0, 1) := by decide +kernel
theorem dX1_give_52 : decode cX1_give 52 = .ok (.istore 4, 2) := by decide +kernel
theorem dX1_give_54 : decode cX1_give 54 = .ok (.iconst 0, 1) := by decide +kernel
theorem dX1_give_55 : decode cX1_give 55 = .ok (.istore 5, 2) := by decide +kernel
theorem dX1_give_57 : decode cX1_give 57 = .ok (.iload 5, 2) := by decide +kernel
theorem dX1_give_59 : decode cX1_give 59 = .ok (.bipush 6, 2) := by decide +kernel
theorem dX1_give_61 : decode cX1_give 61 = .ok (.if_icmp .ge 43, 3) := by decide +kernel
theorem dX1_give_64 : decode cX1_give 64 = .ok (.iload 4, 2) := by decide +kernel
theorem dX1_give_66 : decode cX1_give 66 = .ok (.iconst 4, 1) := by decide +kernel
theorem dX1_give_67 : decode cX1_give 67 = .ok (.if_icmp .ge 37, 3) := by decide +kernel
theorem dX1_give_70 : decode cX1_give 70 = .ok (.aload_n 0, 1) := by decide +kernel
theorem dX1_give_71 : decode cX1_give 71 = .ok (.aload_n 1, 1) := by decide +kernel
theorem dX1_give_72 : decode cX1_give 72 = .ok (.iload 5, 2) := by decide +kernel
theorem dX1_give_74 : decode cX1_give 74 = .ok (.invokevirtual 81, 3) := by decide +kernel
theorem dX1_give_77 : decode cX1_give 77 = .ok (.ifCond .eq 21, 3) := by decide +kernel
theorem dX1_give_80 : decode cX1_give 80 = .ok (.aload_n 0, 1) := by decide +kernel
theorem dX1_give_81 : decode cX1_give 81 = .ok (.getfield 19, 3) := by decide +kernel
theorem dX1_give_84 : decode cX1_give 84 = .ok (.iload_n 2, 1) := by decide +kernel
theorem dX1_give_85 : decode cX1_give 85 = .ok (.aload_n 1, 1) := by decide +kernel
theorem dX1_give_86 : decode cX1_give 86 = .ok (.iload 5, 2) := by decide +kernel
theorem dX1_give_88 : decode cX1_give 88 = .ok (.invokevirtual 71, 3) := by decide +kernel
theorem dX1_give_91 : decode cX1_give 91 = .ok (.iconst 1, 1) := by decide +kernel
theorem dX1_give_92 : decode cX1_give 92 = .ok (.invokevirtual 85, 3) := by decide +kernel
theorem dX1_give_95 : decode cX1_give 95 = .ok (.iinc 4 1, 3) := by decide +kernel
theorem dX1_give_98 : decode cX1_give 98 = .ok (.iinc 5 1, 3) := by decide +kernel
theorem dX1_give_101 : decode cX1_give 101 = .ok (.goto (-44), 3) := by decide +kernel
theorem dX1_give_104 : decode cX1_give 104 = .ok (.iload 4, 2) := by decide +kernel
theorem dX1_give_106 : decode cX1_give 106 = .ok (.ireturn, 1) := by decide +kernel
theorem dX2_init_0 : decode cX2_init 0 = .ok (.aload_n 0, 1) := by decide +kernel
theorem dX2_init_1 : decode cX2_init 1 = .ok (.invokespecial 3, 3) := by decide +kernel
theorem dX2_init_4 : decode cX2_init 4 = .ok (.aload_n 0, 1) := by decide +kernel
theorem dX2_init_5 : decode cX2_init 5 = .ok (.bipush 16, 2) := by decide +kernel
theorem dX2_init_7 : decode cX2_init 7 = .ok (.bipush 16, 2) := by decide +kernel
theorem dX2_init_9 : decode cX2_init 9 = .ok (.multianewarray 9 2, 4) := by decide +kernel
theorem dX2_init_13 : decode cX2_init 13 = .ok (.putfield 11, 3) := by decide +kernel
theorem dX2_init_16 : decode cX2_init 16 = .ok (.return_, 1) := by decide +kernel
theorem dX2_isPlace_0 : decode cX2_isPlace 0 = .ok (.iload_n 0, 1) := by decide +kernel
theorem dX2_isPlace_1 : decode cX2_isPlace 1 = .ok (.ifCond .lt 23, 3) := by decide +kernel
theorem dX2_isPlace_4 : decode cX2_isPlace 4 = .ok (.iload_n 0, 1) := by decide +kernel
theorem dX2_isPlace_5 : decode cX2_isPlace 5 = .ok (.bipush 16, 2) := by decide +kernel
theorem dX2_isPlace_7 : decode cX2_isPlace 7 = .ok (.if_icmp .ge 17, 3) := by decide +kernel
theorem dX2_isPlace_10 : decode cX2_isPlace 10 = .ok (.iload_n 1, 1) := by decide +kernel
theorem dX2_isPlace_11 : decode cX2_isPlace 11 = .ok (.ifCond .lt 13, 3) := by decide +kernel
theorem dX2_isPlace_14 : decode cX2_isPlace 14 = .ok (.iload_n 1, 1) := by decide +kernel
theorem dX2_isPlace_15 : decode cX2_isPlace 15 = .ok (.bipush 16, 2) := by decide +kernel
theorem dX2_isPlace_17 : decode cX2_isPlace 17 = .ok (.if_icmp .ge 7, 3) := by decide +kernel
theorem dX2_isPlace_20 : decode cX2_isPlace 20 = .ok (.iconst 1, 1) := by decide +kernel
theorem dX2_isPlace_21 : decode cX2_isPlace 21 = .ok (.goto 4, 3) := by decide +kernel
theorem dX2_isPlace_24 : decode cX2_isPlace 24 = .ok (.iconst 0, 1) := by decide +kernel
theorem dX2_isPlace_25 : decode cX2_isPlace 25 = .ok (.ireturn, 1) := by decide +kernel
set_option maxRecDepth 20000 in
theorem ggX2_debt_X2_isPlace : GoodIn wsX2_debt wsX2_isPlace := goodIn_r _ [5] (by decide +kernel) (by decide +kernel)
set_option maxRecDepth 20000 in
theorem gX2_debt_X2_isPlace : GoodIn wsX2_debt (va_wsS RX2 16 yX2_isPlace wsX2_isPlace) := goodIn_app (goodIn_of _ (by decide +kernel)) ggX2_debt_X2_isPlace
theorem dX2_debt_0 : decode cX2_debt 0 = .ok (.iload_n 1, 1) := by decide +kernel
theorem dX2_debt_1 : decode cX2_debt 1 = .ok (.iload_n 2, 1) := by decide +kernel
theorem dX2_debt_2 : decode cX2_debt 2 = .ok (.invokestatic 16, 3) := by decide +kernel
theorem dX2_debt_5 : decode cX2_debt 5 = .ok (.ifCond .eq 14, 3) := by decide +kernel
theorem dX2_debt_8 : decode cX2_debt 8 = .ok (.aload_n 0, 1) := by decide +kernel
theorem dX2_debt_9 : decode cX2_debt 9 = .ok (.getfield 11, 3) := by decide +kernel
theorem dX2_debt_12 : decode cX2_debt 12 = .ok (.iload_n 1, 1) := by decide +kernel
theorem dX2_debt_13 : decode cX2_debt 13 = .ok (.aaload, 1) := by decide +kernel
theorem dX2_debt_14 : decode cX2_debt 14 = .ok (.iload_n 2, 1) := by decide +kernel
theorem dX2_debt_15 : decode cX2_debt 15 = .ok (.iaload, 1) := by decide +kernel
theorem dX2_debt_16 : decode cX2_debt 16 = .ok (.goto 4, 3) := by decide +kernel
theorem dX2_debt_19 : decode cX2_debt 19 = .ok (.iconst 0, 1) := by decide +kernel
theorem dX2_debt_20 : decode cX2_debt 20 = .ok (.ireturn, 1) := by decide +kernel
set_option maxRecDepth 20000 in
theorem ggX2_owe_X2_isPlace : GoodIn wsX2_owe wsX2_isPlace := goodIn_r _ [5] (by decide +kernel) (by decide +kernel)
set_option maxRecDepth 20000 in
theorem gX2_owe_X2_isPlace : GoodIn wsX2_owe (va_wsS RX2 16 yX2_isPlace wsX2_isPlace) := goodIn_app (goodIn_of _ (by decide +kernel)) ggX2_owe_X2_isPlace
theorem dX2_owe_0 : decode cX2_owe 0 = .ok (.iload_n 1, 1) := by decide +kernel
theorem dX2_owe_1 : decode cX2_owe 1 = .ok (.iload_n 2, 1) := by decide +kernel
theorem dX2_owe_2 : decode cX2_owe 2 = .ok (.invokestatic 16, 3) := by decide +kernel
theorem dX2_owe_5 : decode cX2_owe 5 = .ok (.ifCond .eq 20, 3) := by decide +kernel
theorem dX2_owe_8 : decode cX2_owe 8 = .ok (.iload_n 1, 1) := by decide +kernel
theorem dX2_owe_9 : decode cX2_owe 9 = .ok (.iload_n 2, 1) := by decide +kernel
theorem dX2_owe_10 : decode cX2_owe 10 = .ok (.if_icmp .eq 15, 3) := by decide +kernel
theorem dX2_owe_13 : decode cX2_owe 13 = .ok (.aload_n 0, 1) := by decide +kernel
theorem dX2_owe_14 : decode cX2_owe 14 = .ok (.getfield 11, 3) := by decide +kernel
theorem dX2_owe_17 : decode cX2_owe 17 = .ok (.iload_n 1, 1) := by decide +kernel
theorem dX2_owe_18 : decode cX2_owe 18 = .ok (.aaload, 1) := by decide +kernel
theorem dX2_owe_19 : decode cX2_owe 19 = .ok (.iload_n 2, 1) := by decide +kernel
theorem dX2_owe_20 : decode cX2_owe 20 = .ok (.dup2, 1) := by decide +kernel
theorem dX2_owe_21 : decode cX2_owe 21 = .ok (.iaload, 1) := by decide +kernel
theorem dX2_owe_22 : decode cX2_owe 22 = .ok (.iload_n 3, 1) := by decide +kernel
theorem dX2_owe_23 : decode cX2_owe 23 = .ok (.iadd, 1) := by decide +kernel
theorem dX2_owe_24 : decode cX2_owe 24 = .ok (.iastore, 1) := by decide +kernel
theorem dX2_owe_25 : decode cX2_owe 25 = .ok (.return_, 1) := by decide +kernel
set_option maxRecDepth 20000 in
theorem ggX2_balance_X2_debt : GoodIn wsX2_balance wsX2_debt := goodIn_r _ [5, 6, 7, 8, 4, 9, 10] (by decide +kernel) (by decide +kernel)
set_option maxRecDepth 20000 in
theorem gX2_balance_X2_debt : GoodIn wsX2_balance (wsV RX2 20 RX2 yX2_debt wsX2_debt) := goodIn_app (goodIn_of _ (by decide +kernel)) ggX2_balance_X2_debt
theorem dX2_balance_0 : decode cX2_balance 0 = .ok (.iconst 0, 1) := by decide +kernel
theorem dX2_balance_1 : decode cX2_balance 1 = .ok (.istore_n 2, 1) := by decide +kernel
theorem dX2_balance_2 : decode cX2_balance 2 = .ok (.iconst 0, 1) := by decide +kernel
theorem dX2_balance_3 : decode cX2_balance 3 = .ok (.istore_n 3, 1) := by decide +kernel
theorem dX2_balance_4 : decode cX2_balance 4 = .ok (.iload_n 3, 1) := by decide +kernel
theorem dX2_balance_5 : decode cX2_balance 5 = .ok (.bipush 16, 2) := by decide +kernel
theorem dX2_balance_7 : decode cX2_balance 7 = .ok (.if_icmp .ge 25, 3) := by decide +kernel
theorem dX2_balance_10 : decode cX2_balance 10 = .ok (.iload_n 2, 1) := by decide +kernel
theorem dX2_balance_11 : decode cX2_balance 11 = .ok (.aload_n 0, 1) := by decide +kernel
theorem dX2_balance_12 : decode cX2_balance 12 = .ok (.iload_n 3, 1) := by decide +kernel
theorem dX2_balance_13 : decode cX2_balance 13 = .ok (.iload_n 1, 1) := by decide +kernel
theorem dX2_balance_14 : decode cX2_balance 14 = .ok (.invokevirtual 20, 3) := by decide +kernel
theorem dX2_balance_17 : decode cX2_balance 17 = .ok (.aload_n 0, 1) := by decide +kernel
theorem dX2_balance_18 : decode cX2_balance 18 = .ok (.iload_n 1, 1) := by decide +kernel
theorem dX2_balance_19 : decode cX2_balance 19 = .ok (.iload_n 3, 1) := by decide +kernel
theorem dX2_balance_20 : decode cX2_balance 20 = .ok (.invokevirtual 20, 3) := by decide +kernel
theorem dX2_balance_23 : decode cX2_balance 23 = .ok (.isub, 1) := by decide +kernel
theorem dX2_balance_24 : decode cX2_balance 24 = .ok (.iadd, 1) := by decide +kernel
theorem dX2_balance_25 : decode cX2_balance 25 = .ok (.istore_n 2, 1) := by decide +kernel
theorem dX2_balance_26 : decode cX2_balance 26 = .ok (.iinc 3 1, 3) := by decide +kernel
theorem dX2_balance_29 : decode cX2_balance 29 = .ok (.goto (-25), 3) := by decide +kernel
theorem dX2_balance_32 : decode cX2_balance 32 = .ok (.iload_n 2, 1) := by decide +kernel
theorem dX2_balance_33 : decode cX2_balance 33 = .ok (.ireturn, 1) := by decide +kernel
set_option maxRecDepth 20000 in
theorem ggX2_lessenRings_X2_lessenTwo : GoodIn wsX2_lessenRings wsX2_lessenTwo := goodIn_r _ [5, 6, 7, 8, 9, 10, 11, 12, 4, 13, 14, 15, 16, 17, 18, 19, 20, 21, 26] (by decide +kernel) (by decide +kernel)
set_option maxRecDepth 20000 in
theorem gX2_lessenRings_X2_lessenTwo : GoodIn wsX2_lessenRings (wsV RX2 24 RX2 yX2_lessenTwo wsX2_lessenTwo) := goodIn_app (goodIn_of _ (by decide +kernel)) ggX2_lessenRings_X2_lessenTwo
set_option maxRecDepth 20000 in
theorem ggX2_lessenRings_X2_lessenThrees : GoodIn wsX2_lessenRings wsX2_lessenThrees := goodIn_r _ [25, 6, 7, 8, 9, 10, 11, 12, 4, 13, 14, 15, 16, 17, 18, 19, 20, 21, 26] (by decide +kernel) (by decide +kernel)
set_option maxRecDepth 20000 in
theorem gX2_lessenRings_X2_lessenThrees : GoodIn wsX2_lessenRings (wsV RX2 27 RX2 yX2_lessenThrees wsX2_lessenThrees) := goodIn_app (goodIn_of _ (by decide +kernel)) ggX2_lessenRings_X2_lessenThrees
theorem dX2_lessenRings_0 : decode cX2_lessenRings 0 = .ok (.iconst 0, 1) := by decide +kernel
theorem dX2_lessenRings_1 : decode cX2_lessenRings 1 = .ok (.istore_n 1, 1) := by decide +kernel
theorem dX2_lessenRings_2 : decode cX2_lessenRings 2 = .ok (.iconst 0, 1) := by decide +kernel
theorem dX2_lessenRings_3 : decode cX2_lessenRings 3 = .ok (.istore_n 2, 1) := by decide +kernel
theorem dX2_lessenRings_4 : decode cX2_lessenRings 4 = .ok (.iload_n 2, 1) := by decide +kernel
theorem dX2_lessenRings_5 : decode cX2_lessenRings 5 = .ok (.bipush 16, 2) := by decide +kernel
theorem dX2_lessenRings_7 : decode cX2_lessenRings 7 = .ok (.if_icmp .ge 34, 3) := by decide +kernel
theorem dX2_lessenRings_10 : decode cX2_lessenRings 10 = .ok (.iload_n 2, 1) := by decide +kernel
theorem dX2_lessenRings_11 : decode cX2_lessenRings 11 = .ok (.iconst 1, 1) := by decide +kernel
theorem dX2_lessenRings_12 : decode cX2_lessenRings 12 = .ok (.iadd, 1) := by decide +kernel
theorem dX2_lessenRings_13 : decode cX2_lessenRings 13 = .ok (.istore_n 3, 1) := by decide +kernel
theorem dX2_lessenRings_14 : decode cX2_lessenRings 14 = .ok (.iload_n 3, 1) := by decide +kernel
theorem dX2_lessenRings_15 : decode cX2_lessenRings 15 = .ok (.bipush 16, 2) := by decide +kernel
theorem dX2_lessenRings_17 : decode cX2_lessenRings 17 = .ok (.if_icmp .ge 18, 3) := by decide +kernel
theorem dX2_lessenRings_20 : decode cX2_lessenRings 20 = .ok (.iload_n 1, 1) := by decide +kernel
theorem dX2_lessenRings_21 : decode cX2_lessenRings 21 = .ok (.aload_n 0, 1) := by decide +kernel
theorem dX2_lessenRings_22 : decode cX2_lessenRings 22 = .ok (.iload_n 2, 1) := by decide +kernel
theorem dX2_lessenRings_23 : decode cX2_lessenRings 23 = .ok (.iload_n 3, 1) := by decide +kernel
theorem dX2_lessenRings_24 : decode cX2_lessenRings 24 = .ok (.invokevirtual 24, 3) := by decide +kernel
theorem dX2_lessenRings_27 : decode cX2_lessenRings 27 = .ok (.iadd, 1) := by decide +kernel
theorem dX2_lessenRings_28 : decode cX2_lessenRings 28 = .ok (.istore_n 1, 1) := by decide +kernel
theorem dX2_lessenRings_29 : decode cX2_lessenRings 29 = .ok (.iinc 3 1, 3) := by decide +kernel
theorem dX2_lessenRings_32 : decode cX2_lessenRings 32 = .ok (.goto (-18), 3) := by decide +kernel
theorem dX2_lessenRings_35 : decode cX2_lessenRings 35 = .ok (.iinc 2 1, 3) := by decide +kernel
theorem dX2_lessenRings_38 : decode cX2_lessenRings 38 = .ok (.goto (-34), 3) := by decide +kernel
theorem dX2_lessenRings_41 : decode cX2_lessenRings 41 = .ok (.iconst 0, 1) := by decide +kernel
theorem dX2_lessenRings_42 : decode cX2_lessenRings 42 = .ok (.istore_n 2, 1) := by decide +kernel
theorem dX2_lessenRings_43 : decode cX2_lessenRings 43 = .ok (.iload_n 2, 1) := by decide +kernel
theorem dX2_lessenRings_44 : decode cX2_lessenRings 44 = .ok (.bipush 16, 2) := by decide +kernel
theorem dX2_lessenRings_46 : decode cX2_lessenRings 46 = .ok (.if_icmp .ge 34, 3) := by decide +kernel
theorem dX2_lessenRings_49 : decode cX2_lessenRings 49 = .ok (.iload_n 2, 1) := by decide +kernel
theorem dX2_lessenRings_50 : decode cX2_lessenRings 50 = .ok (.iconst 1, 1) := by decide +kernel
theorem dX2_lessenRings_51 : decode cX2_lessenRings 51 = .ok (.iadd, 1) := by decide +kernel
theorem dX2_lessenRings_52 : decode cX2_lessenRings 52 = .ok (.istore_n 3, 1) := by decide +kernel
theorem dX2_lessenRings_53 : decode cX2_lessenRings 53 = .ok (.iload_n 3, 1) := by decide +kernel
theorem dX2_lessenRings_54 : decode cX2_lessenRings 54 = .ok (.bipush 16, 2) := by decide +kernel
theorem dX2_lessenRings_56 : decode cX2_lessenRings 56 = .ok (.if_icmp .ge 18, 3) := by decide +kernel
theorem dX2_lessenRings_59 : decode cX2_lessenRings 59 = .ok (.iload_n 1, 1) := by decide +kernel
theorem dX2_lessenRings_60 : decode cX2_lessenRings 60 = .ok (.aload_n 0, 1) := by decide +kernel
theorem dX2_lessenRings_61 : decode cX2_lessenRings 61 = .ok (.iload_n 2, 1) := by decide +kernel
theorem dX2_lessenRings_62 : decode cX2_lessenRings 62 = .ok (.iload_n 3, 1) := by decide +kernel
theorem dX2_lessenRings_63 : decode cX2_lessenRings 63 = .ok (.invokevirtual 27, 3) := by decide +kernel
theorem dX2_lessenRings_66 : decode cX2_lessenRings 66 = .ok (.iadd, 1) := by decide +kernel
theorem dX2_lessenRings_67 : decode cX2_lessenRings 67 = .ok (.istore_n 1, 1) := by decide +kernel
theorem dX2_lessenRings_68 : decode cX2_lessenRings 68 = .ok (.iinc 3 1, 3) := by decide +kernel
theorem dX2_lessenRings_71 : decode cX2_lessenRings 71 = .ok (.goto (-18), 3) := by decide +kernel
theorem dX2_lessenRings_74 : decode cX2_lessenRings 74 = .ok (.iinc 2 1, 3) := by decide +kernel
theorem dX2_lessenRings_77 : decode cX2_lessenRings 77 = .ok (.goto (-34), 3) := by decide +kernel
theorem dX2_lessenRings_80 : decode cX2_lessenRings 80 = .ok (.iload_n 1, 1) := by decide +kernel
theorem dX2_lessenRings_81 : decode cX2_lessenRings 81 = .ok (.ireturn, 1) := by decide +kernel
set_option maxRecDepth 20000 in
theorem ggX2_lessenTwo_X2_debt : GoodIn wsX2_lessenTwo wsX2_debt := goodIn_r _ [9, 10, 11, 12, 8, 13, 18] (by decide +kernel) (by decide +kernel)
set_option maxRecDepth 20000 in
theorem gX2_lessenTwo_X2_debt : GoodIn wsX2_lessenTwo (wsV RX2 20 RX2 yX2_debt wsX2_debt) := goodIn_app (goodIn_of _ (by decide +kernel)) ggX2_lessenTwo_X2_debt
set_option maxRecDepth 20000 in
theorem ggX2_lessenTwo_X2_owe : GoodIn wsX2_lessenTwo wsX2_owe := goodIn_r _ [17, 10, 11, 12, 8, 13, 18] (by decide +kernel) (by decide +kernel)
set_option maxRecDepth 20000 in
theorem gX2_lessenTwo_X2_owe : GoodIn wsX2_lessenTwo (wsV RX2 35 RX2 yX2_owe wsX2_owe) := goodIn_app (goodIn_of _ (by decide +kernel)) ggX2_lessenTwo_X2_owe
theorem dX2_lessenTwo_0 : decode cX2_lessenTwo 0 = .ok (.aload_n 0, 1) := by decide +kernel
theorem dX2_lessenTwo_1 : decode cX2_lessenTwo 1 = .ok (.iload_n 1, 1) := by decide +kernel
theorem dX2_lessenTwo_2 : decode cX2_lessenTwo 2 = .ok (.iload_n 2, 1) := by decide +kernel
theorem dX2_lessenTwo_3 : decode cX2_lessenTwo 3 = .ok (.invokevirtual 20, 3) := by decide +kernel
theorem dX2_lessenTwo_6 : decode cX2_lessenTwo 6 = .ok (.aload_n 0, 1) := by decide +kernel
theorem dX2_lessenTwo_7 : decode cX2_lessenTwo 7 = .ok (.iload_n 2, 1) := by decide +kernel
theorem dX2_lessenTwo_8 : decode cX2_lessenTwo 8 = .ok (.iload_n 1, 1) := by decide +kernel
theorem dX2_lessenTwo_9 : decode cX2_lessenTwo 9 = .ok (.invokevirtual 20, 3) := by decide +kernel
theorem dX2_lessenTwo_12 : decode cX2_lessenTwo 12 = .ok (.invokestatic 30, 3) := by decide +kernel
theorem dX2_lessenTwo_15 : decode cX2_lessenTwo 15 = .ok (.istore_n 3, 1) := by decide +kernel
theorem dX2_lessenTwo_16 : decode cX2_lessenTwo 16 = .ok (.aload_n 0, 1) := by decide +kernel
theorem dX2_lessenTwo_17 : decode cX2_lessenTwo 17 = .ok (.iload_n 1, 1) := by decide +kernel
theorem dX2_lessenTwo_18 : decode cX2_lessenTwo 18 = .ok (.iload_n 2, 1) := by decide +kernel
theorem dX2_lessenTwo_19 : decode cX2_lessenTwo 19 = .ok (.iload_n 3, 1) := by decide +kernel
theorem dX2_lessenTwo_20 : decode cX2_lessenTwo 20 = .ok (.ineg, 1) := by decide +kernel
theorem dX2_lessenTwo_21 : decode cX2_lessenTwo 21 = .ok (.invokevirtual 35, 3) := by decide +kernel
theorem dX2_lessenTwo_24 : decode cX2_lessenTwo 24 = .ok (.aload_n 0, 1) := by decide +kernel
theorem dX2_lessenTwo_25 : decode cX2_lessenTwo 25 = .ok (.iload_n 2, 1) := by decide +kernel
theorem dX2_lessenTwo_26 : decode cX2_lessenTwo 26 = .ok (.iload_n 1, 1) := by decide +kernel
theorem dX2_lessenTwo_27 : decode cX2_lessenTwo 27 = .ok (.iload_n 3, 1) := by decide +kernel
theorem dX2_lessenTwo_28 : decode cX2_lessenTwo 28 = .ok (.ineg, 1) := by decide +kernel
theorem dX2_lessenTwo_29 : decode cX2_lessenTwo 29 = .ok (.invokevirtual 35, 3) := by decide +kernel
theorem dX2_lessenTwo_32 : decode cX2_lessenTwo 32 = .ok (.iconst 2, 1) := by decide +kernel
theorem dX2_lessenTwo_33 : decode cX2_lessenTwo 33 = .ok (.iload_n 3, 1) := by decide +kernel
theorem dX2_lessenTwo_34 : decode cX2_lessenTwo 34 = .ok (.imul, 1) := by decide +kernel
theorem dX2_lessenTwo_35 : decode cX2_lessenTwo 35 = .ok (.ireturn, 1) := by decide +kernel
set_option maxRecDepth 20000 in
theorem ggX2_lessenThrees_X2_debt : GoodIn wsX2_lessenThrees wsX2_debt := goodIn_r _ [9, 10, 11, 12, 8, 13, 18] (by decide +kernel) (by decide +kernel)
set_option maxRecDepth 20000 in
theorem gX2_lessenThrees_X2_debt : GoodIn wsX2_lessenThrees (wsV RX2 20 RX2 yX2_debt wsX2_debt) := goodIn_app (goodIn_of _ (by decide +kernel)) ggX2_lessenThrees_X2_debt
set_option maxRecDepth 20000 in
theorem ggX2_lessenThrees_X2_owe : GoodIn wsX2_lessenThrees wsX2_owe := goodIn_r _ [17, 10, 11, 12, 8, 13, 18] (by decide +kernel) (by decide +kernel)
set_option maxRecDepth 20000 in
theorem gX2_lessenThrees_X2_owe : GoodIn wsX2_lessenThrees (wsV RX2 35 RX2 yX2_owe wsX2_owe) := goodIn_app (goodIn_of _ (by decide +kernel)) ggX2_lessenThrees_X2_owe
theorem dX2_lessenThrees_0 : decode cX2_lessenThrees 0 = .ok (.iconst 0, 1) := by decide +kernel
theorem dX2_lessenThrees_1 : decode cX2_lessenThrees 1 = .ok (.istore_n 3, 1) := by decide +kernel
theorem dX2_lessenThrees_2 : decode cX2_lessenThrees 2 = .ok (.iload_n 1, 1) := by decide +kernel
theorem dX2_lessenThrees_3 : decode cX2_lessenThrees 3 = .ok (.iconst 1, 1) := by decide +kernel
theorem dX2_lessenThrees_4 : decode cX2_lessenThrees 4 = .ok (.iadd, 1) := by decide +kernel
theorem dX2_lessenThrees_5 : decode cX2_lessenThrees 5 = .ok (.istore 4, 2) := by decide +kernel
theorem dX2_lessenThrees_7 : decode cX2_lessenThrees 7 = .ok (.iload 4, 2) := by decide +kernel
theorem dX2_lessenThrees_9 : decode cX2_lessenThrees 9 = .ok (.bipush 16, 2) := by decide +kernel
theorem dX2_lessenThrees_11 : decode cX2_lessenThrees 11 = .ok (.if_icmp .ge 79, 3) := by decide +kernel
theorem dX2_lessenThrees_14 : decode cX2_lessenThrees 14 = .ok (.iload 4, 2) := by decide +kernel
theorem dX2_lessenThrees_16 : decode cX2_lessenThrees 16 = .ok (.iload_n 2, 1) := by decide +kernel
theorem dX2_lessenThrees_17 : decode cX2_lessenThrees 17 = .ok (.if_icmp .eq 67, 3) := by decide +kernel
theorem dX2_lessenThrees_20 : decode cX2_lessenThrees 20 = .ok (.aload_n 0, 1) := by decide +kernel
theorem dX2_lessenThrees_21 : decode cX2_lessenThrees 21 = .ok (.iload_n 1, 1) := by decide +kernel
theorem dX2_lessenThrees_22 : decode cX2_lessenThrees 22 = .ok (.iload_n 2, 1) := by decide +kernel
theorem dX2_lessenThrees_23 : decode cX2_lessenThrees 23 = .ok (.invokevirtual 20, 3) := by decide +kernel
theorem dX2_lessenThrees_26 : decode cX2_lessenThrees 26 = .ok (.aload_n 0, 1) := by decide +kernel
theorem dX2_lessenThrees_27 : decode cX2_lessenThrees 27 = .ok (.iload_n 2, 1) := by decide +kernel
theorem dX2_lessenThrees_28 : decode cX2_lessenThrees 28 = .ok (.iload 4, 2) := by decide +kernel
theorem dX2_lessenThrees_30 : decode cX2_lessenThrees 30 = .ok (.invokevirtual 20, 3) := by decide +kernel
theorem dX2_lessenThrees_33 : decode cX2_lessenThrees 33 = .ok (.aload_n 0, 1) := by decide +kernel
theorem dX2_lessenThrees_34 : decode cX2_lessenThrees 34 = .ok (.iload 4, 2) := by decide +kernel
theorem dX2_lessenThrees_36 : decode cX2_lessenThrees 36 = .ok (.iload_n 1, 1) := by decide +kernel
theorem dX2_lessenThrees_37 : decode cX2_lessenThrees 37 = .ok (.invokevirtual 20, 3) := by decide +kernel
theorem dX2_lessenThrees_40 : decode cX2_lessenThrees 40 = .ok (.invokestatic 30, 3) := by decide +kernel
theorem dX2_lessenThrees_43 : decode cX2_lessenThrees 43 = .ok (.invokestatic 30, 3) := by decide +kernel
theorem dX2_lessenThrees_46 : decode cX2_lessenThrees 46 = .ok (.istore 5, 2) := by decide +kernel
theorem dX2_lessenThrees_48 : decode cX2_lessenThrees 48 = .ok (.aload_n 0, 1) := by decide +kernel
theorem dX2_lessenThrees_49 : decode cX2_lessenThrees 49 = .ok (.iload_n 1, 1) := by decide +kernel
theorem dX2_lessenThrees_50 : decode cX2_lessenThrees 50 = .ok (.iload_n 2, 1) := by decide +kernel
theorem dX2_lessenThrees_51 : decode cX2_lessenThrees 51 = .ok (.iload 5, 2) := by decide +kernel
theorem dX2_lessenThrees_53 : decode cX2_lessenThrees 53 = .ok (.ineg, 1) := by decide +kernel
theorem dX2_lessenThrees_54 : decode cX2_lessenThrees 54 = .ok (.invokevirtual 35, 3) := by decide +kernel
theorem dX2_lessenThrees_57 : decode cX2_lessenThrees 57 = .ok (.aload_n 0, 1) := by decide +kernel
theorem dX2_lessenThrees_58 : decode cX2_lessenThrees 58 = .ok (.iload_n 2, 1) := by decide +kernel
theorem dX2_lessenThrees_59 : decode cX2_lessenThrees 59 = .ok (.iload 4, 2) := by decide +kernel
theorem dX2_lessenThrees_61 : decode cX2_lessenThrees 61 = .ok (.iload 5, 2) := by decide +kernel
theorem dX2_lessenThrees_63 : decode cX2_lessenThrees 63 = .ok (.ineg, 1) := by decide +kernel
theorem dX2_lessenThrees_64 : decode cX2_lessenThrees 64 = .ok (.invokevirtual 35, 3) := by decide +kernel
theorem dX2_lessenThrees_67 : decode cX2_lessenThrees 67 = .ok (.aload_n 0, 1) := by decide +kernel
theorem dX2_lessenThrees_68 : decode cX2_lessenThrees 68 = .ok (.iload 4, 2) := by decide +kernel
theorem dX2_lessenThrees_70 : decode cX2_lessenThrees 70 = .ok (.iload_n 1, 1) := by decide +kernel
theorem dX2_lessenThrees_71 : decode cX2_lessenThrees 71 = .ok (.iload 5, 2) := by decide +kernel
theorem dX2_lessenThrees_73 : decode cX2_lessenThrees 73 = .ok (.ineg, 1) := by decide +kernel
theorem dX2_lessenThrees_74 : decode cX2_lessenThrees 74 = .ok (.invokevirtual 35, 3) := by decide +kernel
theorem dX2_lessenThrees_77 : decode cX2_lessenThrees 77 = .ok (.iload_n 3, 1) := by decide +kernel
theorem dX2_lessenThrees_78 : decode cX2_lessenThrees 78 = .ok (.iconst 3, 1) := by decide +kernel
theorem dX2_lessenThrees_79 : decode cX2_lessenThrees 79 = .ok (.iload 5, 2) := by decide +kernel
theorem dX2_lessenThrees_81 : decode cX2_lessenThrees 81 = .ok (.imul, 1) := by decide +kernel
theorem dX2_lessenThrees_82 : decode cX2_lessenThrees 82 = .ok (.iadd, 1) := by decide +kernel
theorem dX2_lessenThrees_83 : decode cX2_lessenThrees 83 = .ok (.istore_n 3, 1) := by decide +kernel
theorem dX2_lessenThrees_84 : decode cX2_lessenThrees 84 = .ok (.iinc 4 1, 3) := by decide +kernel
theorem dX2_lessenThrees_87 : decode cX2_lessenThrees 87 = .ok (.goto (-80), 3) := by decide +kernel
theorem dX2_lessenThrees_90 : decode cX2_lessenThrees 90 = .ok (.iload_n 3, 1) := by decide +kernel
theorem dX2_lessenThrees_91 : decode cX2_lessenThrees 91 = .ok (.ireturn, 1) := by decide +kernel
theorem dX3_init_0 : decode cX3_init 0 = .ok (.aload_n 0, 1) := by decide +kernel
theorem dX3_init_1 : decode cX3_init 1 = .ok (.invokespecial 3, 3) := by decide +kernel
theorem dX3_init_4 : decode cX3_init 4 = .ok (.aload_n 0, 1) := by decide +kernel
theorem dX3_init_5 : decode cX3_init 5 = .ok (.bipush 16, 2) := by decide +kernel
theorem dX3_init_7 : decode cX3_init 7 = .ok (.newarray .int, 2) := by decide +kernel
theorem dX3_init_9 : decode cX3_init 9 = .ok (.putfield 9, 3) := by decide +kernel
theorem dX3_init_12 : decode cX3_init 12 = .ok (.aload_n 0, 1) := by decide +kernel
theorem dX3_init_13 : decode cX3_init 13 = .ok (.aload_n 1, 1) := by decide +kernel
theorem dX3_init_14 : decode cX3_init 14 = .ok (.putfield 15, 3) := by decide +kernel
theorem dX3_init_17 : decode cX3_init 17 = .ok (.return_, 1) := by decide +kernel
theorem dX3_roundCount_0 : decode cX3_roundCount 0 = .ok (.aload_n 0, 1) := by decide +kernel
theorem dX3_roundCount_1 : decode cX3_roundCount 1 = .ok (.getfield 19, 3) := by decide +kernel
theorem dX3_roundCount_4 : decode cX3_roundCount 4 = .ok (.ireturn, 1) := by decide +kernel
set_option maxRecDepth 20000 in
theorem ggX3_run_X3_tellInRound : GoodIn wsX3_run wsX3_tellInRound := goodIn_r _ [7, 8, 1, 9, 10, 11, 12, 13, 14, 15, 16, 17, 18, 19, 20, 21, 22, 6, 23, 24, 25, 26, 27, 28, 29, 30, 31, 32, 33, 34, 35, 36, 37, 38, 39, 40, 41] (by decide +kernel) (by decide +kernel)
set_option maxRecDepth 20000 in
theorem gX3_run_X3_tellInRound : GoodIn wsX3_run (wsV RX3 23 RX3 yX3_tellInRound wsX3_tellInRound) := goodIn_app (goodIn_of _ (by decide +kernel)) ggX3_run_X3_tellInRound
theorem dX3_run_0 : decode cX3_run 0 = .ok (.iconst 0, 1) := by decide +kernel
theorem dX3_run_1 : decode cX3_run 1 = .ok (.istore_n 2, 1) := by decide +kernel
theorem dX3_run_2 : decode cX3_run 2 = .ok (.iload_n 2, 1) := by decide +kernel
theorem dX3_run_3 : decode cX3_run 3 = .ok (.bipush 16, 2) := by decide +kernel
theorem dX3_run_5 : decode cX3_run 5 = .ok (.if_icmp .ge 25, 3) := by decide +kernel
theorem dX3_run_8 : decode cX3_run 8 = .ok (.aload_n 0, 1) := by decide +kernel
theorem dX3_run_9 : decode cX3_run 9 = .ok (.getfield 9, 3) := by decide +kernel
theorem dX3_run_12 : decode cX3_run 12 = .ok (.iload_n 2, 1) := by decide +kernel
theorem dX3_run_13 : decode cX3_run 13 = .ok (.iload_n 2, 1) := by decide +kernel
theorem dX3_run_14 : decode cX3_run 14 = .ok (.iload_n 1, 1) := by decide +kernel
theorem dX3_run_15 : decode cX3_run 15 = .ok (.if_icmp .ne 7, 3) := by decide +kernel
theorem dX3_run_18 : decode cX3_run 18 = .ok (.iconst 0, 1) := by decide +kernel
theorem dX3_run_19 : decode cX3_run 19 = .ok (.goto 4, 3) := by decide +kernel
theorem dX3_run_22 : decode cX3_run 22 = .ok (.iconst (-1), 1) := by decide +kernel
theorem dX3_run_23 : decode cX3_run 23 = .ok (.iastore, 1) := by decide +kernel
theorem dX3_run_24 : decode cX3_run 24 = .ok (.iinc 2 1, 3) := by decide +kernel
theorem dX3_run_27 : decode cX3_run 27 = .ok (.goto (-25), 3) := by decide +kernel
theorem dX3_run_30 : decode cX3_run 30 = .ok (.aload_n 0, 1) := by decide +kernel
theorem dX3_run_31 : decode cX3_run 31 = .ok (.iconst 0, 1) := by decide +kernel
theorem dX3_run_32 : decode cX3_run 32 = .ok (.putfield 19, 3) := by decide +kernel
theorem dX3_run_35 : decode cX3_run 35 = .ok (.iconst 0, 1) := by decide +kernel
theorem dX3_run_36 : decode cX3_run 36 = .ok (.istore_n 2, 1) := by decide +kernel
theorem dX3_run_37 : decode cX3_run 37 = .ok (.iconst 0, 1) := by decide +kernel
theorem dX3_run_38 : decode cX3_run 38 = .ok (.istore_n 3, 1) := by decide +kernel
theorem dX3_run_39 : decode cX3_run 39 = .ok (.iconst 1, 1) := by decide +kernel
theorem dX3_run_40 : decode cX3_run 40 = .ok (.istore 4, 2) := by decide +kernel
theorem dX3_run_42 : decode cX3_run 42 = .ok (.iload 4, 2) := by decide +kernel
theorem dX3_run_44 : decode cX3_run 44 = .ok (.bipush 16, 2) := by decide +kernel
theorem dX3_run_46 : decode cX3_run 46 = .ok (.if_icmp .gt 55, 3) := by decide +kernel
theorem dX3_run_49 : decode cX3_run 49 = .ok (.iload_n 3, 1) := by decide +kernel
theorem dX3_run_50 : decode cX3_run 50 = .ok (.ifCond .ne 51, 3) := by decide +kernel
theorem dX3_run_53 : decode cX3_run 53 = .ok (.aload_n 0, 1) := by decide +kernel
theorem dX3_run_54 : decode cX3_run 54 = .ok (.iload 4, 2) := by decide +kernel
theorem dX3_run_56 : decode cX3_run 56 = .ok (.invokevirtual 23, 3) := by decide +kernel
theorem dX3_run_59 : decode cX3_run 59 = .ok (.istore 5, 2) := by decide +kernel
theorem dX3_run_61 : decode cX3_run 61 = .ok (.iload_n 2, 1) := by decide +kernel
theorem dX3_run_62 : decode cX3_run 62 = .ok (.iload 5, 2) := by decide +kernel
theorem dX3_run_64 : decode cX3_run 64 = .ok (.iadd, 1) := by decide +kernel
theorem dX3_run_65 : decode cX3_run 65 = .ok (.istore_n 2, 1) := by decide +kernel
theorem dX3_run_66 : decode cX3_run 66 = .ok (.iload 5, 2) := by decide +kernel
theorem dX3_run_68 : decode cX3_run 68 = .ok (.ifCond .ne 7, 3) := by decide +kernel
theorem dX3_run_71 : decode cX3_run 71 = .ok (.iconst 1, 1) := by decide +kernel
theorem dX3_run_72 : decode cX3_run 72 = .ok (.goto 4, 3) := by decide +kernel
theorem dX3_run_75 : decode cX3_run 75 = .ok (.iconst 0, 1) := by decide +kernel
theorem dX3_run_76 : decode cX3_run 76 = .ok (.istore_n 3, 1) := by decide +kernel
theorem dX3_run_77 : decode cX3_run 77 = .ok (.aload_n 0, 1) := by decide +kernel
theorem dX3_run_78 : decode cX3_run 78 = .ok (.dup, 1) := by decide +kernel
theorem dX3_run_79 : decode cX3_run 79 = .ok (.getfield 19, 3) := by decide +kernel
theorem dX3_run_82 : decode cX3_run 82 = .ok (.iload_n 3, 1) := by decide +kernel
theorem dX3_run_83 : decode cX3_run 83 = .ok (.ifCond .eq 7, 3) := by decide +kernel
theorem dX3_run_86 : decode cX3_run 86 = .ok (.iconst 0, 1) := by decide +kernel
theorem dX3_run_87 : decode cX3_run 87 = .ok (.goto 4, 3) := by decide +kernel
theorem dX3_run_90 : decode cX3_run 90 = .ok (.iconst 1, 1) := by decide +kernel
theorem dX3_run_91 : decode cX3_run 91 = .ok (.iadd, 1) := by decide +kernel
theorem dX3_run_92 : decode cX3_run 92 = .ok (.putfield 19, 3) := by decide +kernel
theorem dX3_run_95 : decode cX3_run 95 = .ok (.iinc 4 1, 3) := by decide +kernel
theorem dX3_run_98 : decode cX3_run 98 = .ok (.goto (-56), 3) := by decide +kernel
theorem dX3_run_101 : decode cX3_run 101 = .ok (.iload_n 2, 1) := by decide +kernel
theorem dX3_run_102 : decode cX3_run 102 = .ok (.ireturn, 1) := by decide +kernel
set_option maxRecDepth 20000 in
theorem ggX3_tellInRound_X5_isHonest : GoodIn wsX3_tellInRound wsX5_isHonest := goodIn_r _ [7, 8, 9, 10, 11, 6, 12, 13, 32, 33, 34, 35, 36] (by decide +kernel) (by decide +kernel)
set_option maxRecDepth 20000 in
theorem gX3_tellInRound_X5_isHonest : GoodIn wsX3_tellInRound (wsV RX3 27 RX5 yX5_isHonest wsX5_isHonest) := goodIn_app (goodIn_of _ (by decide +kernel)) ggX3_tellInRound_X5_isHonest
set_option maxRecDepth 20000 in
theorem ggX3_tellInRound_X3_tellAll : GoodIn wsX3_tellInRound wsX3_tellAll := goodIn_r _ [18, 1, 2, 19, 20, 21, 6, 22, 23, 9, 10, 11, 12, 13, 24, 25, 26, 27, 28, 8, 29, 30, 31, 32, 33, 34, 35, 36] (by decide +kernel) (by decide +kernel)
set_option maxRecDepth 20000 in
theorem gX3_tellInRound_X3_tellAll : GoodIn wsX3_tellInRound (wsV RX3 33 RX3 yX3_tellAll wsX3_tellAll) := goodIn_app (goodIn_of _ (by decide +kernel)) ggX3_tellInRound_X3_tellAll
theorem dX3_tellInRound_0 : decode cX3_tellInRound 0 = .ok (.iconst 0, 1) := by decide +kernel
theorem dX3_tellInRound_1 : decode cX3_tellInRound 1 = .ok (.istore_n 2, 1) := by decide +kernel
theorem dX3_tellInRound_2 : decode cX3_tellInRound 2 = .ok (.iconst 0, 1) := by decide +kernel
theorem dX3_tellInRound_3 : decode cX3_tellInRound 3 = .ok (.istore_n 3, 1) := by decide +kernel
theorem dX3_tellInRound_4 : decode cX3_tellInRound 4 = .ok (.iload_n 3, 1) := by decide +kernel
theorem dX3_tellInRound_5 : decode cX3_tellInRound 5 = .ok (.bipush 16, 2) := by decide +kernel
theorem dX3_tellInRound_7 : decode cX3_tellInRound 7 = .ok (.if_icmp .ge 58, 3) := by decide +kernel
theorem dX3_tellInRound_10 : decode cX3_tellInRound 10 = .ok (.iload_n 1, 1) := by decide +kernel
theorem dX3_tellInRound_11 : decode cX3_tellInRound 11 = .ok (.iconst 1, 1) := by decide +kernel
theorem dX3_tellInRound_12 : decode cX3_tellInRound 12 = .ok (.if_icmp .eq 14, 3) := by decide +kernel
theorem dX3_tellInRound_15 : decode cX3_tellInRound 15 = .ok (.aload_n 0, 1) := by decide +kernel
theorem dX3_tellInRound_16 : decode cX3_tellInRound 16 = .ok (.getfield 15, 3) := by decide +kernel
theorem dX3_tellInRound_19 : decode cX3_tellInRound 19 = .ok (.iload_n 3, 1) := by decide +kernel
theorem dX3_tellInRound_20 : decode cX3_tellInRound 20 = .ok (.invokevirtual 27, 3) := by decide +kernel
theorem dX3_tellInRound_23 : decode cX3_tellInRound 23 = .ok (.ifCond .eq 7, 3) := by decide +kernel
theorem dX3_tellInRound_26 : decode cX3_tellInRound 26 = .ok (.iconst 1, 1) := by decide +kernel
theorem dX3_tellInRound_27 : decode cX3_tellInRound 27 = .ok (.goto 4, 3) := by decide +kernel
theorem dX3_tellInRound_30 : decode cX3_tellInRound 30 = .ok (.iconst 0, 1) := by decide +kernel
theorem dX3_tellInRound_31 : decode cX3_tellInRound 31 = .ok (.istore 4, 2) := by decide +kernel
theorem dX3_tellInRound_33 : decode cX3_tellInRound 33 = .ok (.iload 4, 2) := by decide +kernel
theorem dX3_tellInRound_35 : decode cX3_tellInRound 35 = .ok (.ifCond .eq 24, 3) := by decide +kernel
theorem dX3_tellInRound_38 : decode cX3_tellInRound 38 = .ok (.aload_n 0, 1) := by decide +kernel
theorem dX3_tellInRound_39 : decode cX3_tellInRound 39 = .ok (.getfield 9, 3) := by decide +kernel
theorem dX3_tellInRound_42 : decode cX3_tellInRound 42 = .ok (.iload_n 3, 1) := by decide +kernel
theorem dX3_tellInRound_43 : decode cX3_tellInRound 43 = .ok (.iaload, 1) := by decide +kernel
theorem dX3_tellInRound_44 : decode cX3_tellInRound 44 = .ok (.iload_n 1, 1) := by decide +kernel
theorem dX3_tellInRound_45 : decode cX3_tellInRound 45 = .ok (.iconst 1, 1) := by decide +kernel
theorem dX3_tellInRound_46 : decode cX3_tellInRound 46 = .ok (.isub, 1) := by decide +kernel
theorem dX3_tellInRound_47 : decode cX3_tellInRound 47 = .ok (.if_icmp .ne 12, 3) := by decide +kernel
theorem dX3_tellInRound_50 : decode cX3_tellInRound 50 = .ok (.iload_n 2, 1) := by decide +kernel
theorem dX3_tellInRound_51 : decode cX3_tellInRound 51 = .ok (.aload_n 0, 1) := by decide +kernel
theorem dX3_tellInRound_52 : decode cX3_tellInRound 52 = .ok (.iload_n 3, 1) := by decide +kernel
theorem dX3_tellInRound_53 : decode cX3_tellInRound 53 = .ok (.iload_n 1, 1) := by decide +kernel
theorem dX3_tellInRound_54 : decode cX3_tellInRound 54 = .ok (.invokevirtual 33, 3) := by decide +kernel
theorem dX3_tellInRound_57 : decode cX3_tellInRound 57 = .ok (.iadd, 1) := by decide +kernel
theorem dX3_tellInRound_58 : decode cX3_tellInRound 58 = .ok (.istore_n 2, 1) := by decide +kernel
theorem dX3_tellInRound_59 : decode cX3_tellInRound 59 = .ok (.iinc 3 1, 3) := by decide +kernel
theorem dX3_tellInRound_62 : decode cX3_tellInRound 62 = .ok (.goto (-58), 3) := by decide +kernel
theorem dX3_tellInRound_65 : decode cX3_tellInRound 65 = .ok (.iload_n 2, 1) := by decide +kernel
theorem dX3_tellInRound_66 : decode cX3_tellInRound 66 = .ok (.ireturn, 1) := by decide +kernel
set_option maxRecDepth 20000 in
theorem ggX3_tellAll_X5_keptAt : GoodIn wsX3_tellAll wsX5_keptAt := goodIn_r _ [7, 8, 9, 10, 11, 6, 12, 13, 23, 24, 25, 26, 27] (by decide +kernel) (by decide +kernel)
set_option maxRecDepth 20000 in
theorem gX3_tellAll_X5_keptAt : GoodIn wsX3_tellAll (wsV RX3 37 RX5 yX5_keptAt wsX5_keptAt) := goodIn_app (goodIn_of _ (by decide +kernel)) ggX3_tellAll_X5_keptAt
set_option maxRecDepth 20000 in
theorem ggX3_tellAll_X5_answers : GoodIn wsX3_tellAll wsX5_answers := goodIn_r _ [17, 18, 19, 9, 10, 11, 6, 12, 13, 23, 24, 25, 26, 27] (by decide +kernel) (by decide +kernel)
set_option maxRecDepth 20000 in
theorem gX3_tellAll_X5_answers : GoodIn wsX3_tellAll (wsV RX3 40 RX5 yX5_answers wsX5_answers) := goodIn_app (goodIn_of _ (by decide +kernel)) ggX3_tellAll_X5_answers
theorem dX3_tellAll_0 : decode cX3_tellAll 0 = .ok (.iconst 0, 1) := by decide +kernel
theorem dX3_tellAll_1 : decode cX3_tellAll 1 = .ok (.istore_n 3, 1) := by decide +kernel
theorem dX3_tellAll_2 : decode cX3_tellAll 2 = .ok (.iconst 0, 1) := by decide +kernel
theorem dX3_tellAll_3 : decode cX3_tellAll 3 = .ok (.istore 4, 2) := by decide +kernel
theorem dX3_tellAll_5 : decode cX3_tellAll 5 = .ok (.iload 4, 2) := by decide +kernel
theorem dX3_tellAll_7 : decode cX3_tellAll 7 = .ok (.bipush 16, 2) := by decide +kernel
theorem dX3_tellAll_9 : decode cX3_tellAll 9 = .ok (.if_icmp .ge 55, 3) := by decide +kernel
theorem dX3_tellAll_12 : decode cX3_tellAll 12 = .ok (.aload_n 0, 1) := by decide +kernel
theorem dX3_tellAll_13 : decode cX3_tellAll 13 = .ok (.getfield 15, 3) := by decide +kernel
theorem dX3_tellAll_16 : decode cX3_tellAll 16 = .ok (.iload_n 1, 1) := by decide +kernel
theorem dX3_tellAll_17 : decode cX3_tellAll 17 = .ok (.iload 4, 2) := by decide +kernel
theorem dX3_tellAll_19 : decode cX3_tellAll 19 = .ok (.invokevirtual 37, 3) := by decide +kernel
theorem dX3_tellAll_22 : decode cX3_tellAll 22 = .ok (.istore 5, 2) := by decide +kernel
theorem dX3_tellAll_24 : decode cX3_tellAll 24 = .ok (.aload_n 0, 1) := by decide +kernel
theorem dX3_tellAll_25 : decode cX3_tellAll 25 = .ok (.getfield 15, 3) := by decide +kernel
theorem dX3_tellAll_28 : decode cX3_tellAll 28 = .ok (.iload 5, 2) := by decide +kernel
theorem dX3_tellAll_30 : decode cX3_tellAll 30 = .ok (.invokevirtual 40, 3) := by decide +kernel
theorem dX3_tellAll_33 : decode cX3_tellAll 33 = .ok (.ifCond .eq 25, 3) := by decide +kernel
theorem dX3_tellAll_36 : decode cX3_tellAll 36 = .ok (.aload_n 0, 1) := by decide +kernel
theorem dX3_tellAll_37 : decode cX3_tellAll 37 = .ok (.getfield 9, 3) := by decide +kernel
theorem dX3_tellAll_40 : decode cX3_tellAll 40 = .ok (.iload 5, 2) := by decide +kernel
theorem dX3_tellAll_42 : decode cX3_tellAll 42 = .ok (.iaload, 1) := by decide +kernel
theorem dX3_tellAll_43 : decode cX3_tellAll 43 = .ok (.iconst (-1), 1) := by decide +kernel
theorem dX3_tellAll_44 : decode cX3_tellAll 44 = .ok (.if_icmp .ne 14, 3) := by decide +kernel
theorem dX3_tellAll_47 : decode cX3_tellAll 47 = .ok (.aload_n 0, 1) := by decide +kernel
theorem dX3_tellAll_48 : decode cX3_tellAll 48 = .ok (.getfield 9, 3) := by decide +kernel
theorem dX3_tellAll_51 : decode cX3_tellAll 51 = .ok (.iload 5, 2) := by decide +kernel
theorem dX3_tellAll_53 : decode cX3_tellAll 53 = .ok (.iload_n 2, 1) := by decide +kernel
theorem dX3_tellAll_54 : decode cX3_tellAll 54 = .ok (.iastore, 1) := by decide +kernel
theorem dX3_tellAll_55 : decode cX3_tellAll 55 = .ok (.iinc 3 1, 3) := by decide +kernel
theorem dX3_tellAll_58 : decode cX3_tellAll 58 = .ok (.iinc 4 1, 3) := by decide +kernel
theorem dX3_tellAll_61 : decode cX3_tellAll 61 = .ok (.goto (-56), 3) := by decide +kernel
theorem dX3_tellAll_64 : decode cX3_tellAll 64 = .ok (.iload_n 3, 1) := by decide +kernel
theorem dX3_tellAll_65 : decode cX3_tellAll 65 = .ok (.ireturn, 1) := by decide +kernel
theorem dX4_init_0 : decode cX4_init 0 = .ok (.aload_n 0, 1) := by decide +kernel
theorem dX4_init_1 : decode cX4_init 1 = .ok (.invokespecial 3, 3) := by decide +kernel
theorem dX4_init_4 : decode cX4_init 4 = .ok (.aload_n 0, 1) := by decide +kernel
theorem dX4_init_5 : decode cX4_init 5 = .ok (.sipush 256, 3) := by decide +kernel
theorem dX4_init_8 : decode cX4_init 8 = .ok (.newarray .int, 2) := by decide +kernel
theorem dX4_init_10 : decode cX4_init 10 = .ok (.putfield 9, 3) := by decide +kernel
theorem dX4_init_13 : decode cX4_init 13 = .ok (.aload_n 0, 1) := by decide +kernel
theorem dX4_init_14 : decode cX4_init 14 = .ok (.bipush 16, 2) := by decide +kernel
theorem dX4_init_16 : decode cX4_init 16 = .ok (.sipush 256, 3) := by decide +kernel
theorem dX4_init_19 : decode cX4_init 19 = .ok (.multianewarray 15 2, 4) := by decide +kernel
theorem dX4_init_23 : decode cX4_init 23 = .ok (.putfield 17, 3) := by decide +kernel
theorem dX4_init_26 : decode cX4_init 26 = .ok (.iconst 0, 1) := by decide +kernel
theorem dX4_init_27 : decode cX4_init 27 = .ok (.istore_n 1, 1) := by decide +kernel
theorem dX4_init_28 : decode cX4_init 28 = .ok (.iload_n 1, 1) := by decide +kernel
theorem dX4_init_29 : decode cX4_init 29 = .ok (.sipush 256, 3) := by decide +kernel
theorem dX4_init_32 : decode cX4_init 32 = .ok (.if_icmp .ge 39, 3) := by decide +kernel
theorem dX4_init_35 : decode cX4_init 35 = .ok (.aload_n 0, 1) := by decide +kernel
theorem dX4_init_36 : decode cX4_init 36 = .ok (.getfield 9, 3) := by decide +kernel
theorem dX4_init_39 : decode cX4_init 39 = .ok (.iload_n 1, 1) := by decide +kernel
theorem dX4_init_40 : decode cX4_init 40 = .ok (.iconst (-1), 1) := by decide +kernel
theorem dX4_init_41 : decode cX4_init 41 = .ok (.iastore, 1) := by decide +kernel
theorem dX4_init_42 : decode cX4_init 42 = .ok (.iconst 0, 1) := by decide +kernel
theorem dX4_init_43 : decode cX4_init 43 = .ok (.istore_n 2, 1) := by decide +kernel
theorem dX4_init_44 : decode cX4_init 44 = .ok (.iload_n 2, 1) := by decide +kernel
theorem dX4_init_45 : decode cX4_init 45 = .ok (.bipush 16, 2) := by decide +kernel
theorem dX4_init_47 : decode cX4_init 47 = .ok (.if_icmp .ge 18, 3) := by decide +kernel
theorem dX4_init_50 : decode cX4_init 50 = .ok (.aload_n 0, 1) := by decide +kernel
theorem dX4_init_51 : decode cX4_init 51 = .ok (.getfield 17, 3) := by decide +kernel
theorem dX4_init_54 : decode cX4_init 54 = .ok (.iload_n 2, 1) := by decide +kernel
theorem dX4_init_55 : decode cX4_init 55 = .ok (.aaload, 1) := by decide +kernel
theorem dX4_init_56 : decode cX4_init 56 = .ok (.iload_n 1, 1) := by decide +kernel
theorem dX4_init_57 : decode cX4_init 57 = .ok (.iconst (-1), 1) := by decide +kernel
theorem dX4_init_58 : decode cX4_init 58 = .ok (.iastore, 1) := by decide +kernel
theorem dX4_init_59 : decode cX4_init 59 = .ok (.iinc 2 1, 3) := by decide +kernel
theorem dX4_init_62 : decode cX4_init 62 = .ok (.goto (-18), 3) := by decide +kernel
theorem dX4_init_65 : decode cX4_init 65 = .ok (.iinc 1 1, 3) := by decide +kernel
theorem dX4_init_68 : decode cX4_init 68 = .ok (.goto (-40), 3) := by decide +kernel
theorem dX4_init_71 : decode cX4_init 71 = .ok (.return_, 1) := by decide +kernel
set_option maxRecDepth 20000 in
theorem ggX4_mayTell_X4_isKey : GoodIn wsX4_mayTell wsX4_isKey := goodIn_r _ [5] (by decide +kernel) (by decide +kernel)
set_option maxRecDepth 20000 in
theorem gX4_mayTell_X4_isKey : GoodIn wsX4_mayTell (va_wsS RX4 20 yX4_isKey wsX4_isKey) := goodIn_app (goodIn_of _ (by decide +kernel)) ggX4_mayTell_X4_isKey
theorem dX4_mayTell_0 : decode cX4_mayTell 0 = .ok (.iload_n 2, 1) := by decide +kernel
theorem dX4_mayTell_1 : decode cX4_mayTell 1 = .ok (.invokestatic 20, 3) := by decide +kernel
theorem dX4_mayTell_4 : decode cX4_mayTell 4 = .ok (.ifCond .eq 27, 3) := by decide +kernel
theorem dX4_mayTell_7 : decode cX4_mayTell 7 = .ok (.aload_n 0, 1) := by decide +kernel
theorem dX4_mayTell_8 : decode cX4_mayTell 8 = .ok (.getfield 9, 3) := by decide +kernel
theorem dX4_mayTell_11 : decode cX4_mayTell 11 = .ok (.iload_n 2, 1) := by decide +kernel
theorem dX4_mayTell_12 : decode cX4_mayTell 12 = .ok (.iaload, 1) := by decide +kernel
theorem dX4_mayTell_13 : decode cX4_mayTell 13 = .ok (.iconst (-1), 1) := by decide +kernel
theorem dX4_mayTell_14 : decode cX4_mayTell 14 = .ok (.if_icmp .eq 13, 3) := by decide +kernel
theorem dX4_mayTell_17 : decode cX4_mayTell 17 = .ok (.aload_n 0, 1) := by decide +kernel
theorem dX4_mayTell_18 : decode cX4_mayTell 18 = .ok (.getfield 9, 3) := by decide +kernel
theorem dX4_mayTell_21 : decode cX4_mayTell 21 = .ok (.iload_n 2, 1) := by decide +kernel
theorem dX4_mayTell_22 : decode cX4_mayTell 22 = .ok (.iaload, 1) := by decide +kernel
theorem dX4_mayTell_23 : decode cX4_mayTell 23 = .ok (.iload_n 1, 1) := by decide +kernel
theorem dX4_mayTell_24 : decode cX4_mayTell 24 = .ok (.if_icmp .ne 7, 3) := by decide +kernel
theorem dX4_mayTell_27 : decode cX4_mayTell 27 = .ok (.iconst 1, 1) := by decide +kernel
theorem dX4_mayTell_28 : decode cX4_mayTell 28 = .ok (.goto 4, 3) := by decide +kernel
theorem dX4_mayTell_31 : decode cX4_mayTell 31 = .ok (.iconst 0, 1) := by decide +kernel
theorem dX4_mayTell_32 : decode cX4_mayTell 32 = .ok (.ireturn, 1) := by decide +kernel
set_option maxRecDepth 20000 in
theorem ggX4_claim_X4_mayTell : GoodIn wsX4_claim wsX4_mayTell := goodIn_r _ [6, 1, 7, 8, 5, 9, 10, 11] (by decide +kernel) (by decide +kernel)
set_option maxRecDepth 20000 in
theorem gX4_claim_X4_mayTell : GoodIn wsX4_claim (wsV RX4 24 RX4 yX4_mayTell wsX4_mayTell) := goodIn_app (goodIn_of _ (by decide +kernel)) ggX4_claim_X4_mayTell
theorem dX4_claim_0 : decode cX4_claim 0 = .ok (.aload_n 0, 1) := by decide +kernel
theorem dX4_claim_1 : decode cX4_claim 1 = .ok (.iload_n 1, 1) := by decide +kernel
theorem dX4_claim_2 : decode cX4_claim 2 = .ok (.iload_n 2, 1) := by decide +kernel
theorem dX4_claim_3 : decode cX4_claim 3 = .ok (.invokevirtual 24, 3) := by decide +kernel
theorem dX4_claim_6 : decode cX4_claim 6 = .ok (.ifCond .eq 10, 3) := by decide +kernel
theorem dX4_claim_9 : decode cX4_claim 9 = .ok (.aload_n 0, 1) := by decide +kernel
theorem dX4_claim_10 : decode cX4_claim 10 = .ok (.getfield 9, 3) := by decide +kernel
theorem dX4_claim_13 : decode cX4_claim 13 = .ok (.iload_n 2, 1) := by decide +kernel
theorem dX4_claim_14 : decode cX4_claim 14 = .ok (.iload_n 1, 1) := by decide +kernel
theorem dX4_claim_15 : decode cX4_claim 15 = .ok (.iastore, 1) := by decide +kernel
theorem dX4_claim_16 : decode cX4_claim 16 = .ok (.return_, 1) := by decide +kernel
set_option maxRecDepth 20000 in
theorem ggX4_keep_X4_isPlace : GoodIn wsX4_keep wsX4_isPlace := goodIn_r _ [5, 6, 7, 4, 8] (by decide +kernel) (by decide +kernel)
set_option maxRecDepth 20000 in
theorem gX4_keep_X4_isPlace : GoodIn wsX4_keep (va_wsS RX4 28 yX4_isPlace wsX4_isPlace) := goodIn_app (goodIn_of _ (by decide +kernel)) ggX4_keep_X4_isPlace
set_option maxRecDepth 20000 in
theorem ggX4_keep_X4_isNewer : GoodIn wsX4_keep wsX4_isNewer := goodIn_r _ [11] (by decide +kernel) (by decide +kernel)
set_option maxRecDepth 20000 in
theorem gX4_keep_X4_isNewer : GoodIn wsX4_keep (va_wsS RX4 31 yX4_isNewer wsX4_isNewer) := goodIn_app (goodIn_of _ (by decide +kernel)) ggX4_keep_X4_isNewer
theorem dX4_keep_0 : decode cX4_keep 0 = .ok (.sipush 1000, 3) := by decide +kernel
theorem dX4_keep_3 : decode cX4_keep 3 = .ok (.iload_n 3, 1) := by decide +kernel
theorem dX4_keep_4 : decode cX4_keep 4 = .ok (.imul, 1) := by decide +kernel
theorem dX4_keep_5 : decode cX4_keep 5 = .ok (.iload 4, 2) := by decide +kernel
theorem dX4_keep_7 : decode cX4_keep 7 = .ok (.iadd, 1) := by decide +kernel
theorem dX4_keep_8 : decode cX4_keep 8 = .ok (.istore 5, 2) := by decide +kernel
theorem dX4_keep_10 : decode cX4_keep 10 = .ok (.iload_n 1, 1) := by decide +kernel
theorem dX4_keep_11 : decode cX4_keep 11 = .ok (.iload_n 2, 1) := by decide +kernel
theorem dX4_keep_12 : decode cX4_keep 12 = .ok (.invokestatic 28, 3) := by decide +kernel
theorem dX4_keep_15 : decode cX4_keep 15 = .ok (.ifCond .eq 19, 3) := by decide +kernel
theorem dX4_keep_18 : decode cX4_keep 18 = .ok (.iload 5, 2) := by decide +kernel
theorem dX4_keep_20 : decode cX4_keep 20 = .ok (.aload_n 0, 1) := by decide +kernel
theorem dX4_keep_21 : decode cX4_keep 21 = .ok (.getfield 17, 3) := by decide +kernel
theorem dX4_keep_24 : decode cX4_keep 24 = .ok (.iload_n 1, 1) := by decide +kernel
theorem dX4_keep_25 : decode cX4_keep 25 = .ok (.aaload, 1) := by decide +kernel
theorem dX4_keep_26 : decode cX4_keep 26 = .ok (.iload_n 2, 1) := by decide +kernel
theorem dX4_keep_27 : decode cX4_keep 27 = .ok (.iaload, 1) := by decide +kernel
theorem dX4_keep_28 : decode cX4_keep 28 = .ok (.invokestatic 31, 3) := by decide +kernel
theorem dX4_keep_31 : decode cX4_keep 31 = .ok (.ifCond .ne 5, 3) := by decide +kernel
theorem dX4_keep_34 : decode cX4_keep 34 = .ok (.iconst 0, 1) := by decide +kernel
theorem dX4_keep_35 : decode cX4_keep 35 = .ok (.ireturn, 1) := by decide +kernel
theorem dX4_keep_36 : decode cX4_keep 36 = .ok (.aload_n 0, 1) := by decide +kernel
theorem dX4_keep_37 : decode cX4_keep 37 = .ok (.getfield 17, 3) := by decide +kernel
theorem dX4_keep_40 : decode cX4_keep 40 = .ok (.iload_n 1, 1) := by decide +kernel
theorem dX4_keep_41 : decode cX4_keep 41 = .ok (.aaload, 1) := by decide +kernel
theorem dX4_keep_42 : decode cX4_keep 42 = .ok (.iload_n 2, 1) := by decide +kernel
theorem dX4_keep_43 : decode cX4_keep 43 = .ok (.iload 5, 2) := by decide +kernel
theorem dX4_keep_45 : decode cX4_keep 45 = .ok (.iastore, 1) := by decide +kernel
theorem dX4_keep_46 : decode cX4_keep 46 = .ok (.iconst 1, 1) := by decide +kernel
theorem dX4_keep_47 : decode cX4_keep 47 = .ok (.ireturn, 1) := by decide +kernel
set_option maxRecDepth 20000 in
theorem ggX4_keptBy_X4_isPlace : GoodIn wsX4_keptBy wsX4_isPlace := goodIn_r _ [5, 6, 7, 4, 8] (by decide +kernel) (by decide +kernel)
set_option maxRecDepth 20000 in
theorem gX4_keptBy_X4_isPlace : GoodIn wsX4_keptBy (va_wsS RX4 28 yX4_isPlace wsX4_isPlace) := goodIn_app (goodIn_of _ (by decide +kernel)) ggX4_keptBy_X4_isPlace
theorem dX4_keptBy_0 : decode cX4_keptBy 0 = .ok (.iload_n 1, 1) := by decide +kernel
theorem dX4_keptBy_1 : decode cX4_keptBy 1 = .ok (.iload_n 2, 1) := by decide +kernel
theorem dX4_keptBy_2 : decode cX4_keptBy 2 = .ok (.invokestatic 28, 3) := by decide +kernel
theorem dX4_keptBy_5 : decode cX4_keptBy 5 = .ok (.ifCond .eq 14, 3) := by decide +kernel
theorem dX4_keptBy_8 : decode cX4_keptBy 8 = .ok (.aload_n 0, 1) := by decide +kernel
theorem dX4_keptBy_9 : decode cX4_keptBy 9 = .ok (.getfield 17, 3) := by decide +kernel
theorem dX4_keptBy_12 : decode cX4_keptBy 12 = .ok (.iload_n 1, 1) := by decide +kernel
theorem dX4_keptBy_13 : decode cX4_keptBy 13 = .ok (.aaload, 1) := by decide +kernel
theorem dX4_keptBy_14 : decode cX4_keptBy 14 = .ok (.iload_n 2, 1) := by decide +kernel
theorem dX4_keptBy_15 : decode cX4_keptBy 15 = .ok (.iaload, 1) := by decide +kernel
theorem dX4_keptBy_16 : decode cX4_keptBy 16 = .ok (.goto 4, 3) := by decide +kernel
theorem dX4_keptBy_19 : decode cX4_keptBy 19 = .ok (.iconst (-1), 1) := by decide +kernel
theorem dX4_keptBy_20 : decode cX4_keptBy 20 = .ok (.ireturn, 1) := by decide +kernel
theorem dX4_isNewer_0 : decode cX4_isNewer 0 = .ok (.iload_n 0, 1) := by decide +kernel
theorem dX4_isNewer_1 : decode cX4_isNewer 1 = .ok (.iconst (-1), 1) := by decide +kernel
theorem dX4_isNewer_2 : decode cX4_isNewer 2 = .ok (.if_icmp .eq 25, 3) := by decide +kernel
theorem dX4_isNewer_5 : decode cX4_isNewer 5 = .ok (.iload_n 1, 1) := by decide +kernel
theorem dX4_isNewer_6 : decode cX4_isNewer 6 = .ok (.iconst (-1), 1) := by decide +kernel
theorem dX4_isNewer_7 : decode cX4_isNewer 7 = .ok (.if_icmp .eq 16, 3) := by decide +kernel
theorem dX4_isNewer_10 : decode cX4_isNewer 10 = .ok (.iload_n 0, 1) := by decide +kernel
theorem dX4_isNewer_11 : decode cX4_isNewer 11 = .ok (.sipush 1000, 3) := by decide +kernel
theorem dX4_isNewer_14 : decode cX4_isNewer 14 = .ok (.idiv, 1) := by decide +kernel
theorem dX4_isNewer_15 : decode cX4_isNewer 15 = .ok (.iload_n 1, 1) := by decide +kernel
theorem dX4_isNewer_16 : decode cX4_isNewer 16 = .ok (.sipush 1000, 3) := by decide +kernel
theorem dX4_isNewer_19 : decode cX4_isNewer 19 = .ok (.idiv, 1) := by decide +kernel
theorem dX4_isNewer_20 : decode cX4_isNewer 20 = .ok (.if_icmp .le 7, 3) := by decide +kernel
theorem dX4_isNewer_23 : decode cX4_isNewer 23 = .ok (.iconst 1, 1) := by decide +kernel
theorem dX4_isNewer_24 : decode cX4_isNewer 24 = .ok (.goto 4, 3) := by decide +kernel
theorem dX4_isNewer_27 : decode cX4_isNewer 27 = .ok (.iconst 0, 1) := by decide +kernel
theorem dX4_isNewer_28 : decode cX4_isNewer 28 = .ok (.ireturn, 1) := by decide +kernel
theorem dX4_isKey_0 : decode cX4_isKey 0 = .ok (.iload_n 0, 1) := by decide +kernel
theorem dX4_isKey_1 : decode cX4_isKey 1 = .ok (.ifCond .lt 14, 3) := by decide +kernel
theorem dX4_isKey_4 : decode cX4_isKey 4 = .ok (.iload_n 0, 1) := by decide +kernel
theorem dX4_isKey_5 : decode cX4_isKey 5 = .ok (.sipush 256, 3) := by decide +kernel
theorem dX4_isKey_8 : decode cX4_isKey 8 = .ok (.if_icmp .ge 7, 3) := by decide +kernel
theorem dX4_isKey_11 : decode cX4_isKey 11 = .ok (.iconst 1, 1) := by decide +kernel
theorem dX4_isKey_12 : decode cX4_isKey 12 = .ok (.goto 4, 3) := by decide +kernel
theorem dX4_isKey_15 : decode cX4_isKey 15 = .ok (.iconst 0, 1) := by decide +kernel
theorem dX4_isKey_16 : decode cX4_isKey 16 = .ok (.ireturn, 1) := by decide +kernel
set_option maxRecDepth 20000 in
theorem ggX4_isPlace_X4_isKey : GoodIn wsX4_isPlace wsX4_isKey := goodIn_r _ [4] (by decide +kernel) (by decide +kernel)
set_option maxRecDepth 20000 in
theorem gX4_isPlace_X4_isKey : GoodIn wsX4_isPlace (va_wsS RX4 20 yX4_isKey wsX4_isKey) := goodIn_app (goodIn_of _ (by decide +kernel)) ggX4_isPlace_X4_isKey
theorem dX4_isPlace_0 : decode cX4_isPlace 0 = .ok (.iload_n 0, 1) := by decide +kernel
theorem dX4_isPlace_1 : decode cX4_isPlace 1 = .ok (.ifCond .lt 20, 3) := by decide +kernel
theorem dX4_isPlace_4 : decode cX4_isPlace 4 = .ok (.iload_n 0, 1) := by decide +kernel
theorem dX4_isPlace_5 : decode cX4_isPlace 5 = .ok (.bipush 16, 2) := by decide +kernel
theorem dX4_isPlace_7 : decode cX4_isPlace 7 = .ok (.if_icmp .ge 14, 3) := by decide +kernel
theorem dX4_isPlace_10 : decode cX4_isPlace 10 = .ok (.iload_n 1, 1) := by decide +kernel
theorem dX4_isPlace_11 : decode cX4_isPlace 11 = .ok (.invokestatic 20, 3) := by decide +kernel
theorem dX4_isPlace_14 : decode cX4_isPlace 14 = .ok (.ifCond .eq 7, 3) := by decide +kernel
theorem dX4_isPlace_17 : decode cX4_isPlace 17 = .ok (.iconst 1, 1) := by decide +kernel
theorem dX4_isPlace_18 : decode cX4_isPlace 18 = .ok (.goto 4, 3) := by decide +kernel
theorem dX4_isPlace_21 : decode cX4_isPlace 21 = .ok (.iconst 0, 1) := by decide +kernel
theorem dX4_isPlace_22 : decode cX4_isPlace 22 = .ok (.ireturn, 1) := by decide +kernel
theorem dX5_init_0 : decode cX5_init 0 = .ok (.aload_n 0, 1) := by decide +kernel
theorem dX5_init_1 : decode cX5_init 1 = .ok (.invokespecial 3, 3) := by decide +kernel
theorem dX5_init_4 : decode cX5_init 4 = .ok (.aload_n 0, 1) := by decide +kernel
theorem dX5_init_5 : decode cX5_init 5 = .ok (.bipush 16, 2) := by decide +kernel
theorem dX5_init_7 : decode cX5_init 7 = .ok (.newarray .int, 2) := by decide +kernel
theorem dX5_init_9 : decode cX5_init 9 = .ok (.putfield 9, 3) := by decide +kernel
theorem dX5_init_12 : decode cX5_init 12 = .ok (.aload_n 0, 1) := by decide +kernel
theorem dX5_init_13 : decode cX5_init 13 = .ok (.bipush 16, 2) := by decide +kernel
theorem dX5_init_15 : decode cX5_init 15 = .ok (.newarray .int, 2) := by decide +kernel
theorem dX5_init_17 : decode cX5_init 17 = .ok (.putfield 15, 3) := by decide +kernel
theorem dX5_init_20 : decode cX5_init 20 = .ok (.aload_n 0, 1) := by decide +kernel
theorem dX5_init_21 : decode cX5_init 21 = .ok (.bipush 16, 2) := by decide +kernel
theorem dX5_init_23 : decode cX5_init 23 = .ok (.newarray .boolean, 2) := by decide +kernel
theorem dX5_init_25 : decode cX5_init 25 = .ok (.putfield 18, 3) := by decide +kernel
theorem dX5_init_28 : decode cX5_init 28 = .ok (.aload_n 0, 1) := by decide +kernel
theorem dX5_init_29 : decode cX5_init 29 = .ok (.bipush 16, 2) := by decide +kernel
theorem dX5_init_31 : decode cX5_init 31 = .ok (.bipush 16, 2) := by decide +kernel
theorem dX5_init_33 : decode cX5_init 33 = .ok (.multianewarray 22 2, 4) := by decide +kernel
theorem dX5_init_37 : decode cX5_init 37 = .ok (.putfield 24, 3) := by decide +kernel
theorem dX5_init_40 : decode cX5_init 40 = .ok (.return_, 1) := by decide +kernel
theorem dX5_has_0 : decode cX5_has 0 = .ok (.iload_n 1, 1) := by decide +kernel
theorem dX5_has_1 : decode cX5_has 1 = .ok (.ifCond .lt 21, 3) := by decide +kernel
theorem dX5_has_4 : decode cX5_has 4 = .ok (.iload_n 1, 1) := by decide +kernel
theorem dX5_has_5 : decode cX5_has 5 = .ok (.aload_n 0, 1) := by decide +kernel
theorem dX5_has_6 : decode cX5_has 6 = .ok (.getfield 27, 3) := by decide +kernel
theorem dX5_has_9 : decode cX5_has 9 = .ok (.if_icmp .ge 13, 3) := by decide +kernel
theorem dX5_has_12 : decode cX5_has 12 = .ok (.iload_n 1, 1) := by decide +kernel
theorem dX5_has_13 : decode cX5_has 13 = .ok (.bipush 16, 2) := by decide +kernel
theorem dX5_has_15 : decode cX5_has 15 = .ok (.if_icmp .ge 7, 3) := by decide +kernel
theorem dX5_has_18 : decode cX5_has 18 = .ok (.iconst 1, 1) := by decide +kernel
theorem dX5_has_19 : decode cX5_has 19 = .ok (.goto 4, 3) := by decide +kernel
theorem dX5_has_22 : decode cX5_has 22 = .ok (.iconst 0, 1) := by decide +kernel
theorem dX5_has_23 : decode cX5_has 23 = .ok (.ireturn, 1) := by decide +kernel
theorem dX5_isFull_0 : decode cX5_isFull 0 = .ok (.aload_n 0, 1) := by decide +kernel
theorem dX5_isFull_1 : decode cX5_isFull 1 = .ok (.getfield 27, 3) := by decide +kernel
theorem dX5_isFull_4 : decode cX5_isFull 4 = .ok (.bipush 16, 2) := by decide +kernel
theorem dX5_isFull_6 : decode cX5_isFull 6 = .ok (.if_icmp .lt 7, 3) := by decide +kernel
theorem dX5_isFull_9 : decode cX5_isFull 9 = .ok (.iconst 1, 1) := by decide +kernel
theorem dX5_isFull_10 : decode cX5_isFull 10 = .ok (.goto 4, 3) := by decide +kernel
theorem dX5_isFull_13 : decode cX5_isFull 13 = .ok (.iconst 0, 1) := by decide +kernel
theorem dX5_isFull_14 : decode cX5_isFull 14 = .ok (.ireturn, 1) := by decide +kernel
theorem dX5_hasId_0 : decode cX5_hasId 0 = .ok (.iconst 0, 1) := by decide +kernel
theorem dX5_hasId_1 : decode cX5_hasId 1 = .ok (.istore_n 2, 1) := by decide +kernel
theorem dX5_hasId_2 : decode cX5_hasId 2 = .ok (.iload_n 2, 1) := by decide +kernel
theorem dX5_hasId_3 : decode cX5_hasId 3 = .ok (.aload_n 0, 1) := by decide +kernel
theorem dX5_hasId_4 : decode cX5_hasId 4 = .ok (.getfield 27, 3) := by decide +kernel
theorem dX5_hasId_7 : decode cX5_hasId 7 = .ok (.if_icmp .ge 27, 3) := by decide +kernel
theorem dX5_hasId_10 : decode cX5_hasId 10 = .ok (.iload_n 2, 1) := by decide +kernel
theorem dX5_hasId_11 : decode cX5_hasId 11 = .ok (.bipush 16, 2) := by decide +kernel
theorem dX5_hasId_13 : decode cX5_hasId 13 = .ok (.if_icmp .ge 21, 3) := by decide +kernel
theorem dX5_hasId_16 : decode cX5_hasId 16 = .ok (.aload_n 0, 1) := by decide +kernel
theorem dX5_hasId_17 : decode cX5_hasId 17 = .ok (.getfield 9, 3) := by decide +kernel
theorem dX5_hasId_20 : decode cX5_hasId 20 = .ok (.iload_n 2, 1) := by decide +kernel
theorem dX5_hasId_21 : decode cX5_hasId 21 = .ok (.iaload, 1) := by decide +kernel
theorem dX5_hasId_22 : decode cX5_hasId 22 = .ok (.iload_n 1, 1) := by decide +kernel
theorem dX5_hasId_23 : decode cX5_hasId 23 = .ok (.if_icmp .ne 5, 3) := by decide +kernel
theorem dX5_hasId_26 : decode cX5_hasId 26 = .ok (.iconst 1, 1) := by decide +kernel
theorem dX5_hasId_27 : decode cX5_hasId 27 = .ok (.ireturn, 1) := by decide +kernel
theorem dX5_hasId_28 : decode cX5_hasId 28 = .ok (.iinc 2 1, 3) := by decide +kernel
theorem dX5_hasId_31 : decode cX5_hasId 31 = .ok (.goto (-29), 3) := by decide +kernel
theorem dX5_hasId_34 : decode cX5_hasId 34 = .ok (.iconst 0, 1) := by decide +kernel
theorem dX5_hasId_35 : decode cX5_hasId 35 = .ok (.ireturn, 1) := by decide +kernel
theorem dX5_add_0 : decode cX5_add 0 = .ok (.aload_n 0, 1) := by decide +kernel
theorem dX5_add_1 : decode cX5_add 1 = .ok (.getfield 27, 3) := by decide +kernel
theorem dX5_add_4 : decode cX5_add 4 = .ok (.istore_n 3, 1) := by decide +kernel
theorem dX5_add_5 : decode cX5_add 5 = .ok (.iload_n 3, 1) := by decide +kernel
theorem dX5_add_6 : decode cX5_add 6 = .ok (.ifCond .lt 9, 3) := by decide +kernel
theorem dX5_add_9 : decode cX5_add 9 = .ok (.iload_n 3, 1) := by decide +kernel
theorem dX5_add_10 : decode cX5_add 10 = .ok (.bipush 16, 2) := by decide +kernel
theorem dX5_add_12 : decode cX5_add 12 = .ok (.if_icmp .lt 5, 3) := by decide +kernel
theorem dX5_add_15 : decode cX5_add 15 = .ok (.iconst (-1), 1) := by decide +kernel
theorem dX5_add_16 : decode cX5_add 16 = .ok (.ireturn, 1) := by decide +kernel
theorem dX5_add_17 : decode cX5_add 17 = .ok (.aload_n 0, 1) := by decide +kernel
theorem dX5_add_18 : decode cX5_add 18 = .ok (.dup, 1) := by decide +kernel
theorem dX5_add_19 : decode cX5_add 19 = .ok (.getfield 27, 3) := by decide +kernel
theorem dX5_add_22 : decode cX5_add 22 = .ok (.iconst 1, 1) := by decide +kernel
theorem dX5_add_23 : decode cX5_add 23 = .ok (.iadd, 1) := by decide +kernel
theorem dX5_add_24 : decode cX5_add 24 = .ok (.putfield 27, 3) := by decide +kernel
theorem dX5_add_27 : decode cX5_add 27 = .ok (.aload_n 0, 1) := by decide +kernel
theorem dX5_add_28 : decode cX5_add 28 = .ok (.getfield 9, 3) := by decide +kernel
theorem dX5_add_31 : decode cX5_add 31 = .ok (.iload_n 3, 1) := by decide +kernel
theorem dX5_add_32 : decode cX5_add 32 = .ok (.iload_n 1, 1) := by decide +kernel
theorem dX5_add_33 : decode cX5_add 33 = .ok (.iastore, 1) := by decide +kernel
theorem dX5_add_34 : decode cX5_add 34 = .ok (.aload_n 0, 1) := by decide +kernel
theorem dX5_add_35 : decode cX5_add 35 = .ok (.getfield 15, 3) := by decide +kernel
theorem dX5_add_38 : decode cX5_add 38 = .ok (.iload_n 3, 1) := by decide +kernel
theorem dX5_add_39 : decode cX5_add 39 = .ok (.iload_n 2, 1) := by decide +kernel
theorem dX5_add_40 : decode cX5_add 40 = .ok (.iastore, 1) := by decide +kernel
theorem dX5_add_41 : decode cX5_add 41 = .ok (.aload_n 0, 1) := by decide +kernel
theorem dX5_add_42 : decode cX5_add 42 = .ok (.getfield 18, 3) := by decide +kernel
theorem dX5_add_45 : decode cX5_add 45 = .ok (.iload_n 3, 1) := by decide +kernel
theorem dX5_add_46 : decode cX5_add 46 = .ok (.iconst 1, 1) := by decide +kernel
theorem dX5_add_47 : decode cX5_add 47 = .ok (.bastore, 1) := by decide +kernel
theorem dX5_add_48 : decode cX5_add 48 = .ok (.aload_n 0, 1) := by decide +kernel
theorem dX5_add_49 : decode cX5_add 49 = .ok (.getfield 24, 3) := by decide +kernel
theorem dX5_add_52 : decode cX5_add 52 = .ok (.iload_n 3, 1) := by decide +kernel
theorem dX5_add_53 : decode cX5_add 53 = .ok (.aaload, 1) := by decide +kernel
theorem dX5_add_54 : decode cX5_add 54 = .ok (.astore 4, 2) := by decide +kernel
theorem dX5_add_56 : decode cX5_add 56 = .ok (.iconst 0, 1) := by decide +kernel
theorem dX5_add_57 : decode cX5_add 57 = .ok (.istore 5, 2) := by decide +kernel
theorem dX5_add_59 : decode cX5_add 59 = .ok (.iload 5, 2) := by decide +kernel
theorem dX5_add_61 : decode cX5_add 61 = .ok (.aload 4, 2) := by decide +kernel
theorem dX5_add_63 : decode cX5_add 63 = .ok (.arraylength, 1) := by decide +kernel
theorem dX5_add_64 : decode cX5_add 64 = .ok (.if_icmp .ge 15, 3) := by decide +kernel
theorem dX5_add_67 : decode cX5_add 67 = .ok (.aload 4, 2) := by decide +kernel
theorem dX5_add_69 : decode cX5_add 69 = .ok (.iload 5, 2) := by decide +kernel
theorem dX5_add_71 : decode cX5_add 71 = .ok (.iconst (-1), 1) := by decide +kernel
theorem dX5_add_72 : decode cX5_add 72 = .ok (.iastore, 1) := by decide +kernel
theorem dX5_add_73 : decode cX5_add 73 = .ok (.iinc 5 1, 3) := by decide +kernel
theorem dX5_add_76 : decode cX5_add 76 = .ok (.goto (-17), 3) := by decide +kernel
theorem dX5_add_79 : decode cX5_add 79 = .ok (.iload_n 3, 1) := by decide +kernel
theorem dX5_add_80 : decode cX5_add 80 = .ok (.ireturn, 1) := by decide +kernel
set_option maxRecDepth 20000 in
theorem ggX5_isOnline_X5_has : GoodIn wsX5_isOnline wsX5_has := goodIn_r _ [6, 7, 8, 9, 10, 11, 12] (by decide +kernel) (by decide +kernel)
set_option maxRecDepth 20000 in
theorem gX5_isOnline_X5_has : GoodIn wsX5_isOnline (wsV RX5 31 RX5 yX5_has wsX5_has) := goodIn_app (goodIn_of _ (by decide +kernel)) ggX5_isOnline_X5_has
theorem dX5_isOnline_0 : decode cX5_isOnline 0 = .ok (.aload_n 0, 1) := by decide +kernel
theorem dX5_isOnline_1 : decode cX5_isOnline 1 = .ok (.iload_n 1, 1) := by decide +kernel
theorem dX5_isOnline_2 : decode cX5_isOnline 2 = .ok (.invokevirtual 31, 3) := by decide +kernel
theorem dX5_isOnline_5 : decode cX5_isOnline 5 = .ok (.ifCond .eq 16, 3) := by decide +kernel
theorem dX5_isOnline_8 : decode cX5_isOnline 8 = .ok (.aload_n 0, 1) := by decide +kernel
theorem dX5_isOnline_9 : decode cX5_isOnline 9 = .ok (.getfield 18, 3) := by decide +kernel
theorem dX5_isOnline_12 : decode cX5_isOnline 12 = .ok (.iload_n 1, 1) := by decide +kernel
theorem dX5_isOnline_13 : decode cX5_isOnline 13 = .ok (.baload, 1) := by decide +kernel
theorem dX5_isOnline_14 : decode cX5_isOnline 14 = .ok (.ifCond .eq 7, 3) := by decide +kernel
theorem dX5_isOnline_17 : decode cX5_isOnline 17 = .ok (.iconst 1, 1) := by decide +kernel
theorem dX5_isOnline_18 : decode cX5_isOnline 18 = .ok (.goto 4, 3) := by decide +kernel
theorem dX5_isOnline_21 : decode cX5_isOnline 21 = .ok (.iconst 0, 1) := by decide +kernel
theorem dX5_isOnline_22 : decode cX5_isOnline 22 = .ok (.ireturn, 1) := by decide +kernel
set_option maxRecDepth 20000 in
theorem ggX5_setOnline_X5_has : GoodIn wsX5_setOnline wsX5_has := goodIn_r _ [6, 7, 8, 9, 10, 11, 12] (by decide +kernel) (by decide +kernel)
set_option maxRecDepth 20000 in
theorem gX5_setOnline_X5_has : GoodIn wsX5_setOnline (wsV RX5 31 RX5 yX5_has wsX5_has) := goodIn_app (goodIn_of _ (by decide +kernel)) ggX5_setOnline_X5_has
theorem dX5_setOnline_0 : decode cX5_setOnline 0 = .ok (.aload_n 0, 1) := by decide +kernel
theorem dX5_setOnline_1 : decode cX5_setOnline 1 = .ok (.iload_n 1, 1) := by decide +kernel
theorem dX5_setOnline_2 : decode cX5_setOnline 2 = .ok (.invokevirtual 31, 3) := by decide +kernel
theorem dX5_setOnline_5 : decode cX5_setOnline 5 = .ok (.ifCond .eq 10, 3) := by decide +kernel
theorem dX5_setOnline_8 : decode cX5_setOnline 8 = .ok (.aload_n 0, 1) := by decide +kernel
theorem dX5_setOnline_9 : decode cX5_setOnline 9 = .ok (.getfield 18, 3) := by decide +kernel
theorem dX5_setOnline_12 : decode cX5_setOnline 12 = .ok (.iload_n 1, 1) := by decide +kernel
theorem dX5_setOnline_13 : decode cX5_setOnline 13 = .ok (.iload_n 2, 1) := by decide +kernel
theorem dX5_setOnline_14 : decode cX5_setOnline 14 = .ok (.bastore, 1) := by decide +kernel
theorem dX5_setOnline_15 : decode cX5_setOnline 15 = .ok (.return_, 1) := by decide +kernel
set_option maxRecDepth 20000 in
theorem ggX5_isHonest_X5_has : GoodIn wsX5_isHonest wsX5_has := goodIn_r _ [6, 7, 8, 9, 10, 11, 12] (by decide +kernel) (by decide +kernel)
set_option maxRecDepth 20000 in
theorem gX5_isHonest_X5_has : GoodIn wsX5_isHonest (wsV RX5 31 RX5 yX5_has wsX5_has) := goodIn_app (goodIn_of _ (by decide +kernel)) ggX5_isHonest_X5_has
theorem dX5_isHonest_0 : decode cX5_isHonest 0 = .ok (.aload_n 0, 1) := by decide +kernel
theorem dX5_isHonest_1 : decode cX5_isHonest 1 = .ok (.iload_n 1, 1) := by decide +kernel
theorem dX5_isHonest_2 : decode cX5_isHonest 2 = .ok (.invokevirtual 31, 3) := by decide +kernel
theorem dX5_isHonest_5 : decode cX5_isHonest 5 = .ok (.ifCond .eq 16, 3) := by decide +kernel
theorem dX5_isHonest_8 : decode cX5_isHonest 8 = .ok (.aload_n 0, 1) := by decide +kernel
theorem dX5_isHonest_9 : decode cX5_isHonest 9 = .ok (.getfield 15, 3) := by decide +kernel
theorem dX5_isHonest_12 : decode cX5_isHonest 12 = .ok (.iload_n 1, 1) := by decide +kernel
theorem dX5_isHonest_13 : decode cX5_isHonest 13 = .ok (.iaload, 1) := by decide +kernel
theorem dX5_isHonest_14 : decode cX5_isHonest 14 = .ok (.ifCond .ne 7, 3) := by decide +kernel
theorem dX5_isHonest_17 : decode cX5_isHonest 17 = .ok (.iconst 1, 1) := by decide +kernel
theorem dX5_isHonest_18 : decode cX5_isHonest 18 = .ok (.goto 4, 3) := by decide +kernel
theorem dX5_isHonest_21 : decode cX5_isHonest 21 = .ok (.iconst 0, 1) := by decide +kernel
theorem dX5_isHonest_22 : decode cX5_isHonest 22 = .ok (.ireturn, 1) := by decide +kernel
set_option maxRecDepth 20000 in
theorem ggX5_answers_X5_has : GoodIn wsX5_answers wsX5_has := goodIn_r _ [7, 8, 9, 10, 11, 12, 13] (by decide +kernel) (by decide +kernel)
set_option maxRecDepth 20000 in
theorem gX5_answers_X5_has : GoodIn wsX5_answers (wsV RX5 31 RX5 yX5_has wsX5_has) := goodIn_app (goodIn_of _ (by decide +kernel)) ggX5_answers_X5_has
theorem dX5_answers_0 : decode cX5_answers 0 = .ok (.aload_n 0, 1) := by decide +kernel
theorem dX5_answers_1 : decode cX5_answers 1 = .ok (.iload_n 1, 1) := by decide +kernel
theorem dX5_answers_2 : decode cX5_answers 2 = .ok (.invokevirtual 31, 3) := by decide +kernel
theorem dX5_answers_5 : decode cX5_answers 5 = .ok (.ifCond .eq 26, 3) := by decide +kernel
theorem dX5_answers_8 : decode cX5_answers 8 = .ok (.aload_n 0, 1) := by decide +kernel
theorem dX5_answers_9 : decode cX5_answers 9 = .ok (.getfield 18, 3) := by decide +kernel
theorem dX5_answers_12 : decode cX5_answers 12 = .ok (.iload_n 1, 1) := by decide +kernel
theorem dX5_answers_13 : decode cX5_answers 13 = .ok (.baload, 1) := by decide +kernel
theorem dX5_answers_14 : decode cX5_answers 14 = .ok (.ifCond .eq 17, 3) := by decide +kernel
theorem dX5_answers_17 : decode cX5_answers 17 = .ok (.aload_n 0, 1) := by decide +kernel
theorem dX5_answers_18 : decode cX5_answers 18 = .ok (.getfield 15, 3) := by decide +kernel
theorem dX5_answers_21 : decode cX5_answers 21 = .ok (.iload_n 1, 1) := by decide +kernel
theorem dX5_answers_22 : decode cX5_answers 22 = .ok (.iaload, 1) := by decide +kernel
theorem dX5_answers_23 : decode cX5_answers 23 = .ok (.iconst 1, 1) := by decide +kernel
theorem dX5_answers_24 : decode cX5_answers 24 = .ok (.if_icmp .eq 7, 3) := by decide +kernel
theorem dX5_answers_27 : decode cX5_answers 27 = .ok (.iconst 1, 1) := by decide +kernel
theorem dX5_answers_28 : decode cX5_answers 28 = .ok (.goto 4, 3) := by decide +kernel
theorem dX5_answers_31 : decode cX5_answers 31 = .ok (.iconst 0, 1) := by decide +kernel
theorem dX5_answers_32 : decode cX5_answers 32 = .ok (.ireturn, 1) := by decide +kernel
theorem dX5_distance_0 : decode cX5_distance 0 = .ok (.iload_n 1, 1) := by decide +kernel
theorem dX5_distance_1 : decode cX5_distance 1 = .ok (.ifCond .lt 28, 3) := by decide +kernel
theorem dX5_distance_4 : decode cX5_distance 4 = .ok (.iload_n 1, 1) := by decide +kernel
theorem dX5_distance_5 : decode cX5_distance 5 = .ok (.aload_n 0, 1) := by decide +kernel
theorem dX5_distance_6 : decode cX5_distance 6 = .ok (.getfield 27, 3) := by decide +kernel
theorem dX5_distance_9 : decode cX5_distance 9 = .ok (.if_icmp .ge 20, 3) := by decide +kernel
theorem dX5_distance_12 : decode cX5_distance 12 = .ok (.iload_n 1, 1) := by decide +kernel
theorem dX5_distance_13 : decode cX5_distance 13 = .ok (.bipush 16, 2) := by decide +kernel
theorem dX5_distance_15 : decode cX5_distance 15 = .ok (.if_icmp .ge 14, 3) := by decide +kernel
theorem dX5_distance_18 : decode cX5_distance 18 = .ok (.aload_n 0, 1) := by decide +kernel
theorem dX5_distance_19 : decode cX5_distance 19 = .ok (.getfield 9, 3) := by decide +kernel
theorem dX5_distance_22 : decode cX5_distance 22 = .ok (.iload_n 1, 1) := by decide +kernel
theorem dX5_distance_23 : decode cX5_distance 23 = .ok (.iaload, 1) := by decide +kernel
theorem dX5_distance_24 : decode cX5_distance 24 = .ok (.iload_n 2, 1) := by decide +kernel
theorem dX5_distance_25 : decode cX5_distance 25 = .ok (.ixor, 1) := by decide +kernel
theorem dX5_distance_26 : decode cX5_distance 26 = .ok (.goto 6, 3) := by decide +kernel
theorem dX5_distance_29 : decode cX5_distance 29 = .ok (.sipush 256, 3) := by decide +kernel
theorem dX5_distance_32 : decode cX5_distance 32 = .ok (.ireturn, 1) := by decide +kernel
set_option maxRecDepth 20000 in
theorem ggX5_keptAt_X5_has : GoodIn wsX5_keptAt wsX5_has := goodIn_r _ [6, 7, 8, 9, 10, 11, 12] (by decide +kernel) (by decide +kernel)
set_option maxRecDepth 20000 in
theorem gX5_keptAt_X5_has : GoodIn wsX5_keptAt (wsV RX5 31 RX5 yX5_has wsX5_has) := goodIn_app (goodIn_of _ (by decide +kernel)) ggX5_keptAt_X5_has
theorem dX5_keptAt_0 : decode cX5_keptAt 0 = .ok (.aload_n 0, 1) := by decide +kernel
theorem dX5_keptAt_1 : decode cX5_keptAt 1 = .ok (.iload_n 1, 1) := by decide +kernel
theorem dX5_keptAt_2 : decode cX5_keptAt 2 = .ok (.invokevirtual 31, 3) := by decide +kernel
theorem dX5_keptAt_5 : decode cX5_keptAt 5 = .ok (.ifCond .eq 29, 3) := by decide +kernel
theorem dX5_keptAt_8 : decode cX5_keptAt 8 = .ok (.iload_n 2, 1) := by decide +kernel
theorem dX5_keptAt_9 : decode cX5_keptAt 9 = .ok (.ifCond .lt 25, 3) := by decide +kernel
theorem dX5_keptAt_12 : decode cX5_keptAt 12 = .ok (.iload_n 2, 1) := by decide +kernel
theorem dX5_keptAt_13 : decode cX5_keptAt 13 = .ok (.aload_n 0, 1) := by decide +kernel
theorem dX5_keptAt_14 : decode cX5_keptAt 14 = .ok (.getfield 24, 3) := by decide +kernel
theorem dX5_keptAt_17 : decode cX5_keptAt 17 = .ok (.iload_n 1, 1) := by decide +kernel
theorem dX5_keptAt_18 : decode cX5_keptAt 18 = .ok (.aaload, 1) := by decide +kernel
theorem dX5_keptAt_19 : decode cX5_keptAt 19 = .ok (.arraylength, 1) := by decide +kernel
theorem dX5_keptAt_20 : decode cX5_keptAt 20 = .ok (.if_icmp .ge 14, 3) := by decide +kernel
theorem dX5_keptAt_23 : decode cX5_keptAt 23 = .ok (.aload_n 0, 1) := by decide +kernel
theorem dX5_keptAt_24 : decode cX5_keptAt 24 = .ok (.getfield 24, 3) := by decide +kernel
theorem dX5_keptAt_27 : decode cX5_keptAt 27 = .ok (.iload_n 1, 1) := by decide +kernel
theorem dX5_keptAt_28 : decode cX5_keptAt 28 = .ok (.aaload, 1) := by decide +kernel
theorem dX5_keptAt_29 : decode cX5_keptAt 29 = .ok (.iload_n 2, 1) := by decide +kernel
theorem dX5_keptAt_30 : decode cX5_keptAt 30 = .ok (.iaload, 1) := by decide +kernel
theorem dX5_keptAt_31 : decode cX5_keptAt 31 = .ok (.goto 4, 3) := by decide +kernel
theorem dX5_keptAt_34 : decode cX5_keptAt 34 = .ok (.iconst (-1), 1) := by decide +kernel
theorem dX5_keptAt_35 : decode cX5_keptAt 35 = .ok (.ireturn, 1) := by decide +kernel
set_option maxRecDepth 20000 in
theorem ggX5_gather_X6_clear : GoodIn wsX5_gather wsX6_clear := goodIn_r _ [8, 9, 27, 28, 29] (by decide +kernel) (by decide +kernel)
set_option maxRecDepth 20000 in
theorem gX5_gather_X6_clear : GoodIn wsX5_gather (wsV RX5 35 RX6 yX6_clear wsX6_clear) := goodIn_app (goodIn_of _ (by decide +kernel)) ggX5_gather_X6_clear
set_option maxRecDepth 20000 in
theorem ggX5_gather_X5_has : GoodIn wsX5_gather wsX5_has := goodIn_r _ [14, 15, 22, 23, 24, 25, 26] (by decide +kernel) (by decide +kernel)
set_option maxRecDepth 20000 in
theorem gX5_gather_X5_has : GoodIn wsX5_gather (wsV RX5 31 RX5 yX5_has wsX5_has) := goodIn_app (goodIn_of _ (by decide +kernel)) ggX5_gather_X5_has
set_option maxRecDepth 20000 in
theorem ggX5_gather_X6_add : GoodIn wsX5_gather wsX6_add := goodIn_r _ [19, 9, 20, 21, 27, 28, 29] (by decide +kernel) (by decide +kernel)
set_option maxRecDepth 20000 in
theorem gX5_gather_X6_add : GoodIn wsX5_gather (wsV RX5 40 RX6 yX6_add wsX6_add) := goodIn_app (goodIn_of _ (by decide +kernel)) ggX5_gather_X6_add
theorem dX5_gather_0 : decode cX5_gather 0 = .ok (.aload 4, 2) := by decide +kernel
theorem dX5_gather_2 : decode cX5_gather 2 = .ok (.invokevirtual 35, 3) := by decide +kernel
theorem dX5_gather_5 : decode cX5_gather 5 = .ok (.aload_n 0, 1) := by decide +kernel
theorem dX5_gather_6 : decode cX5_gather 6 = .ok (.iload_n 1, 1) := by decide +kernel
theorem dX5_gather_7 : decode cX5_gather 7 = .ok (.invokevirtual 31, 3) := by decide +kernel
theorem dX5_gather_10 : decode cX5_gather 10 = .ok (.ifCond .ne 4, 3) := by decide +kernel
theorem dX5_gather_13 : decode cX5_gather 13 = .ok (.return_, 1) := by decide +kernel
theorem dX5_gather_14 : decode cX5_gather 14 = .ok (.aload_n 0, 1) := by decide +kernel
theorem dX5_gather_15 : decode cX5_gather 15 = .ok (.getfield 24, 3) := by decide +kernel
theorem dX5_gather_18 : decode cX5_gather 18 = .ok (.iload_n 1, 1) := by decide +kernel
theorem dX5_gather_19 : decode cX5_gather 19 = .ok (.aaload, 1) := by decide +kernel
theorem dX5_gather_20 : decode cX5_gather 20 = .ok (.astore 5, 2) := by decide +kernel
theorem dX5_gather_22 : decode cX5_gather 22 = .ok (.aload 5, 2) := by decide +kernel
theorem dX5_gather_24 : decode cX5_gather 24 = .ok (.arraylength, 1) := by decide +kernel
theorem dX5_gather_25 : decode cX5_gather 25 = .ok (.istore 6, 2) := by decide +kernel
theorem dX5_gather_27 : decode cX5_gather 27 = .ok (.iconst 0, 1) := by decide +kernel
theorem dX5_gather_28 : decode cX5_gather 28 = .ok (.istore 7, 2) := by decide +kernel
theorem dX5_gather_30 : decode cX5_gather 30 = .ok (.iload 7, 2) := by decide +kernel
theorem dX5_gather_32 : decode cX5_gather 32 = .ok (.iload 6, 2) := by decide +kernel
theorem dX5_gather_34 : decode cX5_gather 34 = .ok (.if_icmp .ge 56, 3) := by decide +kernel
theorem dX5_gather_37 : decode cX5_gather 37 = .ok (.aload 5, 2) := by decide +kernel
theorem dX5_gather_39 : decode cX5_gather 39 = .ok (.iload 7, 2) := by decide +kernel
theorem dX5_gather_41 : decode cX5_gather 41 = .ok (.iaload, 1) := by decide +kernel
theorem dX5_gather_42 : decode cX5_gather 42 = .ok (.istore 8, 2) := by decide +kernel
theorem dX5_gather_44 : decode cX5_gather 44 = .ok (.aload_n 0, 1) := by decide +kernel
theorem dX5_gather_45 : decode cX5_gather 45 = .ok (.iload 8, 2) := by decide +kernel
theorem dX5_gather_47 : decode cX5_gather 47 = .ok (.invokevirtual 31, 3) := by decide +kernel
theorem dX5_gather_50 : decode cX5_gather 50 = .ok (.ifCond .eq 34, 3) := by decide +kernel
theorem dX5_gather_53 : decode cX5_gather 53 = .ok (.iload_n 3, 1) := by decide +kernel
theorem dX5_gather_54 : decode cX5_gather 54 = .ok (.ifCond .eq 14, 3) := by decide +kernel
theorem dX5_gather_57 : decode cX5_gather 57 = .ok (.aload_n 0, 1) := by decide +kernel
theorem dX5_gather_58 : decode cX5_gather 58 = .ok (.getfield 15, 3) := by decide +kernel
theorem dX5_gather_61 : decode cX5_gather 61 = .ok (.iload 8, 2) := by decide +kernel
theorem dX5_gather_63 : decode cX5_gather 63 = .ok (.iaload, 1) := by decide +kernel
theorem dX5_gather_64 : decode cX5_gather 64 = .ok (.iconst 2, 1) := by decide +kernel
theorem dX5_gather_65 : decode cX5_gather 65 = .ok (.if_icmp .ne 19, 3) := by decide +kernel
theorem dX5_gather_68 : decode cX5_gather 68 = .ok (.aload 4, 2) := by decide +kernel
theorem dX5_gather_70 : decode cX5_gather 70 = .ok (.iload 8, 2) := by decide +kernel
theorem dX5_gather_72 : decode cX5_gather 72 = .ok (.aload_n 0, 1) := by decide +kernel
theorem dX5_gather_73 : decode cX5_gather 73 = .ok (.getfield 9, 3) := by decide +kernel
theorem dX5_gather_76 : decode cX5_gather 76 = .ok (.iload 8, 2) := by decide +kernel
theorem dX5_gather_78 : decode cX5_gather 78 = .ok (.iaload, 1) := by decide +kernel
theorem dX5_gather_79 : decode cX5_gather 79 = .ok (.iload_n 2, 1) := by decide +kernel
theorem dX5_gather_80 : decode cX5_gather 80 = .ok (.ixor, 1) := by decide +kernel
theorem dX5_gather_81 : decode cX5_gather 81 = .ok (.invokevirtual 40, 3) := by decide +kernel
theorem dX5_gather_84 : decode cX5_gather 84 = .ok (.iinc 7 1, 3) := by decide +kernel
theorem dX5_gather_87 : decode cX5_gather 87 = .ok (.goto (-57), 3) := by decide +kernel
theorem dX5_gather_90 : decode cX5_gather 90 = .ok (.return_, 1) := by decide +kernel
set_option maxRecDepth 20000 in
theorem ggX5_isOfBand_X5_has : GoodIn wsX5_isOfBand wsX5_has := goodIn_r _ [6, 7, 8, 9, 10, 11, 12] (by decide +kernel) (by decide +kernel)
set_option maxRecDepth 20000 in
theorem gX5_isOfBand_X5_has : GoodIn wsX5_isOfBand (wsV RX5 31 RX5 yX5_has wsX5_has) := goodIn_app (goodIn_of _ (by decide +kernel)) ggX5_isOfBand_X5_has
theorem dX5_isOfBand_0 : decode cX5_isOfBand 0 = .ok (.aload_n 0, 1) := by decide +kernel
theorem dX5_isOfBand_1 : decode cX5_isOfBand 1 = .ok (.iload_n 1, 1) := by decide +kernel
theorem dX5_isOfBand_2 : decode cX5_isOfBand 2 = .ok (.invokevirtual 31, 3) := by decide +kernel
theorem dX5_isOfBand_5 : decode cX5_isOfBand 5 = .ok (.ifCond .eq 17, 3) := by decide +kernel
theorem dX5_isOfBand_8 : decode cX5_isOfBand 8 = .ok (.aload_n 0, 1) := by decide +kernel
theorem dX5_isOfBand_9 : decode cX5_isOfBand 9 = .ok (.getfield 15, 3) := by decide +kernel
theorem dX5_isOfBand_12 : decode cX5_isOfBand 12 = .ok (.iload_n 1, 1) := by decide +kernel
theorem dX5_isOfBand_13 : decode cX5_isOfBand 13 = .ok (.iaload, 1) := by decide +kernel
theorem dX5_isOfBand_14 : decode cX5_isOfBand 14 = .ok (.iconst 2, 1) := by decide +kernel
theorem dX5_isOfBand_15 : decode cX5_isOfBand 15 = .ok (.if_icmp .ne 7, 3) := by decide +kernel
theorem dX5_isOfBand_18 : decode cX5_isOfBand 18 = .ok (.iconst 1, 1) := by decide +kernel
theorem dX5_isOfBand_19 : decode cX5_isOfBand 19 = .ok (.goto 4, 3) := by decide +kernel
theorem dX5_isOfBand_22 : decode cX5_isOfBand 22 = .ok (.iconst 0, 1) := by decide +kernel
theorem dX5_isOfBand_23 : decode cX5_isOfBand 23 = .ok (.ireturn, 1) := by decide +kernel
set_option maxRecDepth 20000 in
theorem ggX5_hear_X5_has : GoodIn wsX5_hear wsX5_has := goodIn_r _ [8, 9, 13, 14, 15, 16, 17] (by decide +kernel) (by decide +kernel)
set_option maxRecDepth 20000 in
theorem gX5_hear_X5_has : GoodIn wsX5_hear (wsV RX5 31 RX5 yX5_has wsX5_has) := goodIn_app (goodIn_of _ (by decide +kernel)) ggX5_hear_X5_has
set_option maxRecDepth 20000 in
theorem ggX5_hear_X5_highestBit : GoodIn wsX5_hear wsX5_highestBit := goodIn_r _ [12] (by decide +kernel) (by decide +kernel)
set_option maxRecDepth 20000 in
theorem gX5_hear_X5_highestBit : GoodIn wsX5_hear (va_wsS RX5 44 yX5_highestBit wsX5_highestBit) := goodIn_app (goodIn_of _ (by decide +kernel)) ggX5_hear_X5_highestBit
theorem dX5_hear_0 : decode cX5_hear 0 = .ok (.aload_n 0, 1) := by decide +kernel
theorem dX5_hear_1 : decode cX5_hear 1 = .ok (.iload_n 1, 1) := by decide +kernel
theorem dX5_hear_2 : decode cX5_hear 2 = .ok (.invokevirtual 31, 3) := by decide +kernel
theorem dX5_hear_5 : decode cX5_hear 5 = .ok (.ifCond .eq 16, 3) := by decide +kernel
theorem dX5_hear_8 : decode cX5_hear 8 = .ok (.aload_n 0, 1) := by decide +kernel
theorem dX5_hear_9 : decode cX5_hear 9 = .ok (.iload_n 2, 1) := by decide +kernel
theorem dX5_hear_10 : decode cX5_hear 10 = .ok (.invokevirtual 31, 3) := by decide +kernel
theorem dX5_hear_13 : decode cX5_hear 13 = .ok (.ifCond .eq 8, 3) := by decide +kernel
theorem dX5_hear_16 : decode cX5_hear 16 = .ok (.iload_n 1, 1) := by decide +kernel
theorem dX5_hear_17 : decode cX5_hear 17 = .ok (.iload_n 2, 1) := by decide +kernel
theorem dX5_hear_18 : decode cX5_hear 18 = .ok (.if_icmp .ne 4, 3) := by decide +kernel
theorem dX5_hear_21 : decode cX5_hear 21 = .ok (.return_, 1) := by decide +kernel
theorem dX5_hear_22 : decode cX5_hear 22 = .ok (.aload_n 0, 1) := by decide +kernel
theorem dX5_hear_23 : decode cX5_hear 23 = .ok (.getfield 24, 3) := by decide +kernel
theorem dX5_hear_26 : decode cX5_hear 26 = .ok (.iload_n 1, 1) := by decide +kernel
theorem dX5_hear_27 : decode cX5_hear 27 = .ok (.aaload, 1) := by decide +kernel
theorem dX5_hear_28 : decode cX5_hear 28 = .ok (.astore_n 3, 1) := by decide +kernel
theorem dX5_hear_29 : decode cX5_hear 29 = .ok (.iconst 2, 1) := by decide +kernel
theorem dX5_hear_30 : decode cX5_hear 30 = .ok (.aload_n 0, 1) := by decide +kernel
theorem dX5_hear_31 : decode cX5_hear 31 = .ok (.getfield 9, 3) := by decide +kernel
theorem dX5_hear_34 : decode cX5_hear 34 = .ok (.iload_n 1, 1) := by decide +kernel
theorem dX5_hear_35 : decode cX5_hear 35 = .ok (.iaload, 1) := by decide +kernel
theorem dX5_hear_36 : decode cX5_hear 36 = .ok (.aload_n 0, 1) := by decide +kernel
theorem dX5_hear_37 : decode cX5_hear 37 = .ok (.getfield 9, 3) := by decide +kernel
theorem dX5_hear_40 : decode cX5_hear 40 = .ok (.iload_n 2, 1) := by decide +kernel
theorem dX5_hear_41 : decode cX5_hear 41 = .ok (.iaload, 1) := by decide +kernel
theorem dX5_hear_42 : decode cX5_hear 42 = .ok (.ixor, 1) := by decide +kernel
theorem dX5_hear_43 : decode cX5_hear 43 = .ok (.invokestatic 44, 3) := by decide +kernel
theorem dX5_hear_46 : decode cX5_hear 46 = .ok (.imul, 1) := by decide +kernel
theorem dX5_hear_47 : decode cX5_hear 47 = .ok (.istore 4, 2) := by decide +kernel
theorem dX5_hear_49 : decode cX5_hear 49 = .ok (.iload 4, 2) := by decide +kernel
theorem dX5_hear_51 : decode cX5_hear 51 = .ok (.iconst 1, 1) := by decide +kernel
theorem dX5_hear_52 : decode cX5_hear 52 = .ok (.iadd, 1) := by decide +kernel
theorem dX5_hear_53 : decode cX5_hear 53 = .ok (.istore 5, 2) := by decide +kernel
theorem dX5_hear_55 : decode cX5_hear 55 = .ok (.iload 4, 2) := by decide +kernel
theorem dX5_hear_57 : decode cX5_hear 57 = .ok (.ifCond .lt 10, 3) := by decide +kernel
theorem dX5_hear_60 : decode cX5_hear 60 = .ok (.iload 5, 2) := by decide +kernel
theorem dX5_hear_62 : decode cX5_hear 62 = .ok (.aload_n 3, 1) := by decide +kernel
theorem dX5_hear_63 : decode cX5_hear 63 = .ok (.arraylength, 1) := by decide +kernel
theorem dX5_hear_64 : decode cX5_hear 64 = .ok (.if_icmp .lt 4, 3) := by decide +kernel
theorem dX5_hear_67 : decode cX5_hear 67 = .ok (.return_, 1) := by decide +kernel
theorem dX5_hear_68 : decode cX5_hear 68 = .ok (.aload_n 3, 1) := by decide +kernel
theorem dX5_hear_69 : decode cX5_hear 69 = .ok (.iload 4, 2) := by decide +kernel
theorem dX5_hear_71 : decode cX5_hear 71 = .ok (.iaload, 1) := by decide +kernel
theorem dX5_hear_72 : decode cX5_hear 72 = .ok (.iconst (-1), 1) := by decide +kernel
theorem dX5_hear_73 : decode cX5_hear 73 = .ok (.if_icmp .ne 11, 3) := by decide +kernel
theorem dX5_hear_76 : decode cX5_hear 76 = .ok (.aload_n 3, 1) := by decide +kernel
theorem dX5_hear_77 : decode cX5_hear 77 = .ok (.iload 4, 2) := by decide +kernel
theorem dX5_hear_79 : decode cX5_hear 79 = .ok (.iload_n 2, 1) := by decide +kernel
theorem dX5_hear_80 : decode cX5_hear 80 = .ok (.iastore, 1) := by decide +kernel
theorem dX5_hear_81 : decode cX5_hear 81 = .ok (.goto 100, 3) := by decide +kernel
theorem dX5_hear_84 : decode cX5_hear 84 = .ok (.aload_n 3, 1) := by decide +kernel
theorem dX5_hear_85 : decode cX5_hear 85 = .ok (.iload 5, 2) := by decide +kernel
theorem dX5_hear_87 : decode cX5_hear 87 = .ok (.iaload, 1) := by decide +kernel
theorem dX5_hear_88 : decode cX5_hear 88 = .ok (.iconst (-1), 1) := by decide +kernel
theorem dX5_hear_89 : decode cX5_hear 89 = .ok (.if_icmp .ne 23, 3) := by decide +kernel
theorem dX5_hear_92 : decode cX5_hear 92 = .ok (.aload_n 3, 1) := by decide +kernel
theorem dX5_hear_93 : decode cX5_hear 93 = .ok (.iload 5, 2) := by decide +kernel
theorem dX5_hear_95 : decode cX5_hear 95 = .ok (.aload_n 3, 1) := by decide +kernel
theorem dX5_hear_96 : decode cX5_hear 96 = .ok (.iload 4, 2) := by decide +kernel
theorem dX5_hear_98 : decode cX5_hear 98 = .ok (.iaload, 1) := by decide +kernel
theorem dX5_hear_99 : decode cX5_hear 99 = .ok (.iload_n 2, 1) := by decide +kernel
theorem dX5_hear_100 : decode cX5_hear 100 = .ok (.if_icmp .ne 7, 3) := by decide +kernel
theorem dX5_hear_103 : decode cX5_hear 103 = .ok (.iconst (-1), 1) := by decide +kernel
theorem dX5_hear_104 : decode cX5_hear 104 = .ok (.goto 4, 3) := by decide +kernel
theorem dX5_hear_107 : decode cX5_hear 107 = .ok (.iload_n 2, 1) := by decide +kernel
theorem dX5_hear_108 : decode cX5_hear 108 = .ok (.iastore, 1) := by decide +kernel
theorem dX5_hear_109 : decode cX5_hear 109 = .ok (.goto 72, 3) := by decide +kernel
theorem dX5_hear_112 : decode cX5_hear 112 = .ok (.aload_n 3, 1) := by decide +kernel
theorem dX5_hear_113 : decode cX5_hear 113 = .ok (.iload 5, 2) := by decide +kernel
theorem dX5_hear_115 : decode cX5_hear 115 = .ok (.iaload, 1) := by decide +kernel
theorem dX5_hear_116 : decode cX5_hear 116 = .ok (.iload_n 2, 1) := by decide +kernel
theorem dX5_hear_117 : decode cX5_hear 117 = .ok (.if_icmp .eq 64, 3) := by decide +kernel
theorem dX5_hear_120 : decode cX5_hear 120 = .ok (.aload_n 3, 1) := by decide +kernel
theorem dX5_hear_121 : decode cX5_hear 121 = .ok (.iload 4, 2) := by decide +kernel
theorem dX5_hear_123 : decode cX5_hear 123 = .ok (.iaload, 1) := by decide +kernel
theorem dX5_hear_124 : decode cX5_hear 124 = .ok (.istore 6, 2) := by decide +kernel
theorem dX5_hear_126 : decode cX5_hear 126 = .ok (.iload 6, 2) := by decide +kernel
theorem dX5_hear_128 : decode cX5_hear 128 = .ok (.iload_n 2, 1) := by decide +kernel
theorem dX5_hear_129 : decode cX5_hear 129 = .ok (.if_icmp .eq 22, 3) := by decide +kernel
theorem dX5_hear_132 : decode cX5_hear 132 = .ok (.aload_n 0, 1) := by decide +kernel
theorem dX5_hear_133 : decode cX5_hear 133 = .ok (.iload 6, 2) := by decide +kernel
theorem dX5_hear_135 : decode cX5_hear 135 = .ok (.invokevirtual 31, 3) := by decide +kernel
theorem dX5_hear_138 : decode cX5_hear 138 = .ok (.ifCond .eq 13, 3) := by decide +kernel
theorem dX5_hear_141 : decode cX5_hear 141 = .ok (.aload_n 0, 1) := by decide +kernel
theorem dX5_hear_142 : decode cX5_hear 142 = .ok (.getfield 18, 3) := by decide +kernel
theorem dX5_hear_145 : decode cX5_hear 145 = .ok (.iload 6, 2) := by decide +kernel
theorem dX5_hear_147 : decode cX5_hear 147 = .ok (.baload, 1) := by decide +kernel
theorem dX5_hear_148 : decode cX5_hear 148 = .ok (.ifCond .ne 7, 3) := by decide +kernel
theorem dX5_hear_151 : decode cX5_hear 151 = .ok (.iconst 1, 1) := by decide +kernel
theorem dX5_hear_152 : decode cX5_hear 152 = .ok (.goto 4, 3) := by decide +kernel
theorem dX5_hear_155 : decode cX5_hear 155 = .ok (.iconst 0, 1) := by decide +kernel
theorem dX5_hear_156 : decode cX5_hear 156 = .ok (.istore 7, 2) := by decide +kernel
theorem dX5_hear_158 : decode cX5_hear 158 = .ok (.aload_n 3, 1) := by decide +kernel
theorem dX5_hear_159 : decode cX5_hear 159 = .ok (.iload 4, 2) := by decide +kernel
theorem dX5_hear_161 : decode cX5_hear 161 = .ok (.aload_n 3, 1) := by decide +kernel
theorem dX5_hear_162 : decode cX5_hear 162 = .ok (.iload 5, 2) := by decide +kernel
theorem dX5_hear_164 : decode cX5_hear 164 = .ok (.iaload, 1) := by decide +kernel
theorem dX5_hear_165 : decode cX5_hear 165 = .ok (.iastore, 1) := by decide +kernel
theorem dX5_hear_166 : decode cX5_hear 166 = .ok (.aload_n 3, 1) := by decide +kernel
theorem dX5_hear_167 : decode cX5_hear 167 = .ok (.iload 5, 2) := by decide +kernel
theorem dX5_hear_169 : decode cX5_hear 169 = .ok (.iload 7, 2) := by decide +kernel
theorem dX5_hear_171 : decode cX5_hear 171 = .ok (.ifCond .eq 7, 3) := by decide +kernel
theorem dX5_hear_174 : decode cX5_hear 174 = .ok (.iload_n 2, 1) := by decide +kernel
theorem dX5_hear_175 : decode cX5_hear 175 = .ok (.goto 5, 3) := by decide +kernel
theorem dX5_hear_178 : decode cX5_hear 178 = .ok (.iload 6, 2) := by decide +kernel
theorem dX5_hear_180 : decode cX5_hear 180 = .ok (.iastore, 1) := by decide +kernel
theorem dX5_hear_181 : decode cX5_hear 181 = .ok (.return_, 1) := by decide +kernel
theorem dX5_highestBit_0 : decode cX5_highestBit 0 = .ok (.bipush 7, 2) := by decide +kernel
theorem dX5_highestBit_2 : decode cX5_highestBit 2 = .ok (.istore_n 1, 1) := by decide +kernel
theorem dX5_highestBit_3 : decode cX5_highestBit 3 = .ok (.iload_n 1, 1) := by decide +kernel
theorem dX5_highestBit_4 : decode cX5_highestBit 4 = .ok (.ifCond .le 15, 3) := by decide +kernel
theorem dX5_highestBit_7 : decode cX5_highestBit 7 = .ok (.iload_n 0, 1) := by decide +kernel
theorem dX5_highestBit_8 : decode cX5_highestBit 8 = .ok (.iload_n 1, 1) := by decide +kernel
theorem dX5_highestBit_9 : decode cX5_highestBit 9 = .ok (.ishr, 1) := by decide +kernel
theorem dX5_highestBit_10 : decode cX5_highestBit 10 = .ok (.ifCond .ne 9, 3) := by decide +kernel
theorem dX5_highestBit_13 : decode cX5_highestBit 13 = .ok (.iinc 1 (-1), 3) := by decide +kernel
theorem dX5_highestBit_16 : decode cX5_highestBit 16 = .ok (.goto (-13), 3) := by decide +kernel
theorem dX5_highestBit_19 : decode cX5_highestBit 19 = .ok (.iload_n 1, 1) := by decide +kernel
theorem dX5_highestBit_20 : decode cX5_highestBit 20 = .ok (.ireturn, 1) := by decide +kernel
theorem dX6_init_0 : decode cX6_init 0 = .ok (.aload_n 0, 1) := by decide +kernel
theorem dX6_init_1 : decode cX6_init 1 = .ok (.invokespecial 3, 3) := by decide +kernel
theorem dX6_init_4 : decode cX6_init 4 = .ok (.aload_n 0, 1) := by decide +kernel
theorem dX6_init_5 : decode cX6_init 5 = .ok (.bipush 16, 2) := by decide +kernel
theorem dX6_init_7 : decode cX6_init 7 = .ok (.newarray .int, 2) := by decide +kernel
theorem dX6_init_9 : decode cX6_init 9 = .ok (.putfield 9, 3) := by decide +kernel
theorem dX6_init_12 : decode cX6_init 12 = .ok (.aload_n 0, 1) := by decide +kernel
theorem dX6_init_13 : decode cX6_init 13 = .ok (.bipush 16, 2) := by decide +kernel
theorem dX6_init_15 : decode cX6_init 15 = .ok (.newarray .int, 2) := by decide +kernel
theorem dX6_init_17 : decode cX6_init 17 = .ok (.putfield 15, 3) := by decide +kernel
theorem dX6_init_20 : decode cX6_init 20 = .ok (.return_, 1) := by decide +kernel
theorem dX6_clear_0 : decode cX6_clear 0 = .ok (.aload_n 0, 1) := by decide +kernel
theorem dX6_clear_1 : decode cX6_clear 1 = .ok (.iconst 0, 1) := by decide +kernel
theorem dX6_clear_2 : decode cX6_clear 2 = .ok (.putfield 18, 3) := by decide +kernel
theorem dX6_clear_5 : decode cX6_clear 5 = .ok (.return_, 1) := by decide +kernel
theorem dX6_add_0 : decode cX6_add 0 = .ok (.iconst 0, 1) := by decide +kernel
theorem dX6_add_1 : decode cX6_add 1 = .ok (.istore_n 3, 1) := by decide +kernel
theorem dX6_add_2 : decode cX6_add 2 = .ok (.iload_n 3, 1) := by decide +kernel
theorem dX6_add_3 : decode cX6_add 3 = .ok (.aload_n 0, 1) := by decide +kernel
theorem dX6_add_4 : decode cX6_add 4 = .ok (.getfield 18, 3) := by decide +kernel
theorem dX6_add_7 : decode cX6_add 7 = .ok (.if_icmp .ge 25, 3) := by decide +kernel
theorem dX6_add_10 : decode cX6_add 10 = .ok (.iload_n 3, 1) := by decide +kernel
theorem dX6_add_11 : decode cX6_add 11 = .ok (.bipush 16, 2) := by decide +kernel
theorem dX6_add_13 : decode cX6_add 13 = .ok (.if_icmp .ge 19, 3) := by decide +kernel
theorem dX6_add_16 : decode cX6_add 16 = .ok (.aload_n 0, 1) := by decide +kernel
theorem dX6_add_17 : decode cX6_add 17 = .ok (.getfield 15, 3) := by decide +kernel
theorem dX6_add_20 : decode cX6_add 20 = .ok (.iload_n 3, 1) := by decide +kernel
theorem dX6_add_21 : decode cX6_add 21 = .ok (.iaload, 1) := by decide +kernel
theorem dX6_add_22 : decode cX6_add 22 = .ok (.iload_n 2, 1) := by decide +kernel
theorem dX6_add_23 : decode cX6_add 23 = .ok (.if_icmp .ge 9, 3) := by decide +kernel
theorem dX6_add_26 : decode cX6_add 26 = .ok (.iinc 3 1, 3) := by decide +kernel
theorem dX6_add_29 : decode cX6_add 29 = .ok (.goto (-27), 3) := by decide +kernel
theorem dX6_add_32 : decode cX6_add 32 = .ok (.iload_n 3, 1) := by decide +kernel
theorem dX6_add_33 : decode cX6_add 33 = .ok (.aload_n 0, 1) := by decide +kernel
theorem dX6_add_34 : decode cX6_add 34 = .ok (.getfield 18, 3) := by decide +kernel
theorem dX6_add_37 : decode cX6_add 37 = .ok (.if_icmp .ge 23, 3) := by decide +kernel
theorem dX6_add_40 : decode cX6_add 40 = .ok (.iload_n 3, 1) := by decide +kernel
theorem dX6_add_41 : decode cX6_add 41 = .ok (.bipush 16, 2) := by decide +kernel
theorem dX6_add_43 : decode cX6_add 43 = .ok (.if_icmp .ge 17, 3) := by decide +kernel
theorem dX6_add_46 : decode cX6_add 46 = .ok (.aload_n 0, 1) := by decide +kernel
theorem dX6_add_47 : decode cX6_add 47 = .ok (.getfield 15, 3) := by decide +kernel
theorem dX6_add_50 : decode cX6_add 50 = .ok (.iload_n 3, 1) := by decide +kernel
theorem dX6_add_51 : decode cX6_add 51 = .ok (.iaload, 1) := by decide +kernel
theorem dX6_add_52 : decode cX6_add 52 = .ok (.iload_n 2, 1) := by decide +kernel
theorem dX6_add_53 : decode cX6_add 53 = .ok (.if_icmp .ne 7, 3) := by decide +kernel
theorem dX6_add_56 : decode cX6_add 56 = .ok (.iconst 1, 1) := by decide +kernel
theorem dX6_add_57 : decode cX6_add 57 = .ok (.goto 4, 3) := by decide +kernel
theorem dX6_add_60 : decode cX6_add 60 = .ok (.iconst 0, 1) := by decide +kernel
theorem dX6_add_61 : decode cX6_add 61 = .ok (.istore 4, 2) := by decide +kernel
theorem dX6_add_63 : decode cX6_add 63 = .ok (.iload 4, 2) := by decide +kernel
theorem dX6_add_65 : decode cX6_add 65 = .ok (.ifCond .ne 12, 3) := by decide +kernel
theorem dX6_add_68 : decode cX6_add 68 = .ok (.aload_n 0, 1) := by decide +kernel
theorem dX6_add_69 : decode cX6_add 69 = .ok (.getfield 18, 3) := by decide +kernel
theorem dX6_add_72 : decode cX6_add 72 = .ok (.bipush 16, 2) := by decide +kernel
theorem dX6_add_74 : decode cX6_add 74 = .ok (.if_icmp .lt 4, 3) := by decide +kernel
theorem dX6_add_77 : decode cX6_add 77 = .ok (.return_, 1) := by decide +kernel
theorem dX6_add_78 : decode cX6_add 78 = .ok (.aload_n 0, 1) := by decide +kernel
theorem dX6_add_79 : decode cX6_add 79 = .ok (.getfield 18, 3) := by decide +kernel
theorem dX6_add_82 : decode cX6_add 82 = .ok (.istore 5, 2) := by decide +kernel
theorem dX6_add_84 : decode cX6_add 84 = .ok (.iload 5, 2) := by decide +kernel
theorem dX6_add_86 : decode cX6_add 86 = .ok (.iload_n 3, 1) := by decide +kernel
theorem dX6_add_87 : decode cX6_add 87 = .ok (.if_icmp .le 41, 3) := by decide +kernel
theorem dX6_add_90 : decode cX6_add 90 = .ok (.aload_n 0, 1) := by decide +kernel
theorem dX6_add_91 : decode cX6_add 91 = .ok (.getfield 9, 3) := by decide +kernel
theorem dX6_add_94 : decode cX6_add 94 = .ok (.iload 5, 2) := by decide +kernel
theorem dX6_add_96 : decode cX6_add 96 = .ok (.aload_n 0, 1) := by decide +kernel
theorem dX6_add_97 : decode cX6_add 97 = .ok (.getfield 9, 3) := by decide +kernel
theorem dX6_add_100 : decode cX6_add 100 = .ok (.iload 5, 2) := by decide +kernel
theorem dX6_add_102 : decode cX6_add 102 = .ok (.iconst 1, 1) := by decide +kernel
theorem dX6_add_103 : decode cX6_add 103 = .ok (.isub, 1) := by decide +kernel
theorem dX6_add_104 : decode cX6_add 104 = .ok (.iaload, 1) := by decide +kernel
theorem dX6_add_105 : decode cX6_add 105 = .ok (.iastore, 1) := by decide +kernel
theorem dX6_add_106 : decode cX6_add 106 = .ok (.aload_n 0, 1) := by decide +kernel
theorem dX6_add_107 : decode cX6_add 107 = .ok (.getfield 15, 3) := by decide +kernel
theorem dX6_add_110 : decode cX6_add 110 = .ok (.iload 5, 2) := by decide +kernel
theorem dX6_add_112 : decode cX6_add 112 = .ok (.aload_n 0, 1) := by decide +kernel
theorem dX6_add_113 : decode cX6_add 113 = .ok (.getfield 15, 3) := by decide +kernel
theorem dX6_add_116 : decode cX6_add 116 = .ok (.iload 5, 2) := by decide +kernel
theorem dX6_add_118 : decode cX6_add 118 = .ok (.iconst 1, 1) := by decide +kernel
theorem dX6_add_119 : decode cX6_add 119 = .ok (.isub, 1) := by decide +kernel
theorem dX6_add_120 : decode cX6_add 120 = .ok (.iaload, 1) := by decide +kernel
theorem dX6_add_121 : decode cX6_add 121 = .ok (.iastore, 1) := by decide +kernel
theorem dX6_add_122 : decode cX6_add 122 = .ok (.iinc 5 (-1), 3) := by decide +kernel
theorem dX6_add_125 : decode cX6_add 125 = .ok (.goto (-41), 3) := by decide +kernel
theorem dX6_add_128 : decode cX6_add 128 = .ok (.aload_n 0, 1) := by decide +kernel
theorem dX6_add_129 : decode cX6_add 129 = .ok (.getfield 9, 3) := by decide +kernel
theorem dX6_add_132 : decode cX6_add 132 = .ok (.iload_n 3, 1) := by decide +kernel
theorem dX6_add_133 : decode cX6_add 133 = .ok (.iload_n 1, 1) := by decide +kernel
theorem dX6_add_134 : decode cX6_add 134 = .ok (.iastore, 1) := by decide +kernel
theorem dX6_add_135 : decode cX6_add 135 = .ok (.aload_n 0, 1) := by decide +kernel
theorem dX6_add_136 : decode cX6_add 136 = .ok (.getfield 15, 3) := by decide +kernel
theorem dX6_add_139 : decode cX6_add 139 = .ok (.iload_n 3, 1) := by decide +kernel
theorem dX6_add_140 : decode cX6_add 140 = .ok (.iload_n 2, 1) := by decide +kernel
theorem dX6_add_141 : decode cX6_add 141 = .ok (.iastore, 1) := by decide +kernel
theorem dX6_add_142 : decode cX6_add 142 = .ok (.aload_n 0, 1) := by decide +kernel
theorem dX6_add_143 : decode cX6_add 143 = .ok (.dup, 1) := by decide +kernel
theorem dX6_add_144 : decode cX6_add 144 = .ok (.getfield 18, 3) := by decide +kernel
theorem dX6_add_147 : decode cX6_add 147 = .ok (.iconst 1, 1) := by decide +kernel
theorem dX6_add_148 : decode cX6_add 148 = .ok (.iadd, 1) := by decide +kernel
theorem dX6_add_149 : decode cX6_add 149 = .ok (.putfield 18, 3) := by decide +kernel
theorem dX6_add_152 : decode cX6_add 152 = .ok (.return_, 1) := by decide +kernel
theorem dX6_at_0 : decode cX6_at 0 = .ok (.iload_n 1, 1) := by decide +kernel
theorem dX6_at_1 : decode cX6_at 1 = .ok (.ifCond .lt 26, 3) := by decide +kernel
theorem dX6_at_4 : decode cX6_at 4 = .ok (.iload_n 1, 1) := by decide +kernel
theorem dX6_at_5 : decode cX6_at 5 = .ok (.aload_n 0, 1) := by decide +kernel
theorem dX6_at_6 : decode cX6_at 6 = .ok (.getfield 18, 3) := by decide +kernel
theorem dX6_at_9 : decode cX6_at 9 = .ok (.if_icmp .ge 18, 3) := by decide +kernel
theorem dX6_at_12 : decode cX6_at 12 = .ok (.iload_n 1, 1) := by decide +kernel
theorem dX6_at_13 : decode cX6_at 13 = .ok (.bipush 16, 2) := by decide +kernel
theorem dX6_at_15 : decode cX6_at 15 = .ok (.if_icmp .ge 12, 3) := by decide +kernel
theorem dX6_at_18 : decode cX6_at 18 = .ok (.aload_n 0, 1) := by decide +kernel
theorem dX6_at_19 : decode cX6_at 19 = .ok (.getfield 9, 3) := by decide +kernel
theorem dX6_at_22 : decode cX6_at 22 = .ok (.iload_n 1, 1) := by decide +kernel
theorem dX6_at_23 : decode cX6_at 23 = .ok (.iaload, 1) := by decide +kernel
theorem dX6_at_24 : decode cX6_at 24 = .ok (.goto 4, 3) := by decide +kernel
theorem dX6_at_27 : decode cX6_at 27 = .ok (.iconst (-1), 1) := by decide +kernel
theorem dX6_at_28 : decode cX6_at 28 = .ok (.ireturn, 1) := by decide +kernel
set_option maxRecDepth 20000 in
theorem ggX6_digits_X6_at : GoodIn wsX6_digits wsX6_at := goodIn_r _ [5, 6, 7, 8, 9, 10] (by decide +kernel) (by decide +kernel)
set_option maxRecDepth 20000 in
theorem gX6_digits_X6_at : GoodIn wsX6_digits (wsV RX6 22 RX6 yX6_at wsX6_at) := goodIn_app (goodIn_of _ (by decide +kernel)) ggX6_digits_X6_at
theorem dX6_digits_0 : decode cX6_digits 0 = .ok (.iconst 0, 1) := by decide +kernel
theorem dX6_digits_1 : decode cX6_digits 1 = .ok (.istore_n 1, 1) := by decide +kernel
theorem dX6_digits_2 : decode cX6_digits 2 = .ok (.iconst 2, 1) := by decide +kernel
theorem dX6_digits_3 : decode cX6_digits 3 = .ok (.istore_n 2, 1) := by decide +kernel
theorem dX6_digits_4 : decode cX6_digits 4 = .ok (.iload_n 2, 1) := by decide +kernel
theorem dX6_digits_5 : decode cX6_digits 5 = .ok (.ifCond .lt 22, 3) := by decide +kernel
theorem dX6_digits_8 : decode cX6_digits 8 = .ok (.iload_n 1, 1) := by decide +kernel
theorem dX6_digits_9 : decode cX6_digits 9 = .ok (.bipush 32, 2) := by decide +kernel
theorem dX6_digits_11 : decode cX6_digits 11 = .ok (.imul, 1) := by decide +kernel
theorem dX6_digits_12 : decode cX6_digits 12 = .ok (.aload_n 0, 1) := by decide +kernel
theorem dX6_digits_13 : decode cX6_digits 13 = .ok (.iload_n 2, 1) := by decide +kernel
theorem dX6_digits_14 : decode cX6_digits 14 = .ok (.invokevirtual 22, 3) := by decide +kernel
theorem dX6_digits_17 : decode cX6_digits 17 = .ok (.iadd, 1) := by decide +kernel
theorem dX6_digits_18 : decode cX6_digits 18 = .ok (.iconst 1, 1) := by decide +kernel
theorem dX6_digits_19 : decode cX6_digits 19 = .ok (.iadd, 1) := by decide +kernel
theorem dX6_digits_20 : decode cX6_digits 20 = .ok (.istore_n 1, 1) := by decide +kernel
theorem dX6_digits_21 : decode cX6_digits 21 = .ok (.iinc 2 (-1), 3) := by decide +kernel
theorem dX6_digits_24 : decode cX6_digits 24 = .ok (.goto (-20), 3) := by decide +kernel
theorem dX6_digits_27 : decode cX6_digits 27 = .ok (.iload_n 1, 1) := by decide +kernel
theorem dX6_digits_28 : decode cX6_digits 28 = .ok (.ireturn, 1) := by decide +kernel
set_option maxRecDepth 20000 in
theorem ggX7_init_X6_init : GoodIn wsX7_init wsX6_init := goodIn_r _ [15, 16, 2, 3, 17, 18, 19, 20, 21, 22] (by decide +kernel) (by decide +kernel)
set_option maxRecDepth 20000 in
theorem gX7_init_X6_init_n11 : GoodIn wsX7_init (wsX6_init) := ggX7_init_X6_init
theorem dX7_init_0 : decode cX7_init 0 = .ok (.aload_n 0, 1) := by decide +kernel
theorem dX7_init_1 : decode cX7_init 1 = .ok (.invokespecial 3, 3) := by decide +kernel
theorem dX7_init_4 : decode cX7_init 4 = .ok (.aload_n 0, 1) := by decide +kernel
theorem dX7_init_5 : decode cX7_init 5 = .ok (.new 9, 3) := by decide +kernel
theorem dX7_init_8 : decode cX7_init 8 = .ok (.dup, 1) := by decide +kernel
theorem dX7_init_9 : decode cX7_init 9 = .ok (.invokespecial 11, 3) := by decide +kernel
theorem dX7_init_12 : decode cX7_init 12 = .ok (.putfield 12, 3) := by decide +kernel
theorem dX7_init_15 : decode cX7_init 15 = .ok (.aload_n 0, 1) := by decide +kernel
theorem dX7_init_16 : decode cX7_init 16 = .ok (.new 9, 3) := by decide +kernel
theorem dX7_init_19 : decode cX7_init 19 = .ok (.dup, 1) := by decide +kernel
theorem dX7_init_20 : decode cX7_init 20 = .ok (.invokespecial 11, 3) := by decide +kernel
theorem dX7_init_23 : decode cX7_init 23 = .ok (.putfield 18, 3) := by decide +kernel
theorem dX7_init_26 : decode cX7_init 26 = .ok (.aload_n 0, 1) := by decide +kernel
theorem dX7_init_27 : decode cX7_init 27 = .ok (.new 9, 3) := by decide +kernel
theorem dX7_init_30 : decode cX7_init 30 = .ok (.dup, 1) := by decide +kernel
theorem dX7_init_31 : decode cX7_init 31 = .ok (.invokespecial 11, 3) := by decide +kernel
theorem dX7_init_34 : decode cX7_init 34 = .ok (.putfield 21, 3) := by decide +kernel
theorem dX7_init_37 : decode cX7_init 37 = .ok (.aload_n 0, 1) := by decide +kernel
theorem dX7_init_38 : decode cX7_init 38 = .ok (.new 9, 3) := by decide +kernel
theorem dX7_init_41 : decode cX7_init 41 = .ok (.dup, 1) := by decide +kernel
theorem dX7_init_42 : decode cX7_init 42 = .ok (.invokespecial 11, 3) := by decide +kernel
theorem dX7_init_45 : decode cX7_init 45 = .ok (.putfield 24, 3) := by decide +kernel
theorem dX7_init_48 : decode cX7_init 48 = .ok (.aload_n 0, 1) := by decide +kernel
theorem dX7_init_49 : decode cX7_init 49 = .ok (.bipush 16, 2) := by decide +kernel
theorem dX7_init_51 : decode cX7_init 51 = .ok (.newarray .boolean, 2) := by decide +kernel
theorem dX7_init_53 : decode cX7_init 53 = .ok (.putfield 27, 3) := by decide +kernel
theorem dX7_init_56 : decode cX7_init 56 = .ok (.aload_n 0, 1) := by decide +kernel
theorem dX7_init_57 : decode cX7_init 57 = .ok (.aload_n 1, 1) := by decide +kernel
theorem dX7_init_58 : decode cX7_init 58 = .ok (.putfield 31, 3) := by decide +kernel
theorem dX7_init_61 : decode cX7_init 61 = .ok (.return_, 1) := by decide +kernel
theorem dX7_askedCount_0 : decode cX7_askedCount 0 = .ok (.aload_n 0, 1) := by decide +kernel
theorem dX7_askedCount_1 : decode cX7_askedCount 1 = .ok (.getfield 35, 3) := by decide +kernel
theorem dX7_askedCount_4 : decode cX7_askedCount 4 = .ok (.ireturn, 1) := by decide +kernel
theorem dX7_result_0 : decode cX7_result 0 = .ok (.aload_n 0, 1) := by decide +kernel
theorem dX7_result_1 : decode cX7_result 1 = .ok (.getfield 21, 3) := by decide +kernel
theorem dX7_result_4 : decode cX7_result 4 = .ok (.areturn, 1) := by decide +kernel
set_option maxRecDepth 20000 in
theorem ggX7_run_X7_begin : GoodIn wsX7_run wsX7_begin := goodIn_r _ [8, 2, 3, 9, 1, 10, 11, 12, 13, 14, 15, 16, 17, 18, 19, 20, 21, 22, 23, 24, 25, 26, 27, 28, 29, 30, 31, 32, 33, 34, 35, 36, 37, 38, 39, 40, 41, 42, 43, 44, 45, 7, 46, 47, 48, 49, 50, 51, 77, 78, 79, 80, 81, 82, 83, 84, 85, 86, 87, 88, 89, 90, 91] (by decide +kernel) (by decide +kernel)
set_option maxRecDepth 20000 in
theorem gX7_run_X7_begin : GoodIn wsX7_run (wsV RX7 39 RX7 yX7_begin wsX7_begin) := goodIn_app (goodIn_of _ (by decide +kernel)) ggX7_run_X7_begin
set_option maxRecDepth 20000 in
theorem ggX7_run_X7_askAlong : GoodIn wsX7_run wsX7_askAlong := goodIn_r _ [55, 11, 10, 39, 40, 41, 16, 42, 18, 38, 56, 29, 30, 22, 31, 32, 57, 58, 59, 7, 60, 1, 9, 12, 61, 62, 63, 64, 65, 25, 28, 66, 67, 68, 69, 24, 26, 70, 71, 72, 43, 44, 45, 46, 47, 48, 49, 50, 51, 34, 35, 36, 37, 73, 74, 75, 76, 19, 20, 21, 23, 27, 14, 15, 17, 33, 77, 78, 79, 80, 81, 82, 83, 84, 85, 86, 87, 88, 89, 90, 91] (by decide +kernel) (by decide +kernel)
set_option maxRecDepth 20000 in
theorem gX7_run_X7_askAlong : GoodIn wsX7_run (wsV RX7 43 RX7 yX7_askAlong wsX7_askAlong) := goodIn_app (goodIn_of _ (by decide +kernel)) ggX7_run_X7_askAlong
theorem dX7_run_0 : decode cX7_run 0 = .ok (.aload_n 0, 1) := by decide +kernel
theorem dX7_run_1 : decode cX7_run 1 = .ok (.iload_n 1, 1) := by decide +kernel
theorem dX7_run_2 : decode cX7_run 2 = .ok (.iload_n 2, 1) := by decide +kernel
theorem dX7_run_3 : decode cX7_run 3 = .ok (.iload_n 3, 1) := by decide +kernel
theorem dX7_run_4 : decode cX7_run 4 = .ok (.invokevirtual 39, 3) := by decide +kernel
theorem dX7_run_7 : decode cX7_run 7 = .ok (.iconst 0, 1) := by decide +kernel
theorem dX7_run_8 : decode cX7_run 8 = .ok (.istore 4, 2) := by decide +kernel
theorem dX7_run_10 : decode cX7_run 10 = .ok (.iconst 0, 1) := by decide +kernel
theorem dX7_run_11 : decode cX7_run 11 = .ok (.istore 5, 2) := by decide +kernel
theorem dX7_run_13 : decode cX7_run 13 = .ok (.iload 5, 2) := by decide +kernel
theorem dX7_run_15 : decode cX7_run 15 = .ok (.bipush 16, 2) := by decide +kernel
theorem dX7_run_17 : decode cX7_run 17 = .ok (.if_icmp .gt 56, 3) := by decide +kernel
theorem dX7_run_20 : decode cX7_run 20 = .ok (.iload 4, 2) := by decide +kernel
theorem dX7_run_22 : decode cX7_run 22 = .ok (.ifCond .ne 51, 3) := by decide +kernel
theorem dX7_run_25 : decode cX7_run 25 = .ok (.aload_n 0, 1) := by decide +kernel
theorem dX7_run_26 : decode cX7_run 26 = .ok (.getfield 35, 3) := by decide +kernel
theorem dX7_run_29 : decode cX7_run 29 = .ok (.istore 6, 2) := by decide +kernel
theorem dX7_run_31 : decode cX7_run 31 = .ok (.aload_n 0, 1) := by decide +kernel
theorem dX7_run_32 : decode cX7_run 32 = .ok (.aload_n 0, 1) := by decide +kernel
theorem dX7_run_33 : decode cX7_run 33 = .ok (.getfield 12, 3) := by decide +kernel
theorem dX7_run_36 : decode cX7_run 36 = .ok (.iload_n 1, 1) := by decide +kernel
theorem dX7_run_37 : decode cX7_run 37 = .ok (.iload_n 2, 1) := by decide +kernel
theorem dX7_run_38 : decode cX7_run 38 = .ok (.invokevirtual 43, 3) := by decide +kernel
theorem dX7_run_41 : decode cX7_run 41 = .ok (.aload_n 0, 1) := by decide +kernel
theorem dX7_run_42 : decode cX7_run 42 = .ok (.aload_n 0, 1) := by decide +kernel
theorem dX7_run_43 : decode cX7_run 43 = .ok (.getfield 18, 3) := by decide +kernel
theorem dX7_run_46 : decode cX7_run 46 = .ok (.iload_n 1, 1) := by decide +kernel
theorem dX7_run_47 : decode cX7_run 47 = .ok (.iload_n 2, 1) := by decide +kernel
theorem dX7_run_48 : decode cX7_run 48 = .ok (.invokevirtual 43, 3) := by decide +kernel
theorem dX7_run_51 : decode cX7_run 51 = .ok (.aload_n 0, 1) := by decide +kernel
theorem dX7_run_52 : decode cX7_run 52 = .ok (.getfield 35, 3) := by decide +kernel
theorem dX7_run_55 : decode cX7_run 55 = .ok (.iload 6, 2) := by decide +kernel
theorem dX7_run_57 : decode cX7_run 57 = .ok (.if_icmp .ne 7, 3) := by decide +kernel
theorem dX7_run_60 : decode cX7_run 60 = .ok (.iconst 1, 1) := by decide +kernel
theorem dX7_run_61 : decode cX7_run 61 = .ok (.goto 4, 3) := by decide +kernel
theorem dX7_run_64 : decode cX7_run 64 = .ok (.iconst 0, 1) := by decide +kernel
theorem dX7_run_65 : decode cX7_run 65 = .ok (.istore 4, 2) := by decide +kernel
theorem dX7_run_67 : decode cX7_run 67 = .ok (.iinc 5 1, 3) := by decide +kernel
theorem dX7_run_70 : decode cX7_run 70 = .ok (.goto (-57), 3) := by decide +kernel
theorem dX7_run_73 : decode cX7_run 73 = .ok (.return_, 1) := by decide +kernel
set_option maxRecDepth 20000 in
theorem ggX7_begin_X6_clear : GoodIn wsX7_begin wsX6_clear := goodIn_r _ [12, 13, 55, 56, 57] (by decide +kernel) (by decide +kernel)
set_option maxRecDepth 20000 in
theorem gX7_begin_X6_clear : GoodIn wsX7_begin (wsV RX7 47 RX6 yX6_clear wsX6_clear) := goodIn_app (goodIn_of _ (by decide +kernel)) ggX7_begin_X6_clear
set_option maxRecDepth 20000 in
theorem ggX7_begin_X5_gather : GoodIn wsX7_begin wsX5_gather := goodIn_r _ [18, 19, 20, 21, 22, 9, 10, 11, 12, 13, 23, 24, 25, 17, 26, 27, 28, 29, 30, 31, 32, 33, 58, 59, 60, 61, 62, 55, 56, 57] (by decide +kernel) (by decide +kernel)
set_option maxRecDepth 20000 in
theorem gX7_begin_X5_gather : GoodIn wsX7_begin (wsV RX7 50 RX5 yX5_gather wsX5_gather) := goodIn_app (goodIn_of _ (by decide +kernel)) ggX7_begin_X5_gather
set_option maxRecDepth 20000 in
theorem ggX7_begin_X6_at : GoodIn wsX7_begin wsX6_at := goodIn_r _ [37, 13, 33, 55, 56, 57] (by decide +kernel) (by decide +kernel)
set_option maxRecDepth 20000 in
theorem gX7_begin_X6_at : GoodIn wsX7_begin (wsV RX7 56 RX6 yX6_at wsX6_at) := goodIn_app (goodIn_of _ (by decide +kernel)) ggX7_begin_X6_at
set_option maxRecDepth 20000 in
theorem ggX7_begin_X7_include : GoodIn wsX7_begin wsX7_include := goodIn_r _ [42, 6, 43, 44, 45, 17, 46, 27, 21, 47, 29, 30, 11, 31, 13, 32, 33, 48, 49, 50, 51, 52, 53, 54, 58, 59, 60, 61, 62, 55, 56, 57] (by decide +kernel) (by decide +kernel)
set_option maxRecDepth 20000 in
theorem gX7_begin_X7_include : GoodIn wsX7_begin (wsV RX7 60 RX7 yX7_include wsX7_include) := goodIn_app (goodIn_of _ (by decide +kernel)) ggX7_begin_X7_include
theorem dX7_begin_0 : decode cX7_begin 0 = .ok (.aload_n 0, 1) := by decide +kernel
theorem dX7_begin_1 : decode cX7_begin 1 = .ok (.getfield 12, 3) := by decide +kernel
theorem dX7_begin_4 : decode cX7_begin 4 = .ok (.invokevirtual 47, 3) := by decide +kernel
theorem dX7_begin_7 : decode cX7_begin 7 = .ok (.aload_n 0, 1) := by decide +kernel
theorem dX7_begin_8 : decode cX7_begin 8 = .ok (.getfield 18, 3) := by decide +kernel
theorem dX7_begin_11 : decode cX7_begin 11 = .ok (.invokevirtual 47, 3) := by decide +kernel
theorem dX7_begin_14 : decode cX7_begin 14 = .ok (.aload_n 0, 1) := by decide +kernel
theorem dX7_begin_15 : decode cX7_begin 15 = .ok (.getfield 21, 3) := by decide +kernel
theorem dX7_begin_18 : decode cX7_begin 18 = .ok (.invokevirtual 47, 3) := by decide +kernel
theorem dX7_begin_21 : decode cX7_begin 21 = .ok (.aload_n 0, 1) := by decide +kernel
theorem dX7_begin_22 : decode cX7_begin 22 = .ok (.iconst 0, 1) := by decide +kernel
theorem dX7_begin_23 : decode cX7_begin 23 = .ok (.putfield 35, 3) := by decide +kernel
theorem dX7_begin_26 : decode cX7_begin 26 = .ok (.iconst 0, 1) := by decide +kernel
theorem dX7_begin_27 : decode cX7_begin 27 = .ok (.istore 4, 2) := by decide +kernel
theorem dX7_begin_29 : decode cX7_begin 29 = .ok (.iload 4, 2) := by decide +kernel
theorem dX7_begin_31 : decode cX7_begin 31 = .ok (.bipush 16, 2) := by decide +kernel
theorem dX7_begin_33 : decode cX7_begin 33 = .ok (.if_icmp .ge 17, 3) := by decide +kernel
theorem dX7_begin_36 : decode cX7_begin 36 = .ok (.aload_n 0, 1) := by decide +kernel
theorem dX7_begin_37 : decode cX7_begin 37 = .ok (.getfield 27, 3) := by decide +kernel
theorem dX7_begin_40 : decode cX7_begin 40 = .ok (.iload 4, 2) := by decide +kernel
theorem dX7_begin_42 : decode cX7_begin 42 = .ok (.iconst 0, 1) := by decide +kernel
theorem dX7_begin_43 : decode cX7_begin 43 = .ok (.bastore, 1) := by decide +kernel
theorem dX7_begin_44 : decode cX7_begin 44 = .ok (.iinc 4 1, 3) := by decide +kernel
theorem dX7_begin_47 : decode cX7_begin 47 = .ok (.goto (-18), 3) := by decide +kernel
theorem dX7_begin_50 : decode cX7_begin 50 = .ok (.aload_n 0, 1) := by decide +kernel
theorem dX7_begin_51 : decode cX7_begin 51 = .ok (.getfield 31, 3) := by decide +kernel
theorem dX7_begin_54 : decode cX7_begin 54 = .ok (.iload_n 1, 1) := by decide +kernel
theorem dX7_begin_55 : decode cX7_begin 55 = .ok (.iload_n 2, 1) := by decide +kernel
theorem dX7_begin_56 : decode cX7_begin 56 = .ok (.iconst 0, 1) := by decide +kernel
theorem dX7_begin_57 : decode cX7_begin 57 = .ok (.aload_n 0, 1) := by decide +kernel
theorem dX7_begin_58 : decode cX7_begin 58 = .ok (.getfield 24, 3) := by decide +kernel
theorem dX7_begin_61 : decode cX7_begin 61 = .ok (.invokevirtual 50, 3) := by decide +kernel
theorem dX7_begin_64 : decode cX7_begin 64 = .ok (.iconst 0, 1) := by decide +kernel
theorem dX7_begin_65 : decode cX7_begin 65 = .ok (.istore 4, 2) := by decide +kernel
theorem dX7_begin_67 : decode cX7_begin 67 = .ok (.iload 4, 2) := by decide +kernel
theorem dX7_begin_69 : decode cX7_begin 69 = .ok (.bipush 16, 2) := by decide +kernel
theorem dX7_begin_71 : decode cX7_begin 71 = .ok (.if_icmp .ge 63, 3) := by decide +kernel
theorem dX7_begin_74 : decode cX7_begin 74 = .ok (.aload_n 0, 1) := by decide +kernel
theorem dX7_begin_75 : decode cX7_begin 75 = .ok (.getfield 24, 3) := by decide +kernel
theorem dX7_begin_78 : decode cX7_begin 78 = .ok (.iload 4, 2) := by decide +kernel
theorem dX7_begin_80 : decode cX7_begin 80 = .ok (.invokevirtual 56, 3) := by decide +kernel
theorem dX7_begin_83 : decode cX7_begin 83 = .ok (.istore 5, 2) := by decide +kernel
theorem dX7_begin_85 : decode cX7_begin 85 = .ok (.iload_n 3, 1) := by decide +kernel
theorem dX7_begin_86 : decode cX7_begin 86 = .ok (.iconst 2, 1) := by decide +kernel
theorem dX7_begin_87 : decode cX7_begin 87 = .ok (.if_icmp .ne 15, 3) := by decide +kernel
theorem dX7_begin_90 : decode cX7_begin 90 = .ok (.iload 4, 2) := by decide +kernel
theorem dX7_begin_92 : decode cX7_begin 92 = .ok (.iconst 2, 1) := by decide +kernel
theorem dX7_begin_93 : decode cX7_begin 93 = .ok (.irem, 1) := by decide +kernel
theorem dX7_begin_94 : decode cX7_begin 94 = .ok (.iconst 1, 1) := by decide +kernel
theorem dX7_begin_95 : decode cX7_begin 95 = .ok (.if_icmp .ne 7, 3) := by decide +kernel
theorem dX7_begin_98 : decode cX7_begin 98 = .ok (.iconst 1, 1) := by decide +kernel
theorem dX7_begin_99 : decode cX7_begin 99 = .ok (.goto 4, 3) := by decide +kernel
theorem dX7_begin_102 : decode cX7_begin 102 = .ok (.iconst 0, 1) := by decide +kernel
theorem dX7_begin_103 : decode cX7_begin 103 = .ok (.istore 6, 2) := by decide +kernel
theorem dX7_begin_105 : decode cX7_begin 105 = .ok (.aload_n 0, 1) := by decide +kernel
theorem dX7_begin_106 : decode cX7_begin 106 = .ok (.iload 6, 2) := by decide +kernel
theorem dX7_begin_108 : decode cX7_begin 108 = .ok (.ifCond .eq 10, 3) := by decide +kernel
theorem dX7_begin_111 : decode cX7_begin 111 = .ok (.aload_n 0, 1) := by decide +kernel
theorem dX7_begin_112 : decode cX7_begin 112 = .ok (.getfield 18, 3) := by decide +kernel
theorem dX7_begin_115 : decode cX7_begin 115 = .ok (.goto 7, 3) := by decide +kernel
theorem dX7_begin_118 : decode cX7_begin 118 = .ok (.aload_n 0, 1) := by decide +kernel
theorem dX7_begin_119 : decode cX7_begin 119 = .ok (.getfield 12, 3) := by decide +kernel
theorem dX7_begin_122 : decode cX7_begin 122 = .ok (.iload 5, 2) := by decide +kernel
theorem dX7_begin_124 : decode cX7_begin 124 = .ok (.iload_n 2, 1) := by decide +kernel
theorem dX7_begin_125 : decode cX7_begin 125 = .ok (.invokevirtual 60, 3) := by decide +kernel
theorem dX7_begin_128 : decode cX7_begin 128 = .ok (.iinc 4 1, 3) := by decide +kernel
theorem dX7_begin_131 : decode cX7_begin 131 = .ok (.goto (-64), 3) := by decide +kernel
theorem dX7_begin_134 : decode cX7_begin 134 = .ok (.return_, 1) := by decide +kernel
set_option maxRecDepth 20000 in
theorem ggX7_askAlong_X6_at : GoodIn wsX7_askAlong wsX6_at := goodIn_r _ [7, 8, 9, 73, 74, 75] (by decide +kernel) (by decide +kernel)
set_option maxRecDepth 20000 in
theorem gX7_askAlong_X6_at : GoodIn wsX7_askAlong (wsV RX7 56 RX6 yX6_at wsX6_at) := goodIn_app (goodIn_of _ (by decide +kernel)) ggX7_askAlong_X6_at
set_option maxRecDepth 20000 in
theorem ggX7_askAlong_X5_has : GoodIn wsX7_askAlong wsX5_has := goodIn_r _ [14, 15, 76, 77, 78, 79, 80] (by decide +kernel) (by decide +kernel)
set_option maxRecDepth 20000 in
theorem gX7_askAlong_X5_has : GoodIn wsX7_askAlong (wsV RX7 63 RX5 yX5_has wsX5_has) := goodIn_app (goodIn_of _ (by decide +kernel)) ggX7_askAlong_X5_has
set_option maxRecDepth 20000 in
theorem ggX7_askAlong_X7_ask : GoodIn wsX7_askAlong wsX7_ask := goodIn_r _ [20, 1, 2, 21, 22, 23, 10, 11, 12, 13, 14, 15, 24, 25, 26, 27, 28, 29, 30, 31, 32, 33, 34, 35, 36, 37, 38, 39, 40, 41, 42, 19, 43, 44, 45, 46, 47, 48, 49, 50, 6, 51, 8, 52, 9, 53, 54, 55, 56, 57, 58, 59, 60, 61, 62, 63, 64, 65, 3, 4, 5, 7, 66, 67, 68, 69, 70, 71, 72, 76, 77, 78, 79, 80, 73, 74, 75] (by decide +kernel) (by decide +kernel)
set_option maxRecDepth 20000 in
theorem gX7_askAlong_X7_ask : GoodIn wsX7_askAlong (wsV RX7 67 RX7 yX7_ask wsX7_ask) := goodIn_app (goodIn_of _ (by decide +kernel)) ggX7_askAlong_X7_ask
theorem dX7_askAlong_0 : decode cX7_askAlong 0 = .ok (.iconst (-1), 1) := by decide +kernel
theorem dX7_askAlong_1 : decode cX7_askAlong 1 = .ok (.istore 4, 2) := by decide +kernel
theorem dX7_askAlong_3 : decode cX7_askAlong 3 = .ok (.iconst (-1), 1) := by decide +kernel
theorem dX7_askAlong_4 : decode cX7_askAlong 4 = .ok (.istore 5, 2) := by decide +kernel
theorem dX7_askAlong_6 : decode cX7_askAlong 6 = .ok (.iconst 0, 1) := by decide +kernel
theorem dX7_askAlong_7 : decode cX7_askAlong 7 = .ok (.istore 6, 2) := by decide +kernel
theorem dX7_askAlong_9 : decode cX7_askAlong 9 = .ok (.iload 6, 2) := by decide +kernel
theorem dX7_askAlong_11 : decode cX7_askAlong 11 = .ok (.iconst 3, 1) := by decide +kernel
theorem dX7_askAlong_12 : decode cX7_askAlong 12 = .ok (.if_icmp .ge 79, 3) := by decide +kernel
theorem dX7_askAlong_15 : decode cX7_askAlong 15 = .ok (.aload_n 1, 1) := by decide +kernel
theorem dX7_askAlong_16 : decode cX7_askAlong 16 = .ok (.iload 6, 2) := by decide +kernel
theorem dX7_askAlong_18 : decode cX7_askAlong 18 = .ok (.invokevirtual 56, 3) := by decide +kernel
theorem dX7_askAlong_21 : decode cX7_askAlong 21 = .ok (.istore 7, 2) := by decide +kernel
theorem dX7_askAlong_23 : decode cX7_askAlong 23 = .ok (.aload_n 0, 1) := by decide +kernel
theorem dX7_askAlong_24 : decode cX7_askAlong 24 = .ok (.getfield 31, 3) := by decide +kernel
theorem dX7_askAlong_27 : decode cX7_askAlong 27 = .ok (.iload 7, 2) := by decide +kernel
theorem dX7_askAlong_29 : decode cX7_askAlong 29 = .ok (.invokevirtual 63, 3) := by decide +kernel
theorem dX7_askAlong_32 : decode cX7_askAlong 32 = .ok (.ifCond .eq 17, 3) := by decide +kernel
theorem dX7_askAlong_35 : decode cX7_askAlong 35 = .ok (.aload_n 0, 1) := by decide +kernel
theorem dX7_askAlong_36 : decode cX7_askAlong 36 = .ok (.getfield 27, 3) := by decide +kernel
theorem dX7_askAlong_39 : decode cX7_askAlong 39 = .ok (.iload 7, 2) := by decide +kernel
theorem dX7_askAlong_41 : decode cX7_askAlong 41 = .ok (.baload, 1) := by decide +kernel
theorem dX7_askAlong_42 : decode cX7_askAlong 42 = .ok (.ifCond .ne 7, 3) := by decide +kernel
theorem dX7_askAlong_45 : decode cX7_askAlong 45 = .ok (.iconst 1, 1) := by decide +kernel
theorem dX7_askAlong_46 : decode cX7_askAlong 46 = .ok (.goto 4, 3) := by decide +kernel
theorem dX7_askAlong_49 : decode cX7_askAlong 49 = .ok (.iconst 0, 1) := by decide +kernel
theorem dX7_askAlong_50 : decode cX7_askAlong 50 = .ok (.istore 8, 2) := by decide +kernel
theorem dX7_askAlong_52 : decode cX7_askAlong 52 = .ok (.iload 8, 2) := by decide +kernel
theorem dX7_askAlong_54 : decode cX7_askAlong 54 = .ok (.ifCond .eq 16, 3) := by decide +kernel
theorem dX7_askAlong_57 : decode cX7_askAlong 57 = .ok (.iload 4, 2) := by decide +kernel
theorem dX7_askAlong_59 : decode cX7_askAlong 59 = .ok (.iconst (-1), 1) := by decide +kernel
theorem dX7_askAlong_60 : decode cX7_askAlong 60 = .ok (.if_icmp .ne 10, 3) := by decide +kernel
theorem dX7_askAlong_63 : decode cX7_askAlong 63 = .ok (.iload 7, 2) := by decide +kernel
theorem dX7_askAlong_65 : decode cX7_askAlong 65 = .ok (.istore 4, 2) := by decide +kernel
theorem dX7_askAlong_67 : decode cX7_askAlong 67 = .ok (.goto 18, 3) := by decide +kernel
theorem dX7_askAlong_70 : decode cX7_askAlong 70 = .ok (.iload 8, 2) := by decide +kernel
theorem dX7_askAlong_72 : decode cX7_askAlong 72 = .ok (.ifCond .eq 13, 3) := by decide +kernel
theorem dX7_askAlong_75 : decode cX7_askAlong 75 = .ok (.iload 5, 2) := by decide +kernel
theorem dX7_askAlong_77 : decode cX7_askAlong 77 = .ok (.iconst (-1), 1) := by decide +kernel
theorem dX7_askAlong_78 : decode cX7_askAlong 78 = .ok (.if_icmp .ne 7, 3) := by decide +kernel
theorem dX7_askAlong_81 : decode cX7_askAlong 81 = .ok (.iload 7, 2) := by decide +kernel
theorem dX7_askAlong_83 : decode cX7_askAlong 83 = .ok (.istore 5, 2) := by decide +kernel
theorem dX7_askAlong_85 : decode cX7_askAlong 85 = .ok (.iinc 6 1, 3) := by decide +kernel
theorem dX7_askAlong_88 : decode cX7_askAlong 88 = .ok (.goto (-79), 3) := by decide +kernel
theorem dX7_askAlong_91 : decode cX7_askAlong 91 = .ok (.aload_n 0, 1) := by decide +kernel
theorem dX7_askAlong_92 : decode cX7_askAlong 92 = .ok (.iload 4, 2) := by decide +kernel
theorem dX7_askAlong_94 : decode cX7_askAlong 94 = .ok (.aload_n 1, 1) := by decide +kernel
theorem dX7_askAlong_95 : decode cX7_askAlong 95 = .ok (.iload_n 2, 1) := by decide +kernel
theorem dX7_askAlong_96 : decode cX7_askAlong 96 = .ok (.iload_n 3, 1) := by decide +kernel
theorem dX7_askAlong_97 : decode cX7_askAlong 97 = .ok (.invokevirtual 67, 3) := by decide +kernel
theorem dX7_askAlong_100 : decode cX7_askAlong 100 = .ok (.aload_n 0, 1) := by decide +kernel
theorem dX7_askAlong_101 : decode cX7_askAlong 101 = .ok (.iload 5, 2) := by decide +kernel
theorem dX7_askAlong_103 : decode cX7_askAlong 103 = .ok (.aload_n 1, 1) := by decide +kernel
theorem dX7_askAlong_104 : decode cX7_askAlong 104 = .ok (.iload_n 2, 1) := by decide +kernel
theorem dX7_askAlong_105 : decode cX7_askAlong 105 = .ok (.iload_n 3, 1) := by decide +kernel
theorem dX7_askAlong_106 : decode cX7_askAlong 106 = .ok (.invokevirtual 67, 3) := by decide +kernel
theorem dX7_askAlong_109 : decode cX7_askAlong 109 = .ok (.return_, 1) := by decide +kernel
set_option maxRecDepth 20000 in
theorem ggX7_ask_X5_has : GoodIn wsX7_ask wsX5_has := goodIn_r _ [10, 11, 69, 70, 71, 72, 73] (by decide +kernel) (by decide +kernel)
set_option maxRecDepth 20000 in
theorem gX7_ask_X5_has : GoodIn wsX7_ask (wsV RX7 63 RX5 yX5_has wsX5_has) := goodIn_app (goodIn_of _ (by decide +kernel)) ggX7_ask_X5_has
set_option maxRecDepth 20000 in
theorem ggX7_ask_X5_answers : GoodIn wsX7_ask wsX5_answers := goodIn_r _ [15, 16, 17, 18, 7, 8, 9, 10, 11, 69, 70, 71, 72, 73] (by decide +kernel) (by decide +kernel)
set_option maxRecDepth 20000 in
theorem gX7_ask_X5_answers : GoodIn wsX7_ask (wsV RX7 71 RX5 yX5_answers wsX5_answers) := goodIn_app (goodIn_of _ (by decide +kernel)) ggX7_ask_X5_answers
set_option maxRecDepth 20000 in
theorem ggX7_ask_X5_hear : GoodIn wsX7_ask wsX5_hear := goodIn_r _ [22, 23, 24, 16, 18, 7, 8, 9, 10, 11, 25, 26, 27, 69, 70, 71, 72, 73] (by decide +kernel) (by decide +kernel)
set_option maxRecDepth 20000 in
theorem gX7_ask_X5_hear : GoodIn wsX7_ask (wsV RX7 74 RX5 yX5_hear wsX5_hear) := goodIn_app (goodIn_of _ (by decide +kernel)) ggX7_ask_X5_hear
set_option maxRecDepth 20000 in
theorem ggX7_ask_X7_include : GoodIn wsX7_ask wsX7_include := goodIn_r _ [32, 1, 33, 34, 35, 9, 36, 11, 24, 37, 38, 39, 40, 41, 42, 43, 44, 62, 63, 64, 65, 66, 67, 68, 69, 70, 71, 72, 73, 74, 75, 76] (by decide +kernel) (by decide +kernel)
set_option maxRecDepth 20000 in
theorem gX7_ask_X7_include : GoodIn wsX7_ask (wsV RX7 60 RX7 yX7_include wsX7_include) := goodIn_app (goodIn_of _ (by decide +kernel)) ggX7_ask_X7_include
set_option maxRecDepth 20000 in
theorem ggX7_ask_X5_isOfBand : GoodIn wsX7_ask wsX5_isOfBand := goodIn_r _ [48, 17, 18, 7, 8, 9, 10, 11, 69, 70, 71, 72, 73] (by decide +kernel) (by decide +kernel)
set_option maxRecDepth 20000 in
theorem gX7_ask_X5_isOfBand : GoodIn wsX7_ask (wsV RX7 78 RX5 yX5_isOfBand wsX5_isOfBand) := goodIn_app (goodIn_of _ (by decide +kernel)) ggX7_ask_X5_isOfBand
set_option maxRecDepth 20000 in
theorem ggX7_ask_X5_gather : GoodIn wsX7_ask wsX5_gather := goodIn_r _ [52, 23, 17, 24, 53, 54, 55, 40, 56, 42, 18, 7, 8, 9, 10, 11, 57, 38, 39, 41, 43, 44, 69, 70, 71, 72, 73, 74, 75, 76] (by decide +kernel) (by decide +kernel)
set_option maxRecDepth 20000 in
theorem gX7_ask_X5_gather : GoodIn wsX7_ask (wsV RX7 50 RX5 yX5_gather wsX5_gather) := goodIn_app (goodIn_of _ (by decide +kernel)) ggX7_ask_X5_gather
set_option maxRecDepth 20000 in
theorem ggX7_ask_X6_at : GoodIn wsX7_ask wsX6_at := goodIn_r _ [61, 42, 44, 74, 75, 76] (by decide +kernel) (by decide +kernel)
set_option maxRecDepth 20000 in
theorem gX7_ask_X6_at : GoodIn wsX7_ask (wsV RX7 56 RX6 yX6_at wsX6_at) := goodIn_app (goodIn_of _ (by decide +kernel)) ggX7_ask_X6_at
theorem dX7_ask_0 : decode cX7_ask 0 = .ok (.aload_n 0, 1) := by decide +kernel
theorem dX7_ask_1 : decode cX7_ask 1 = .ok (.getfield 31, 3) := by decide +kernel
theorem dX7_ask_4 : decode cX7_ask 4 = .ok (.iload_n 1, 1) := by decide +kernel
theorem dX7_ask_5 : decode cX7_ask 5 = .ok (.invokevirtual 63, 3) := by decide +kernel
theorem dX7_ask_8 : decode cX7_ask 8 = .ok (.ifCond .ne 4, 3) := by decide +kernel
theorem dX7_ask_11 : decode cX7_ask 11 = .ok (.return_, 1) := by decide +kernel
theorem dX7_ask_12 : decode cX7_ask 12 = .ok (.aload_n 0, 1) := by decide +kernel
theorem dX7_ask_13 : decode cX7_ask 13 = .ok (.getfield 27, 3) := by decide +kernel
theorem dX7_ask_16 : decode cX7_ask 16 = .ok (.iload_n 1, 1) := by decide +kernel
theorem dX7_ask_17 : decode cX7_ask 17 = .ok (.iconst 1, 1) := by decide +kernel
theorem dX7_ask_18 : decode cX7_ask 18 = .ok (.bastore, 1) := by decide +kernel
theorem dX7_ask_19 : decode cX7_ask 19 = .ok (.aload_n 0, 1) := by decide +kernel
theorem dX7_ask_20 : decode cX7_ask 20 = .ok (.dup, 1) := by decide +kernel
theorem dX7_ask_21 : decode cX7_ask 21 = .ok (.getfield 35, 3) := by decide +kernel
theorem dX7_ask_24 : decode cX7_ask 24 = .ok (.iconst 1, 1) := by decide +kernel
theorem dX7_ask_25 : decode cX7_ask 25 = .ok (.iadd, 1) := by decide +kernel
theorem dX7_ask_26 : decode cX7_ask 26 = .ok (.putfield 35, 3) := by decide +kernel
theorem dX7_ask_29 : decode cX7_ask 29 = .ok (.aload_n 0, 1) := by decide +kernel
theorem dX7_ask_30 : decode cX7_ask 30 = .ok (.getfield 31, 3) := by decide +kernel
theorem dX7_ask_33 : decode cX7_ask 33 = .ok (.iload_n 1, 1) := by decide +kernel
theorem dX7_ask_34 : decode cX7_ask 34 = .ok (.invokevirtual 71, 3) := by decide +kernel
theorem dX7_ask_37 : decode cX7_ask 37 = .ok (.ifCond .ne 4, 3) := by decide +kernel
theorem dX7_ask_40 : decode cX7_ask 40 = .ok (.return_, 1) := by decide +kernel
theorem dX7_ask_41 : decode cX7_ask 41 = .ok (.aload_n 0, 1) := by decide +kernel
theorem dX7_ask_42 : decode cX7_ask 42 = .ok (.getfield 31, 3) := by decide +kernel
theorem dX7_ask_45 : decode cX7_ask 45 = .ok (.iload_n 1, 1) := by decide +kernel
theorem dX7_ask_46 : decode cX7_ask 46 = .ok (.iload_n 3, 1) := by decide +kernel
theorem dX7_ask_47 : decode cX7_ask 47 = .ok (.invokevirtual 74, 3) := by decide +kernel
theorem dX7_ask_50 : decode cX7_ask 50 = .ok (.aload_n 0, 1) := by decide +kernel
theorem dX7_ask_51 : decode cX7_ask 51 = .ok (.getfield 31, 3) := by decide +kernel
theorem dX7_ask_54 : decode cX7_ask 54 = .ok (.iload_n 3, 1) := by decide +kernel
theorem dX7_ask_55 : decode cX7_ask 55 = .ok (.iload_n 1, 1) := by decide +kernel
theorem dX7_ask_56 : decode cX7_ask 56 = .ok (.invokevirtual 74, 3) := by decide +kernel
theorem dX7_ask_59 : decode cX7_ask 59 = .ok (.aload_n 0, 1) := by decide +kernel
theorem dX7_ask_60 : decode cX7_ask 60 = .ok (.aload_n 0, 1) := by decide +kernel
theorem dX7_ask_61 : decode cX7_ask 61 = .ok (.getfield 21, 3) := by decide +kernel
theorem dX7_ask_64 : decode cX7_ask 64 = .ok (.iload_n 1, 1) := by decide +kernel
theorem dX7_ask_65 : decode cX7_ask 65 = .ok (.iload 4, 2) := by decide +kernel
theorem dX7_ask_67 : decode cX7_ask 67 = .ok (.invokevirtual 60, 3) := by decide +kernel
theorem dX7_ask_70 : decode cX7_ask 70 = .ok (.aload_n 0, 1) := by decide +kernel
theorem dX7_ask_71 : decode cX7_ask 71 = .ok (.getfield 31, 3) := by decide +kernel
theorem dX7_ask_74 : decode cX7_ask 74 = .ok (.iload_n 1, 1) := by decide +kernel
theorem dX7_ask_75 : decode cX7_ask 75 = .ok (.iload 4, 2) := by decide +kernel
theorem dX7_ask_77 : decode cX7_ask 77 = .ok (.aload_n 0, 1) := by decide +kernel
theorem dX7_ask_78 : decode cX7_ask 78 = .ok (.getfield 31, 3) := by decide +kernel
theorem dX7_ask_81 : decode cX7_ask 81 = .ok (.iload_n 1, 1) := by decide +kernel
theorem dX7_ask_82 : decode cX7_ask 82 = .ok (.invokevirtual 78, 3) := by decide +kernel
theorem dX7_ask_85 : decode cX7_ask 85 = .ok (.aload_n 0, 1) := by decide +kernel
theorem dX7_ask_86 : decode cX7_ask 86 = .ok (.getfield 24, 3) := by decide +kernel
theorem dX7_ask_89 : decode cX7_ask 89 = .ok (.invokevirtual 50, 3) := by decide +kernel
theorem dX7_ask_92 : decode cX7_ask 92 = .ok (.iconst 0, 1) := by decide +kernel
theorem dX7_ask_93 : decode cX7_ask 93 = .ok (.istore 5, 2) := by decide +kernel
theorem dX7_ask_95 : decode cX7_ask 95 = .ok (.iload 5, 2) := by decide +kernel
theorem dX7_ask_97 : decode cX7_ask 97 = .ok (.iconst 3, 1) := by decide +kernel
theorem dX7_ask_98 : decode cX7_ask 98 = .ok (.if_icmp .ge 35, 3) := by decide +kernel
theorem dX7_ask_101 : decode cX7_ask 101 = .ok (.aload_n 0, 1) := by decide +kernel
theorem dX7_ask_102 : decode cX7_ask 102 = .ok (.getfield 24, 3) := by decide +kernel
theorem dX7_ask_105 : decode cX7_ask 105 = .ok (.iload 5, 2) := by decide +kernel
theorem dX7_ask_107 : decode cX7_ask 107 = .ok (.invokevirtual 56, 3) := by decide +kernel
theorem dX7_ask_110 : decode cX7_ask 110 = .ok (.istore 6, 2) := by decide +kernel
theorem dX7_ask_112 : decode cX7_ask 112 = .ok (.iload 6, 2) := by decide +kernel
theorem dX7_ask_114 : decode cX7_ask 114 = .ok (.iload_n 3, 1) := by decide +kernel
theorem dX7_ask_115 : decode cX7_ask 115 = .ok (.if_icmp .eq 12, 3) := by decide +kernel
theorem dX7_ask_118 : decode cX7_ask 118 = .ok (.aload_n 0, 1) := by decide +kernel
theorem dX7_ask_119 : decode cX7_ask 119 = .ok (.aload_n 2, 1) := by decide +kernel
theorem dX7_ask_120 : decode cX7_ask 120 = .ok (.iload 6, 2) := by decide +kernel
theorem dX7_ask_122 : decode cX7_ask 122 = .ok (.iload 4, 2) := by decide +kernel
theorem dX7_ask_124 : decode cX7_ask 124 = .ok (.invokevirtual 60, 3) := by decide +kernel
theorem dX7_ask_127 : decode cX7_ask 127 = .ok (.iinc 5 1, 3) := by decide +kernel
theorem dX7_ask_130 : decode cX7_ask 130 = .ok (.goto (-35), 3) := by decide +kernel
theorem dX7_ask_133 : decode cX7_ask 133 = .ok (.return_, 1) := by decide +kernel
set_option maxRecDepth 20000 in
theorem ggX7_include_X5_distance : GoodIn wsX7_include wsX5_distance := goodIn_r _ [6, 7, 8, 24, 25, 26, 27, 28] (by decide +kernel) (by decide +kernel)
set_option maxRecDepth 20000 in
theorem gX7_include_X5_distance : GoodIn wsX7_include (wsV RX7 81 RX5 yX5_distance wsX5_distance) := goodIn_app (goodIn_of _ (by decide +kernel)) ggX7_include_X5_distance
set_option maxRecDepth 20000 in
theorem ggX7_include_X6_add : GoodIn wsX7_include wsX6_add := goodIn_r _ [13, 14, 15, 16, 29, 30, 31] (by decide +kernel) (by decide +kernel)
set_option maxRecDepth 20000 in
theorem gX7_include_X6_add : GoodIn wsX7_include (wsV RX7 85 RX6 yX6_add wsX6_add) := goodIn_app (goodIn_of _ (by decide +kernel)) ggX7_include_X6_add
theorem dX7_include_0 : decode cX7_include 0 = .ok (.iload_n 2, 1) := by decide +kernel
theorem dX7_include_1 : decode cX7_include 1 = .ok (.iconst (-1), 1) := by decide +kernel
theorem dX7_include_2 : decode cX7_include 2 = .ok (.if_icmp .eq 17, 3) := by decide +kernel
theorem dX7_include_5 : decode cX7_include 5 = .ok (.aload_n 1, 1) := by decide +kernel
theorem dX7_include_6 : decode cX7_include 6 = .ok (.iload_n 2, 1) := by decide +kernel
theorem dX7_include_7 : decode cX7_include 7 = .ok (.aload_n 0, 1) := by decide +kernel
theorem dX7_include_8 : decode cX7_include 8 = .ok (.getfield 31, 3) := by decide +kernel
theorem dX7_include_11 : decode cX7_include 11 = .ok (.iload_n 2, 1) := by decide +kernel
theorem dX7_include_12 : decode cX7_include 12 = .ok (.iload_n 3, 1) := by decide +kernel
theorem dX7_include_13 : decode cX7_include 13 = .ok (.invokevirtual 81, 3) := by decide +kernel
theorem dX7_include_16 : decode cX7_include 16 = .ok (.invokevirtual 85, 3) := by decide +kernel
theorem dX7_include_19 : decode cX7_include 19 = .ok (.return_, 1) := by decide +kernel
set_option maxRecDepth 20000 in
theorem ggX8_init_X0_pieces : GoodIn wsX8_init wsX0_pieces := goodIn_r _ [18, 4, 19, 20, 17, 21, 22, 23, 24] (by decide +kernel) (by decide +kernel)
set_option maxRecDepth 20000 in
theorem gX8_init_X0_pieces : GoodIn wsX8_init (va_wsS RX8 22 yX0_pieces wsX0_pieces) := goodIn_app (goodIn_of _ (by decide +kernel)) ggX8_init_X0_pieces
set_option maxRecDepth 20000 in
theorem ggX8_init_X9_init : GoodIn wsX8_init wsX9_init := goodIn_r _ [27, 28, 2, 3, 4, 29, 30, 31, 13, 32, 33, 40] (by decide +kernel) (by decide +kernel)
set_option maxRecDepth 20000 in
theorem gX8_init_X9_init : GoodIn wsX8_init (wsX9_init) := ggX8_init_X9_init
theorem dX8_init_0 : decode cX8_init 0 = .ok (.aload_n 0, 1) := by decide +kernel
theorem dX8_init_1 : decode cX8_init 1 = .ok (.invokespecial 3, 3) := by decide +kernel
theorem dX8_init_4 : decode cX8_init 4 = .ok (.aload_n 0, 1) := by decide +kernel
theorem dX8_init_5 : decode cX8_init 5 = .ok (.bipush 6, 2) := by decide +kernel
theorem dX8_init_7 : decode cX8_init 7 = .ok (.newarray .int, 2) := by decide +kernel
theorem dX8_init_9 : decode cX8_init 9 = .ok (.putfield 9, 3) := by decide +kernel
theorem dX8_init_12 : decode cX8_init 12 = .ok (.aload_n 0, 1) := by decide +kernel
theorem dX8_init_13 : decode cX8_init 13 = .ok (.bipush 6, 2) := by decide +kernel
theorem dX8_init_15 : decode cX8_init 15 = .ok (.newarray .boolean, 2) := by decide +kernel
theorem dX8_init_17 : decode cX8_init 17 = .ok (.putfield 15, 3) := by decide +kernel
theorem dX8_init_20 : decode cX8_init 20 = .ok (.aload_n 0, 1) := by decide +kernel
theorem dX8_init_21 : decode cX8_init 21 = .ok (.bipush 6, 2) := by decide +kernel
theorem dX8_init_23 : decode cX8_init 23 = .ok (.newarray .int, 2) := by decide +kernel
theorem dX8_init_25 : decode cX8_init 25 = .ok (.putfield 19, 3) := by decide +kernel
theorem dX8_init_28 : decode cX8_init 28 = .ok (.iload_n 2, 1) := by decide +kernel
theorem dX8_init_29 : decode cX8_init 29 = .ok (.invokestatic 22, 3) := by decide +kernel
theorem dX8_init_32 : decode cX8_init 32 = .ok (.astore_n 3, 1) := by decide +kernel
theorem dX8_init_33 : decode cX8_init 33 = .ok (.aload_n 0, 1) := by decide +kernel
theorem dX8_init_34 : decode cX8_init 34 = .ok (.iload_n 1, 1) := by decide +kernel
theorem dX8_init_35 : decode cX8_init 35 = .ok (.putfield 28, 3) := by decide +kernel
theorem dX8_init_38 : decode cX8_init 38 = .ok (.aload_n 0, 1) := by decide +kernel
theorem dX8_init_39 : decode cX8_init 39 = .ok (.aload_n 3, 1) := by decide +kernel
theorem dX8_init_40 : decode cX8_init 40 = .ok (.putfield 32, 3) := by decide +kernel
theorem dX8_init_43 : decode cX8_init 43 = .ok (.aload_n 0, 1) := by decide +kernel
theorem dX8_init_44 : decode cX8_init 44 = .ok (.new 35, 3) := by decide +kernel
theorem dX8_init_47 : decode cX8_init 47 = .ok (.dup, 1) := by decide +kernel
theorem dX8_init_48 : decode cX8_init 48 = .ok (.aload_n 3, 1) := by decide +kernel
theorem dX8_init_49 : decode cX8_init 49 = .ok (.invokespecial 37, 3) := by decide +kernel
theorem dX8_init_52 : decode cX8_init 52 = .ok (.putfield 40, 3) := by decide +kernel
theorem dX8_init_55 : decode cX8_init 55 = .ok (.iconst 0, 1) := by decide +kernel
theorem dX8_init_56 : decode cX8_init 56 = .ok (.istore 4, 2) := by decide +kernel
theorem dX8_init_58 : decode cX8_init 58 = .ok (.iload 4, 2) := by decide +kernel
theorem dX8_init_60 : decode cX8_init 60 = .ok (.bipush 6, 2) := by decide +kernel
theorem dX8_init_62 : decode cX8_init 62 = .ok (.if_icmp .ge 17, 3) := by decide +kernel
theorem dX8_init_65 : decode cX8_init 65 = .ok (.aload_n 0, 1) := by decide +kernel
theorem dX8_init_66 : decode cX8_init 66 = .ok (.getfield 9, 3) := by decide +kernel
theorem dX8_init_69 : decode cX8_init 69 = .ok (.iload 4, 2) := by decide +kernel
theorem dX8_init_71 : decode cX8_init 71 = .ok (.iconst (-1), 1) := by decide +kernel
theorem dX8_init_72 : decode cX8_init 72 = .ok (.iastore, 1) := by decide +kernel
theorem dX8_init_73 : decode cX8_init 73 = .ok (.iinc 4 1, 3) := by decide +kernel
theorem dX8_init_76 : decode cX8_init 76 = .ok (.goto (-18), 3) := by decide +kernel
theorem dX8_init_79 : decode cX8_init 79 = .ok (.return_, 1) := by decide +kernel
theorem dX8_owner_0 : decode cX8_owner 0 = .ok (.aload_n 0, 1) := by decide +kernel
theorem dX8_owner_1 : decode cX8_owner 1 = .ok (.getfield 28, 3) := by decide +kernel
theorem dX8_owner_4 : decode cX8_owner 4 = .ok (.ireturn, 1) := by decide +kernel
theorem dX8_tree_0 : decode cX8_tree 0 = .ok (.aload_n 0, 1) := by decide +kernel
theorem dX8_tree_1 : decode cX8_tree 1 = .ok (.getfield 40, 3) := by decide +kernel
theorem dX8_tree_4 : decode cX8_tree 4 = .ok (.areturn, 1) := by decide +kernel
theorem dX8_value_0 : decode cX8_value 0 = .ok (.iload_n 1, 1) := by decide +kernel
theorem dX8_value_1 : decode cX8_value 1 = .ok (.ifCond .lt 21, 3) := by decide +kernel
theorem dX8_value_4 : decode cX8_value 4 = .ok (.iload_n 1, 1) := by decide +kernel
theorem dX8_value_5 : decode cX8_value 5 = .ok (.aload_n 0, 1) := by decide +kernel
theorem dX8_value_6 : decode cX8_value 6 = .ok (.getfield 32, 3) := by decide +kernel
theorem dX8_value_9 : decode cX8_value 9 = .ok (.arraylength, 1) := by decide +kernel
theorem dX8_value_10 : decode cX8_value 10 = .ok (.if_icmp .ge 12, 3) := by decide +kernel
theorem dX8_value_13 : decode cX8_value 13 = .ok (.aload_n 0, 1) := by decide +kernel
theorem dX8_value_14 : decode cX8_value 14 = .ok (.getfield 32, 3) := by decide +kernel
theorem dX8_value_17 : decode cX8_value 17 = .ok (.iload_n 1, 1) := by decide +kernel
theorem dX8_value_18 : decode cX8_value 18 = .ok (.iaload, 1) := by decide +kernel
theorem dX8_value_19 : decode cX8_value 19 = .ok (.goto 4, 3) := by decide +kernel
theorem dX8_value_22 : decode cX8_value 22 = .ok (.iconst (-1), 1) := by decide +kernel
theorem dX8_value_23 : decode cX8_value 23 = .ok (.ireturn, 1) := by decide +kernel
set_option maxRecDepth 20000 in
theorem ggX8_key_X9_leaf : GoodIn wsX8_key wsX9_leaf := goodIn_r _ [6, 7, 14] (by decide +kernel) (by decide +kernel)
set_option maxRecDepth 20000 in
theorem gX8_key_X9_leaf : GoodIn wsX8_key (wsV RX8 44 RX9 yX9_leaf wsX9_leaf) := goodIn_app (goodIn_of _ (by decide +kernel)) ggX8_key_X9_leaf
theorem dX8_key_0 : decode cX8_key 0 = .ok (.aload_n 0, 1) := by decide +kernel
theorem dX8_key_1 : decode cX8_key 1 = .ok (.getfield 40, 3) := by decide +kernel
theorem dX8_key_4 : decode cX8_key 4 = .ok (.iload_n 1, 1) := by decide +kernel
theorem dX8_key_5 : decode cX8_key 5 = .ok (.invokevirtual 44, 3) := by decide +kernel
theorem dX8_key_8 : decode cX8_key 8 = .ok (.sipush 255, 3) := by decide +kernel
theorem dX8_key_11 : decode cX8_key 11 = .ok (.iand, 1) := by decide +kernel
theorem dX8_key_12 : decode cX8_key 12 = .ok (.ireturn, 1) := by decide +kernel
set_option maxRecDepth 20000 in
theorem ggX8_mended_X0_solve : GoodIn wsX8_mended wsX0_solve := goodIn_r _ [5, 6, 7, 4, 8, 9, 10, 11, 12, 13, 14, 15, 16, 17, 18, 19, 20] (by decide +kernel) (by decide +kernel)
set_option maxRecDepth 20000 in
theorem gX8_mended_X0_solve : GoodIn wsX8_mended (va_wsS RX8 48 yX0_solve wsX0_solve) := goodIn_app (goodIn_of _ (by decide +kernel)) ggX8_mended_X0_solve
theorem dX8_mended_0 : decode cX8_mended 0 = .ok (.aload_n 0, 1) := by decide +kernel
theorem dX8_mended_1 : decode cX8_mended 1 = .ok (.getfield 32, 3) := by decide +kernel
theorem dX8_mended_4 : decode cX8_mended 4 = .ok (.iload_n 1, 1) := by decide +kernel
theorem dX8_mended_5 : decode cX8_mended 5 = .ok (.invokestatic 48, 3) := by decide +kernel
theorem dX8_mended_8 : decode cX8_mended 8 = .ok (.ireturn, 1) := by decide +kernel
set_option maxRecDepth 20000 in
theorem ggX8_holder_X8_isPiece : GoodIn wsX8_holder wsX8_isPiece := goodIn_r _ [5] (by decide +kernel) (by decide +kernel)
set_option maxRecDepth 20000 in
theorem gX8_holder_X8_isPiece : GoodIn wsX8_holder (va_wsS RX8 52 yX8_isPiece wsX8_isPiece) := goodIn_app (goodIn_of _ (by decide +kernel)) ggX8_holder_X8_isPiece
theorem dX8_holder_0 : decode cX8_holder 0 = .ok (.iload_n 1, 1) := by decide +kernel
theorem dX8_holder_1 : decode cX8_holder 1 = .ok (.invokestatic 52, 3) := by decide +kernel
theorem dX8_holder_4 : decode cX8_holder 4 = .ok (.ifCond .eq 12, 3) := by decide +kernel
theorem dX8_holder_7 : decode cX8_holder 7 = .ok (.aload_n 0, 1) := by decide +kernel
theorem dX8_holder_8 : decode cX8_holder 8 = .ok (.getfield 9, 3) := by decide +kernel
theorem dX8_holder_11 : decode cX8_holder 11 = .ok (.iload_n 1, 1) := by decide +kernel
theorem dX8_holder_12 : decode cX8_holder 12 = .ok (.iaload, 1) := by decide +kernel
theorem dX8_holder_13 : decode cX8_holder 13 = .ok (.goto 4, 3) := by decide +kernel
theorem dX8_holder_16 : decode cX8_holder 16 = .ok (.iconst (-1), 1) := by decide +kernel
theorem dX8_holder_17 : decode cX8_holder 17 = .ok (.ireturn, 1) := by decide +kernel
set_option maxRecDepth 20000 in
theorem ggX8_isHeld_X8_isPiece : GoodIn wsX8_isHeld wsX8_isPiece := goodIn_r _ [5] (by decide +kernel) (by decide +kernel)
set_option maxRecDepth 20000 in
theorem gX8_isHeld_X8_isPiece : GoodIn wsX8_isHeld (va_wsS RX8 52 yX8_isPiece wsX8_isPiece) := goodIn_app (goodIn_of _ (by decide +kernel)) ggX8_isHeld_X8_isPiece
theorem dX8_isHeld_0 : decode cX8_isHeld 0 = .ok (.iload_n 1, 1) := by decide +kernel
theorem dX8_isHeld_1 : decode cX8_isHeld 1 = .ok (.invokestatic 52, 3) := by decide +kernel
theorem dX8_isHeld_4 : decode cX8_isHeld 4 = .ok (.ifCond .eq 17, 3) := by decide +kernel
theorem dX8_isHeld_7 : decode cX8_isHeld 7 = .ok (.aload_n 0, 1) := by decide +kernel
theorem dX8_isHeld_8 : decode cX8_isHeld 8 = .ok (.getfield 9, 3) := by decide +kernel
theorem dX8_isHeld_11 : decode cX8_isHeld 11 = .ok (.iload_n 1, 1) := by decide +kernel
theorem dX8_isHeld_12 : decode cX8_isHeld 12 = .ok (.iaload, 1) := by decide +kernel
theorem dX8_isHeld_13 : decode cX8_isHeld 13 = .ok (.iconst (-1), 1) := by decide +kernel
theorem dX8_isHeld_14 : decode cX8_isHeld 14 = .ok (.if_icmp .eq 7, 3) := by decide +kernel
theorem dX8_isHeld_17 : decode cX8_isHeld 17 = .ok (.iconst 1, 1) := by decide +kernel
theorem dX8_isHeld_18 : decode cX8_isHeld 18 = .ok (.goto 4, 3) := by decide +kernel
theorem dX8_isHeld_21 : decode cX8_isHeld 21 = .ok (.iconst 0, 1) := by decide +kernel
theorem dX8_isHeld_22 : decode cX8_isHeld 22 = .ok (.ireturn, 1) := by decide +kernel
theorem dX8_isHeldBy_0 : decode cX8_isHeldBy 0 = .ok (.aload_n 0, 1) := by decide +kernel
theorem dX8_isHeldBy_1 : decode cX8_isHeldBy 1 = .ok (.getfield 9, 3) := by decide +kernel
theorem dX8_isHeldBy_4 : decode cX8_isHeldBy 4 = .ok (.astore_n 2, 1) := by decide +kernel
theorem dX8_isHeldBy_5 : decode cX8_isHeldBy 5 = .ok (.aload_n 2, 1) := by decide +kernel
theorem dX8_isHeldBy_6 : decode cX8_isHeldBy 6 = .ok (.arraylength, 1) := by decide +kernel
theorem dX8_isHeldBy_7 : decode cX8_isHeldBy 7 = .ok (.istore_n 3, 1) := by decide +kernel
theorem dX8_isHeldBy_8 : decode cX8_isHeldBy 8 = .ok (.iconst 0, 1) := by decide +kernel
theorem dX8_isHeldBy_9 : decode cX8_isHeldBy 9 = .ok (.istore 4, 2) := by decide +kernel
theorem dX8_isHeldBy_11 : decode cX8_isHeldBy 11 = .ok (.iload 4, 2) := by decide +kernel
theorem dX8_isHeldBy_13 : decode cX8_isHeldBy 13 = .ok (.iload_n 3, 1) := by decide +kernel
theorem dX8_isHeldBy_14 : decode cX8_isHeldBy 14 = .ok (.if_icmp .ge 23, 3) := by decide +kernel
theorem dX8_isHeldBy_17 : decode cX8_isHeldBy 17 = .ok (.aload_n 2, 1) := by decide +kernel
theorem dX8_isHeldBy_18 : decode cX8_isHeldBy 18 = .ok (.iload 4, 2) := by decide +kernel
theorem dX8_isHeldBy_20 : decode cX8_isHeldBy 20 = .ok (.iaload, 1) := by decide +kernel
theorem dX8_isHeldBy_21 : decode cX8_isHeldBy 21 = .ok (.istore 5, 2) := by decide +kernel
theorem dX8_isHeldBy_23 : decode cX8_isHeldBy 23 = .ok (.iload 5, 2) := by decide +kernel
theorem dX8_isHeldBy_25 : decode cX8_isHeldBy 25 = .ok (.iload_n 1, 1) := by decide +kernel
theorem dX8_isHeldBy_26 : decode cX8_isHeldBy 26 = .ok (.if_icmp .ne 5, 3) := by decide +kernel
theorem dX8_isHeldBy_29 : decode cX8_isHeldBy 29 = .ok (.iconst 1, 1) := by decide +kernel
theorem dX8_isHeldBy_30 : decode cX8_isHeldBy 30 = .ok (.ireturn, 1) := by decide +kernel
theorem dX8_isHeldBy_31 : decode cX8_isHeldBy 31 = .ok (.iinc 4 1, 3) := by decide +kernel
end
section
theorem dX8_isHeldBy_34 : decode cX8_isHeldBy 34 = .ok (.goto (-23), 3) := by decide +kernel
theorem dX8_isHeldBy_37 : decode cX8_isHeldBy 37 = .ok (.iconst 0, 1) := by decide +kernel
theorem dX8_isHeldBy_38 : decode cX8_isHeldBy 38 = .ok (.ireturn, 1) := by decide +kernel
set_option maxRecDepth 20000 in
theorem ggX8_isKept_X8_isPiece : GoodIn wsX8_isKept wsX8_isPiece := goodIn_r _ [5] (by decide +kernel) (by decide +kernel)
set_option maxRecDepth 20000 in
theorem gX8_isKept_X8_isPiece : GoodIn wsX8_isKept (va_wsS RX8 52 yX8_isPiece wsX8_isPiece) := goodIn_app (goodIn_of _ (by decide +kernel)) ggX8_isKept_X8_isPiece
theorem dX8_isKept_0 : decode cX8_isKept 0 = .ok (.iload_n 1, 1) := by decide +kernel
theorem dX8_isKept_1 : decode cX8_isKept 1 = .ok (.invokestatic 52, 3) := by decide +kernel
theorem dX8_isKept_4 : decode cX8_isKept 4 = .ok (.ifCond .eq 16, 3) := by decide +kernel
theorem dX8_isKept_7 : decode cX8_isKept 7 = .ok (.aload_n 0, 1) := by decide +kernel
theorem dX8_isKept_8 : decode cX8_isKept 8 = .ok (.getfield 15, 3) := by decide +kernel
theorem dX8_isKept_11 : decode cX8_isKept 11 = .ok (.iload_n 1, 1) := by decide +kernel
theorem dX8_isKept_12 : decode cX8_isKept 12 = .ok (.baload, 1) := by decide +kernel
theorem dX8_isKept_13 : decode cX8_isKept 13 = .ok (.ifCond .eq 7, 3) := by decide +kernel
theorem dX8_isKept_16 : decode cX8_isKept 16 = .ok (.iconst 1, 1) := by decide +kernel
theorem dX8_isKept_17 : decode cX8_isKept 17 = .ok (.goto 4, 3) := by decide +kernel
theorem dX8_isKept_20 : decode cX8_isKept 20 = .ok (.iconst 0, 1) := by decide +kernel
theorem dX8_isKept_21 : decode cX8_isKept 21 = .ok (.ireturn, 1) := by decide +kernel
set_option maxRecDepth 20000 in
theorem ggX8_missed_X8_isPiece : GoodIn wsX8_missed wsX8_isPiece := goodIn_r _ [5] (by decide +kernel) (by decide +kernel)
set_option maxRecDepth 20000 in
theorem gX8_missed_X8_isPiece : GoodIn wsX8_missed (va_wsS RX8 52 yX8_isPiece wsX8_isPiece) := goodIn_app (goodIn_of _ (by decide +kernel)) ggX8_missed_X8_isPiece
theorem dX8_missed_0 : decode cX8_missed 0 = .ok (.iload_n 1, 1) := by decide +kernel
theorem dX8_missed_1 : decode cX8_missed 1 = .ok (.invokestatic 52, 3) := by decide +kernel
theorem dX8_missed_4 : decode cX8_missed 4 = .ok (.ifCond .eq 12, 3) := by decide +kernel
theorem dX8_missed_7 : decode cX8_missed 7 = .ok (.aload_n 0, 1) := by decide +kernel
theorem dX8_missed_8 : decode cX8_missed 8 = .ok (.getfield 19, 3) := by decide +kernel
theorem dX8_missed_11 : decode cX8_missed 11 = .ok (.iload_n 1, 1) := by decide +kernel
theorem dX8_missed_12 : decode cX8_missed 12 = .ok (.iaload, 1) := by decide +kernel
theorem dX8_missed_13 : decode cX8_missed 13 = .ok (.goto 4, 3) := by decide +kernel
theorem dX8_missed_16 : decode cX8_missed 16 = .ok (.iconst 0, 1) := by decide +kernel
theorem dX8_missed_17 : decode cX8_missed 17 = .ok (.ireturn, 1) := by decide +kernel
set_option maxRecDepth 20000 in
theorem ggX8_setMissed_X8_isPiece : GoodIn wsX8_setMissed wsX8_isPiece := goodIn_r _ [5] (by decide +kernel) (by decide +kernel)
set_option maxRecDepth 20000 in
theorem gX8_setMissed_X8_isPiece : GoodIn wsX8_setMissed (va_wsS RX8 52 yX8_isPiece wsX8_isPiece) := goodIn_app (goodIn_of _ (by decide +kernel)) ggX8_setMissed_X8_isPiece
theorem dX8_setMissed_0 : decode cX8_setMissed 0 = .ok (.iload_n 1, 1) := by decide +kernel
theorem dX8_setMissed_1 : decode cX8_setMissed 1 = .ok (.invokestatic 52, 3) := by decide +kernel
theorem dX8_setMissed_4 : decode cX8_setMissed 4 = .ok (.ifCond .eq 10, 3) := by decide +kernel
theorem dX8_setMissed_7 : decode cX8_setMissed 7 = .ok (.aload_n 0, 1) := by decide +kernel
theorem dX8_setMissed_8 : decode cX8_setMissed 8 = .ok (.getfield 19, 3) := by decide +kernel
theorem dX8_setMissed_11 : decode cX8_setMissed 11 = .ok (.iload_n 1, 1) := by decide +kernel
theorem dX8_setMissed_12 : decode cX8_setMissed 12 = .ok (.iload_n 2, 1) := by decide +kernel
theorem dX8_setMissed_13 : decode cX8_setMissed 13 = .ok (.iastore, 1) := by decide +kernel
theorem dX8_setMissed_14 : decode cX8_setMissed 14 = .ok (.return_, 1) := by decide +kernel
set_option maxRecDepth 20000 in
theorem ggX8_throwAway_X8_isPiece : GoodIn wsX8_throwAway wsX8_isPiece := goodIn_r _ [5] (by decide +kernel) (by decide +kernel)
set_option maxRecDepth 20000 in
theorem gX8_throwAway_X8_isPiece : GoodIn wsX8_throwAway (va_wsS RX8 52 yX8_isPiece wsX8_isPiece) := goodIn_app (goodIn_of _ (by decide +kernel)) ggX8_throwAway_X8_isPiece
theorem dX8_throwAway_0 : decode cX8_throwAway 0 = .ok (.iload_n 1, 1) := by decide +kernel
theorem dX8_throwAway_1 : decode cX8_throwAway 1 = .ok (.invokestatic 52, 3) := by decide +kernel
theorem dX8_throwAway_4 : decode cX8_throwAway 4 = .ok (.ifCond .eq 10, 3) := by decide +kernel
theorem dX8_throwAway_7 : decode cX8_throwAway 7 = .ok (.aload_n 0, 1) := by decide +kernel
theorem dX8_throwAway_8 : decode cX8_throwAway 8 = .ok (.getfield 15, 3) := by decide +kernel
theorem dX8_throwAway_11 : decode cX8_throwAway 11 = .ok (.iload_n 1, 1) := by decide +kernel
theorem dX8_throwAway_12 : decode cX8_throwAway 12 = .ok (.iconst 0, 1) := by decide +kernel
theorem dX8_throwAway_13 : decode cX8_throwAway 13 = .ok (.bastore, 1) := by decide +kernel
theorem dX8_throwAway_14 : decode cX8_throwAway 14 = .ok (.return_, 1) := by decide +kernel
set_option maxRecDepth 20000 in
theorem ggX8_hand_X8_isPiece : GoodIn wsX8_hand wsX8_isPiece := goodIn_r _ [7] (by decide +kernel) (by decide +kernel)
set_option maxRecDepth 20000 in
theorem gX8_hand_X8_isPiece : GoodIn wsX8_hand (va_wsS RX8 52 yX8_isPiece wsX8_isPiece) := goodIn_app (goodIn_of _ (by decide +kernel)) ggX8_hand_X8_isPiece
theorem dX8_hand_0 : decode cX8_hand 0 = .ok (.iload_n 1, 1) := by decide +kernel
theorem dX8_hand_1 : decode cX8_hand 1 = .ok (.invokestatic 52, 3) := by decide +kernel
theorem dX8_hand_4 : decode cX8_hand 4 = .ok (.ifCond .eq 24, 3) := by decide +kernel
theorem dX8_hand_7 : decode cX8_hand 7 = .ok (.aload_n 0, 1) := by decide +kernel
theorem dX8_hand_8 : decode cX8_hand 8 = .ok (.getfield 9, 3) := by decide +kernel
theorem dX8_hand_11 : decode cX8_hand 11 = .ok (.iload_n 1, 1) := by decide +kernel
theorem dX8_hand_12 : decode cX8_hand 12 = .ok (.iload_n 2, 1) := by decide +kernel
theorem dX8_hand_13 : decode cX8_hand 13 = .ok (.iastore, 1) := by decide +kernel
theorem dX8_hand_14 : decode cX8_hand 14 = .ok (.aload_n 0, 1) := by decide +kernel
theorem dX8_hand_15 : decode cX8_hand 15 = .ok (.getfield 15, 3) := by decide +kernel
theorem dX8_hand_18 : decode cX8_hand 18 = .ok (.iload_n 1, 1) := by decide +kernel
theorem dX8_hand_19 : decode cX8_hand 19 = .ok (.iload_n 3, 1) := by decide +kernel
theorem dX8_hand_20 : decode cX8_hand 20 = .ok (.bastore, 1) := by decide +kernel
theorem dX8_hand_21 : decode cX8_hand 21 = .ok (.aload_n 0, 1) := by decide +kernel
theorem dX8_hand_22 : decode cX8_hand 22 = .ok (.getfield 19, 3) := by decide +kernel
theorem dX8_hand_25 : decode cX8_hand 25 = .ok (.iload_n 1, 1) := by decide +kernel
theorem dX8_hand_26 : decode cX8_hand 26 = .ok (.iconst 0, 1) := by decide +kernel
theorem dX8_hand_27 : decode cX8_hand 27 = .ok (.iastore, 1) := by decide +kernel
theorem dX8_hand_28 : decode cX8_hand 28 = .ok (.return_, 1) := by decide +kernel
theorem dX8_isPiece_0 : decode cX8_isPiece 0 = .ok (.iload_n 0, 1) := by decide +kernel
theorem dX8_isPiece_1 : decode cX8_isPiece 1 = .ok (.ifCond .lt 13, 3) := by decide +kernel
theorem dX8_isPiece_4 : decode cX8_isPiece 4 = .ok (.iload_n 0, 1) := by decide +kernel
theorem dX8_isPiece_5 : decode cX8_isPiece 5 = .ok (.bipush 6, 2) := by decide +kernel
theorem dX8_isPiece_7 : decode cX8_isPiece 7 = .ok (.if_icmp .ge 7, 3) := by decide +kernel
theorem dX8_isPiece_10 : decode cX8_isPiece 10 = .ok (.iconst 1, 1) := by decide +kernel
theorem dX8_isPiece_11 : decode cX8_isPiece 11 = .ok (.goto 4, 3) := by decide +kernel
theorem dX8_isPiece_14 : decode cX8_isPiece 14 = .ok (.iconst 0, 1) := by decide +kernel
theorem dX8_isPiece_15 : decode cX8_isPiece 15 = .ok (.ireturn, 1) := by decide +kernel
set_option maxRecDepth 20000 in
theorem ggX9_init_X9_hash : GoodIn wsX9_init wsX9_hash := goodIn_r _ [9, 10] (by decide +kernel) (by decide +kernel)
set_option maxRecDepth 20000 in
theorem gX9_init_X9_hash : GoodIn wsX9_init (va_wsS RX9 15 yX9_hash wsX9_hash) := goodIn_app (goodIn_of _ (by decide +kernel)) ggX9_init_X9_hash
theorem dX9_init_0 : decode cX9_init 0 = .ok (.aload_n 0, 1) := by decide +kernel
theorem dX9_init_1 : decode cX9_init 1 = .ok (.invokespecial 3, 3) := by decide +kernel
theorem dX9_init_4 : decode cX9_init 4 = .ok (.aload_n 0, 1) := by decide +kernel
theorem dX9_init_5 : decode cX9_init 5 = .ok (.bipush 16, 2) := by decide +kernel
theorem dX9_init_7 : decode cX9_init 7 = .ok (.newarray .int, 2) := by decide +kernel
theorem dX9_init_9 : decode cX9_init 9 = .ok (.putfield 9, 3) := by decide +kernel
theorem dX9_init_12 : decode cX9_init 12 = .ok (.iconst 0, 1) := by decide +kernel
theorem dX9_init_13 : decode cX9_init 13 = .ok (.istore_n 2, 1) := by decide +kernel
theorem dX9_init_14 : decode cX9_init 14 = .ok (.iload_n 2, 1) := by decide +kernel
theorem dX9_init_15 : decode cX9_init 15 = .ok (.bipush 6, 2) := by decide +kernel
theorem dX9_init_17 : decode cX9_init 17 = .ok (.if_icmp .ge 31, 3) := by decide +kernel
theorem dX9_init_20 : decode cX9_init 20 = .ok (.iload_n 2, 1) := by decide +kernel
theorem dX9_init_21 : decode cX9_init 21 = .ok (.aload_n 1, 1) := by decide +kernel
theorem dX9_init_22 : decode cX9_init 22 = .ok (.arraylength, 1) := by decide +kernel
theorem dX9_init_23 : decode cX9_init 23 = .ok (.if_icmp .ge 25, 3) := by decide +kernel
theorem dX9_init_26 : decode cX9_init 26 = .ok (.aload_n 0, 1) := by decide +kernel
theorem dX9_init_27 : decode cX9_init 27 = .ok (.getfield 9, 3) := by decide +kernel
theorem dX9_init_30 : decode cX9_init 30 = .ok (.bipush 8, 2) := by decide +kernel
theorem dX9_init_32 : decode cX9_init 32 = .ok (.iload_n 2, 1) := by decide +kernel
theorem dX9_init_33 : decode cX9_init 33 = .ok (.iadd, 1) := by decide +kernel
theorem dX9_init_34 : decode cX9_init 34 = .ok (.aload_n 1, 1) := by decide +kernel
theorem dX9_init_35 : decode cX9_init 35 = .ok (.iload_n 2, 1) := by decide +kernel
theorem dX9_init_36 : decode cX9_init 36 = .ok (.iaload, 1) := by decide +kernel
theorem dX9_init_37 : decode cX9_init 37 = .ok (.iload_n 2, 1) := by decide +kernel
theorem dX9_init_38 : decode cX9_init 38 = .ok (.invokestatic 15, 3) := by decide +kernel
theorem dX9_init_41 : decode cX9_init 41 = .ok (.iastore, 1) := by decide +kernel
theorem dX9_init_42 : decode cX9_init 42 = .ok (.iinc 2 1, 3) := by decide +kernel
theorem dX9_init_45 : decode cX9_init 45 = .ok (.goto (-31), 3) := by decide +kernel
theorem dX9_init_48 : decode cX9_init 48 = .ok (.bipush 7, 2) := by decide +kernel
theorem dX9_init_50 : decode cX9_init 50 = .ok (.istore_n 2, 1) := by decide +kernel
theorem dX9_init_51 : decode cX9_init 51 = .ok (.iload_n 2, 1) := by decide +kernel
theorem dX9_init_52 : decode cX9_init 52 = .ok (.ifCond .le 36, 3) := by decide +kernel
theorem dX9_init_55 : decode cX9_init 55 = .ok (.aload_n 0, 1) := by decide +kernel
theorem dX9_init_56 : decode cX9_init 56 = .ok (.getfield 9, 3) := by decide +kernel
theorem dX9_init_59 : decode cX9_init 59 = .ok (.iload_n 2, 1) := by decide +kernel
theorem dX9_init_60 : decode cX9_init 60 = .ok (.aload_n 0, 1) := by decide +kernel
theorem dX9_init_61 : decode cX9_init 61 = .ok (.getfield 9, 3) := by decide +kernel
theorem dX9_init_64 : decode cX9_init 64 = .ok (.iconst 2, 1) := by decide +kernel
theorem dX9_init_65 : decode cX9_init 65 = .ok (.iload_n 2, 1) := by decide +kernel
theorem dX9_init_66 : decode cX9_init 66 = .ok (.imul, 1) := by decide +kernel
theorem dX9_init_67 : decode cX9_init 67 = .ok (.iaload, 1) := by decide +kernel
theorem dX9_init_68 : decode cX9_init 68 = .ok (.aload_n 0, 1) := by decide +kernel
theorem dX9_init_69 : decode cX9_init 69 = .ok (.getfield 9, 3) := by decide +kernel
theorem dX9_init_72 : decode cX9_init 72 = .ok (.iconst 2, 1) := by decide +kernel
theorem dX9_init_73 : decode cX9_init 73 = .ok (.iload_n 2, 1) := by decide +kernel
theorem dX9_init_74 : decode cX9_init 74 = .ok (.imul, 1) := by decide +kernel
theorem dX9_init_75 : decode cX9_init 75 = .ok (.iconst 1, 1) := by decide +kernel
theorem dX9_init_76 : decode cX9_init 76 = .ok (.iadd, 1) := by decide +kernel
theorem dX9_init_77 : decode cX9_init 77 = .ok (.iaload, 1) := by decide +kernel
theorem dX9_init_78 : decode cX9_init 78 = .ok (.invokestatic 15, 3) := by decide +kernel
theorem dX9_init_81 : decode cX9_init 81 = .ok (.iastore, 1) := by decide +kernel
theorem dX9_init_82 : decode cX9_init 82 = .ok (.iinc 2 (-1), 3) := by decide +kernel
theorem dX9_init_85 : decode cX9_init 85 = .ok (.goto (-34), 3) := by decide +kernel
theorem dX9_init_88 : decode cX9_init 88 = .ok (.return_, 1) := by decide +kernel
theorem dX9_hash_0 : decode cX9_hash 0 = .ok (.iload_n 0, 1) := by decide +kernel
theorem dX9_hash_1 : decode cX9_hash 1 = .ok (.bipush 31, 2) := by decide +kernel
theorem dX9_hash_3 : decode cX9_hash 3 = .ok (.imul, 1) := by decide +kernel
theorem dX9_hash_4 : decode cX9_hash 4 = .ok (.iload_n 1, 1) := by decide +kernel
theorem dX9_hash_5 : decode cX9_hash 5 = .ok (.iadd, 1) := by decide +kernel
theorem dX9_hash_6 : decode cX9_hash 6 = .ok (.ldc 19, 2) := by decide +kernel
theorem dX9_hash_8 : decode cX9_hash 8 = .ok (.imul, 1) := by decide +kernel
theorem dX9_hash_9 : decode cX9_hash 9 = .ok (.sipush 12345, 3) := by decide +kernel
theorem dX9_hash_12 : decode cX9_hash 12 = .ok (.iadd, 1) := by decide +kernel
theorem dX9_hash_13 : decode cX9_hash 13 = .ok (.istore_n 2, 1) := by decide +kernel
theorem dX9_hash_14 : decode cX9_hash 14 = .ok (.iload_n 2, 1) := by decide +kernel
theorem dX9_hash_15 : decode cX9_hash 15 = .ok (.iload_n 2, 1) := by decide +kernel
theorem dX9_hash_16 : decode cX9_hash 16 = .ok (.bipush 16, 2) := by decide +kernel
theorem dX9_hash_18 : decode cX9_hash 18 = .ok (.iushr, 1) := by decide +kernel
theorem dX9_hash_19 : decode cX9_hash 19 = .ok (.ixor, 1) := by decide +kernel
theorem dX9_hash_20 : decode cX9_hash 20 = .ok (.ireturn, 1) := by decide +kernel
set_option maxRecDepth 20000 in
theorem ggX9_climb_X9_hash : GoodIn wsX9_climb wsX9_hash := goodIn_r _ [4, 5] (by decide +kernel) (by decide +kernel)
set_option maxRecDepth 20000 in
theorem gX9_climb_X9_hash : GoodIn wsX9_climb (va_wsS RX9 15 yX9_hash wsX9_hash) := goodIn_app (goodIn_of _ (by decide +kernel)) ggX9_climb_X9_hash
set_option maxRecDepth 20000 in
theorem ggX9_climb_X9_above : GoodIn wsX9_climb wsX9_above := goodIn_r _ [8, 1, 2, 3, 4, 5] (by decide +kernel) (by decide +kernel)
set_option maxRecDepth 20000 in
theorem gX9_climb_X9_above : GoodIn wsX9_climb (va_wsS RX9 20 yX9_above wsX9_above) := goodIn_app (goodIn_of _ (by decide +kernel)) ggX9_climb_X9_above
theorem dX9_climb_0 : decode cX9_climb 0 = .ok (.bipush 8, 2) := by decide +kernel
theorem dX9_climb_2 : decode cX9_climb 2 = .ok (.iload_n 0, 1) := by decide +kernel
theorem dX9_climb_3 : decode cX9_climb 3 = .ok (.iadd, 1) := by decide +kernel
theorem dX9_climb_4 : decode cX9_climb 4 = .ok (.istore 5, 2) := by decide +kernel
theorem dX9_climb_6 : decode cX9_climb 6 = .ok (.iload 5, 2) := by decide +kernel
theorem dX9_climb_8 : decode cX9_climb 8 = .ok (.iload_n 1, 1) := by decide +kernel
theorem dX9_climb_9 : decode cX9_climb 9 = .ok (.iload_n 0, 1) := by decide +kernel
theorem dX9_climb_10 : decode cX9_climb 10 = .ok (.invokestatic 15, 3) := by decide +kernel
theorem dX9_climb_13 : decode cX9_climb 13 = .ok (.iload_n 2, 1) := by decide +kernel
theorem dX9_climb_14 : decode cX9_climb 14 = .ok (.invokestatic 20, 3) := by decide +kernel
theorem dX9_climb_17 : decode cX9_climb 17 = .ok (.istore 6, 2) := by decide +kernel
theorem dX9_climb_19 : decode cX9_climb 19 = .ok (.iload 5, 2) := by decide +kernel
theorem dX9_climb_21 : decode cX9_climb 21 = .ok (.iconst 1, 1) := by decide +kernel
theorem dX9_climb_22 : decode cX9_climb 22 = .ok (.ishr, 1) := by decide +kernel
theorem dX9_climb_23 : decode cX9_climb 23 = .ok (.iload 6, 2) := by decide +kernel
theorem dX9_climb_25 : decode cX9_climb 25 = .ok (.iload_n 3, 1) := by decide +kernel
theorem dX9_climb_26 : decode cX9_climb 26 = .ok (.invokestatic 20, 3) := by decide +kernel
theorem dX9_climb_29 : decode cX9_climb 29 = .ok (.istore 7, 2) := by decide +kernel
theorem dX9_climb_31 : decode cX9_climb 31 = .ok (.iload 5, 2) := by decide +kernel
theorem dX9_climb_33 : decode cX9_climb 33 = .ok (.iconst 2, 1) := by decide +kernel
theorem dX9_climb_34 : decode cX9_climb 34 = .ok (.ishr, 1) := by decide +kernel
theorem dX9_climb_35 : decode cX9_climb 35 = .ok (.iload 7, 2) := by decide +kernel
theorem dX9_climb_37 : decode cX9_climb 37 = .ok (.iload 4, 2) := by decide +kernel
theorem dX9_climb_39 : decode cX9_climb 39 = .ok (.invokestatic 20, 3) := by decide +kernel
theorem dX9_climb_42 : decode cX9_climb 42 = .ok (.ireturn, 1) := by decide +kernel
set_option maxRecDepth 20000 in
theorem ggX9_above_X9_hash : GoodIn wsX9_above wsX9_hash := goodIn_r _ [4, 5] (by decide +kernel) (by decide +kernel)
set_option maxRecDepth 20000 in
theorem gX9_above_X9_hash : GoodIn wsX9_above (va_wsS RX9 15 yX9_hash wsX9_hash) := goodIn_app (goodIn_of _ (by decide +kernel)) ggX9_above_X9_hash
theorem dX9_above_0 : decode cX9_above 0 = .ok (.iload_n 0, 1) := by decide +kernel
theorem dX9_above_1 : decode cX9_above 1 = .ok (.iconst 2, 1) := by decide +kernel
theorem dX9_above_2 : decode cX9_above 2 = .ok (.irem, 1) := by decide +kernel
theorem dX9_above_3 : decode cX9_above 3 = .ok (.ifCond .ne 11, 3) := by decide +kernel
theorem dX9_above_6 : decode cX9_above 6 = .ok (.iload_n 1, 1) := by decide +kernel
theorem dX9_above_7 : decode cX9_above 7 = .ok (.iload_n 2, 1) := by decide +kernel
theorem dX9_above_8 : decode cX9_above 8 = .ok (.invokestatic 15, 3) := by decide +kernel
theorem dX9_above_11 : decode cX9_above 11 = .ok (.goto 8, 3) := by decide +kernel
theorem dX9_above_14 : decode cX9_above 14 = .ok (.iload_n 2, 1) := by decide +kernel
theorem dX9_above_15 : decode cX9_above 15 = .ok (.iload_n 1, 1) := by decide +kernel
theorem dX9_above_16 : decode cX9_above 16 = .ok (.invokestatic 15, 3) := by decide +kernel
theorem dX9_above_19 : decode cX9_above 19 = .ok (.ireturn, 1) := by decide +kernel
theorem dX9_top_0 : decode cX9_top 0 = .ok (.aload_n 0, 1) := by decide +kernel
theorem dX9_top_1 : decode cX9_top 1 = .ok (.getfield 9, 3) := by decide +kernel
theorem dX9_top_4 : decode cX9_top 4 = .ok (.iconst 1, 1) := by decide +kernel
theorem dX9_top_5 : decode cX9_top 5 = .ok (.iaload, 1) := by decide +kernel
theorem dX9_top_6 : decode cX9_top 6 = .ok (.ireturn, 1) := by decide +kernel
theorem dX9_leaf_0 : decode cX9_leaf 0 = .ok (.iload_n 1, 1) := by decide +kernel
theorem dX9_leaf_1 : decode cX9_leaf 1 = .ok (.ifCond .lt 21, 3) := by decide +kernel
theorem dX9_leaf_4 : decode cX9_leaf 4 = .ok (.iload_n 1, 1) := by decide +kernel
theorem dX9_leaf_5 : decode cX9_leaf 5 = .ok (.bipush 6, 2) := by decide +kernel
theorem dX9_leaf_7 : decode cX9_leaf 7 = .ok (.if_icmp .ge 15, 3) := by decide +kernel
theorem dX9_leaf_10 : decode cX9_leaf 10 = .ok (.aload_n 0, 1) := by decide +kernel
theorem dX9_leaf_11 : decode cX9_leaf 11 = .ok (.getfield 9, 3) := by decide +kernel
theorem dX9_leaf_14 : decode cX9_leaf 14 = .ok (.bipush 8, 2) := by decide +kernel
theorem dX9_leaf_16 : decode cX9_leaf 16 = .ok (.iload_n 1, 1) := by decide +kernel
theorem dX9_leaf_17 : decode cX9_leaf 17 = .ok (.iadd, 1) := by decide +kernel
theorem dX9_leaf_18 : decode cX9_leaf 18 = .ok (.iaload, 1) := by decide +kernel
theorem dX9_leaf_19 : decode cX9_leaf 19 = .ok (.goto 4, 3) := by decide +kernel
theorem dX9_leaf_22 : decode cX9_leaf 22 = .ok (.iconst 0, 1) := by decide +kernel
theorem dX9_leaf_23 : decode cX9_leaf 23 = .ok (.ireturn, 1) := by decide +kernel
theorem dX9_neighbour_0 : decode cX9_neighbour 0 = .ok (.iload_n 1, 1) := by decide +kernel
theorem dX9_neighbour_1 : decode cX9_neighbour 1 = .ok (.ifCond .lt 18, 3) := by decide +kernel
theorem dX9_neighbour_4 : decode cX9_neighbour 4 = .ok (.iload_n 1, 1) := by decide +kernel
theorem dX9_neighbour_5 : decode cX9_neighbour 5 = .ok (.bipush 6, 2) := by decide +kernel
theorem dX9_neighbour_7 : decode cX9_neighbour 7 = .ok (.if_icmp .ge 12, 3) := by decide +kernel
theorem dX9_neighbour_10 : decode cX9_neighbour 10 = .ok (.iload_n 2, 1) := by decide +kernel
theorem dX9_neighbour_11 : decode cX9_neighbour 11 = .ok (.ifCond .lt 8, 3) := by decide +kernel
theorem dX9_neighbour_14 : decode cX9_neighbour 14 = .ok (.iload_n 2, 1) := by decide +kernel
theorem dX9_neighbour_15 : decode cX9_neighbour 15 = .ok (.iconst 3, 1) := by decide +kernel
theorem dX9_neighbour_16 : decode cX9_neighbour 16 = .ok (.if_icmp .lt 5, 3) := by decide +kernel
theorem dX9_neighbour_19 : decode cX9_neighbour 19 = .ok (.iconst 0, 1) := by decide +kernel
theorem dX9_neighbour_20 : decode cX9_neighbour 20 = .ok (.ireturn, 1) := by decide +kernel
theorem dX9_neighbour_21 : decode cX9_neighbour 21 = .ok (.aload_n 0, 1) := by decide +kernel
theorem dX9_neighbour_22 : decode cX9_neighbour 22 = .ok (.getfield 9, 3) := by decide +kernel
theorem dX9_neighbour_25 : decode cX9_neighbour 25 = .ok (.bipush 8, 2) := by decide +kernel
theorem dX9_neighbour_27 : decode cX9_neighbour 27 = .ok (.iload_n 1, 1) := by decide +kernel
theorem dX9_neighbour_28 : decode cX9_neighbour 28 = .ok (.iadd, 1) := by decide +kernel
theorem dX9_neighbour_29 : decode cX9_neighbour 29 = .ok (.iload_n 2, 1) := by decide +kernel
theorem dX9_neighbour_30 : decode cX9_neighbour 30 = .ok (.ishr, 1) := by decide +kernel
theorem dX9_neighbour_31 : decode cX9_neighbour 31 = .ok (.iconst 1, 1) := by decide +kernel
theorem dX9_neighbour_32 : decode cX9_neighbour 32 = .ok (.ixor, 1) := by decide +kernel
theorem dX9_neighbour_33 : decode cX9_neighbour 33 = .ok (.iaload, 1) := by decide +kernel
theorem dX9_neighbour_34 : decode cX9_neighbour 34 = .ok (.ireturn, 1) := by decide +kernel
set_option maxRecDepth 20000 in
theorem ggX10_init_X5_init : GoodIn wsX10_init wsX5_init := goodIn_r _ [35, 36, 2, 3, 37, 38, 39, 40, 41, 42, 43, 85, 86, 87, 88, 89] (by decide +kernel) (by decide +kernel)
set_option maxRecDepth 20000 in
theorem gX10_init_X5_init_n11 : GoodIn wsX10_init (wsX5_init) := ggX10_init_X5_init
set_option maxRecDepth 20000 in
theorem ggX10_init_X7_init : GoodIn wsX10_init wsX7_init := goodIn_r _ [46, 47, 2, 3, 48, 17, 18, 49, 50, 51, 52, 40, 53, 54, 55, 56, 57, 37, 58, 59, 108, 109, 110, 90, 91, 92, 93, 94, 95, 96] (by decide +kernel) (by decide +kernel)
set_option maxRecDepth 20000 in
theorem gX10_init_X7_init : GoodIn wsX10_init (wsX7_init) := ggX10_init_X7_init
set_option maxRecDepth 20000 in
theorem ggX10_init_X2_init : GoodIn wsX10_init wsX2_init := goodIn_r _ [61, 62, 2, 3, 63, 37, 64, 97] (by decide +kernel) (by decide +kernel)
set_option maxRecDepth 20000 in
theorem gX10_init_X2_init_n19 : GoodIn wsX10_init (wsX2_init) := ggX10_init_X2_init
set_option maxRecDepth 20000 in
theorem ggX10_init_X6_init : GoodIn wsX10_init wsX6_init := goodIn_r _ [56, 57, 2, 3, 37, 58, 59, 108, 109, 110] (by decide +kernel) (by decide +kernel)
set_option maxRecDepth 20000 in
theorem gX10_init_X6_init_n34 : GoodIn wsX10_init (wsX6_init) := ggX10_init_X6_init
set_option maxRecDepth 20000 in
theorem ggX10_init_X1_init : GoodIn wsX10_init wsX1_init := goodIn_r _ [67, 68, 2, 3, 69, 70, 71, 111, 112, 113] (by decide +kernel) (by decide +kernel)
set_option maxRecDepth 20000 in
theorem gX10_init_X1_init : GoodIn wsX10_init (wsX1_init) := ggX10_init_X1_init
set_option maxRecDepth 20000 in
theorem ggX10_init_X4_init : GoodIn wsX10_init wsX4_init := goodIn_r _ [74, 75, 2, 3, 37, 76, 77, 78, 114, 115] (by decide +kernel) (by decide +kernel)
set_option maxRecDepth 20000 in
theorem gX10_init_X4_init : GoodIn wsX10_init (wsX4_init) := ggX10_init_X4_init
set_option maxRecDepth 20000 in
theorem ggX10_init_X3_init : GoodIn wsX10_init wsX3_init := goodIn_r _ [81, 82, 2, 3, 37, 83, 84, 116, 117, 118] (by decide +kernel) (by decide +kernel)
set_option maxRecDepth 20000 in
theorem gX10_init_X3_init : GoodIn wsX10_init (wsX3_init) := ggX10_init_X3_init
theorem dX10_init_0 : decode cX10_init 0 = .ok (.aload_n 0, 1) := by decide +kernel
theorem dX10_init_1 : decode cX10_init 1 = .ok (.invokespecial 3, 3) := by decide +kernel
theorem dX10_init_4 : decode cX10_init 4 = .ok (.new 9, 3) := by decide +kernel
theorem dX10_init_7 : decode cX10_init 7 = .ok (.dup, 1) := by decide +kernel
theorem dX10_init_8 : decode cX10_init 8 = .ok (.invokespecial 11, 3) := by decide +kernel
theorem dX10_init_11 : decode cX10_init 11 = .ok (.astore_n 1, 1) := by decide +kernel
theorem dX10_init_12 : decode cX10_init 12 = .ok (.new 12, 3) := by decide +kernel
theorem dX10_init_15 : decode cX10_init 15 = .ok (.dup, 1) := by decide +kernel
theorem dX10_init_16 : decode cX10_init 16 = .ok (.aload_n 1, 1) := by decide +kernel
theorem dX10_init_17 : decode cX10_init 17 = .ok (.invokespecial 14, 3) := by decide +kernel
theorem dX10_init_20 : decode cX10_init 20 = .ok (.astore_n 2, 1) := by decide +kernel
theorem dX10_init_21 : decode cX10_init 21 = .ok (.new 17, 3) := by decide +kernel
theorem dX10_init_24 : decode cX10_init 24 = .ok (.dup, 1) := by decide +kernel
theorem dX10_init_25 : decode cX10_init 25 = .ok (.invokespecial 19, 3) := by decide +kernel
theorem dX10_init_28 : decode cX10_init 28 = .ok (.astore_n 3, 1) := by decide +kernel
theorem dX10_init_29 : decode cX10_init 29 = .ok (.aload_n 0, 1) := by decide +kernel
theorem dX10_init_30 : decode cX10_init 30 = .ok (.aload_n 1, 1) := by decide +kernel
theorem dX10_init_31 : decode cX10_init 31 = .ok (.putfield 20, 3) := by decide +kernel
theorem dX10_init_34 : decode cX10_init 34 = .ok (.aload_n 0, 1) := by decide +kernel
theorem dX10_init_35 : decode cX10_init 35 = .ok (.aload_n 2, 1) := by decide +kernel
theorem dX10_init_36 : decode cX10_init 36 = .ok (.putfield 24, 3) := by decide +kernel
theorem dX10_init_39 : decode cX10_init 39 = .ok (.aload_n 0, 1) := by decide +kernel
theorem dX10_init_40 : decode cX10_init 40 = .ok (.aload_n 3, 1) := by decide +kernel
theorem dX10_init_41 : decode cX10_init 41 = .ok (.putfield 28, 3) := by decide +kernel
theorem dX10_init_44 : decode cX10_init 44 = .ok (.aload_n 0, 1) := by decide +kernel
theorem dX10_init_45 : decode cX10_init 45 = .ok (.new 32, 3) := by decide +kernel
theorem dX10_init_48 : decode cX10_init 48 = .ok (.dup, 1) := by decide +kernel
theorem dX10_init_49 : decode cX10_init 49 = .ok (.invokespecial 34, 3) := by decide +kernel
theorem dX10_init_52 : decode cX10_init 52 = .ok (.putfield 35, 3) := by decide +kernel
theorem dX10_init_55 : decode cX10_init 55 = .ok (.aload_n 0, 1) := by decide +kernel
theorem dX10_init_56 : decode cX10_init 56 = .ok (.bipush 12, 2) := by decide +kernel
theorem dX10_init_58 : decode cX10_init 58 = .ok (.anewarray 39, 3) := by decide +kernel
theorem dX10_init_61 : decode cX10_init 61 = .ok (.putfield 41, 3) := by decide +kernel
theorem dX10_init_64 : decode cX10_init 64 = .ok (.aload_n 0, 1) := by decide +kernel
theorem dX10_init_65 : decode cX10_init 65 = .ok (.new 45, 3) := by decide +kernel
theorem dX10_init_68 : decode cX10_init 68 = .ok (.dup, 1) := by decide +kernel
theorem dX10_init_69 : decode cX10_init 69 = .ok (.aload_n 1, 1) := by decide +kernel
theorem dX10_init_70 : decode cX10_init 70 = .ok (.aload_n 2, 1) := by decide +kernel
theorem dX10_init_71 : decode cX10_init 71 = .ok (.aload_n 3, 1) := by decide +kernel
theorem dX10_init_72 : decode cX10_init 72 = .ok (.invokespecial 47, 3) := by decide +kernel
theorem dX10_init_75 : decode cX10_init 75 = .ok (.putfield 50, 3) := by decide +kernel
theorem dX10_init_78 : decode cX10_init 78 = .ok (.aload_n 0, 1) := by decide +kernel
theorem dX10_init_79 : decode cX10_init 79 = .ok (.new 54, 3) := by decide +kernel
theorem dX10_init_82 : decode cX10_init 82 = .ok (.dup, 1) := by decide +kernel
theorem dX10_init_83 : decode cX10_init 83 = .ok (.invokespecial 56, 3) := by decide +kernel
theorem dX10_init_86 : decode cX10_init 86 = .ok (.putfield 57, 3) := by decide +kernel
theorem dX10_init_89 : decode cX10_init 89 = .ok (.aload_n 0, 1) := by decide +kernel
theorem dX10_init_90 : decode cX10_init 90 = .ok (.new 61, 3) := by decide +kernel
theorem dX10_init_93 : decode cX10_init 93 = .ok (.dup, 1) := by decide +kernel
theorem dX10_init_94 : decode cX10_init 94 = .ok (.aload_n 1, 1) := by decide +kernel
theorem dX10_init_95 : decode cX10_init 95 = .ok (.invokespecial 63, 3) := by decide +kernel
theorem dX10_init_98 : decode cX10_init 98 = .ok (.putfield 64, 3) := by decide +kernel
theorem dX10_init_101 : decode cX10_init 101 = .ok (.return_, 1) := by decide +kernel
set_option maxRecDepth 20000 in
theorem ggX10_peer_X10_needBelow : GoodIn wsX10_peer wsX10_needBelow := goodIn_ca (goodIn_r _ [8, 9, 10] (by decide +kernel) (by decide +kernel)) (goodIn_sub (fun _ h => List.mem_cons_of_mem _ (List.mem_append_left _ (List.mem_append_right _ h))) (by decide +kernel))
set_option maxRecDepth 20000 in
theorem gX10_peer_X10_needBelow : GoodIn wsX10_peer (va_wsS RX10 68 yX10_needBelow wsX10_needBelow) := goodIn_app (goodIn_of _ (by decide +kernel)) ggX10_peer_X10_needBelow
set_option maxRecDepth 20000 in
theorem ggX10_peer_X10_needPeer : GoodIn wsX10_peer wsX10_needPeer := goodIn_ca (goodIn_r _ [14, 15, 16, 3, 17, 18, 19, 20, 21, 22, 119, 120, 121, 122, 123, 124, 125, 126, 127, 128, 129, 130, 131, 132, 133] (by decide +kernel) (by decide +kernel)) (goodIn_sub (fun _ h => List.mem_cons_of_mem _ (List.mem_append_right _ h)) (by decide +kernel))
set_option maxRecDepth 20000 in
theorem gX10_peer_X10_needPeer : GoodIn wsX10_peer (wsV RX10 72 RX10 yX10_needPeer wsX10_needPeer) := goodIn_app (goodIn_of _ (by decide +kernel)) ggX10_peer_X10_needPeer
set_option maxRecDepth 20000 in
theorem ggX10_peer_X5_isFull : GoodIn wsX10_peer wsX5_isFull := goodIn_r _ [26, 22, 129, 130, 131, 132, 133] (by decide +kernel) (by decide +kernel)
set_option maxRecDepth 20000 in
theorem gX10_peer_X5_isFull : GoodIn wsX10_peer (wsV RX10 76 RX5 yX5_isFull wsX5_isFull) := goodIn_app (goodIn_of _ (by decide +kernel)) ggX10_peer_X5_isFull
set_option maxRecDepth 20000 in
theorem ggX10_peer_X5_hasId : GoodIn wsX10_peer wsX5_hasId := goodIn_r _ [30, 22, 31, 129, 130, 131, 132, 133] (by decide +kernel) (by decide +kernel)
set_option maxRecDepth 20000 in
theorem gX10_peer_X5_hasId : GoodIn wsX10_peer (wsV RX10 80 RX5 yX5_hasId wsX5_hasId) := goodIn_app (goodIn_of _ (by decide +kernel)) ggX10_peer_X5_hasId
set_option maxRecDepth 20000 in
theorem ggX10_peer_X10_needOnline : GoodIn wsX10_peer wsX10_needOnline := goodIn_ca (goodIn_r _ [35, 1, 2, 3, 36, 37, 38, 20, 39, 40, 41, 18, 19, 21, 22, 119, 120, 121, 122, 123, 124, 125, 126, 127, 128, 129, 130, 131, 132, 133] (by decide +kernel) (by decide +kernel)) (goodIn_sub (fun _ h => List.mem_cons_of_mem _ (List.mem_append_left _ (List.mem_append_left _ (List.mem_append_right _ h)))) (by decide +kernel))
set_option maxRecDepth 20000 in
theorem gX10_peer_X10_needOnline : GoodIn wsX10_peer (wsV RX10 91 RX10 yX10_needOnline wsX10_needOnline) := goodIn_app (goodIn_of _ (by decide +kernel)) ggX10_peer_X10_needOnline
set_option maxRecDepth 20000 in
theorem ggX10_peer_X5_add : GoodIn wsX10_peer wsX5_add := goodIn_r _ [45, 22, 31, 46, 40, 47, 129, 130, 131, 132, 133] (by decide +kernel) (by decide +kernel)
set_option maxRecDepth 20000 in
theorem gX10_peer_X5_add : GoodIn wsX10_peer (wsV RX10 94 RX5 yX5_add wsX5_add) := goodIn_app (goodIn_of _ (by decide +kernel)) ggX10_peer_X5_add
set_option maxRecDepth 20000 in
theorem ggX10_peer_X5_hear : GoodIn wsX10_peer wsX5_hear := goodIn_r _ [51, 47, 31, 40, 41, 18, 19, 20, 21, 22, 52, 53, 54, 129, 130, 131, 132, 133] (by decide +kernel) (by decide +kernel)
set_option maxRecDepth 20000 in
theorem gX10_peer_X5_hear : GoodIn wsX10_peer (wsV RX10 98 RX5 yX5_hear wsX5_hear) := goodIn_app (goodIn_of _ (by decide +kernel)) ggX10_peer_X5_hear
set_option maxRecDepth 20000 in
theorem ggX10_peer_X7_run : GoodIn wsX10_peer wsX7_run := goodIn_r _ [59, 60, 61, 62, 63, 64, 65, 58, 66, 67, 68, 69, 70, 71, 72, 73, 74, 75, 76, 77, 78, 79, 20, 80, 47, 46, 31, 81, 41, 18, 19, 21, 22, 82, 83, 84, 85, 86, 87, 88, 89, 90, 91, 92, 93, 94, 95, 96, 97, 98, 99, 100, 101, 102, 103, 104, 105, 106, 107, 108, 109, 110, 111, 112, 113, 40, 114, 49, 50, 51, 52, 53, 54, 115, 116, 117, 118, 134, 135, 136, 137, 138, 139, 140, 141, 142, 143, 129, 130, 131, 132, 133] (by decide +kernel) (by decide +kernel)
set_option maxRecDepth 20000 in
theorem gX10_peer_X7_run : GoodIn wsX10_peer (wsV RX10 101 RX7 yX7_run wsX7_run) := goodIn_app (goodIn_of _ (by decide +kernel)) ggX10_peer_X7_run
theorem dX10_peer_0 : decode cX10_peer 0 = .ok (.iload_n 1, 1) := by decide +kernel
theorem dX10_peer_1 : decode cX10_peer 1 = .ok (.sipush 256, 3) := by decide +kernel
theorem dX10_peer_4 : decode cX10_peer 4 = .ok (.invokestatic 68, 3) := by decide +kernel
theorem dX10_peer_7 : decode cX10_peer 7 = .ok (.iload_n 2, 1) := by decide +kernel
theorem dX10_peer_8 : decode cX10_peer 8 = .ok (.iconst 3, 1) := by decide +kernel
theorem dX10_peer_9 : decode cX10_peer 9 = .ok (.invokestatic 68, 3) := by decide +kernel
theorem dX10_peer_12 : decode cX10_peer 12 = .ok (.iload_n 3, 1) := by decide +kernel
theorem dX10_peer_13 : decode cX10_peer 13 = .ok (.iconst (-1), 1) := by decide +kernel
theorem dX10_peer_14 : decode cX10_peer 14 = .ok (.if_icmp .eq 8, 3) := by decide +kernel
theorem dX10_peer_17 : decode cX10_peer 17 = .ok (.aload_n 0, 1) := by decide +kernel
theorem dX10_peer_18 : decode cX10_peer 18 = .ok (.iload_n 3, 1) := by decide +kernel
theorem dX10_peer_19 : decode cX10_peer 19 = .ok (.invokevirtual 72, 3) := by decide +kernel
theorem dX10_peer_22 : decode cX10_peer 22 = .ok (.aload_n 0, 1) := by decide +kernel
theorem dX10_peer_23 : decode cX10_peer 23 = .ok (.getfield 20, 3) := by decide +kernel
theorem dX10_peer_26 : decode cX10_peer 26 = .ok (.invokevirtual 76, 3) := by decide +kernel
theorem dX10_peer_29 : decode cX10_peer 29 = .ok (.ifCond .ne 14, 3) := by decide +kernel
theorem dX10_peer_32 : decode cX10_peer 32 = .ok (.aload_n 0, 1) := by decide +kernel
theorem dX10_peer_33 : decode cX10_peer 33 = .ok (.getfield 20, 3) := by decide +kernel
theorem dX10_peer_36 : decode cX10_peer 36 = .ok (.iload_n 1, 1) := by decide +kernel
theorem dX10_peer_37 : decode cX10_peer 37 = .ok (.invokevirtual 80, 3) := by decide +kernel
theorem dX10_peer_40 : decode cX10_peer 40 = .ok (.ifCond .eq 13, 3) := by decide +kernel
theorem dX10_peer_43 : decode cX10_peer 43 = .ok (.new 84, 3) := by decide +kernel
theorem dX10_peer_46 : decode cX10_peer 46 = .ok (.dup, 1) := by decide +kernel
theorem dX10_peer_47 : decode cX10_peer 47 = .ok (.ldc 86, 2) := by decide +kernel
theorem dX10_peer_49 : decode cX10_peer 49 = .ok (.invokespecial 88, 3) := by decide +kernel
theorem dX10_peer_52 : decode cX10_peer 52 = .ok (.athrow, 1) := by decide +kernel
theorem dX10_peer_53 : decode cX10_peer 53 = .ok (.iload_n 3, 1) := by decide +kernel
theorem dX10_peer_54 : decode cX10_peer 54 = .ok (.iconst (-1), 1) := by decide +kernel
theorem dX10_peer_55 : decode cX10_peer 55 = .ok (.if_icmp .eq 8, 3) := by decide +kernel
theorem dX10_peer_58 : decode cX10_peer 58 = .ok (.aload_n 0, 1) := by decide +kernel
theorem dX10_peer_59 : decode cX10_peer 59 = .ok (.iload_n 3, 1) := by decide +kernel
theorem dX10_peer_60 : decode cX10_peer 60 = .ok (.invokevirtual 91, 3) := by decide +kernel
theorem dX10_peer_63 : decode cX10_peer 63 = .ok (.aload_n 0, 1) := by decide +kernel
theorem dX10_peer_64 : decode cX10_peer 64 = .ok (.getfield 20, 3) := by decide +kernel
theorem dX10_peer_67 : decode cX10_peer 67 = .ok (.iload_n 1, 1) := by decide +kernel
theorem dX10_peer_68 : decode cX10_peer 68 = .ok (.iload_n 2, 1) := by decide +kernel
theorem dX10_peer_69 : decode cX10_peer 69 = .ok (.invokevirtual 94, 3) := by decide +kernel
theorem dX10_peer_72 : decode cX10_peer 72 = .ok (.istore 4, 2) := by decide +kernel
theorem dX10_peer_74 : decode cX10_peer 74 = .ok (.iload_n 3, 1) := by decide +kernel
theorem dX10_peer_75 : decode cX10_peer 75 = .ok (.iconst (-1), 1) := by decide +kernel
theorem dX10_peer_76 : decode cX10_peer 76 = .ok (.if_icmp .eq 34, 3) := by decide +kernel
theorem dX10_peer_79 : decode cX10_peer 79 = .ok (.aload_n 0, 1) := by decide +kernel
theorem dX10_peer_80 : decode cX10_peer 80 = .ok (.getfield 20, 3) := by decide +kernel
theorem dX10_peer_83 : decode cX10_peer 83 = .ok (.iload_n 3, 1) := by decide +kernel
theorem dX10_peer_84 : decode cX10_peer 84 = .ok (.iload 4, 2) := by decide +kernel
theorem dX10_peer_86 : decode cX10_peer 86 = .ok (.invokevirtual 98, 3) := by decide +kernel
theorem dX10_peer_89 : decode cX10_peer 89 = .ok (.aload_n 0, 1) := by decide +kernel
theorem dX10_peer_90 : decode cX10_peer 90 = .ok (.getfield 20, 3) := by decide +kernel
theorem dX10_peer_93 : decode cX10_peer 93 = .ok (.iload 4, 2) := by decide +kernel
theorem dX10_peer_95 : decode cX10_peer 95 = .ok (.iload_n 3, 1) := by decide +kernel
theorem dX10_peer_96 : decode cX10_peer 96 = .ok (.invokevirtual 98, 3) := by decide +kernel
theorem dX10_peer_99 : decode cX10_peer 99 = .ok (.aload_n 0, 1) := by decide +kernel
theorem dX10_peer_100 : decode cX10_peer 100 = .ok (.getfield 24, 3) := by decide +kernel
theorem dX10_peer_103 : decode cX10_peer 103 = .ok (.iload 4, 2) := by decide +kernel
theorem dX10_peer_105 : decode cX10_peer 105 = .ok (.iload_n 1, 1) := by decide +kernel
theorem dX10_peer_106 : decode cX10_peer 106 = .ok (.iconst 1, 1) := by decide +kernel
theorem dX10_peer_107 : decode cX10_peer 107 = .ok (.invokevirtual 101, 3) := by decide +kernel
theorem dX10_peer_110 : decode cX10_peer 110 = .ok (.iload 4, 2) := by decide +kernel
theorem dX10_peer_112 : decode cX10_peer 112 = .ok (.ireturn, 1) := by decide +kernel
set_option maxRecDepth 20000 in
theorem ggX10_turn_X10_needPeer : GoodIn wsX10_turn wsX10_needPeer := goodIn_ca (goodIn_r _ [6, 7, 8, 1, 9, 10, 11, 12, 13, 14, 25, 26, 27, 28, 29, 30, 31, 32, 33, 34, 35, 36, 37, 38, 39] (by decide +kernel) (by decide +kernel)) (goodIn_sub (fun _ h => List.mem_cons_of_mem _ (List.mem_append_right _ h)) (by decide +kernel))
set_option maxRecDepth 20000 in
theorem gX10_turn_X10_needPeer : GoodIn wsX10_turn (wsV RX10 72 RX10 yX10_needPeer wsX10_needPeer) := goodIn_app (goodIn_of _ (by decide +kernel)) ggX10_turn_X10_needPeer
set_option maxRecDepth 20000 in
theorem ggX10_turn_X5_isOnline : GoodIn wsX10_turn wsX5_isOnline := goodIn_r _ [18, 19, 20, 10, 11, 12, 13, 14, 35, 36, 37, 38, 39] (by decide +kernel) (by decide +kernel)
set_option maxRecDepth 20000 in
theorem gX10_turn_X5_isOnline : GoodIn wsX10_turn (wsV RX10 105 RX5 yX5_isOnline wsX5_isOnline) := goodIn_app (goodIn_of _ (by decide +kernel)) ggX10_turn_X5_isOnline
set_option maxRecDepth 20000 in
theorem ggX10_turn_X5_setOnline : GoodIn wsX10_turn wsX5_setOnline := goodIn_r _ [24, 19, 20, 10, 11, 12, 13, 14, 35, 36, 37, 38, 39] (by decide +kernel) (by decide +kernel)
set_option maxRecDepth 20000 in
theorem gX10_turn_X5_setOnline : GoodIn wsX10_turn (wsV RX10 108 RX5 yX5_setOnline wsX5_setOnline) := goodIn_app (goodIn_of _ (by decide +kernel)) ggX10_turn_X5_setOnline
theorem dX10_turn_0 : decode cX10_turn 0 = .ok (.aload_n 0, 1) := by decide +kernel
theorem dX10_turn_1 : decode cX10_turn 1 = .ok (.iload_n 1, 1) := by decide +kernel
theorem dX10_turn_2 : decode cX10_turn 2 = .ok (.invokevirtual 72, 3) := by decide +kernel
theorem dX10_turn_5 : decode cX10_turn 5 = .ok (.aload_n 0, 1) := by decide +kernel
theorem dX10_turn_6 : decode cX10_turn 6 = .ok (.getfield 20, 3) := by decide +kernel
theorem dX10_turn_9 : decode cX10_turn 9 = .ok (.iload_n 1, 1) := by decide +kernel
theorem dX10_turn_10 : decode cX10_turn 10 = .ok (.invokevirtual 105, 3) := by decide +kernel
theorem dX10_turn_13 : decode cX10_turn 13 = .ok (.istore_n 3, 1) := by decide +kernel
theorem dX10_turn_14 : decode cX10_turn 14 = .ok (.aload_n 0, 1) := by decide +kernel
theorem dX10_turn_15 : decode cX10_turn 15 = .ok (.getfield 20, 3) := by decide +kernel
theorem dX10_turn_18 : decode cX10_turn 18 = .ok (.iload_n 1, 1) := by decide +kernel
theorem dX10_turn_19 : decode cX10_turn 19 = .ok (.iload_n 2, 1) := by decide +kernel
theorem dX10_turn_20 : decode cX10_turn 20 = .ok (.invokevirtual 108, 3) := by decide +kernel
theorem dX10_turn_23 : decode cX10_turn 23 = .ok (.iload_n 3, 1) := by decide +kernel
theorem dX10_turn_24 : decode cX10_turn 24 = .ok (.ireturn, 1) := by decide +kernel
set_option maxRecDepth 20000 in
theorem ggX10_bucket_X10_needPeer : GoodIn wsX10_bucket wsX10_needPeer := goodIn_ca (goodIn_r _ [8, 1, 2, 3, 9, 10, 11, 12, 13, 14, 26, 27, 28, 29, 30, 31, 32, 33, 34, 35, 36, 37, 38, 39, 40] (by decide +kernel) (by decide +kernel)) (goodIn_sub (fun _ h => List.mem_cons_of_mem _ (List.mem_append_left _ (List.mem_append_right _ h))) (by decide +kernel))
set_option maxRecDepth 20000 in
theorem gX10_bucket_X10_needPeer : GoodIn wsX10_bucket (wsV RX10 72 RX10 yX10_needPeer wsX10_needPeer) := goodIn_app (goodIn_of _ (by decide +kernel)) ggX10_bucket_X10_needPeer
set_option maxRecDepth 20000 in
theorem ggX10_bucket_X10_needBelow : GoodIn wsX10_bucket wsX10_needBelow := goodIn_ca (goodIn_r _ [17, 18, 19] (by decide +kernel) (by decide +kernel)) (goodIn_sub (fun _ h => List.mem_cons_of_mem _ (List.mem_append_right _ h)) (by decide +kernel))
set_option maxRecDepth 20000 in
theorem gX10_bucket_X10_needBelow : GoodIn wsX10_bucket (va_wsS RX10 68 yX10_needBelow wsX10_needBelow) := goodIn_app (goodIn_of _ (by decide +kernel)) ggX10_bucket_X10_needBelow
set_option maxRecDepth 20000 in
theorem ggX10_bucket_X5_keptAt : GoodIn wsX10_bucket wsX5_keptAt := goodIn_r _ [23, 24, 25, 10, 11, 12, 13, 14, 36, 37, 38, 39, 40] (by decide +kernel) (by decide +kernel)
set_option maxRecDepth 20000 in
theorem gX10_bucket_X5_keptAt : GoodIn wsX10_bucket (wsV RX10 117 RX5 yX5_keptAt wsX5_keptAt) := goodIn_app (goodIn_of _ (by decide +kernel)) ggX10_bucket_X5_keptAt
theorem dX10_bucket_0 : decode cX10_bucket 0 = .ok (.aload_n 0, 1) := by decide +kernel
theorem dX10_bucket_1 : decode cX10_bucket 1 = .ok (.iload_n 1, 1) := by decide +kernel
theorem dX10_bucket_2 : decode cX10_bucket 2 = .ok (.invokevirtual 72, 3) := by decide +kernel
theorem dX10_bucket_5 : decode cX10_bucket 5 = .ok (.iload_n 3, 1) := by decide +kernel
theorem dX10_bucket_6 : decode cX10_bucket 6 = .ok (.ifCond .ge 13, 3) := by decide +kernel
theorem dX10_bucket_9 : decode cX10_bucket 9 = .ok (.new 112, 3) := by decide +kernel
theorem dX10_bucket_12 : decode cX10_bucket 12 = .ok (.dup, 1) := by decide +kernel
theorem dX10_bucket_13 : decode cX10_bucket 13 = .ok (.ldc 114, 2) := by decide +kernel
theorem dX10_bucket_15 : decode cX10_bucket 15 = .ok (.invokespecial 116, 3) := by decide +kernel
theorem dX10_bucket_18 : decode cX10_bucket 18 = .ok (.athrow, 1) := by decide +kernel
theorem dX10_bucket_19 : decode cX10_bucket 19 = .ok (.iload_n 2, 1) := by decide +kernel
theorem dX10_bucket_20 : decode cX10_bucket 20 = .ok (.bipush 8, 2) := by decide +kernel
theorem dX10_bucket_22 : decode cX10_bucket 22 = .ok (.invokestatic 68, 3) := by decide +kernel
theorem dX10_bucket_25 : decode cX10_bucket 25 = .ok (.iload_n 3, 1) := by decide +kernel
theorem dX10_bucket_26 : decode cX10_bucket 26 = .ok (.iconst 2, 1) := by decide +kernel
theorem dX10_bucket_27 : decode cX10_bucket 27 = .ok (.if_icmp .ge 19, 3) := by decide +kernel
theorem dX10_bucket_30 : decode cX10_bucket 30 = .ok (.aload_n 0, 1) := by decide +kernel
theorem dX10_bucket_31 : decode cX10_bucket 31 = .ok (.getfield 20, 3) := by decide +kernel
theorem dX10_bucket_34 : decode cX10_bucket 34 = .ok (.iload_n 1, 1) := by decide +kernel
theorem dX10_bucket_35 : decode cX10_bucket 35 = .ok (.iload_n 2, 1) := by decide +kernel
theorem dX10_bucket_36 : decode cX10_bucket 36 = .ok (.iconst 2, 1) := by decide +kernel
theorem dX10_bucket_37 : decode cX10_bucket 37 = .ok (.imul, 1) := by decide +kernel
theorem dX10_bucket_38 : decode cX10_bucket 38 = .ok (.iload_n 3, 1) := by decide +kernel
theorem dX10_bucket_39 : decode cX10_bucket 39 = .ok (.iadd, 1) := by decide +kernel
theorem dX10_bucket_40 : decode cX10_bucket 40 = .ok (.invokevirtual 117, 3) := by decide +kernel
theorem dX10_bucket_43 : decode cX10_bucket 43 = .ok (.goto 4, 3) := by decide +kernel
theorem dX10_bucket_46 : decode cX10_bucket 46 = .ok (.iconst (-1), 1) := by decide +kernel
theorem dX10_bucket_47 : decode cX10_bucket 47 = .ok (.ireturn, 1) := by decide +kernel
set_option maxRecDepth 20000 in
theorem ggX10_lookup_X10_needPeer : GoodIn wsX10_lookup wsX10_needPeer := goodIn_ca (goodIn_r _ [8, 9, 10, 11, 12, 13, 14, 15, 16, 17, 115, 116, 117, 118, 119, 120, 121, 122, 123, 124, 125, 126, 127, 128, 129] (by decide +kernel) (by decide +kernel)) (goodIn_sub (fun _ h => List.mem_cons_of_mem _ (List.mem_append_left _ (List.mem_append_right _ h))) (by decide +kernel))
set_option maxRecDepth 20000 in
theorem gX10_lookup_X10_needPeer : GoodIn wsX10_lookup (wsV RX10 72 RX10 yX10_needPeer wsX10_needPeer) := goodIn_app (goodIn_of _ (by decide +kernel)) ggX10_lookup_X10_needPeer
set_option maxRecDepth 20000 in
theorem ggX10_lookup_X10_needBelow : GoodIn wsX10_lookup wsX10_needBelow := goodIn_ca (goodIn_r _ [20, 1, 2] (by decide +kernel) (by decide +kernel)) (goodIn_sub (fun _ h => List.mem_cons_of_mem _ (List.mem_append_left _ (List.mem_append_left _ (List.mem_append_right _ h)))) (by decide +kernel))
set_option maxRecDepth 20000 in
theorem gX10_lookup_X10_needBelow : GoodIn wsX10_lookup (va_wsS RX10 68 yX10_needBelow wsX10_needBelow) := goodIn_app (goodIn_of _ (by decide +kernel)) ggX10_lookup_X10_needBelow
set_option maxRecDepth 20000 in
theorem ggX10_lookup_X10_needOnline : GoodIn wsX10_lookup wsX10_needOnline := goodIn_ca (goodIn_r _ [24, 25, 26, 11, 27, 28, 29, 15, 30, 31, 32, 13, 14, 16, 17, 115, 116, 117, 118, 119, 120, 121, 122, 123, 124, 125, 126, 127, 128, 129] (by decide +kernel) (by decide +kernel)) (goodIn_sub (fun _ h => List.mem_cons_of_mem _ (List.mem_append_right _ h)) (by decide +kernel))
set_option maxRecDepth 20000 in
theorem gX10_lookup_X10_needOnline : GoodIn wsX10_lookup (wsV RX10 91 RX10 yX10_needOnline wsX10_needOnline) := goodIn_app (goodIn_of _ (by decide +kernel)) ggX10_lookup_X10_needOnline
set_option maxRecDepth 20000 in
theorem ggX10_lookup_X7_run : GoodIn wsX10_lookup wsX7_run := goodIn_r _ [37, 38, 39, 40, 41, 42, 43, 36, 44, 45, 46, 47, 48, 49, 50, 51, 52, 53, 54, 55, 56, 57, 15, 58, 59, 60, 61, 62, 32, 13, 14, 16, 17, 63, 64, 65, 66, 67, 68, 69, 70, 71, 72, 73, 74, 75, 76, 77, 78, 79, 80, 81, 82, 83, 84, 85, 86, 87, 88, 89, 90, 91, 92, 93, 94, 31, 95, 96, 97, 98, 99, 100, 101, 102, 103, 104, 105, 130, 131, 132, 133, 134, 135, 136, 137, 138, 139, 125, 126, 127, 128, 129] (by decide +kernel) (by decide +kernel)
set_option maxRecDepth 20000 in
theorem gX10_lookup_X7_run : GoodIn wsX10_lookup (wsV RX10 101 RX7 yX7_run wsX7_run) := goodIn_app (goodIn_of _ (by decide +kernel)) ggX10_lookup_X7_run
set_option maxRecDepth 20000 in
theorem ggX10_lookup_X7_result : GoodIn wsX10_lookup wsX7_result := goodIn_r _ [109, 45, 130, 131, 132, 133, 134, 135, 136] (by decide +kernel) (by decide +kernel)
set_option maxRecDepth 20000 in
theorem gX10_lookup_X7_result : GoodIn wsX10_lookup (wsV RX10 125 RX7 yX7_result wsX7_result) := goodIn_app (goodIn_of _ (by decide +kernel)) ggX10_lookup_X7_result
set_option maxRecDepth 20000 in
theorem ggX10_lookup_X6_digits : GoodIn wsX10_lookup wsX6_digits := goodIn_r _ [113, 114, 70, 71, 52, 72, 54, 68, 137, 138, 139] (by decide +kernel) (by decide +kernel)
set_option maxRecDepth 20000 in
theorem gX10_lookup_X6_digits : GoodIn wsX10_lookup (wsV RX10 129 RX6 yX6_digits wsX6_digits) := goodIn_app (goodIn_of _ (by decide +kernel)) ggX10_lookup_X6_digits
theorem dX10_lookup_0 : decode cX10_lookup 0 = .ok (.aload_n 0, 1) := by decide +kernel
theorem dX10_lookup_1 : decode cX10_lookup 1 = .ok (.iload_n 1, 1) := by decide +kernel
theorem dX10_lookup_2 : decode cX10_lookup 2 = .ok (.invokevirtual 72, 3) := by decide +kernel
theorem dX10_lookup_5 : decode cX10_lookup 5 = .ok (.iload_n 2, 1) := by decide +kernel
theorem dX10_lookup_6 : decode cX10_lookup 6 = .ok (.sipush 256, 3) := by decide +kernel
theorem dX10_lookup_9 : decode cX10_lookup 9 = .ok (.invokestatic 68, 3) := by decide +kernel
theorem dX10_lookup_12 : decode cX10_lookup 12 = .ok (.iload_n 3, 1) := by decide +kernel
theorem dX10_lookup_13 : decode cX10_lookup 13 = .ok (.iconst 1, 1) := by decide +kernel
theorem dX10_lookup_14 : decode cX10_lookup 14 = .ok (.if_icmp .lt 8, 3) := by decide +kernel
theorem dX10_lookup_17 : decode cX10_lookup 17 = .ok (.iload_n 3, 1) := by decide +kernel
theorem dX10_lookup_18 : decode cX10_lookup 18 = .ok (.iconst 2, 1) := by decide +kernel
theorem dX10_lookup_19 : decode cX10_lookup 19 = .ok (.if_icmp .le 13, 3) := by decide +kernel
theorem dX10_lookup_22 : decode cX10_lookup 22 = .ok (.new 120, 3) := by decide +kernel
theorem dX10_lookup_25 : decode cX10_lookup 25 = .ok (.dup, 1) := by decide +kernel
theorem dX10_lookup_26 : decode cX10_lookup 26 = .ok (.ldc 122, 2) := by decide +kernel
theorem dX10_lookup_28 : decode cX10_lookup 28 = .ok (.invokespecial 124, 3) := by decide +kernel
theorem dX10_lookup_31 : decode cX10_lookup 31 = .ok (.athrow, 1) := by decide +kernel
theorem dX10_lookup_32 : decode cX10_lookup 32 = .ok (.aload_n 0, 1) := by decide +kernel
theorem dX10_lookup_33 : decode cX10_lookup 33 = .ok (.iload_n 1, 1) := by decide +kernel
theorem dX10_lookup_34 : decode cX10_lookup 34 = .ok (.invokevirtual 91, 3) := by decide +kernel
theorem dX10_lookup_37 : decode cX10_lookup 37 = .ok (.aload_n 0, 1) := by decide +kernel
theorem dX10_lookup_38 : decode cX10_lookup 38 = .ok (.getfield 24, 3) := by decide +kernel
theorem dX10_lookup_41 : decode cX10_lookup 41 = .ok (.iload_n 1, 1) := by decide +kernel
theorem dX10_lookup_42 : decode cX10_lookup 42 = .ok (.iload_n 2, 1) := by decide +kernel
theorem dX10_lookup_43 : decode cX10_lookup 43 = .ok (.iload_n 3, 1) := by decide +kernel
theorem dX10_lookup_44 : decode cX10_lookup 44 = .ok (.invokevirtual 101, 3) := by decide +kernel
theorem dX10_lookup_47 : decode cX10_lookup 47 = .ok (.aload_n 0, 1) := by decide +kernel
theorem dX10_lookup_48 : decode cX10_lookup 48 = .ok (.getfield 24, 3) := by decide +kernel
theorem dX10_lookup_51 : decode cX10_lookup 51 = .ok (.invokevirtual 125, 3) := by decide +kernel
theorem dX10_lookup_54 : decode cX10_lookup 54 = .ok (.invokevirtual 129, 3) := by decide +kernel
theorem dX10_lookup_57 : decode cX10_lookup 57 = .ok (.ireturn, 1) := by decide +kernel
set_option maxRecDepth 20000 in
theorem ggX10_asked_X7_askedCount : GoodIn wsX10_asked wsX7_askedCount := goodIn_r _ [6, 7, 18, 19, 20, 21, 22, 23, 24] (by decide +kernel) (by decide +kernel)
set_option maxRecDepth 20000 in
theorem gX10_asked_X7_askedCount : GoodIn wsX10_asked (wsV RX10 133 RX7 yX7_askedCount wsX7_askedCount) := goodIn_app (goodIn_of _ (by decide +kernel)) ggX10_asked_X7_askedCount
theorem dX10_asked_0 : decode cX10_asked 0 = .ok (.aload_n 0, 1) := by decide +kernel
theorem dX10_asked_1 : decode cX10_asked 1 = .ok (.getfield 24, 3) := by decide +kernel
theorem dX10_asked_4 : decode cX10_asked 4 = .ok (.invokevirtual 133, 3) := by decide +kernel
theorem dX10_asked_7 : decode cX10_asked 7 = .ok (.ireturn, 1) := by decide +kernel
set_option maxRecDepth 20000 in
theorem ggX10_closest_X10_needPeer : GoodIn wsX10_closest wsX10_needPeer := goodIn_ca (goodIn_r _ [7, 8, 9, 2, 10, 11, 12, 13, 14, 15, 53, 54, 55, 56, 57, 58, 59, 60, 61, 62, 63, 64, 65, 66, 67] (by decide +kernel) (by decide +kernel)) (goodIn_sub (fun _ h => List.mem_cons_of_mem _ (List.mem_append_left _ (List.mem_append_right _ h))) (by decide +kernel))
set_option maxRecDepth 20000 in
theorem gX10_closest_X10_needPeer : GoodIn wsX10_closest (wsV RX10 72 RX10 yX10_needPeer wsX10_needPeer) := goodIn_app (goodIn_of _ (by decide +kernel)) ggX10_closest_X10_needPeer
set_option maxRecDepth 20000 in
theorem ggX10_closest_X10_needBelow : GoodIn wsX10_closest wsX10_needBelow := goodIn_ca (goodIn_r _ [18, 19, 20] (by decide +kernel) (by decide +kernel)) (goodIn_sub (fun _ h => List.mem_cons_of_mem _ (List.mem_append_right _ h)) (by decide +kernel))
set_option maxRecDepth 20000 in
theorem gX10_closest_X10_needBelow : GoodIn wsX10_closest (va_wsS RX10 68 yX10_needBelow wsX10_needBelow) := goodIn_app (goodIn_of _ (by decide +kernel)) ggX10_closest_X10_needBelow
set_option maxRecDepth 20000 in
theorem ggX10_closest_X6_clear : GoodIn wsX10_closest wsX6_clear := goodIn_r _ [25, 26, 68, 69, 70] (by decide +kernel) (by decide +kernel)
set_option maxRecDepth 20000 in
theorem gX10_closest_X6_clear : GoodIn wsX10_closest (wsV RX10 136 RX6 yX6_clear wsX6_clear) := goodIn_app (goodIn_of _ (by decide +kernel)) ggX10_closest_X6_clear
set_option maxRecDepth 20000 in
theorem ggX10_closest_X5_answers : GoodIn wsX10_closest wsX5_answers := goodIn_r _ [30, 31, 32, 33, 11, 12, 13, 14, 15, 63, 64, 65, 66, 67] (by decide +kernel) (by decide +kernel)
set_option maxRecDepth 20000 in
theorem gX10_closest_X5_answers : GoodIn wsX10_closest (wsV RX10 139 RX5 yX5_answers wsX5_answers) := goodIn_app (goodIn_of _ (by decide +kernel)) ggX10_closest_X5_answers
set_option maxRecDepth 20000 in
theorem ggX10_closest_X5_distance : GoodIn wsX10_closest wsX5_distance := goodIn_r _ [37, 15, 38, 63, 64, 65, 66, 67] (by decide +kernel) (by decide +kernel)
set_option maxRecDepth 20000 in
theorem gX10_closest_X5_distance : GoodIn wsX10_closest (wsV RX10 142 RX5 yX5_distance wsX5_distance) := goodIn_app (goodIn_of _ (by decide +kernel)) ggX10_closest_X5_distance
set_option maxRecDepth 20000 in
theorem ggX10_closest_X6_add : GoodIn wsX10_closest wsX6_add := goodIn_r _ [42, 26, 43, 44, 68, 69, 70] (by decide +kernel) (by decide +kernel)
set_option maxRecDepth 20000 in
theorem gX10_closest_X6_add : GoodIn wsX10_closest (wsV RX10 145 RX6 yX6_add wsX6_add) := goodIn_app (goodIn_of _ (by decide +kernel)) ggX10_closest_X6_add
set_option maxRecDepth 20000 in
theorem ggX10_closest_X6_digits : GoodIn wsX10_closest wsX6_digits := goodIn_r _ [48, 49, 50, 51, 24, 52, 26, 44, 68, 69, 70] (by decide +kernel) (by decide +kernel)
set_option maxRecDepth 20000 in
theorem gX10_closest_X6_digits : GoodIn wsX10_closest (wsV RX10 129 RX6 yX6_digits wsX6_digits) := goodIn_app (goodIn_of _ (by decide +kernel)) ggX10_closest_X6_digits
theorem dX10_closest_0 : decode cX10_closest 0 = .ok (.aload_n 0, 1) := by decide +kernel
theorem dX10_closest_1 : decode cX10_closest 1 = .ok (.iload_n 1, 1) := by decide +kernel
theorem dX10_closest_2 : decode cX10_closest 2 = .ok (.invokevirtual 72, 3) := by decide +kernel
theorem dX10_closest_5 : decode cX10_closest 5 = .ok (.iload_n 2, 1) := by decide +kernel
theorem dX10_closest_6 : decode cX10_closest 6 = .ok (.sipush 256, 3) := by decide +kernel
theorem dX10_closest_9 : decode cX10_closest 9 = .ok (.invokestatic 68, 3) := by decide +kernel
theorem dX10_closest_12 : decode cX10_closest 12 = .ok (.aload_n 0, 1) := by decide +kernel
theorem dX10_closest_13 : decode cX10_closest 13 = .ok (.getfield 35, 3) := by decide +kernel
theorem dX10_closest_16 : decode cX10_closest 16 = .ok (.invokevirtual 136, 3) := by decide +kernel
theorem dX10_closest_19 : decode cX10_closest 19 = .ok (.iconst 0, 1) := by decide +kernel
theorem dX10_closest_20 : decode cX10_closest 20 = .ok (.istore_n 3, 1) := by decide +kernel
theorem dX10_closest_21 : decode cX10_closest 21 = .ok (.iload_n 3, 1) := by decide +kernel
theorem dX10_closest_22 : decode cX10_closest 22 = .ok (.bipush 16, 2) := by decide +kernel
theorem dX10_closest_24 : decode cX10_closest 24 = .ok (.if_icmp .ge 42, 3) := by decide +kernel
theorem dX10_closest_27 : decode cX10_closest 27 = .ok (.iload_n 3, 1) := by decide +kernel
theorem dX10_closest_28 : decode cX10_closest 28 = .ok (.iload_n 1, 1) := by decide +kernel
theorem dX10_closest_29 : decode cX10_closest 29 = .ok (.if_icmp .eq 31, 3) := by decide +kernel
theorem dX10_closest_32 : decode cX10_closest 32 = .ok (.aload_n 0, 1) := by decide +kernel
theorem dX10_closest_33 : decode cX10_closest 33 = .ok (.getfield 20, 3) := by decide +kernel
theorem dX10_closest_36 : decode cX10_closest 36 = .ok (.iload_n 3, 1) := by decide +kernel
theorem dX10_closest_37 : decode cX10_closest 37 = .ok (.invokevirtual 139, 3) := by decide +kernel
theorem dX10_closest_40 : decode cX10_closest 40 = .ok (.ifCond .eq 20, 3) := by decide +kernel
theorem dX10_closest_43 : decode cX10_closest 43 = .ok (.aload_n 0, 1) := by decide +kernel
theorem dX10_closest_44 : decode cX10_closest 44 = .ok (.getfield 35, 3) := by decide +kernel
theorem dX10_closest_47 : decode cX10_closest 47 = .ok (.iload_n 3, 1) := by decide +kernel
theorem dX10_closest_48 : decode cX10_closest 48 = .ok (.aload_n 0, 1) := by decide +kernel
theorem dX10_closest_49 : decode cX10_closest 49 = .ok (.getfield 20, 3) := by decide +kernel
theorem dX10_closest_52 : decode cX10_closest 52 = .ok (.iload_n 3, 1) := by decide +kernel
theorem dX10_closest_53 : decode cX10_closest 53 = .ok (.iload_n 2, 1) := by decide +kernel
theorem dX10_closest_54 : decode cX10_closest 54 = .ok (.invokevirtual 142, 3) := by decide +kernel
theorem dX10_closest_57 : decode cX10_closest 57 = .ok (.invokevirtual 145, 3) := by decide +kernel
theorem dX10_closest_60 : decode cX10_closest 60 = .ok (.iinc 3 1, 3) := by decide +kernel
theorem dX10_closest_63 : decode cX10_closest 63 = .ok (.goto (-42), 3) := by decide +kernel
theorem dX10_closest_66 : decode cX10_closest 66 = .ok (.aload_n 0, 1) := by decide +kernel
theorem dX10_closest_67 : decode cX10_closest 67 = .ok (.getfield 35, 3) := by decide +kernel
theorem dX10_closest_70 : decode cX10_closest 70 = .ok (.invokevirtual 129, 3) := by decide +kernel
theorem dX10_closest_73 : decode cX10_closest 73 = .ok (.ireturn, 1) := by decide +kernel
set_option maxRecDepth 20000 in
theorem ggX10_file_X10_needPeer : GoodIn wsX10_file wsX10_needPeer := goodIn_ca (goodIn_r _ [13, 14, 15, 16, 17, 18, 19, 20, 21, 22, 189, 190, 191, 192, 193, 194, 195, 196, 197, 198, 205, 206, 207, 208, 209] (by decide +kernel) (by decide +kernel)) (goodIn_sub (fun _ h => List.mem_cons_of_mem _ (List.mem_append_right _ h)) (by decide +kernel))
set_option maxRecDepth 20000 in
theorem gX10_file_X10_needPeer : GoodIn wsX10_file (wsV RX10 72 RX10 yX10_needPeer wsX10_needPeer) := goodIn_app (goodIn_of _ (by decide +kernel)) ggX10_file_X10_needPeer
set_option maxRecDepth 20000 in
theorem ggX10_file_X10_needOnline : GoodIn wsX10_file wsX10_needOnline := goodIn_ca (goodIn_r _ [26, 1, 2, 16, 27, 28, 29, 20, 30, 31, 32, 18, 19, 21, 22, 189, 190, 191, 192, 193, 194, 195, 196, 197, 198, 205, 206, 207, 208, 209] (by decide +kernel) (by decide +kernel)) (goodIn_sub (fun _ h => List.mem_cons_of_mem _ (List.mem_append_left _ (List.mem_append_right _ h))) (by decide +kernel))
set_option maxRecDepth 20000 in
theorem gX10_file_X10_needOnline : GoodIn wsX10_file (wsV RX10 91 RX10 yX10_needOnline wsX10_needOnline) := goodIn_app (goodIn_of _ (by decide +kernel)) ggX10_file_X10_needOnline
set_option maxRecDepth 20000 in
theorem ggX10_file_X8_init : GoodIn wsX10_file wsX8_init := goodIn_r _ [35, 36, 37, 38, 39, 40, 41, 42, 43, 44, 45, 46, 47, 48, 49, 50, 51, 52, 53, 54, 55, 56, 57, 58, 59, 60, 61, 62, 63, 64, 65, 66, 67, 68, 199, 200, 201, 202, 203, 204, 210] (by decide +kernel) (by decide +kernel)
set_option maxRecDepth 20000 in
theorem gX10_file_X8_init : GoodIn wsX10_file (wsX8_init) := ggX10_file_X8_init
set_option maxRecDepth 20000 in
theorem ggX10_file_X1_storeMissing : GoodIn wsX10_file wsX1_storeMissing := goodIn_r _ [73, 74, 75, 76, 77, 78, 7, 79, 40, 80, 81, 82, 83, 84, 85, 86, 44, 87, 88, 89, 90, 49, 91, 92, 93, 48, 94, 64, 95, 96, 97, 98, 99, 100, 101, 102, 103, 104, 105, 106, 107, 108, 109, 110, 111, 112, 113, 114, 115, 116, 117, 118, 119, 20, 120, 121, 122, 123, 124, 32, 18, 19, 21, 22, 125, 126, 127, 128, 129, 130, 131, 132, 133, 134, 135, 136, 137, 138, 139, 140, 141, 142, 143, 144, 145, 146, 147, 148, 149, 150, 151, 152, 153, 154, 155, 156, 31, 157, 158, 159, 160, 161, 162, 163, 164, 165, 166, 167, 168, 169, 170, 72, 171, 172, 173, 174, 175, 176, 177, 178, 179, 180, 181, 182, 183, 184, 185, 186, 187, 188, 42, 43, 211, 212, 213, 199, 200, 201, 202, 203, 204, 210, 214, 215, 216, 217, 218, 219, 220, 221, 222, 223, 205, 206, 207, 208, 209] (by decide +kernel) (by decide +kernel)
set_option maxRecDepth 20000 in
theorem gX10_file_X1_storeMissing : GoodIn wsX10_file (wsV RX10 155 RX1 yX1_storeMissing wsX1_storeMissing) := goodIn_app (goodIn_of _ (by decide +kernel)) ggX10_file_X1_storeMissing
theorem dX10_file_0 : decode cX10_file 0 = .ok (.aload_n 0, 1) := by decide +kernel
theorem dX10_file_1 : decode cX10_file 1 = .ok (.iload_n 1, 1) := by decide +kernel
theorem dX10_file_2 : decode cX10_file 2 = .ok (.invokevirtual 72, 3) := by decide +kernel
theorem dX10_file_5 : decode cX10_file 5 = .ok (.aload_n 0, 1) := by decide +kernel
theorem dX10_file_6 : decode cX10_file 6 = .ok (.iload_n 1, 1) := by decide +kernel
theorem dX10_file_7 : decode cX10_file 7 = .ok (.invokevirtual 91, 3) := by decide +kernel
theorem dX10_file_10 : decode cX10_file 10 = .ok (.aload_n 0, 1) := by decide +kernel
theorem dX10_file_11 : decode cX10_file 11 = .ok (.getfield 147, 3) := by decide +kernel
theorem dX10_file_14 : decode cX10_file 14 = .ok (.ifCond .lt 15, 3) := by decide +kernel
theorem dX10_file_17 : decode cX10_file 17 = .ok (.aload_n 0, 1) := by decide +kernel
theorem dX10_file_18 : decode cX10_file 18 = .ok (.getfield 147, 3) := by decide +kernel
theorem dX10_file_21 : decode cX10_file 21 = .ok (.aload_n 0, 1) := by decide +kernel
theorem dX10_file_22 : decode cX10_file 22 = .ok (.getfield 41, 3) := by decide +kernel
theorem dX10_file_25 : decode cX10_file 25 = .ok (.arraylength, 1) := by decide +kernel
theorem dX10_file_26 : decode cX10_file 26 = .ok (.if_icmp .lt 13, 3) := by decide +kernel
theorem dX10_file_29 : decode cX10_file 29 = .ok (.new 84, 3) := by decide +kernel
theorem dX10_file_32 : decode cX10_file 32 = .ok (.dup, 1) := by decide +kernel
theorem dX10_file_33 : decode cX10_file 33 = .ok (.ldc 151, 2) := by decide +kernel
theorem dX10_file_35 : decode cX10_file 35 = .ok (.invokespecial 88, 3) := by decide +kernel
theorem dX10_file_38 : decode cX10_file 38 = .ok (.athrow, 1) := by decide +kernel
theorem dX10_file_39 : decode cX10_file 39 = .ok (.new 39, 3) := by decide +kernel
theorem dX10_file_42 : decode cX10_file 42 = .ok (.dup, 1) := by decide +kernel
theorem dX10_file_43 : decode cX10_file 43 = .ok (.iload_n 1, 1) := by decide +kernel
theorem dX10_file_44 : decode cX10_file 44 = .ok (.iload_n 2, 1) := by decide +kernel
theorem dX10_file_45 : decode cX10_file 45 = .ok (.invokespecial 153, 3) := by decide +kernel
theorem dX10_file_48 : decode cX10_file 48 = .ok (.astore_n 3, 1) := by decide +kernel
theorem dX10_file_49 : decode cX10_file 49 = .ok (.aload_n 0, 1) := by decide +kernel
theorem dX10_file_50 : decode cX10_file 50 = .ok (.getfield 147, 3) := by decide +kernel
theorem dX10_file_53 : decode cX10_file 53 = .ok (.istore 4, 2) := by decide +kernel
theorem dX10_file_55 : decode cX10_file 55 = .ok (.aload_n 0, 1) := by decide +kernel
theorem dX10_file_56 : decode cX10_file 56 = .ok (.getfield 41, 3) := by decide +kernel
theorem dX10_file_59 : decode cX10_file 59 = .ok (.iload 4, 2) := by decide +kernel
theorem dX10_file_61 : decode cX10_file 61 = .ok (.aload_n 3, 1) := by decide +kernel
theorem dX10_file_62 : decode cX10_file 62 = .ok (.aastore, 1) := by decide +kernel
theorem dX10_file_63 : decode cX10_file 63 = .ok (.aload_n 0, 1) := by decide +kernel
theorem dX10_file_64 : decode cX10_file 64 = .ok (.dup, 1) := by decide +kernel
theorem dX10_file_65 : decode cX10_file 65 = .ok (.getfield 147, 3) := by decide +kernel
theorem dX10_file_68 : decode cX10_file 68 = .ok (.iconst 1, 1) := by decide +kernel
theorem dX10_file_69 : decode cX10_file 69 = .ok (.iadd, 1) := by decide +kernel
theorem dX10_file_70 : decode cX10_file 70 = .ok (.putfield 147, 3) := by decide +kernel
theorem dX10_file_73 : decode cX10_file 73 = .ok (.aload_n 0, 1) := by decide +kernel
theorem dX10_file_74 : decode cX10_file 74 = .ok (.getfield 50, 3) := by decide +kernel
theorem dX10_file_77 : decode cX10_file 77 = .ok (.aload_n 3, 1) := by decide +kernel
theorem dX10_file_78 : decode cX10_file 78 = .ok (.invokevirtual 155, 3) := by decide +kernel
theorem dX10_file_81 : decode cX10_file 81 = .ok (.iload 4, 2) := by decide +kernel
theorem dX10_file_83 : decode cX10_file 83 = .ok (.ireturn, 1) := by decide +kernel
set_option maxRecDepth 20000 in
theorem ggX10_piece_X10_fileAt : GoodIn wsX10_piece wsX10_fileAt := goodIn_ca (goodIn_r _ [7, 8, 9, 10, 38, 39, 40, 41, 42, 43, 44, 45, 46, 47] (by decide +kernel) (by decide +kernel)) (goodIn_sub (fun _ h => List.mem_cons_of_mem _ (List.mem_append_right _ h)) (by decide +kernel))
set_option maxRecDepth 20000 in
theorem gX10_piece_X10_fileAt : GoodIn wsX10_piece (wsV RX10 159 RX10 yX10_fileAt wsX10_fileAt) := goodIn_app (goodIn_of _ (by decide +kernel)) ggX10_piece_X10_fileAt
set_option maxRecDepth 20000 in
theorem ggX10_piece_X10_needPiece : GoodIn wsX10_piece wsX10_needPiece := goodIn_ca (goodIn_r _ [13, 8, 9] (by decide +kernel) (by decide +kernel)) (goodIn_sub (fun _ h => List.mem_cons_of_mem _ (List.mem_append_right _ h)) (by decide +kernel))
set_option maxRecDepth 20000 in
theorem gX10_piece_X10_needPiece : GoodIn wsX10_piece (va_wsS RX10 163 yX10_needPiece wsX10_needPiece) := goodIn_app (goodIn_of _ (by decide +kernel)) ggX10_piece_X10_needPiece
set_option maxRecDepth 20000 in
theorem ggX10_piece_X8_value : GoodIn wsX10_piece wsX8_value := goodIn_r _ [18, 19, 48, 49, 50, 51, 52, 53] (by decide +kernel) (by decide +kernel)
set_option maxRecDepth 20000 in
theorem gX10_piece_X8_value : GoodIn wsX10_piece (wsV RX10 166 RX8 yX8_value wsX8_value) := goodIn_app (goodIn_of _ (by decide +kernel)) ggX10_piece_X8_value
set_option maxRecDepth 20000 in
theorem ggX10_piece_X8_holder : GoodIn wsX10_piece wsX8_holder := goodIn_r _ [23, 24, 25, 26, 17, 27, 48, 49, 50, 51, 52, 53] (by decide +kernel) (by decide +kernel)
set_option maxRecDepth 20000 in
theorem gX10_piece_X8_holder : GoodIn wsX10_piece (wsV RX10 170 RX8 yX8_holder wsX8_holder) := goodIn_app (goodIn_of _ (by decide +kernel)) ggX10_piece_X8_holder
set_option maxRecDepth 20000 in
theorem ggX10_piece_X8_isKept : GoodIn wsX10_piece wsX8_isKept := goodIn_r _ [31, 32, 25, 26, 17, 27, 48, 49, 50, 51, 52, 53] (by decide +kernel) (by decide +kernel)
set_option maxRecDepth 20000 in
theorem gX10_piece_X8_isKept : GoodIn wsX10_piece (wsV RX10 173 RX8 yX8_isKept wsX8_isKept) := goodIn_app (goodIn_of _ (by decide +kernel)) ggX10_piece_X8_isKept
set_option maxRecDepth 20000 in
theorem ggX10_piece_X8_missed : GoodIn wsX10_piece wsX8_missed := goodIn_r _ [36, 37, 25, 26, 17, 27, 48, 49, 50, 51, 52, 53] (by decide +kernel) (by decide +kernel)
set_option maxRecDepth 20000 in
theorem gX10_piece_X8_missed : GoodIn wsX10_piece (wsV RX10 176 RX8 yX8_missed wsX8_missed) := goodIn_app (goodIn_of _ (by decide +kernel)) ggX10_piece_X8_missed
theorem dX10_piece_0 : decode cX10_piece 0 = .ok (.aload_n 0, 1) := by decide +kernel
theorem dX10_piece_1 : decode cX10_piece 1 = .ok (.iload_n 1, 1) := by decide +kernel
theorem dX10_piece_2 : decode cX10_piece 2 = .ok (.invokevirtual 159, 3) := by decide +kernel
theorem dX10_piece_5 : decode cX10_piece 5 = .ok (.astore 4, 2) := by decide +kernel
theorem dX10_piece_7 : decode cX10_piece 7 = .ok (.iload_n 2, 1) := by decide +kernel
theorem dX10_piece_8 : decode cX10_piece 8 = .ok (.invokestatic 163, 3) := by decide +kernel
theorem dX10_piece_11 : decode cX10_piece 11 = .ok (.iload_n 3, 1) := by decide +kernel
theorem dX10_piece_12 : decode cX10_piece 12 = .ok (.tableswitch 68 0 3 #[32, 39, 46, 61], 32) := by decide +kernel
theorem dX10_piece_44 : decode cX10_piece 44 = .ok (.aload 4, 2) := by decide +kernel
theorem dX10_piece_46 : decode cX10_piece 46 = .ok (.iload_n 2, 1) := by decide +kernel
theorem dX10_piece_47 : decode cX10_piece 47 = .ok (.invokevirtual 166, 3) := by decide +kernel
theorem dX10_piece_50 : decode cX10_piece 50 = .ok (.ireturn, 1) := by decide +kernel
theorem dX10_piece_51 : decode cX10_piece 51 = .ok (.aload 4, 2) := by decide +kernel
theorem dX10_piece_53 : decode cX10_piece 53 = .ok (.iload_n 2, 1) := by decide +kernel
theorem dX10_piece_54 : decode cX10_piece 54 = .ok (.invokevirtual 170, 3) := by decide +kernel
theorem dX10_piece_57 : decode cX10_piece 57 = .ok (.ireturn, 1) := by decide +kernel
theorem dX10_piece_58 : decode cX10_piece 58 = .ok (.aload 4, 2) := by decide +kernel
theorem dX10_piece_60 : decode cX10_piece 60 = .ok (.iload_n 2, 1) := by decide +kernel
theorem dX10_piece_61 : decode cX10_piece 61 = .ok (.invokevirtual 173, 3) := by decide +kernel
theorem dX10_piece_64 : decode cX10_piece 64 = .ok (.ifCond .eq 7, 3) := by decide +kernel
theorem dX10_piece_67 : decode cX10_piece 67 = .ok (.iconst 1, 1) := by decide +kernel
theorem dX10_piece_68 : decode cX10_piece 68 = .ok (.goto 4, 3) := by decide +kernel
theorem dX10_piece_71 : decode cX10_piece 71 = .ok (.iconst 0, 1) := by decide +kernel
theorem dX10_piece_72 : decode cX10_piece 72 = .ok (.ireturn, 1) := by decide +kernel
theorem dX10_piece_73 : decode cX10_piece 73 = .ok (.aload 4, 2) := by decide +kernel
theorem dX10_piece_75 : decode cX10_piece 75 = .ok (.iload_n 2, 1) := by decide +kernel
theorem dX10_piece_76 : decode cX10_piece 76 = .ok (.invokevirtual 176, 3) := by decide +kernel
theorem dX10_piece_79 : decode cX10_piece 79 = .ok (.ireturn, 1) := by decide +kernel
theorem dX10_piece_80 : decode cX10_piece 80 = .ok (.new 120, 3) := by decide +kernel
theorem dX10_piece_83 : decode cX10_piece 83 = .ok (.dup, 1) := by decide +kernel
theorem dX10_piece_84 : decode cX10_piece 84 = .ok (.ldc 179, 2) := by decide +kernel
theorem dX10_piece_86 : decode cX10_piece 86 = .ok (.invokespecial 124, 3) := by decide +kernel
theorem dX10_piece_89 : decode cX10_piece 89 = .ok (.athrow, 1) := by decide +kernel
set_option maxRecDepth 20000 in
theorem ggX10_spoil_X10_fileAt : GoodIn wsX10_spoil wsX10_fileAt := goodIn_ca (goodIn_r _ [7, 8, 9, 10, 32, 33, 34, 35, 36, 37, 38, 39, 40, 41] (by decide +kernel) (by decide +kernel)) (goodIn_sub (fun _ h => List.mem_cons_of_mem _ (List.mem_append_right _ h)) (by decide +kernel))
set_option maxRecDepth 20000 in
theorem gX10_spoil_X10_fileAt : GoodIn wsX10_spoil (wsV RX10 159 RX10 yX10_fileAt wsX10_fileAt) := goodIn_app (goodIn_of _ (by decide +kernel)) ggX10_spoil_X10_fileAt
set_option maxRecDepth 20000 in
theorem ggX10_spoil_X10_needPiece : GoodIn wsX10_spoil wsX10_needPiece := goodIn_ca (goodIn_r _ [13, 8, 9] (by decide +kernel) (by decide +kernel)) (goodIn_sub (fun _ h => List.mem_cons_of_mem _ (List.mem_append_right _ h)) (by decide +kernel))
set_option maxRecDepth 20000 in
theorem gX10_spoil_X10_needPiece : GoodIn wsX10_spoil (va_wsS RX10 163 yX10_needPiece wsX10_needPiece) := goodIn_app (goodIn_of _ (by decide +kernel)) ggX10_spoil_X10_needPiece
set_option maxRecDepth 20000 in
theorem ggX10_spoil_X8_isHeld : GoodIn wsX10_spoil wsX8_isHeld := goodIn_r _ [18, 19, 20, 21, 17, 22, 42, 43, 44, 45, 46, 47] (by decide +kernel) (by decide +kernel)
set_option maxRecDepth 20000 in
theorem gX10_spoil_X8_isHeld : GoodIn wsX10_spoil (wsV RX10 181 RX8 yX8_isHeld wsX8_isHeld) := goodIn_app (goodIn_of _ (by decide +kernel)) ggX10_spoil_X8_isHeld
set_option maxRecDepth 20000 in
theorem ggX10_spoil_X8_isKept : GoodIn wsX10_spoil wsX8_isKept := goodIn_r _ [26, 27, 20, 21, 17, 22, 42, 43, 44, 45, 46, 47] (by decide +kernel) (by decide +kernel)
set_option maxRecDepth 20000 in
theorem gX10_spoil_X8_isKept : GoodIn wsX10_spoil (wsV RX10 173 RX8 yX8_isKept wsX8_isKept) := goodIn_app (goodIn_of _ (by decide +kernel)) ggX10_spoil_X8_isKept
set_option maxRecDepth 20000 in
theorem ggX10_spoil_X8_throwAway : GoodIn wsX10_spoil wsX8_throwAway := goodIn_r _ [31, 27, 20, 21, 17, 22, 42, 43, 44, 45, 46, 47] (by decide +kernel) (by decide +kernel)
set_option maxRecDepth 20000 in
theorem gX10_spoil_X8_throwAway : GoodIn wsX10_spoil (wsV RX10 186 RX8 yX8_throwAway wsX8_throwAway) := goodIn_app (goodIn_of _ (by decide +kernel)) ggX10_spoil_X8_throwAway
theorem dX10_spoil_0 : decode cX10_spoil 0 = .ok (.aload_n 0, 1) := by decide +kernel
theorem dX10_spoil_1 : decode cX10_spoil 1 = .ok (.iload_n 1, 1) := by decide +kernel
theorem dX10_spoil_2 : decode cX10_spoil 2 = .ok (.invokevirtual 159, 3) := by decide +kernel
theorem dX10_spoil_5 : decode cX10_spoil 5 = .ok (.astore_n 3, 1) := by decide +kernel
theorem dX10_spoil_6 : decode cX10_spoil 6 = .ok (.iload_n 2, 1) := by decide +kernel
theorem dX10_spoil_7 : decode cX10_spoil 7 = .ok (.invokestatic 163, 3) := by decide +kernel
theorem dX10_spoil_10 : decode cX10_spoil 10 = .ok (.aload_n 3, 1) := by decide +kernel
theorem dX10_spoil_11 : decode cX10_spoil 11 = .ok (.iload_n 2, 1) := by decide +kernel
theorem dX10_spoil_12 : decode cX10_spoil 12 = .ok (.invokevirtual 181, 3) := by decide +kernel
theorem dX10_spoil_15 : decode cX10_spoil 15 = .ok (.ifCond .ne 13, 3) := by decide +kernel
theorem dX10_spoil_18 : decode cX10_spoil 18 = .ok (.new 84, 3) := by decide +kernel
theorem dX10_spoil_21 : decode cX10_spoil 21 = .ok (.dup, 1) := by decide +kernel
theorem dX10_spoil_22 : decode cX10_spoil 22 = .ok (.ldc 184, 2) := by decide +kernel
theorem dX10_spoil_24 : decode cX10_spoil 24 = .ok (.invokespecial 88, 3) := by decide +kernel
theorem dX10_spoil_27 : decode cX10_spoil 27 = .ok (.athrow, 1) := by decide +kernel
theorem dX10_spoil_28 : decode cX10_spoil 28 = .ok (.aload_n 3, 1) := by decide +kernel
theorem dX10_spoil_29 : decode cX10_spoil 29 = .ok (.iload_n 2, 1) := by decide +kernel
theorem dX10_spoil_30 : decode cX10_spoil 30 = .ok (.invokevirtual 173, 3) := by decide +kernel
theorem dX10_spoil_33 : decode cX10_spoil 33 = .ok (.istore 4, 2) := by decide +kernel
theorem dX10_spoil_35 : decode cX10_spoil 35 = .ok (.aload_n 3, 1) := by decide +kernel
theorem dX10_spoil_36 : decode cX10_spoil 36 = .ok (.iload_n 2, 1) := by decide +kernel
theorem dX10_spoil_37 : decode cX10_spoil 37 = .ok (.invokevirtual 186, 3) := by decide +kernel
theorem dX10_spoil_40 : decode cX10_spoil 40 = .ok (.iload 4, 2) := by decide +kernel
theorem dX10_spoil_42 : decode cX10_spoil 42 = .ok (.ireturn, 1) := by decide +kernel
set_option maxRecDepth 20000 in
theorem ggX10_root_X10_fileAt : GoodIn wsX10_root wsX10_fileAt := goodIn_ca (goodIn_r _ [5, 6, 7, 8, 21, 22, 23, 24, 25, 26, 27, 28, 29, 30] (by decide +kernel) (by decide +kernel)) (goodIn_sub (fun _ h => List.mem_cons_of_mem _ (List.mem_append_right _ h)) (by decide +kernel))
set_option maxRecDepth 20000 in
theorem gX10_root_X10_fileAt : GoodIn wsX10_root (wsV RX10 159 RX10 yX10_fileAt wsX10_fileAt) := goodIn_app (goodIn_of _ (by decide +kernel)) ggX10_root_X10_fileAt
set_option maxRecDepth 20000 in
theorem ggX10_root_X8_tree : GoodIn wsX10_root wsX8_tree := goodIn_r _ [13, 14, 31, 32, 33, 34, 35, 36] (by decide +kernel) (by decide +kernel)
set_option maxRecDepth 20000 in
theorem gX10_root_X8_tree : GoodIn wsX10_root (wsV RX10 189 RX8 yX8_tree wsX8_tree) := goodIn_app (goodIn_of _ (by decide +kernel)) ggX10_root_X8_tree
set_option maxRecDepth 20000 in
theorem ggX10_root_X9_top : GoodIn wsX10_root wsX9_top := goodIn_r _ [19, 20, 37] (by decide +kernel) (by decide +kernel)
set_option maxRecDepth 20000 in
theorem gX10_root_X9_top : GoodIn wsX10_root (wsV RX10 193 RX9 yX9_top wsX9_top) := goodIn_app (goodIn_of _ (by decide +kernel)) ggX10_root_X9_top
theorem dX10_root_0 : decode cX10_root 0 = .ok (.aload_n 0, 1) := by decide +kernel
theorem dX10_root_1 : decode cX10_root 1 = .ok (.iload_n 1, 1) := by decide +kernel
theorem dX10_root_2 : decode cX10_root 2 = .ok (.invokevirtual 159, 3) := by decide +kernel
theorem dX10_root_5 : decode cX10_root 5 = .ok (.invokevirtual 189, 3) := by decide +kernel
theorem dX10_root_8 : decode cX10_root 8 = .ok (.invokevirtual 193, 3) := by decide +kernel
theorem dX10_root_11 : decode cX10_root 11 = .ok (.ireturn, 1) := by decide +kernel
set_option maxRecDepth 20000 in
theorem ggX10_proof_X10_fileAt : GoodIn wsX10_proof wsX10_fileAt := goodIn_ca (goodIn_r _ [5, 6, 7, 8, 29, 30, 31, 32, 33, 34, 35, 36, 37, 38] (by decide +kernel) (by decide +kernel)) (goodIn_sub (fun _ h => List.mem_cons_of_mem _ (List.mem_append_left _ (List.mem_append_right _ h))) (by decide +kernel))
set_option maxRecDepth 20000 in
theorem gX10_proof_X10_fileAt : GoodIn wsX10_proof (wsV RX10 159 RX10 yX10_fileAt wsX10_fileAt) := goodIn_app (goodIn_of _ (by decide +kernel)) ggX10_proof_X10_fileAt
set_option maxRecDepth 20000 in
theorem ggX10_proof_X10_needPiece : GoodIn wsX10_proof wsX10_needPiece := goodIn_ca (goodIn_r _ [11, 6, 7] (by decide +kernel) (by decide +kernel)) (goodIn_sub (fun _ h => List.mem_cons_of_mem _ (List.mem_append_left _ (List.mem_append_right _ h))) (by decide +kernel))
set_option maxRecDepth 20000 in
theorem gX10_proof_X10_needPiece : GoodIn wsX10_proof (va_wsS RX10 163 yX10_needPiece wsX10_needPiece) := goodIn_app (goodIn_of _ (by decide +kernel)) ggX10_proof_X10_needPiece
set_option maxRecDepth 20000 in
theorem ggX10_proof_X10_needBelow : GoodIn wsX10_proof wsX10_needBelow := goodIn_ca (goodIn_r _ [14, 15, 16] (by decide +kernel) (by decide +kernel)) (goodIn_sub (fun _ h => List.mem_cons_of_mem _ (List.mem_append_right _ h)) (by decide +kernel))
set_option maxRecDepth 20000 in
theorem gX10_proof_X10_needBelow : GoodIn wsX10_proof (va_wsS RX10 68 yX10_needBelow wsX10_needBelow) := goodIn_app (goodIn_of _ (by decide +kernel)) ggX10_proof_X10_needBelow
set_option maxRecDepth 20000 in
theorem ggX10_proof_X8_tree : GoodIn wsX10_proof wsX8_tree := goodIn_r _ [21, 22, 39, 40, 41, 42, 43, 44] (by decide +kernel) (by decide +kernel)
set_option maxRecDepth 20000 in
theorem gX10_proof_X8_tree : GoodIn wsX10_proof (wsV RX10 189 RX8 yX8_tree wsX8_tree) := goodIn_app (goodIn_of _ (by decide +kernel)) ggX10_proof_X8_tree
set_option maxRecDepth 20000 in
theorem ggX10_proof_X9_neighbour : GoodIn wsX10_proof wsX9_neighbour := goodIn_r _ [27, 28, 45] (by decide +kernel) (by decide +kernel)
set_option maxRecDepth 20000 in
theorem gX10_proof_X9_neighbour : GoodIn wsX10_proof (wsV RX10 198 RX9 yX9_neighbour wsX9_neighbour) := goodIn_app (goodIn_of _ (by decide +kernel)) ggX10_proof_X9_neighbour
theorem dX10_proof_0 : decode cX10_proof 0 = .ok (.aload_n 0, 1) := by decide +kernel
theorem dX10_proof_1 : decode cX10_proof 1 = .ok (.iload_n 1, 1) := by decide +kernel
theorem dX10_proof_2 : decode cX10_proof 2 = .ok (.invokevirtual 159, 3) := by decide +kernel
theorem dX10_proof_5 : decode cX10_proof 5 = .ok (.astore 4, 2) := by decide +kernel
theorem dX10_proof_7 : decode cX10_proof 7 = .ok (.iload_n 2, 1) := by decide +kernel
theorem dX10_proof_8 : decode cX10_proof 8 = .ok (.invokestatic 163, 3) := by decide +kernel
theorem dX10_proof_11 : decode cX10_proof 11 = .ok (.iload_n 3, 1) := by decide +kernel
theorem dX10_proof_12 : decode cX10_proof 12 = .ok (.iconst 3, 1) := by decide +kernel
theorem dX10_proof_13 : decode cX10_proof 13 = .ok (.invokestatic 68, 3) := by decide +kernel
theorem dX10_proof_16 : decode cX10_proof 16 = .ok (.aload 4, 2) := by decide +kernel
theorem dX10_proof_18 : decode cX10_proof 18 = .ok (.invokevirtual 189, 3) := by decide +kernel
theorem dX10_proof_21 : decode cX10_proof 21 = .ok (.iload_n 2, 1) := by decide +kernel
theorem dX10_proof_22 : decode cX10_proof 22 = .ok (.iload_n 3, 1) := by decide +kernel
theorem dX10_proof_23 : decode cX10_proof 23 = .ok (.invokevirtual 198, 3) := by decide +kernel
theorem dX10_proof_26 : decode cX10_proof 26 = .ok (.ireturn, 1) := by decide +kernel
set_option maxRecDepth 20000 in
theorem ggX10_isProved_X10_fileAt : GoodIn wsX10_isProved wsX10_fileAt := goodIn_ca (goodIn_r _ [5, 6, 7, 8, 39, 40, 41, 42, 43, 44, 45, 46, 47, 48] (by decide +kernel) (by decide +kernel)) (goodIn_sub (fun _ h => List.mem_cons_of_mem _ (List.mem_append_left _ (List.mem_append_right _ h))) (by decide +kernel))
set_option maxRecDepth 20000 in
theorem gX10_isProved_X10_fileAt : GoodIn wsX10_isProved (wsV RX10 159 RX10 yX10_fileAt wsX10_fileAt) := goodIn_app (goodIn_of _ (by decide +kernel)) ggX10_isProved_X10_fileAt
set_option maxRecDepth 20000 in
theorem ggX10_isProved_X10_needPiece : GoodIn wsX10_isProved wsX10_needPiece := goodIn_ca (goodIn_r _ [11, 6, 7] (by decide +kernel) (by decide +kernel)) (goodIn_sub (fun _ h => List.mem_cons_of_mem _ (List.mem_append_left _ (List.mem_append_right _ h))) (by decide +kernel))
set_option maxRecDepth 20000 in
theorem gX10_isProved_X10_needPiece : GoodIn wsX10_isProved (va_wsS RX10 163 yX10_needPiece wsX10_needPiece) := goodIn_app (goodIn_of _ (by decide +kernel)) ggX10_isProved_X10_needPiece
set_option maxRecDepth 20000 in
theorem ggX10_isProved_X10_needBelow : GoodIn wsX10_isProved wsX10_needBelow := goodIn_ca (goodIn_r _ [14, 15, 16] (by decide +kernel) (by decide +kernel)) (goodIn_sub (fun _ h => List.mem_cons_of_mem _ (List.mem_append_right _ h)) (by decide +kernel))
set_option maxRecDepth 20000 in
theorem gX10_isProved_X10_needBelow : GoodIn wsX10_isProved (va_wsS RX10 68 yX10_needBelow wsX10_needBelow) := goodIn_app (goodIn_of _ (by decide +kernel)) ggX10_isProved_X10_needBelow
set_option maxRecDepth 20000 in
theorem ggX10_isProved_X8_tree : GoodIn wsX10_isProved wsX8_tree := goodIn_r _ [21, 22, 49, 50, 51, 52, 53, 54] (by decide +kernel) (by decide +kernel)
set_option maxRecDepth 20000 in
theorem gX10_isProved_X8_tree : GoodIn wsX10_isProved (wsV RX10 189 RX8 yX8_tree wsX8_tree) := goodIn_app (goodIn_of _ (by decide +kernel)) ggX10_isProved_X8_tree
set_option maxRecDepth 20000 in
theorem ggX10_isProved_X9_top : GoodIn wsX10_isProved wsX9_top := goodIn_r _ [27, 28, 55] (by decide +kernel) (by decide +kernel)
set_option maxRecDepth 20000 in
theorem gX10_isProved_X9_top : GoodIn wsX10_isProved (wsV RX10 193 RX9 yX9_top wsX9_top) := goodIn_app (goodIn_of _ (by decide +kernel)) ggX10_isProved_X9_top
set_option maxRecDepth 20000 in
theorem ggX10_isProved_X9_climb : GoodIn wsX10_isProved wsX9_climb := goodIn_r _ [31, 32, 33, 26, 34, 35, 36, 37, 38] (by decide +kernel) (by decide +kernel)
set_option maxRecDepth 20000 in
theorem gX10_isProved_X9_climb : GoodIn wsX10_isProved (va_wsS RX10 201 yX9_climb wsX9_climb) := goodIn_app (goodIn_of _ (by decide +kernel)) ggX10_isProved_X9_climb
theorem dX10_isProved_0 : decode cX10_isProved 0 = .ok (.aload_n 0, 1) := by decide +kernel
theorem dX10_isProved_1 : decode cX10_isProved 1 = .ok (.iload_n 1, 1) := by decide +kernel
theorem dX10_isProved_2 : decode cX10_isProved 2 = .ok (.invokevirtual 159, 3) := by decide +kernel
theorem dX10_isProved_5 : decode cX10_isProved 5 = .ok (.astore 7, 2) := by decide +kernel
theorem dX10_isProved_7 : decode cX10_isProved 7 = .ok (.iload_n 2, 1) := by decide +kernel
theorem dX10_isProved_8 : decode cX10_isProved 8 = .ok (.invokestatic 163, 3) := by decide +kernel
theorem dX10_isProved_11 : decode cX10_isProved 11 = .ok (.iload_n 3, 1) := by decide +kernel
theorem dX10_isProved_12 : decode cX10_isProved 12 = .ok (.sipush 256, 3) := by decide +kernel
theorem dX10_isProved_15 : decode cX10_isProved 15 = .ok (.invokestatic 68, 3) := by decide +kernel
theorem dX10_isProved_18 : decode cX10_isProved 18 = .ok (.aload 7, 2) := by decide +kernel
theorem dX10_isProved_20 : decode cX10_isProved 20 = .ok (.invokevirtual 189, 3) := by decide +kernel
theorem dX10_isProved_23 : decode cX10_isProved 23 = .ok (.invokevirtual 193, 3) := by decide +kernel
theorem dX10_isProved_26 : decode cX10_isProved 26 = .ok (.iload_n 2, 1) := by decide +kernel
theorem dX10_isProved_27 : decode cX10_isProved 27 = .ok (.iload_n 3, 1) := by decide +kernel
theorem dX10_isProved_28 : decode cX10_isProved 28 = .ok (.iload 4, 2) := by decide +kernel
theorem dX10_isProved_30 : decode cX10_isProved 30 = .ok (.iload 5, 2) := by decide +kernel
theorem dX10_isProved_32 : decode cX10_isProved 32 = .ok (.iload 6, 2) := by decide +kernel
theorem dX10_isProved_34 : decode cX10_isProved 34 = .ok (.invokestatic 201, 3) := by decide +kernel
theorem dX10_isProved_37 : decode cX10_isProved 37 = .ok (.if_icmp .ne 7, 3) := by decide +kernel
theorem dX10_isProved_40 : decode cX10_isProved 40 = .ok (.iconst 1, 1) := by decide +kernel
theorem dX10_isProved_41 : decode cX10_isProved 41 = .ok (.goto 4, 3) := by decide +kernel
theorem dX10_isProved_44 : decode cX10_isProved 44 = .ok (.iconst 0, 1) := by decide +kernel
theorem dX10_isProved_45 : decode cX10_isProved 45 = .ok (.ireturn, 1) := by decide +kernel
set_option maxRecDepth 20000 in
theorem ggX10_mend_X10_fileAt : GoodIn wsX10_mend wsX10_fileAt := goodIn_ca (goodIn_r _ [7, 8, 9, 10, 46, 47, 48, 49, 50, 51, 52, 53, 54, 55] (by decide +kernel) (by decide +kernel)) (goodIn_sub (fun _ h => List.mem_cons_of_mem _ (List.mem_append_right _ h)) (by decide +kernel))
set_option maxRecDepth 20000 in
theorem gX10_mend_X10_fileAt : GoodIn wsX10_mend (wsV RX10 159 RX10 yX10_fileAt wsX10_fileAt) := goodIn_app (goodIn_of _ (by decide +kernel)) ggX10_mend_X10_fileAt
set_option maxRecDepth 20000 in
theorem ggX10_mend_X10_needBelow : GoodIn wsX10_mend wsX10_needBelow := goodIn_ca (goodIn_r _ [13, 1, 2] (by decide +kernel) (by decide +kernel)) (goodIn_sub (fun _ h => List.mem_cons_of_mem _ (List.mem_append_left _ (List.mem_append_right _ h))) (by decide +kernel))
set_option maxRecDepth 20000 in
theorem gX10_mend_X10_needBelow : GoodIn wsX10_mend (va_wsS RX10 68 yX10_needBelow wsX10_needBelow) := goodIn_app (goodIn_of _ (by decide +kernel)) ggX10_mend_X10_needBelow
set_option maxRecDepth 20000 in
theorem ggX10_mend_J6_bitCount_0f7a4 : GoodIn wsX10_mend wsJ6_bitCount_0f7a4 := goodIn_r _ [17, 18, 19, 20] (by decide +kernel) (by decide +kernel)
set_option maxRecDepth 20000 in
theorem gX10_mend_J6_bitCount_0f7a4 : GoodIn wsX10_mend (va_wsS RX10 205 yJ6_bitCount_0f7a4 wsJ6_bitCount_0f7a4) := goodIn_app (goodIn_of _ (by decide +kernel)) ggX10_mend_J6_bitCount_0f7a4
set_option maxRecDepth 20000 in
theorem ggX10_mend_X8_mended : GoodIn wsX10_mend wsX8_mended := goodIn_r _ [25, 26, 27, 28, 29, 30, 31, 32, 33, 34, 35, 36, 37, 38, 39, 40, 41, 42, 43, 44, 45, 56, 57, 58, 59, 60, 61] (by decide +kernel) (by decide +kernel)
set_option maxRecDepth 20000 in
theorem gX10_mend_X8_mended : GoodIn wsX10_mend (wsV RX10 212 RX8 yX8_mended wsX8_mended) := goodIn_app (goodIn_of _ (by decide +kernel)) ggX10_mend_X8_mended
theorem dX10_mend_0 : decode cX10_mend 0 = .ok (.aload_n 0, 1) := by decide +kernel
theorem dX10_mend_1 : decode cX10_mend 1 = .ok (.iload_n 1, 1) := by decide +kernel
theorem dX10_mend_2 : decode cX10_mend 2 = .ok (.invokevirtual 159, 3) := by decide +kernel
theorem dX10_mend_5 : decode cX10_mend 5 = .ok (.astore_n 3, 1) := by decide +kernel
theorem dX10_mend_6 : decode cX10_mend 6 = .ok (.iload_n 2, 1) := by decide +kernel
theorem dX10_mend_7 : decode cX10_mend 7 = .ok (.bipush 64, 2) := by decide +kernel
theorem dX10_mend_9 : decode cX10_mend 9 = .ok (.invokestatic 68, 3) := by decide +kernel
theorem dX10_mend_12 : decode cX10_mend 12 = .ok (.iload_n 2, 1) := by decide +kernel
theorem dX10_mend_13 : decode cX10_mend 13 = .ok (.invokestatic 205, 3) := by decide +kernel
theorem dX10_mend_16 : decode cX10_mend 16 = .ok (.iconst 4, 1) := by decide +kernel
theorem dX10_mend_17 : decode cX10_mend 17 = .ok (.if_icmp .ge 13, 3) := by decide +kernel
theorem dX10_mend_20 : decode cX10_mend 20 = .ok (.new 120, 3) := by decide +kernel
theorem dX10_mend_23 : decode cX10_mend 23 = .ok (.dup, 1) := by decide +kernel
theorem dX10_mend_24 : decode cX10_mend 24 = .ok (.ldc 210, 2) := by decide +kernel
theorem dX10_mend_26 : decode cX10_mend 26 = .ok (.invokespecial 124, 3) := by decide +kernel
theorem dX10_mend_29 : decode cX10_mend 29 = .ok (.athrow, 1) := by decide +kernel
theorem dX10_mend_30 : decode cX10_mend 30 = .ok (.aload_n 3, 1) := by decide +kernel
theorem dX10_mend_31 : decode cX10_mend 31 = .ok (.iload_n 2, 1) := by decide +kernel
theorem dX10_mend_32 : decode cX10_mend 32 = .ok (.invokevirtual 212, 3) := by decide +kernel
theorem dX10_mend_35 : decode cX10_mend 35 = .ok (.ireturn, 1) := by decide +kernel
set_option maxRecDepth 20000 in
theorem ggX10_fetch_X10_needPeer : GoodIn wsX10_fetch wsX10_needPeer := goodIn_ca (goodIn_r _ [6, 7, 8, 9, 10, 11, 12, 13, 14, 15, 73, 74, 75, 76, 77, 78, 79, 80, 81, 82, 83, 84, 85, 86, 87] (by decide +kernel) (by decide +kernel)) (goodIn_sub (fun _ h => List.mem_cons_of_mem _ (List.mem_append_left _ (List.mem_append_right _ h))) (by decide +kernel))
set_option maxRecDepth 20000 in
theorem gX10_fetch_X10_needPeer : GoodIn wsX10_fetch (wsV RX10 72 RX10 yX10_needPeer wsX10_needPeer) := goodIn_app (goodIn_of _ (by decide +kernel)) ggX10_fetch_X10_needPeer
set_option maxRecDepth 20000 in
theorem ggX10_fetch_X10_fileAt : GoodIn wsX10_fetch wsX10_fileAt := goodIn_ca (goodIn_r _ [19, 7, 8, 20, 73, 74, 75, 76, 77, 78, 79, 80, 81, 82] (by decide +kernel) (by decide +kernel)) (goodIn_sub (fun _ h => List.mem_cons_of_mem _ (List.mem_append_left _ (List.mem_append_right _ h))) (by decide +kernel))
set_option maxRecDepth 20000 in
theorem gX10_fetch_X10_fileAt : GoodIn wsX10_fetch (wsV RX10 159 RX10 yX10_fileAt wsX10_fileAt) := goodIn_app (goodIn_of _ (by decide +kernel)) ggX10_fetch_X10_fileAt
set_option maxRecDepth 20000 in
theorem ggX10_fetch_X10_needOnline : GoodIn wsX10_fetch wsX10_needOnline := goodIn_ca (goodIn_r _ [24, 25, 26, 9, 27, 28, 29, 13, 30, 31, 32, 11, 12, 14, 15, 73, 74, 75, 76, 77, 78, 79, 80, 81, 82, 83, 84, 85, 86, 87] (by decide +kernel) (by decide +kernel)) (goodIn_sub (fun _ h => List.mem_cons_of_mem _ (List.mem_append_right _ h)) (by decide +kernel))
set_option maxRecDepth 20000 in
theorem gX10_fetch_X10_needOnline : GoodIn wsX10_fetch (wsV RX10 91 RX10 yX10_needOnline wsX10_needOnline) := goodIn_app (goodIn_of _ (by decide +kernel)) ggX10_fetch_X10_needOnline
set_option maxRecDepth 20000 in
theorem ggX10_fetch_X1_give : GoodIn wsX10_fetch wsX1_give := goodIn_r _ [37, 38, 39, 40, 41, 36, 42, 43, 44, 45, 46, 47, 48, 49, 50, 51, 52, 53, 54, 55, 56, 57, 58, 28, 29, 13, 30, 31, 32, 11, 12, 14, 15, 59, 60, 61, 62, 63, 64, 65, 66, 67, 68, 69, 70, 71, 72, 88, 89, 90, 91, 92, 93, 94, 95, 96, 83, 84, 85, 86, 87, 97] (by decide +kernel) (by decide +kernel)
set_option maxRecDepth 20000 in
theorem gX10_fetch_X1_give : GoodIn wsX10_fetch (wsV RX10 215 RX1 yX1_give wsX1_give) := goodIn_app (goodIn_of _ (by decide +kernel)) ggX10_fetch_X1_give
theorem dX10_fetch_0 : decode cX10_fetch 0 = .ok (.aload_n 0, 1) := by decide +kernel
theorem dX10_fetch_1 : decode cX10_fetch 1 = .ok (.iload_n 1, 1) := by decide +kernel
theorem dX10_fetch_2 : decode cX10_fetch 2 = .ok (.invokevirtual 72, 3) := by decide +kernel
theorem dX10_fetch_5 : decode cX10_fetch 5 = .ok (.aload_n 0, 1) := by decide +kernel
theorem dX10_fetch_6 : decode cX10_fetch 6 = .ok (.iload_n 2, 1) := by decide +kernel
theorem dX10_fetch_7 : decode cX10_fetch 7 = .ok (.invokevirtual 159, 3) := by decide +kernel
theorem dX10_fetch_10 : decode cX10_fetch 10 = .ok (.astore_n 3, 1) := by decide +kernel
theorem dX10_fetch_11 : decode cX10_fetch 11 = .ok (.aload_n 0, 1) := by decide +kernel
theorem dX10_fetch_12 : decode cX10_fetch 12 = .ok (.iload_n 1, 1) := by decide +kernel
theorem dX10_fetch_13 : decode cX10_fetch 13 = .ok (.invokevirtual 91, 3) := by decide +kernel
theorem dX10_fetch_16 : decode cX10_fetch 16 = .ok (.aload_n 0, 1) := by decide +kernel
theorem dX10_fetch_17 : decode cX10_fetch 17 = .ok (.getfield 50, 3) := by decide +kernel
theorem dX10_fetch_20 : decode cX10_fetch 20 = .ok (.aload_n 3, 1) := by decide +kernel
theorem dX10_fetch_21 : decode cX10_fetch 21 = .ok (.iload_n 1, 1) := by decide +kernel
theorem dX10_fetch_22 : decode cX10_fetch 22 = .ok (.invokevirtual 215, 3) := by decide +kernel
theorem dX10_fetch_25 : decode cX10_fetch 25 = .ok (.ireturn, 1) := by decide +kernel
set_option maxRecDepth 20000 in
theorem ggX10_pass_X1_challenge : GoodIn wsX10_pass wsX1_challenge := goodIn_r _ [10, 11, 12, 13, 14, 15, 16, 17, 18, 19, 20, 21, 22, 23, 24, 25, 26, 27, 28, 29, 30, 31, 32, 33, 34, 35, 36, 37, 38, 39, 9, 40, 41, 42, 43, 44, 45, 46, 47, 48, 49, 50, 51, 52, 53, 54, 55, 56, 57, 58, 59, 60, 61, 62, 63, 64, 65, 66, 67, 68, 69, 70, 71, 72, 73, 74, 75, 76, 197, 198, 199, 200, 201, 202, 203, 204, 205, 206, 207, 208, 209, 210, 211] (by decide +kernel) (by decide +kernel)
set_option maxRecDepth 20000 in
theorem gX10_pass_X1_challenge : GoodIn wsX10_pass (wsV RX10 224 RX1 yX1_challenge wsX1_challenge) := goodIn_app (goodIn_of _ (by decide +kernel)) ggX10_pass_X1_challenge
set_option maxRecDepth 20000 in
theorem ggX10_pass_X1_isToRepair : GoodIn wsX10_pass wsX1_isToRepair := goodIn_r _ [80, 11, 29, 30, 31, 15, 32, 33, 34, 35, 36, 46, 47, 48, 9, 49, 50, 51, 52, 53, 54, 42, 43, 44, 45, 18, 19, 20, 21, 22, 23, 24, 25, 26, 27, 28, 12, 13, 14, 16, 17, 197, 198, 199, 200, 201, 202, 203, 204, 205, 206, 207, 208, 209, 210] (by decide +kernel) (by decide +kernel)
set_option maxRecDepth 20000 in
theorem gX10_pass_X1_isToRepair : GoodIn wsX10_pass (wsV RX10 227 RX1 yX1_isToRepair wsX1_isToRepair) := goodIn_app (goodIn_of _ (by decide +kernel)) ggX10_pass_X1_isToRepair
set_option maxRecDepth 20000 in
theorem ggX10_pass_X1_storeMissing : GoodIn wsX10_pass wsX1_storeMissing := goodIn_r _ [84, 85, 11, 29, 30, 31, 15, 32, 33, 34, 35, 36, 12, 13, 14, 16, 17, 86, 87, 88, 89, 90, 91, 92, 93, 94, 95, 96, 97, 98, 99, 100, 101, 102, 103, 104, 105, 106, 107, 108, 109, 110, 111, 112, 113, 114, 115, 116, 117, 118, 119, 120, 121, 21, 122, 123, 124, 125, 126, 24, 25, 26, 27, 28, 127, 128, 129, 130, 131, 132, 133, 134, 135, 136, 137, 138, 139, 140, 141, 142, 143, 144, 145, 146, 147, 148, 149, 150, 151, 152, 153, 154, 155, 156, 157, 158, 23, 159, 160, 161, 162, 163, 164, 165, 166, 167, 168, 169, 170, 171, 172, 9, 173, 174, 175, 176, 177, 178, 179, 180, 181, 182, 183, 184, 185, 186, 73, 74, 75, 76, 54, 68, 197, 198, 199, 200, 201, 202, 203, 204, 205, 212, 213, 214, 215, 216, 217, 218, 219, 220, 221, 222, 206, 207, 208, 209, 210] (by decide +kernel) (by decide +kernel)
set_option maxRecDepth 20000 in
theorem gX10_pass_X1_storeMissing : GoodIn wsX10_pass (wsV RX10 155 RX1 yX1_storeMissing wsX1_storeMissing) := goodIn_app (goodIn_of _ (by decide +kernel)) ggX10_pass_X1_storeMissing
theorem dX10_pass_0 : decode cX10_pass 0 = .ok (.aload_n 0, 1) := by decide +kernel
theorem dX10_pass_1 : decode cX10_pass 1 = .ok (.getfield 219, 3) := by decide +kernel
theorem dX10_pass_4 : decode cX10_pass 4 = .ok (.sipush 500, 3) := by decide +kernel
theorem dX10_pass_7 : decode cX10_pass 7 = .ok (.if_icmp .lt 13, 3) := by decide +kernel
theorem dX10_pass_10 : decode cX10_pass 10 = .ok (.new 84, 3) := by decide +kernel
theorem dX10_pass_13 : decode cX10_pass 13 = .ok (.dup, 1) := by decide +kernel
theorem dX10_pass_14 : decode cX10_pass 14 = .ok (.ldc 222, 2) := by decide +kernel
theorem dX10_pass_16 : decode cX10_pass 16 = .ok (.invokespecial 88, 3) := by decide +kernel
theorem dX10_pass_19 : decode cX10_pass 19 = .ok (.athrow, 1) := by decide +kernel
theorem dX10_pass_20 : decode cX10_pass 20 = .ok (.aload_n 0, 1) := by decide +kernel
theorem dX10_pass_21 : decode cX10_pass 21 = .ok (.dup, 1) := by decide +kernel
theorem dX10_pass_22 : decode cX10_pass 22 = .ok (.getfield 219, 3) := by decide +kernel
theorem dX10_pass_25 : decode cX10_pass 25 = .ok (.iconst 1, 1) := by decide +kernel
theorem dX10_pass_26 : decode cX10_pass 26 = .ok (.iadd, 1) := by decide +kernel
theorem dX10_pass_27 : decode cX10_pass 27 = .ok (.putfield 219, 3) := by decide +kernel
theorem dX10_pass_30 : decode cX10_pass 30 = .ok (.iconst 0, 1) := by decide +kernel
theorem dX10_pass_31 : decode cX10_pass 31 = .ok (.istore_n 1, 1) := by decide +kernel
theorem dX10_pass_32 : decode cX10_pass 32 = .ok (.iload_n 1, 1) := by decide +kernel
theorem dX10_pass_33 : decode cX10_pass 33 = .ok (.aload_n 0, 1) := by decide +kernel
theorem dX10_pass_34 : decode cX10_pass 34 = .ok (.getfield 41, 3) := by decide +kernel
theorem dX10_pass_37 : decode cX10_pass 37 = .ok (.arraylength, 1) := by decide +kernel
theorem dX10_pass_38 : decode cX10_pass 38 = .ok (.if_icmp .ge 28, 3) := by decide +kernel
theorem dX10_pass_41 : decode cX10_pass 41 = .ok (.aload_n 0, 1) := by decide +kernel
theorem dX10_pass_42 : decode cX10_pass 42 = .ok (.getfield 41, 3) := by decide +kernel
theorem dX10_pass_45 : decode cX10_pass 45 = .ok (.iload_n 1, 1) := by decide +kernel
theorem dX10_pass_46 : decode cX10_pass 46 = .ok (.aaload, 1) := by decide +kernel
theorem dX10_pass_47 : decode cX10_pass 47 = .ok (.astore_n 2, 1) := by decide +kernel
theorem dX10_pass_48 : decode cX10_pass 48 = .ok (.aload_n 2, 1) := by decide +kernel
theorem dX10_pass_49 : decode cX10_pass 49 = .ok (.ifnull 11, 3) := by decide +kernel
theorem dX10_pass_52 : decode cX10_pass 52 = .ok (.aload_n 0, 1) := by decide +kernel
theorem dX10_pass_53 : decode cX10_pass 53 = .ok (.getfield 50, 3) := by decide +kernel
theorem dX10_pass_56 : decode cX10_pass 56 = .ok (.aload_n 2, 1) := by decide +kernel
theorem dX10_pass_57 : decode cX10_pass 57 = .ok (.invokevirtual 224, 3) := by decide +kernel
theorem dX10_pass_60 : decode cX10_pass 60 = .ok (.iinc 1 1, 3) := by decide +kernel
theorem dX10_pass_63 : decode cX10_pass 63 = .ok (.goto (-31), 3) := by decide +kernel
theorem dX10_pass_66 : decode cX10_pass 66 = .ok (.iconst 0, 1) := by decide +kernel
theorem dX10_pass_67 : decode cX10_pass 67 = .ok (.istore_n 1, 1) := by decide +kernel
theorem dX10_pass_68 : decode cX10_pass 68 = .ok (.iload_n 1, 1) := by decide +kernel
theorem dX10_pass_69 : decode cX10_pass 69 = .ok (.aload_n 0, 1) := by decide +kernel
theorem dX10_pass_70 : decode cX10_pass 70 = .ok (.getfield 41, 3) := by decide +kernel
theorem dX10_pass_73 : decode cX10_pass 73 = .ok (.arraylength, 1) := by decide +kernel
theorem dX10_pass_74 : decode cX10_pass 74 = .ok (.if_icmp .ge 39, 3) := by decide +kernel
theorem dX10_pass_77 : decode cX10_pass 77 = .ok (.aload_n 0, 1) := by decide +kernel
theorem dX10_pass_78 : decode cX10_pass 78 = .ok (.getfield 41, 3) := by decide +kernel
theorem dX10_pass_81 : decode cX10_pass 81 = .ok (.iload_n 1, 1) := by decide +kernel
theorem dX10_pass_82 : decode cX10_pass 82 = .ok (.aaload, 1) := by decide +kernel
theorem dX10_pass_83 : decode cX10_pass 83 = .ok (.astore_n 2, 1) := by decide +kernel
theorem dX10_pass_84 : decode cX10_pass 84 = .ok (.aload_n 2, 1) := by decide +kernel
theorem dX10_pass_85 : decode cX10_pass 85 = .ok (.ifnull 22, 3) := by decide +kernel
theorem dX10_pass_88 : decode cX10_pass 88 = .ok (.aload_n 0, 1) := by decide +kernel
theorem dX10_pass_89 : decode cX10_pass 89 = .ok (.getfield 50, 3) := by decide +kernel
theorem dX10_pass_92 : decode cX10_pass 92 = .ok (.aload_n 2, 1) := by decide +kernel
theorem dX10_pass_93 : decode cX10_pass 93 = .ok (.invokevirtual 227, 3) := by decide +kernel
theorem dX10_pass_96 : decode cX10_pass 96 = .ok (.ifCond .eq 11, 3) := by decide +kernel
theorem dX10_pass_99 : decode cX10_pass 99 = .ok (.aload_n 0, 1) := by decide +kernel
theorem dX10_pass_100 : decode cX10_pass 100 = .ok (.getfield 50, 3) := by decide +kernel
theorem dX10_pass_103 : decode cX10_pass 103 = .ok (.aload_n 2, 1) := by decide +kernel
theorem dX10_pass_104 : decode cX10_pass 104 = .ok (.invokevirtual 155, 3) := by decide +kernel
theorem dX10_pass_107 : decode cX10_pass 107 = .ok (.iinc 1 1, 3) := by decide +kernel
theorem dX10_pass_110 : decode cX10_pass 110 = .ok (.goto (-42), 3) := by decide +kernel
theorem dX10_pass_113 : decode cX10_pass 113 = .ok (.aload_n 0, 1) := by decide +kernel
theorem dX10_pass_114 : decode cX10_pass 114 = .ok (.getfield 219, 3) := by decide +kernel
theorem dX10_pass_117 : decode cX10_pass 117 = .ok (.ireturn, 1) := by decide +kernel
set_option maxRecDepth 20000 in
theorem ggX10_tell_X10_needPeer : GoodIn wsX10_tell wsX10_needPeer := goodIn_ca (goodIn_r _ [10, 11, 12, 5, 13, 14, 15, 16, 17, 18, 141, 142, 143, 144, 145, 146, 147, 148, 149, 150, 151, 152, 153, 154, 155] (by decide +kernel) (by decide +kernel)) (goodIn_sub (fun _ h => List.mem_cons_of_mem _ (List.mem_append_left _ (List.mem_append_right _ h))) (by decide +kernel))
set_option maxRecDepth 20000 in
theorem gX10_tell_X10_needPeer : GoodIn wsX10_tell (wsV RX10 72 RX10 yX10_needPeer wsX10_needPeer) := goodIn_app (goodIn_of _ (by decide +kernel)) ggX10_tell_X10_needPeer
set_option maxRecDepth 20000 in
theorem ggX10_tell_X10_needBelow : GoodIn wsX10_tell wsX10_needBelow := goodIn_ca (goodIn_r _ [21, 22, 23] (by decide +kernel) (by decide +kernel)) (goodIn_sub (fun _ h => List.mem_cons_of_mem _ (List.mem_append_right _ h)) (by decide +kernel))
set_option maxRecDepth 20000 in
theorem gX10_tell_X10_needBelow : GoodIn wsX10_tell (va_wsS RX10 68 yX10_needBelow wsX10_needBelow) := goodIn_app (goodIn_of _ (by decide +kernel)) ggX10_tell_X10_needBelow
set_option maxRecDepth 20000 in
theorem ggX10_tell_X10_needOnline : GoodIn wsX10_tell wsX10_needOnline := goodIn_ca (goodIn_r _ [27, 1, 2, 5, 28, 29, 30, 16, 31, 32, 33, 14, 15, 17, 18, 141, 142, 143, 144, 145, 146, 147, 148, 149, 150, 151, 152, 153, 154, 155] (by decide +kernel) (by decide +kernel)) (goodIn_sub (fun _ h => List.mem_cons_of_mem _ (List.mem_append_left _ (List.mem_append_left _ (List.mem_append_right _ h)))) (by decide +kernel))
set_option maxRecDepth 20000 in
theorem gX10_tell_X10_needOnline : GoodIn wsX10_tell (wsV RX10 91 RX10 yX10_needOnline wsX10_needOnline) := goodIn_app (goodIn_of _ (by decide +kernel)) ggX10_tell_X10_needOnline
set_option maxRecDepth 20000 in
theorem ggX10_tell_X4_mayTell : GoodIn wsX10_tell wsX4_mayTell := goodIn_r _ [38, 39, 40, 41, 37, 42, 156, 157] (by decide +kernel) (by decide +kernel)
set_option maxRecDepth 20000 in
theorem gX10_tell_X4_mayTell : GoodIn wsX10_tell (wsV RX10 231 RX4 yX4_mayTell wsX4_mayTell) := goodIn_app (goodIn_of _ (by decide +kernel)) ggX10_tell_X4_mayTell
set_option maxRecDepth 20000 in
theorem ggX10_tell_X4_claim : GoodIn wsX10_tell wsX4_claim := goodIn_r _ [46, 39, 47, 35, 36, 37, 38, 40, 41, 42, 156, 157] (by decide +kernel) (by decide +kernel)
set_option maxRecDepth 20000 in
theorem gX10_tell_X4_claim : GoodIn wsX10_tell (wsV RX10 237 RX4 yX4_claim wsX4_claim) := goodIn_app (goodIn_of _ (by decide +kernel)) ggX10_tell_X4_claim
set_option maxRecDepth 20000 in
theorem ggX10_tell_X7_run : GoodIn wsX10_tell wsX7_run := goodIn_r _ [52, 53, 54, 55, 56, 57, 58, 51, 59, 60, 61, 62, 63, 64, 65, 66, 67, 68, 69, 70, 71, 72, 16, 73, 74, 75, 76, 77, 33, 14, 15, 17, 18, 78, 79, 80, 81, 82, 83, 84, 85, 86, 87, 88, 89, 90, 91, 92, 93, 94, 95, 96, 97, 98, 99, 100, 101, 102, 103, 104, 105, 106, 107, 108, 109, 32, 110, 111, 112, 113, 114, 115, 116, 117, 118, 119, 120, 158, 159, 160, 161, 162, 163, 164, 165, 166, 167, 151, 152, 153, 154, 155] (by decide +kernel) (by decide +kernel)
set_option maxRecDepth 20000 in
theorem gX10_tell_X7_run : GoodIn wsX10_tell (wsV RX10 101 RX7 yX7_run wsX7_run) := goodIn_app (goodIn_of _ (by decide +kernel)) ggX10_tell_X7_run
set_option maxRecDepth 20000 in
theorem ggX10_tell_X7_result : GoodIn wsX10_tell wsX7_result := goodIn_r _ [124, 60, 158, 159, 160, 161, 162, 163, 164] (by decide +kernel) (by decide +kernel)
set_option maxRecDepth 20000 in
theorem gX10_tell_X7_result : GoodIn wsX10_tell (wsV RX10 125 RX7 yX7_result wsX7_result) := goodIn_app (goodIn_of _ (by decide +kernel)) ggX10_tell_X7_result
set_option maxRecDepth 20000 in
theorem ggX10_tell_X6_at : GoodIn wsX10_tell wsX6_at := goodIn_r _ [87, 69, 83, 165, 166, 167] (by decide +kernel) (by decide +kernel)
set_option maxRecDepth 20000 in
theorem gX10_tell_X6_at : GoodIn wsX10_tell (wsV RX10 240 RX6 yX6_at wsX6_at) := goodIn_app (goodIn_of _ (by decide +kernel)) ggX10_tell_X6_at
set_option maxRecDepth 20000 in
theorem ggX10_tell_X5_isHonest : GoodIn wsX10_tell wsX5_isHonest := goodIn_r _ [129, 75, 33, 14, 15, 16, 17, 18, 151, 152, 153, 154, 155] (by decide +kernel) (by decide +kernel)
set_option maxRecDepth 20000 in
theorem gX10_tell_X5_isHonest : GoodIn wsX10_tell (wsV RX10 243 RX5 yX5_isHonest wsX5_isHonest) := goodIn_app (goodIn_of _ (by decide +kernel)) ggX10_tell_X5_isHonest
set_option maxRecDepth 20000 in
theorem ggX10_tell_X4_keep : GoodIn wsX10_tell wsX4_keep := goodIn_r _ [133, 134, 135, 136, 37, 137, 40, 41, 42, 138, 139, 140, 156, 157] (by decide +kernel) (by decide +kernel)
set_option maxRecDepth 20000 in
theorem gX10_tell_X4_keep : GoodIn wsX10_tell (wsV RX10 246 RX4 yX4_keep wsX4_keep) := goodIn_app (goodIn_of _ (by decide +kernel)) ggX10_tell_X4_keep
theorem dX10_tell_0 : decode cX10_tell 0 = .ok (.aload_n 0, 1) := by decide +kernel
theorem dX10_tell_1 : decode cX10_tell 1 = .ok (.iload_n 1, 1) := by decide +kernel
theorem dX10_tell_2 : decode cX10_tell 2 = .ok (.invokevirtual 72, 3) := by decide +kernel
theorem dX10_tell_5 : decode cX10_tell 5 = .ok (.iload_n 2, 1) := by decide +kernel
theorem dX10_tell_6 : decode cX10_tell 6 = .ok (.sipush 256, 3) := by decide +kernel
theorem dX10_tell_9 : decode cX10_tell 9 = .ok (.invokestatic 68, 3) := by decide +kernel
theorem dX10_tell_12 : decode cX10_tell 12 = .ok (.iload_n 3, 1) := by decide +kernel
theorem dX10_tell_13 : decode cX10_tell 13 = .ok (.sipush 1000, 3) := by decide +kernel
theorem dX10_tell_16 : decode cX10_tell 16 = .ok (.invokestatic 68, 3) := by decide +kernel
theorem dX10_tell_19 : decode cX10_tell 19 = .ok (.iload 4, 2) := by decide +kernel
theorem dX10_tell_21 : decode cX10_tell 21 = .ok (.sipush 1000, 3) := by decide +kernel
theorem dX10_tell_24 : decode cX10_tell 24 = .ok (.invokestatic 68, 3) := by decide +kernel
theorem dX10_tell_27 : decode cX10_tell 27 = .ok (.aload_n 0, 1) := by decide +kernel
theorem dX10_tell_28 : decode cX10_tell 28 = .ok (.iload_n 1, 1) := by decide +kernel
theorem dX10_tell_29 : decode cX10_tell 29 = .ok (.invokevirtual 91, 3) := by decide +kernel
theorem dX10_tell_32 : decode cX10_tell 32 = .ok (.aload_n 0, 1) := by decide +kernel
theorem dX10_tell_33 : decode cX10_tell 33 = .ok (.getfield 57, 3) := by decide +kernel
theorem dX10_tell_36 : decode cX10_tell 36 = .ok (.iload_n 1, 1) := by decide +kernel
theorem dX10_tell_37 : decode cX10_tell 37 = .ok (.iload_n 2, 1) := by decide +kernel
theorem dX10_tell_38 : decode cX10_tell 38 = .ok (.invokevirtual 231, 3) := by decide +kernel
theorem dX10_tell_41 : decode cX10_tell 41 = .ok (.ifCond .ne 13, 3) := by decide +kernel
theorem dX10_tell_44 : decode cX10_tell 44 = .ok (.new 84, 3) := by decide +kernel
theorem dX10_tell_47 : decode cX10_tell 47 = .ok (.dup, 1) := by decide +kernel
theorem dX10_tell_48 : decode cX10_tell 48 = .ok (.ldc 235, 2) := by decide +kernel
theorem dX10_tell_50 : decode cX10_tell 50 = .ok (.invokespecial 88, 3) := by decide +kernel
theorem dX10_tell_53 : decode cX10_tell 53 = .ok (.athrow, 1) := by decide +kernel
theorem dX10_tell_54 : decode cX10_tell 54 = .ok (.aload_n 0, 1) := by decide +kernel
theorem dX10_tell_55 : decode cX10_tell 55 = .ok (.getfield 57, 3) := by decide +kernel
theorem dX10_tell_58 : decode cX10_tell 58 = .ok (.iload_n 1, 1) := by decide +kernel
theorem dX10_tell_59 : decode cX10_tell 59 = .ok (.iload_n 2, 1) := by decide +kernel
theorem dX10_tell_60 : decode cX10_tell 60 = .ok (.invokevirtual 237, 3) := by decide +kernel
theorem dX10_tell_63 : decode cX10_tell 63 = .ok (.aload_n 0, 1) := by decide +kernel
theorem dX10_tell_64 : decode cX10_tell 64 = .ok (.getfield 24, 3) := by decide +kernel
theorem dX10_tell_67 : decode cX10_tell 67 = .ok (.iload_n 1, 1) := by decide +kernel
theorem dX10_tell_68 : decode cX10_tell 68 = .ok (.iload_n 2, 1) := by decide +kernel
theorem dX10_tell_69 : decode cX10_tell 69 = .ok (.iconst 2, 1) := by decide +kernel
theorem dX10_tell_70 : decode cX10_tell 70 = .ok (.invokevirtual 101, 3) := by decide +kernel
theorem dX10_tell_73 : decode cX10_tell 73 = .ok (.iconst 0, 1) := by decide +kernel
theorem dX10_tell_74 : decode cX10_tell 74 = .ok (.istore 5, 2) := by decide +kernel
theorem dX10_tell_76 : decode cX10_tell 76 = .ok (.iconst 0, 1) := by decide +kernel
theorem dX10_tell_77 : decode cX10_tell 77 = .ok (.istore 6, 2) := by decide +kernel
theorem dX10_tell_79 : decode cX10_tell 79 = .ok (.iload 6, 2) := by decide +kernel
theorem dX10_tell_81 : decode cX10_tell 81 = .ok (.iconst 3, 1) := by decide +kernel
theorem dX10_tell_82 : decode cX10_tell 82 = .ok (.if_icmp .ge 54, 3) := by decide +kernel
theorem dX10_tell_85 : decode cX10_tell 85 = .ok (.aload_n 0, 1) := by decide +kernel
theorem dX10_tell_86 : decode cX10_tell 86 = .ok (.getfield 24, 3) := by decide +kernel
theorem dX10_tell_89 : decode cX10_tell 89 = .ok (.invokevirtual 125, 3) := by decide +kernel
theorem dX10_tell_92 : decode cX10_tell 92 = .ok (.iload 6, 2) := by decide +kernel
theorem dX10_tell_94 : decode cX10_tell 94 = .ok (.invokevirtual 240, 3) := by decide +kernel
theorem dX10_tell_97 : decode cX10_tell 97 = .ok (.istore 7, 2) := by decide +kernel
theorem dX10_tell_99 : decode cX10_tell 99 = .ok (.aload_n 0, 1) := by decide +kernel
theorem dX10_tell_100 : decode cX10_tell 100 = .ok (.getfield 20, 3) := by decide +kernel
theorem dX10_tell_103 : decode cX10_tell 103 = .ok (.iload 7, 2) := by decide +kernel
theorem dX10_tell_105 : decode cX10_tell 105 = .ok (.invokevirtual 243, 3) := by decide +kernel
theorem dX10_tell_108 : decode cX10_tell 108 = .ok (.ifCond .eq 22, 3) := by decide +kernel
theorem dX10_tell_111 : decode cX10_tell 111 = .ok (.aload_n 0, 1) := by decide +kernel
theorem dX10_tell_112 : decode cX10_tell 112 = .ok (.getfield 57, 3) := by decide +kernel
theorem dX10_tell_115 : decode cX10_tell 115 = .ok (.iload 7, 2) := by decide +kernel
theorem dX10_tell_117 : decode cX10_tell 117 = .ok (.iload_n 2, 1) := by decide +kernel
theorem dX10_tell_118 : decode cX10_tell 118 = .ok (.iload_n 3, 1) := by decide +kernel
theorem dX10_tell_119 : decode cX10_tell 119 = .ok (.iload 4, 2) := by decide +kernel
theorem dX10_tell_121 : decode cX10_tell 121 = .ok (.invokevirtual 246, 3) := by decide +kernel
theorem dX10_tell_124 : decode cX10_tell 124 = .ok (.ifCond .eq 6, 3) := by decide +kernel
theorem dX10_tell_127 : decode cX10_tell 127 = .ok (.iinc 5 1, 3) := by decide +kernel
theorem dX10_tell_130 : decode cX10_tell 130 = .ok (.iinc 6 1, 3) := by decide +kernel
theorem dX10_tell_133 : decode cX10_tell 133 = .ok (.goto (-54), 3) := by decide +kernel
theorem dX10_tell_136 : decode cX10_tell 136 = .ok (.iload 5, 2) := by decide +kernel
theorem dX10_tell_138 : decode cX10_tell 138 = .ok (.ireturn, 1) := by decide +kernel
set_option maxRecDepth 20000 in
theorem ggX10_name_X10_needPeer : GoodIn wsX10_name wsX10_needPeer := goodIn_ca (goodIn_r _ [8, 9, 10, 2, 11, 12, 13, 14, 15, 16, 131, 132, 133, 134, 135, 136, 137, 138, 139, 140, 141, 142, 143, 144, 145] (by decide +kernel) (by decide +kernel)) (goodIn_sub (fun _ h => List.mem_cons_of_mem _ (List.mem_append_left _ (List.mem_append_left _ (List.mem_append_right _ h)))) (by decide +kernel))
set_option maxRecDepth 20000 in
theorem gX10_name_X10_needPeer : GoodIn wsX10_name (wsV RX10 72 RX10 yX10_needPeer wsX10_needPeer) := goodIn_app (goodIn_of _ (by decide +kernel)) ggX10_name_X10_needPeer
set_option maxRecDepth 20000 in
theorem ggX10_name_X10_needBelow : GoodIn wsX10_name wsX10_needBelow := goodIn_ca (goodIn_r _ [19, 20, 21] (by decide +kernel) (by decide +kernel)) (goodIn_sub (fun _ h => List.mem_cons_of_mem _ (List.mem_append_left _ (List.mem_append_right _ h))) (by decide +kernel))
set_option maxRecDepth 20000 in
theorem gX10_name_X10_needBelow : GoodIn wsX10_name (va_wsS RX10 68 yX10_needBelow wsX10_needBelow) := goodIn_app (goodIn_of _ (by decide +kernel)) ggX10_name_X10_needBelow
set_option maxRecDepth 20000 in
theorem ggX10_name_X10_needOnline : GoodIn wsX10_name wsX10_needOnline := goodIn_ca (goodIn_r _ [25, 26, 27, 2, 28, 29, 30, 14, 31, 32, 33, 12, 13, 15, 16, 131, 132, 133, 134, 135, 136, 137, 138, 139, 140, 141, 142, 143, 144, 145] (by decide +kernel) (by decide +kernel)) (goodIn_sub (fun _ h => List.mem_cons_of_mem _ (List.mem_append_right _ h)) (by decide +kernel))
set_option maxRecDepth 20000 in
theorem gX10_name_X10_needOnline : GoodIn wsX10_name (wsV RX10 91 RX10 yX10_needOnline wsX10_needOnline) := goodIn_app (goodIn_of _ (by decide +kernel)) ggX10_name_X10_needOnline
set_option maxRecDepth 20000 in
theorem ggX10_name_X7_run : GoodIn wsX10_name wsX7_run := goodIn_r _ [38, 39, 40, 41, 42, 43, 44, 37, 45, 46, 47, 48, 49, 50, 51, 52, 53, 54, 55, 56, 57, 58, 14, 59, 60, 61, 62, 63, 33, 12, 13, 15, 16, 64, 65, 66, 67, 68, 69, 70, 71, 72, 73, 74, 75, 76, 77, 78, 79, 80, 81, 82, 83, 84, 85, 86, 87, 88, 89, 90, 91, 92, 93, 94, 95, 32, 96, 97, 98, 99, 100, 101, 102, 103, 104, 105, 106, 146, 147, 148, 149, 150, 151, 152, 153, 154, 155, 141, 142, 143, 144, 145] (by decide +kernel) (by decide +kernel)
set_option maxRecDepth 20000 in
theorem gX10_name_X7_run : GoodIn wsX10_name (wsV RX10 101 RX7 yX7_run wsX7_run) := goodIn_app (goodIn_of _ (by decide +kernel)) ggX10_name_X7_run
set_option maxRecDepth 20000 in
theorem ggX10_name_X7_result : GoodIn wsX10_name wsX7_result := goodIn_r _ [110, 46, 146, 147, 148, 149, 150, 151, 152] (by decide +kernel) (by decide +kernel)
set_option maxRecDepth 20000 in
theorem gX10_name_X7_result : GoodIn wsX10_name (wsV RX10 125 RX7 yX7_result wsX7_result) := goodIn_app (goodIn_of _ (by decide +kernel)) ggX10_name_X7_result
set_option maxRecDepth 20000 in
theorem ggX10_name_X6_at : GoodIn wsX10_name wsX6_at := goodIn_r _ [73, 55, 69, 153, 154, 155] (by decide +kernel) (by decide +kernel)
set_option maxRecDepth 20000 in
theorem gX10_name_X6_at : GoodIn wsX10_name (wsV RX10 240 RX6 yX6_at wsX6_at) := goodIn_app (goodIn_of _ (by decide +kernel)) ggX10_name_X6_at
set_option maxRecDepth 20000 in
theorem ggX10_name_X5_isHonest : GoodIn wsX10_name wsX5_isHonest := goodIn_r _ [115, 61, 33, 12, 13, 14, 15, 16, 141, 142, 143, 144, 145] (by decide +kernel) (by decide +kernel)
set_option maxRecDepth 20000 in
theorem gX10_name_X5_isHonest : GoodIn wsX10_name (wsV RX10 243 RX5 yX5_isHonest wsX5_isHonest) := goodIn_app (goodIn_of _ (by decide +kernel)) ggX10_name_X5_isHonest
set_option maxRecDepth 20000 in
theorem ggX10_name_X4_keptBy : GoodIn wsX10_name wsX4_keptBy := goodIn_r _ [120, 121, 122, 123, 119, 124, 125, 126, 127, 156, 157] (by decide +kernel) (by decide +kernel)
set_option maxRecDepth 20000 in
theorem gX10_name_X4_keptBy : GoodIn wsX10_name (wsV RX10 250 RX4 yX4_keptBy wsX4_keptBy) := goodIn_app (goodIn_of _ (by decide +kernel)) ggX10_name_X4_keptBy
set_option maxRecDepth 20000 in
theorem ggX10_name_X4_isNewer : GoodIn wsX10_name wsX4_isNewer := goodIn_r _ [130] (by decide +kernel) (by decide +kernel)
set_option maxRecDepth 20000 in
theorem gX10_name_X4_isNewer : GoodIn wsX10_name (va_wsS RX10 253 yX4_isNewer wsX4_isNewer) := goodIn_app (goodIn_of _ (by decide +kernel)) ggX10_name_X4_isNewer
theorem dX10_name_0 : decode cX10_name 0 = .ok (.aload_n 0, 1) := by decide +kernel
theorem dX10_name_1 : decode cX10_name 1 = .ok (.iload_n 1, 1) := by decide +kernel
theorem dX10_name_2 : decode cX10_name 2 = .ok (.invokevirtual 72, 3) := by decide +kernel
theorem dX10_name_5 : decode cX10_name 5 = .ok (.iload_n 2, 1) := by decide +kernel
theorem dX10_name_6 : decode cX10_name 6 = .ok (.sipush 256, 3) := by decide +kernel
theorem dX10_name_9 : decode cX10_name 9 = .ok (.invokestatic 68, 3) := by decide +kernel
theorem dX10_name_12 : decode cX10_name 12 = .ok (.aload_n 0, 1) := by decide +kernel
theorem dX10_name_13 : decode cX10_name 13 = .ok (.iload_n 1, 1) := by decide +kernel
theorem dX10_name_14 : decode cX10_name 14 = .ok (.invokevirtual 91, 3) := by decide +kernel
theorem dX10_name_17 : decode cX10_name 17 = .ok (.aload_n 0, 1) := by decide +kernel
theorem dX10_name_18 : decode cX10_name 18 = .ok (.getfield 24, 3) := by decide +kernel
theorem dX10_name_21 : decode cX10_name 21 = .ok (.iload_n 1, 1) := by decide +kernel
theorem dX10_name_22 : decode cX10_name 22 = .ok (.iload_n 2, 1) := by decide +kernel
theorem dX10_name_23 : decode cX10_name 23 = .ok (.iconst 2, 1) := by decide +kernel
theorem dX10_name_24 : decode cX10_name 24 = .ok (.invokevirtual 101, 3) := by decide +kernel
theorem dX10_name_27 : decode cX10_name 27 = .ok (.iconst (-1), 1) := by decide +kernel
theorem dX10_name_28 : decode cX10_name 28 = .ok (.istore_n 3, 1) := by decide +kernel
theorem dX10_name_29 : decode cX10_name 29 = .ok (.iconst 0, 1) := by decide +kernel
theorem dX10_name_30 : decode cX10_name 30 = .ok (.istore 4, 2) := by decide +kernel
theorem dX10_name_32 : decode cX10_name 32 = .ok (.iload 4, 2) := by decide +kernel
theorem dX10_name_34 : decode cX10_name 34 = .ok (.iconst 3, 1) := by decide +kernel
theorem dX10_name_35 : decode cX10_name 35 = .ok (.if_icmp .ge 63, 3) := by decide +kernel
theorem dX10_name_38 : decode cX10_name 38 = .ok (.aload_n 0, 1) := by decide +kernel
theorem dX10_name_39 : decode cX10_name 39 = .ok (.getfield 24, 3) := by decide +kernel
theorem dX10_name_42 : decode cX10_name 42 = .ok (.invokevirtual 125, 3) := by decide +kernel
theorem dX10_name_45 : decode cX10_name 45 = .ok (.iload 4, 2) := by decide +kernel
theorem dX10_name_47 : decode cX10_name 47 = .ok (.invokevirtual 240, 3) := by decide +kernel
theorem dX10_name_50 : decode cX10_name 50 = .ok (.istore 5, 2) := by decide +kernel
theorem dX10_name_52 : decode cX10_name 52 = .ok (.aload_n 0, 1) := by decide +kernel
theorem dX10_name_53 : decode cX10_name 53 = .ok (.getfield 20, 3) := by decide +kernel
theorem dX10_name_56 : decode cX10_name 56 = .ok (.iload 5, 2) := by decide +kernel
theorem dX10_name_58 : decode cX10_name 58 = .ok (.invokevirtual 243, 3) := by decide +kernel
theorem dX10_name_61 : decode cX10_name 61 = .ok (.ifCond .eq 16, 3) := by decide +kernel
theorem dX10_name_64 : decode cX10_name 64 = .ok (.aload_n 0, 1) := by decide +kernel
theorem dX10_name_65 : decode cX10_name 65 = .ok (.getfield 57, 3) := by decide +kernel
theorem dX10_name_68 : decode cX10_name 68 = .ok (.iload 5, 2) := by decide +kernel
theorem dX10_name_70 : decode cX10_name 70 = .ok (.iload_n 2, 1) := by decide +kernel
theorem dX10_name_71 : decode cX10_name 71 = .ok (.invokevirtual 250, 3) := by decide +kernel
theorem dX10_name_74 : decode cX10_name 74 = .ok (.goto 4, 3) := by decide +kernel
theorem dX10_name_77 : decode cX10_name 77 = .ok (.iconst (-1), 1) := by decide +kernel
theorem dX10_name_78 : decode cX10_name 78 = .ok (.istore 6, 2) := by decide +kernel
theorem dX10_name_80 : decode cX10_name 80 = .ok (.iload 6, 2) := by decide +kernel
theorem dX10_name_82 : decode cX10_name 82 = .ok (.iload_n 3, 1) := by decide +kernel
theorem dX10_name_83 : decode cX10_name 83 = .ok (.invokestatic 253, 3) := by decide +kernel
theorem dX10_name_86 : decode cX10_name 86 = .ok (.ifCond .eq 6, 3) := by decide +kernel
theorem dX10_name_89 : decode cX10_name 89 = .ok (.iload 6, 2) := by decide +kernel
theorem dX10_name_91 : decode cX10_name 91 = .ok (.istore_n 3, 1) := by decide +kernel
theorem dX10_name_92 : decode cX10_name 92 = .ok (.iinc 4 1, 3) := by decide +kernel
theorem dX10_name_95 : decode cX10_name 95 = .ok (.goto (-63), 3) := by decide +kernel
theorem dX10_name_98 : decode cX10_name 98 = .ok (.iload_n 3, 1) := by decide +kernel
theorem dX10_name_99 : decode cX10_name 99 = .ok (.ireturn, 1) := by decide +kernel
set_option maxRecDepth 20000 in
theorem ggX10_spread_X10_needPeer : GoodIn wsX10_spread wsX10_needPeer := goodIn_ca (goodIn_r _ [6, 7, 8, 9, 10, 11, 12, 13, 14, 15, 58, 59, 60, 61, 62, 63, 64, 65, 66, 67, 68, 69, 70, 71, 72] (by decide +kernel) (by decide +kernel)) (goodIn_sub (fun _ h => List.mem_cons_of_mem _ (List.mem_append_left _ (List.mem_append_right _ h))) (by decide +kernel))
set_option maxRecDepth 20000 in
theorem gX10_spread_X10_needPeer : GoodIn wsX10_spread (wsV RX10 72 RX10 yX10_needPeer wsX10_needPeer) := goodIn_app (goodIn_of _ (by decide +kernel)) ggX10_spread_X10_needPeer
set_option maxRecDepth 20000 in
theorem ggX10_spread_X10_needOnline : GoodIn wsX10_spread wsX10_needOnline := goodIn_ca (goodIn_r _ [19, 20, 21, 9, 22, 23, 24, 13, 25, 26, 27, 11, 12, 14, 15, 58, 59, 60, 61, 62, 63, 64, 65, 66, 67, 68, 69, 70, 71, 72] (by decide +kernel) (by decide +kernel)) (goodIn_sub (fun _ h => List.mem_cons_of_mem _ (List.mem_append_right _ h)) (by decide +kernel))
set_option maxRecDepth 20000 in
theorem gX10_spread_X10_needOnline : GoodIn wsX10_spread (wsV RX10 91 RX10 yX10_needOnline wsX10_needOnline) := goodIn_app (goodIn_of _ (by decide +kernel)) ggX10_spread_X10_needOnline
set_option maxRecDepth 20000 in
theorem ggX10_spread_X3_run : GoodIn wsX10_spread wsX3_run := goodIn_r _ [32, 33, 34, 35, 36, 37, 31, 38, 39, 40, 41, 42, 13, 43, 44, 27, 11, 12, 14, 15, 45, 46, 47, 48, 49, 50, 51, 52, 53, 54, 55, 56, 57, 26, 73, 74, 75, 68, 69, 70, 71, 72] (by decide +kernel) (by decide +kernel)
set_option maxRecDepth 20000 in
theorem gX10_spread_X3_run : GoodIn wsX10_spread (wsV RX10 256 RX3 yX3_run wsX3_run) := goodIn_app (goodIn_of _ (by decide +kernel)) ggX10_spread_X3_run
theorem dX10_spread_0 : decode cX10_spread 0 = .ok (.aload_n 0, 1) := by decide +kernel
theorem dX10_spread_1 : decode cX10_spread 1 = .ok (.iload_n 1, 1) := by decide +kernel
theorem dX10_spread_2 : decode cX10_spread 2 = .ok (.invokevirtual 72, 3) := by decide +kernel
theorem dX10_spread_5 : decode cX10_spread 5 = .ok (.aload_n 0, 1) := by decide +kernel
theorem dX10_spread_6 : decode cX10_spread 6 = .ok (.iload_n 1, 1) := by decide +kernel
theorem dX10_spread_7 : decode cX10_spread 7 = .ok (.invokevirtual 91, 3) := by decide +kernel
theorem dX10_spread_10 : decode cX10_spread 10 = .ok (.aload_n 0, 1) := by decide +kernel
theorem dX10_spread_11 : decode cX10_spread 11 = .ok (.getfield 64, 3) := by decide +kernel
theorem dX10_spread_14 : decode cX10_spread 14 = .ok (.iload_n 1, 1) := by decide +kernel
theorem dX10_spread_15 : decode cX10_spread 15 = .ok (.invokevirtual 256, 3) := by decide +kernel
theorem dX10_spread_18 : decode cX10_spread 18 = .ok (.ireturn, 1) := by decide +kernel
set_option maxRecDepth 20000 in
theorem ggX10_rounds_X3_roundCount : GoodIn wsX10_rounds wsX3_roundCount := goodIn_r _ [6, 7, 18, 19, 20] (by decide +kernel) (by decide +kernel)
set_option maxRecDepth 20000 in
theorem gX10_rounds_X3_roundCount : GoodIn wsX10_rounds (wsV RX10 258 RX3 yX3_roundCount wsX3_roundCount) := goodIn_app (goodIn_of _ (by decide +kernel)) ggX10_rounds_X3_roundCount
theorem dX10_rounds_0 : decode cX10_rounds 0 = .ok (.aload_n 0, 1) := by decide +kernel
theorem dX10_rounds_1 : decode cX10_rounds 1 = .ok (.getfield 64, 3) := by decide +kernel
theorem dX10_rounds_4 : decode cX10_rounds 4 = .ok (.invokevirtual 258, 3) := by decide +kernel
theorem dX10_rounds_7 : decode cX10_rounds 7 = .ok (.ireturn, 1) := by decide +kernel
set_option maxRecDepth 20000 in
theorem ggX10_owes_X10_needPeer : GoodIn wsX10_owes wsX10_needPeer := goodIn_ca (goodIn_r _ [6, 7, 8, 9, 10, 11, 12, 13, 14, 15, 25, 26, 27, 28, 29, 30, 31, 32, 33, 34, 35, 36, 37, 38, 39] (by decide +kernel) (by decide +kernel)) (goodIn_sub (fun _ h => List.mem_cons_of_mem _ (List.mem_append_right _ h)) (by decide +kernel))
set_option maxRecDepth 20000 in
theorem gX10_owes_X10_needPeer : GoodIn wsX10_owes (wsV RX10 72 RX10 yX10_needPeer wsX10_needPeer) := goodIn_app (goodIn_of _ (by decide +kernel)) ggX10_owes_X10_needPeer
set_option maxRecDepth 20000 in
theorem ggX10_owes_X2_debt : GoodIn wsX10_owes wsX2_debt := goodIn_r _ [20, 21, 22, 23, 19, 24, 40] (by decide +kernel) (by decide +kernel)
set_option maxRecDepth 20000 in
theorem gX10_owes_X2_debt : GoodIn wsX10_owes (wsV RX10 261 RX2 yX2_debt wsX2_debt) := goodIn_app (goodIn_of _ (by decide +kernel)) ggX10_owes_X2_debt
theorem dX10_owes_0 : decode cX10_owes 0 = .ok (.aload_n 0, 1) := by decide +kernel
theorem dX10_owes_1 : decode cX10_owes 1 = .ok (.iload_n 1, 1) := by decide +kernel
theorem dX10_owes_2 : decode cX10_owes 2 = .ok (.invokevirtual 72, 3) := by decide +kernel
theorem dX10_owes_5 : decode cX10_owes 5 = .ok (.aload_n 0, 1) := by decide +kernel
theorem dX10_owes_6 : decode cX10_owes 6 = .ok (.iload_n 2, 1) := by decide +kernel
theorem dX10_owes_7 : decode cX10_owes 7 = .ok (.invokevirtual 72, 3) := by decide +kernel
theorem dX10_owes_10 : decode cX10_owes 10 = .ok (.aload_n 0, 1) := by decide +kernel
theorem dX10_owes_11 : decode cX10_owes 11 = .ok (.getfield 28, 3) := by decide +kernel
theorem dX10_owes_14 : decode cX10_owes 14 = .ok (.iload_n 1, 1) := by decide +kernel
theorem dX10_owes_15 : decode cX10_owes 15 = .ok (.iload_n 2, 1) := by decide +kernel
theorem dX10_owes_16 : decode cX10_owes 16 = .ok (.invokevirtual 261, 3) := by decide +kernel
theorem dX10_owes_19 : decode cX10_owes 19 = .ok (.ireturn, 1) := by decide +kernel
set_option maxRecDepth 20000 in
theorem ggX10_net_X2_lessenRings : GoodIn wsX10_net wsX2_lessenRings := goodIn_r _ [6, 7, 8, 9, 5, 10, 11, 12, 13, 14, 15, 16, 17, 18, 19, 20, 21, 22, 23, 24, 25, 26, 27, 28, 29, 30, 41] (by decide +kernel) (by decide +kernel)
set_option maxRecDepth 20000 in
theorem gX10_net_X2_lessenRings : GoodIn wsX10_net (wsV RX10 264 RX2 yX2_lessenRings wsX2_lessenRings) := goodIn_app (goodIn_of _ (by decide +kernel)) ggX10_net_X2_lessenRings
theorem dX10_net_0 : decode cX10_net 0 = .ok (.aload_n 0, 1) := by decide +kernel
theorem dX10_net_1 : decode cX10_net 1 = .ok (.getfield 28, 3) := by decide +kernel
theorem dX10_net_4 : decode cX10_net 4 = .ok (.invokevirtual 264, 3) := by decide +kernel
theorem dX10_net_7 : decode cX10_net 7 = .ok (.ireturn, 1) := by decide +kernel
set_option maxRecDepth 20000 in
theorem ggX10_worth_X10_needPeer : GoodIn wsX10_worth wsX10_needPeer := goodIn_ca (goodIn_r _ [6, 7, 8, 9, 10, 11, 12, 13, 14, 15, 29, 30, 31, 32, 33, 34, 35, 36, 37, 38, 39, 40, 41, 42, 43] (by decide +kernel) (by decide +kernel)) (goodIn_sub (fun _ h => List.mem_cons_of_mem _ (List.mem_append_right _ h)) (by decide +kernel))
set_option maxRecDepth 20000 in
theorem gX10_worth_X10_needPeer : GoodIn wsX10_worth (wsV RX10 72 RX10 yX10_needPeer wsX10_needPeer) := goodIn_app (goodIn_of _ (by decide +kernel)) ggX10_worth_X10_needPeer
set_option maxRecDepth 20000 in
theorem ggX10_worth_X2_balance : GoodIn wsX10_worth wsX2_balance := goodIn_r _ [20, 21, 22, 23, 19, 24, 25, 26, 27, 28, 44] (by decide +kernel) (by decide +kernel)
set_option maxRecDepth 20000 in
theorem gX10_worth_X2_balance : GoodIn wsX10_worth (wsV RX10 267 RX2 yX2_balance wsX2_balance) := goodIn_app (goodIn_of _ (by decide +kernel)) ggX10_worth_X2_balance
theorem dX10_worth_0 : decode cX10_worth 0 = .ok (.aload_n 0, 1) := by decide +kernel
theorem dX10_worth_1 : decode cX10_worth 1 = .ok (.iload_n 1, 1) := by decide +kernel
theorem dX10_worth_2 : decode cX10_worth 2 = .ok (.invokevirtual 72, 3) := by decide +kernel
theorem dX10_worth_5 : decode cX10_worth 5 = .ok (.aload_n 0, 1) := by decide +kernel
theorem dX10_worth_6 : decode cX10_worth 6 = .ok (.getfield 28, 3) := by decide +kernel
theorem dX10_worth_9 : decode cX10_worth 9 = .ok (.iload_n 1, 1) := by decide +kernel
theorem dX10_worth_10 : decode cX10_worth 10 = .ok (.invokevirtual 267, 3) := by decide +kernel
theorem dX10_worth_13 : decode cX10_worth 13 = .ok (.ireturn, 1) := by decide +kernel
theorem dX10_needBelow_0 : decode cX10_needBelow 0 = .ok (.iload_n 0, 1) := by decide +kernel
theorem dX10_needBelow_1 : decode cX10_needBelow 1 = .ok (.ifCond .lt 8, 3) := by decide +kernel
theorem dX10_needBelow_4 : decode cX10_needBelow 4 = .ok (.iload_n 0, 1) := by decide +kernel
theorem dX10_needBelow_5 : decode cX10_needBelow 5 = .ok (.iload_n 1, 1) := by decide +kernel
theorem dX10_needBelow_6 : decode cX10_needBelow 6 = .ok (.if_icmp .lt 14, 3) := by decide +kernel
theorem dX10_needBelow_9 : decode cX10_needBelow 9 = .ok (.new 120, 3) := by decide +kernel
theorem dX10_needBelow_12 : decode cX10_needBelow 12 = .ok (.dup, 1) := by decide +kernel
theorem dX10_needBelow_13 : decode cX10_needBelow 13 = .ok (.ldc_w 270, 3) := by decide +kernel
theorem dX10_needBelow_16 : decode cX10_needBelow 16 = .ok (.invokespecial 124, 3) := by decide +kernel
theorem dX10_needBelow_19 : decode cX10_needBelow 19 = .ok (.athrow, 1) := by decide +kernel
theorem dX10_needBelow_20 : decode cX10_needBelow 20 = .ok (.return_, 1) := by decide +kernel
set_option maxRecDepth 20000 in
theorem ggX10_needPeer_X5_has : GoodIn wsX10_needPeer wsX5_has := goodIn_r _ [8, 9, 20, 21, 22, 23, 24] (by decide +kernel) (by decide +kernel)
set_option maxRecDepth 20000 in
theorem gX10_needPeer_X5_has : GoodIn wsX10_needPeer (wsV RX10 272 RX5 yX5_has wsX5_has) := goodIn_app (goodIn_of _ (by decide +kernel)) ggX10_needPeer_X5_has
theorem dX10_needPeer_0 : decode cX10_needPeer 0 = .ok (.aload_n 0, 1) := by decide +kernel
theorem dX10_needPeer_1 : decode cX10_needPeer 1 = .ok (.getfield 20, 3) := by decide +kernel
theorem dX10_needPeer_4 : decode cX10_needPeer 4 = .ok (.iload_n 1, 1) := by decide +kernel
theorem dX10_needPeer_5 : decode cX10_needPeer 5 = .ok (.invokevirtual 272, 3) := by decide +kernel
theorem dX10_needPeer_8 : decode cX10_needPeer 8 = .ok (.ifCond .ne 14, 3) := by decide +kernel
theorem dX10_needPeer_11 : decode cX10_needPeer 11 = .ok (.new 112, 3) := by decide +kernel
theorem dX10_needPeer_14 : decode cX10_needPeer 14 = .ok (.dup, 1) := by decide +kernel
theorem dX10_needPeer_15 : decode cX10_needPeer 15 = .ok (.ldc_w 275, 3) := by decide +kernel
theorem dX10_needPeer_18 : decode cX10_needPeer 18 = .ok (.invokespecial 116, 3) := by decide +kernel
theorem dX10_needPeer_21 : decode cX10_needPeer 21 = .ok (.athrow, 1) := by decide +kernel
theorem dX10_needPeer_22 : decode cX10_needPeer 22 = .ok (.return_, 1) := by decide +kernel
set_option maxRecDepth 20000 in
theorem ggX10_needOnline_X5_isOnline : GoodIn wsX10_needOnline wsX5_isOnline := goodIn_r _ [8, 9, 10, 11, 12, 7, 13, 14, 25, 26, 27, 28, 29] (by decide +kernel) (by decide +kernel)
set_option maxRecDepth 20000 in
theorem gX10_needOnline_X5_isOnline : GoodIn wsX10_needOnline (wsV RX10 105 RX5 yX5_isOnline wsX5_isOnline) := goodIn_app (goodIn_of _ (by decide +kernel)) ggX10_needOnline_X5_isOnline
theorem dX10_needOnline_0 : decode cX10_needOnline 0 = .ok (.aload_n 0, 1) := by decide +kernel
theorem dX10_needOnline_1 : decode cX10_needOnline 1 = .ok (.getfield 20, 3) := by decide +kernel
theorem dX10_needOnline_4 : decode cX10_needOnline 4 = .ok (.iload_n 1, 1) := by decide +kernel
theorem dX10_needOnline_5 : decode cX10_needOnline 5 = .ok (.invokevirtual 105, 3) := by decide +kernel
theorem dX10_needOnline_8 : decode cX10_needOnline 8 = .ok (.ifCond .ne 14, 3) := by decide +kernel
theorem dX10_needOnline_11 : decode cX10_needOnline 11 = .ok (.new 84, 3) := by decide +kernel
theorem dX10_needOnline_14 : decode cX10_needOnline 14 = .ok (.dup, 1) := by decide +kernel
theorem dX10_needOnline_15 : decode cX10_needOnline 15 = .ok (.ldc_w 277, 3) := by decide +kernel
theorem dX10_needOnline_18 : decode cX10_needOnline 18 = .ok (.invokespecial 88, 3) := by decide +kernel
theorem dX10_needOnline_21 : decode cX10_needOnline 21 = .ok (.athrow, 1) := by decide +kernel
theorem dX10_needOnline_22 : decode cX10_needOnline 22 = .ok (.return_, 1) := by decide +kernel
theorem dX10_needPiece_0 : decode cX10_needPiece 0 = .ok (.iload_n 0, 1) := by decide +kernel
theorem dX10_needPiece_1 : decode cX10_needPiece 1 = .ok (.ifCond .lt 9, 3) := by decide +kernel
theorem dX10_needPiece_4 : decode cX10_needPiece 4 = .ok (.iload_n 0, 1) := by decide +kernel
theorem dX10_needPiece_5 : decode cX10_needPiece 5 = .ok (.bipush 6, 2) := by decide +kernel
theorem dX10_needPiece_7 : decode cX10_needPiece 7 = .ok (.if_icmp .lt 14, 3) := by decide +kernel
theorem dX10_needPiece_10 : decode cX10_needPiece 10 = .ok (.new 112, 3) := by decide +kernel
theorem dX10_needPiece_13 : decode cX10_needPiece 13 = .ok (.dup, 1) := by decide +kernel
theorem dX10_needPiece_14 : decode cX10_needPiece 14 = .ok (.ldc_w 279, 3) := by decide +kernel
theorem dX10_needPiece_17 : decode cX10_needPiece 17 = .ok (.invokespecial 116, 3) := by decide +kernel
theorem dX10_needPiece_20 : decode cX10_needPiece 20 = .ok (.athrow, 1) := by decide +kernel
theorem dX10_needPiece_21 : decode cX10_needPiece 21 = .ok (.return_, 1) := by decide +kernel
theorem dX10_fileAt_0 : decode cX10_fileAt 0 = .ok (.iload_n 1, 1) := by decide +kernel
theorem dX10_fileAt_1 : decode cX10_fileAt 1 = .ok (.ifCond .lt 21, 3) := by decide +kernel
theorem dX10_fileAt_4 : decode cX10_fileAt 4 = .ok (.iload_n 1, 1) := by decide +kernel
theorem dX10_fileAt_5 : decode cX10_fileAt 5 = .ok (.aload_n 0, 1) := by decide +kernel
theorem dX10_fileAt_6 : decode cX10_fileAt 6 = .ok (.getfield 41, 3) := by decide +kernel
theorem dX10_fileAt_9 : decode cX10_fileAt 9 = .ok (.arraylength, 1) := by decide +kernel
theorem dX10_fileAt_10 : decode cX10_fileAt 10 = .ok (.if_icmp .ge 12, 3) := by decide +kernel
theorem dX10_fileAt_13 : decode cX10_fileAt 13 = .ok (.aload_n 0, 1) := by decide +kernel
theorem dX10_fileAt_14 : decode cX10_fileAt 14 = .ok (.getfield 41, 3) := by decide +kernel
theorem dX10_fileAt_17 : decode cX10_fileAt 17 = .ok (.iload_n 1, 1) := by decide +kernel
theorem dX10_fileAt_18 : decode cX10_fileAt 18 = .ok (.aaload, 1) := by decide +kernel
theorem dX10_fileAt_19 : decode cX10_fileAt 19 = .ok (.goto 4, 3) := by decide +kernel
theorem dX10_fileAt_22 : decode cX10_fileAt 22 = .ok (.aconst_null, 1) := by decide +kernel
theorem dX10_fileAt_23 : decode cX10_fileAt 23 = .ok (.astore_n 2, 1) := by decide +kernel
theorem dX10_fileAt_24 : decode cX10_fileAt 24 = .ok (.aload_n 2, 1) := by decide +kernel
theorem dX10_fileAt_25 : decode cX10_fileAt 25 = .ok (.ifnonnull 14, 3) := by decide +kernel
theorem dX10_fileAt_28 : decode cX10_fileAt 28 = .ok (.new 112, 3) := by decide +kernel
theorem dX10_fileAt_31 : decode cX10_fileAt 31 = .ok (.dup, 1) := by decide +kernel
theorem dX10_fileAt_32 : decode cX10_fileAt 32 = .ok (.ldc_w 281, 3) := by decide +kernel
theorem dX10_fileAt_35 : decode cX10_fileAt 35 = .ok (.invokespecial 116, 3) := by decide +kernel
theorem dX10_fileAt_38 : decode cX10_fileAt 38 = .ok (.athrow, 1) := by decide +kernel
theorem dX10_fileAt_39 : decode cX10_fileAt 39 = .ok (.aload_n 2, 1) := by decide +kernel
theorem dX10_fileAt_40 : decode cX10_fileAt 40 = .ok (.areturn, 1) := by decide +kernel
theorem dX11_init_0 : decode cX11_init 0 = .ok (.aload_n 0, 1) := by decide +kernel
theorem dX11_init_1 : decode cX11_init 1 = .ok (.invokespecial 1, 3) := by decide +kernel
theorem dX11_init_4 : decode cX11_init 4 = .ok (.aload_n 0, 1) := by decide +kernel
theorem dX11_init_5 : decode cX11_init 5 = .ok (.bipush 16, 2) := by decide +kernel
theorem dX11_init_7 : decode cX11_init 7 = .ok (.newarray .int, 2) := by decide +kernel
theorem dX11_init_9 : decode cX11_init 9 = .ok (.putfield 7, 3) := by decide +kernel
theorem dX11_init_12 : decode cX11_init 12 = .ok (.aload_n 0, 1) := by decide +kernel
theorem dX11_init_13 : decode cX11_init 13 = .ok (.bipush 16, 2) := by decide +kernel
theorem dX11_init_15 : decode cX11_init 15 = .ok (.newarray .int, 2) := by decide +kernel
theorem dX11_init_17 : decode cX11_init 17 = .ok (.putfield 13, 3) := by decide +kernel
theorem dX11_init_20 : decode cX11_init 20 = .ok (.aload_n 0, 1) := by decide +kernel
theorem dX11_init_21 : decode cX11_init 21 = .ok (.bipush 16, 2) := by decide +kernel
theorem dX11_init_23 : decode cX11_init 23 = .ok (.newarray .boolean, 2) := by decide +kernel
theorem dX11_init_25 : decode cX11_init 25 = .ok (.putfield 16, 3) := by decide +kernel
theorem dX11_init_28 : decode cX11_init 28 = .ok (.aload_n 0, 1) := by decide +kernel
theorem dX11_init_29 : decode cX11_init 29 = .ok (.sipush 256, 3) := by decide +kernel
theorem dX11_init_32 : decode cX11_init 32 = .ok (.newarray .int, 2) := by decide +kernel
theorem dX11_init_34 : decode cX11_init 34 = .ok (.putfield 20, 3) := by decide +kernel
theorem dX11_init_37 : decode cX11_init 37 = .ok (.aload_n 0, 1) := by decide +kernel
theorem dX11_init_38 : decode cX11_init 38 = .ok (.sipush 128, 3) := by decide +kernel
theorem dX11_init_41 : decode cX11_init 41 = .ok (.newarray .int, 2) := by decide +kernel
theorem dX11_init_43 : decode cX11_init 43 = .ok (.putfield 23, 3) := by decide +kernel
theorem dX11_init_46 : decode cX11_init 46 = .ok (.aload_n 0, 1) := by decide +kernel
theorem dX11_init_47 : decode cX11_init 47 = .ok (.bipush 32, 2) := by decide +kernel
theorem dX11_init_49 : decode cX11_init 49 = .ok (.newarray .boolean, 2) := by decide +kernel
theorem dX11_init_51 : decode cX11_init 51 = .ok (.putfield 26, 3) := by decide +kernel
theorem dX11_init_54 : decode cX11_init 54 = .ok (.aload_n 0, 1) := by decide +kernel
theorem dX11_init_55 : decode cX11_init 55 = .ok (.bipush 16, 2) := by decide +kernel
theorem dX11_init_57 : decode cX11_init 57 = .ok (.newarray .boolean, 2) := by decide +kernel
theorem dX11_init_59 : decode cX11_init 59 = .ok (.putfield 29, 3) := by decide +kernel
theorem dX11_init_62 : decode cX11_init 62 = .ok (.aload_n 0, 1) := by decide +kernel
theorem dX11_init_63 : decode cX11_init 63 = .ok (.bipush 16, 2) := by decide +kernel
theorem dX11_init_65 : decode cX11_init 65 = .ok (.newarray .boolean, 2) := by decide +kernel
theorem dX11_init_67 : decode cX11_init 67 = .ok (.putfield 32, 3) := by decide +kernel
theorem dX11_init_70 : decode cX11_init 70 = .ok (.aload_n 0, 1) := by decide +kernel
theorem dX11_init_71 : decode cX11_init 71 = .ok (.iconst 3, 1) := by decide +kernel
theorem dX11_init_72 : decode cX11_init 72 = .ok (.newarray .int, 2) := by decide +kernel
theorem dX11_init_74 : decode cX11_init 74 = .ok (.putfield 35, 3) := by decide +kernel
theorem dX11_init_77 : decode cX11_init 77 = .ok (.aload_n 0, 1) := by decide +kernel
theorem dX11_init_78 : decode cX11_init 78 = .ok (.iconst 3, 1) := by decide +kernel
theorem dX11_init_79 : decode cX11_init 79 = .ok (.newarray .int, 2) := by decide +kernel
theorem dX11_init_81 : decode cX11_init 81 = .ok (.putfield 38, 3) := by decide +kernel
theorem dX11_init_84 : decode cX11_init 84 = .ok (.aload_n 0, 1) := by decide +kernel
theorem dX11_init_85 : decode cX11_init 85 = .ok (.bipush 12, 2) := by decide +kernel
theorem dX11_init_87 : decode cX11_init 87 = .ok (.newarray .int, 2) := by decide +kernel
theorem dX11_init_89 : decode cX11_init 89 = .ok (.putfield 41, 3) := by decide +kernel
theorem dX11_init_92 : decode cX11_init 92 = .ok (.aload_n 0, 1) := by decide +kernel
theorem dX11_init_93 : decode cX11_init 93 = .ok (.bipush 72, 2) := by decide +kernel
theorem dX11_init_95 : decode cX11_init 95 = .ok (.newarray .int, 2) := by decide +kernel
theorem dX11_init_97 : decode cX11_init 97 = .ok (.putfield 44, 3) := by decide +kernel
theorem dX11_init_100 : decode cX11_init 100 = .ok (.aload_n 0, 1) := by decide +kernel
theorem dX11_init_101 : decode cX11_init 101 = .ok (.bipush 72, 2) := by decide +kernel
theorem dX11_init_103 : decode cX11_init 103 = .ok (.newarray .int, 2) := by decide +kernel
theorem dX11_init_105 : decode cX11_init 105 = .ok (.putfield 47, 3) := by decide +kernel
theorem dX11_init_108 : decode cX11_init 108 = .ok (.aload_n 0, 1) := by decide +kernel
theorem dX11_init_109 : decode cX11_init 109 = .ok (.bipush 72, 2) := by decide +kernel
theorem dX11_init_111 : decode cX11_init 111 = .ok (.newarray .boolean, 2) := by decide +kernel
theorem dX11_init_113 : decode cX11_init 113 = .ok (.putfield 50, 3) := by decide +kernel
theorem dX11_init_116 : decode cX11_init 116 = .ok (.aload_n 0, 1) := by decide +kernel
theorem dX11_init_117 : decode cX11_init 117 = .ok (.bipush 72, 2) := by decide +kernel
theorem dX11_init_119 : decode cX11_init 119 = .ok (.newarray .int, 2) := by decide +kernel
theorem dX11_init_121 : decode cX11_init 121 = .ok (.putfield 53, 3) := by decide +kernel
theorem dX11_init_124 : decode cX11_init 124 = .ok (.aload_n 0, 1) := by decide +kernel
theorem dX11_init_125 : decode cX11_init 125 = .ok (.bipush 16, 2) := by decide +kernel
theorem dX11_init_127 : decode cX11_init 127 = .ok (.newarray .int, 2) := by decide +kernel
theorem dX11_init_129 : decode cX11_init 129 = .ok (.putfield 56, 3) := by decide +kernel
theorem dX11_init_132 : decode cX11_init 132 = .ok (.aload_n 0, 1) := by decide +kernel
theorem dX11_init_133 : decode cX11_init 133 = .ok (.sipush 256, 3) := by decide +kernel
theorem dX11_init_136 : decode cX11_init 136 = .ok (.newarray .int, 2) := by decide +kernel
theorem dX11_init_138 : decode cX11_init 138 = .ok (.putfield 59, 3) := by decide +kernel
theorem dX11_init_141 : decode cX11_init 141 = .ok (.aload_n 0, 1) := by decide +kernel
theorem dX11_init_142 : decode cX11_init 142 = .ok (.sipush 4096, 3) := by decide +kernel
theorem dX11_init_145 : decode cX11_init 145 = .ok (.newarray .int, 2) := by decide +kernel
theorem dX11_init_147 : decode cX11_init 147 = .ok (.putfield 62, 3) := by decide +kernel
theorem dX11_init_150 : decode cX11_init 150 = .ok (.aload_n 0, 1) := by decide +kernel
theorem dX11_init_151 : decode cX11_init 151 = .ok (.sipush 4096, 3) := by decide +kernel
theorem dX11_init_154 : decode cX11_init 154 = .ok (.newarray .int, 2) := by decide +kernel
theorem dX11_init_156 : decode cX11_init 156 = .ok (.putfield 65, 3) := by decide +kernel
theorem dX11_init_159 : decode cX11_init 159 = .ok (.aload_n 0, 1) := by decide +kernel
theorem dX11_init_160 : decode cX11_init 160 = .ok (.bipush 16, 2) := by decide +kernel
theorem dX11_init_162 : decode cX11_init 162 = .ok (.newarray .int, 2) := by decide +kernel
theorem dX11_init_164 : decode cX11_init 164 = .ok (.putfield 68, 3) := by decide +kernel
theorem dX11_init_167 : decode cX11_init 167 = .ok (.aload_n 0, 1) := by decide +kernel
theorem dX11_init_168 : decode cX11_init 168 = .ok (.sipush 256, 3) := by decide +kernel
theorem dX11_init_171 : decode cX11_init 171 = .ok (.newarray .int, 2) := by decide +kernel
theorem dX11_init_173 : decode cX11_init 173 = .ok (.putfield 71, 3) := by decide +kernel
theorem dX11_init_176 : decode cX11_init 176 = .ok (.iconst 0, 1) := by decide +kernel
theorem dX11_init_177 : decode cX11_init 177 = .ok (.istore_n 1, 1) := by decide +kernel
theorem dX11_init_178 : decode cX11_init 178 = .ok (.iload_n 1, 1) := by decide +kernel
theorem dX11_init_179 : decode cX11_init 179 = .ok (.sipush 256, 3) := by decide +kernel
theorem dX11_init_182 : decode cX11_init 182 = .ok (.if_icmp .ge 16, 3) := by decide +kernel
theorem dX11_init_185 : decode cX11_init 185 = .ok (.aload_n 0, 1) := by decide +kernel
theorem dX11_init_186 : decode cX11_init 186 = .ok (.getfield 59, 3) := by decide +kernel
theorem dX11_init_189 : decode cX11_init 189 = .ok (.iload_n 1, 1) := by decide +kernel
theorem dX11_init_190 : decode cX11_init 190 = .ok (.iconst (-1), 1) := by decide +kernel
theorem dX11_init_191 : decode cX11_init 191 = .ok (.iastore, 1) := by decide +kernel
theorem dX11_init_192 : decode cX11_init 192 = .ok (.iinc 1 1, 3) := by decide +kernel
theorem dX11_init_195 : decode cX11_init 195 = .ok (.goto (-17), 3) := by decide +kernel
theorem dX11_init_198 : decode cX11_init 198 = .ok (.iconst 0, 1) := by decide +kernel
theorem dX11_init_199 : decode cX11_init 199 = .ok (.istore_n 1, 1) := by decide +kernel
theorem dX11_init_200 : decode cX11_init 200 = .ok (.iload_n 1, 1) := by decide +kernel
theorem dX11_init_201 : decode cX11_init 201 = .ok (.sipush 4096, 3) := by decide +kernel
theorem dX11_init_204 : decode cX11_init 204 = .ok (.if_icmp .ge 16, 3) := by decide +kernel
theorem dX11_init_207 : decode cX11_init 207 = .ok (.aload_n 0, 1) := by decide +kernel
theorem dX11_init_208 : decode cX11_init 208 = .ok (.getfield 62, 3) := by decide +kernel
theorem dX11_init_211 : decode cX11_init 211 = .ok (.iload_n 1, 1) := by decide +kernel
theorem dX11_init_212 : decode cX11_init 212 = .ok (.iconst (-1), 1) := by decide +kernel
theorem dX11_init_213 : decode cX11_init 213 = .ok (.iastore, 1) := by decide +kernel
theorem dX11_init_214 : decode cX11_init 214 = .ok (.iinc 1 1, 3) := by decide +kernel
theorem dX11_init_217 : decode cX11_init 217 = .ok (.goto (-17), 3) := by decide +kernel
theorem dX11_init_220 : decode cX11_init 220 = .ok (.return_, 1) := by decide +kernel
theorem dX11_thrown_0 : decode cX11_thrown 0 = .ok (.aload_n 0, 1) := by decide +kernel
theorem dX11_thrown_1 : decode cX11_thrown 1 = .ok (.getfield 74, 3) := by decide +kernel
theorem dX11_thrown_4 : decode cX11_thrown 4 = .ok (.ireturn, 1) := by decide +kernel
theorem dX11_holds_0 : decode cX11_holds 0 = .ok (.aload_n 0, 1) := by decide +kernel
theorem dX11_holds_1 : decode cX11_holds 1 = .ok (.iload_n 1, 1) := by decide +kernel
theorem dX11_holds_2 : decode cX11_holds 2 = .ok (.putfield 74, 3) := by decide +kernel
theorem dX11_holds_5 : decode cX11_holds 5 = .ok (.iload_n 1, 1) := by decide +kernel
theorem dX11_holds_6 : decode cX11_holds 6 = .ok (.ifCond .ne 7, 3) := by decide +kernel
theorem dX11_holds_9 : decode cX11_holds 9 = .ok (.iconst 1, 1) := by decide +kernel
theorem dX11_holds_10 : decode cX11_holds 10 = .ok (.goto 4, 3) := by decide +kernel
theorem dX11_holds_13 : decode cX11_holds 13 = .ok (.iconst 0, 1) := by decide +kernel
theorem dX11_holds_14 : decode cX11_holds 14 = .ok (.ireturn, 1) := by decide +kernel
theorem dX11_isIn_0 : decode cX11_isIn 0 = .ok (.iload_n 0, 1) := by decide +kernel
theorem dX11_isIn_1 : decode cX11_isIn 1 = .ok (.iload_n 1, 1) := by decide +kernel
theorem dX11_isIn_2 : decode cX11_isIn 2 = .ok (.if_icmp .lt 12, 3) := by decide +kernel
theorem dX11_isIn_5 : decode cX11_isIn 5 = .ok (.iload_n 0, 1) := by decide +kernel
theorem dX11_isIn_6 : decode cX11_isIn 6 = .ok (.iload_n 2, 1) := by decide +kernel
theorem dX11_isIn_7 : decode cX11_isIn 7 = .ok (.if_icmp .gt 7, 3) := by decide +kernel
theorem dX11_isIn_10 : decode cX11_isIn 10 = .ok (.iconst 1, 1) := by decide +kernel
theorem dX11_isIn_11 : decode cX11_isIn 11 = .ok (.goto 4, 3) := by decide +kernel
theorem dX11_isIn_14 : decode cX11_isIn 14 = .ok (.iconst 0, 1) := by decide +kernel
theorem dX11_isIn_15 : decode cX11_isIn 15 = .ok (.ireturn, 1) := by decide +kernel
set_option maxRecDepth 20000 in
theorem ggX11_isPeer_X11_isIn : GoodIn wsX11_isPeer wsX11_isIn := goodIn_r _ [5] (by decide +kernel) (by decide +kernel)
set_option maxRecDepth 20000 in
theorem gX11_isPeer_X11_isIn : GoodIn wsX11_isPeer (va_wsS RX11 81 yX11_isIn wsX11_isIn) := goodIn_app (goodIn_of _ (by decide +kernel)) ggX11_isPeer_X11_isIn
theorem dX11_isPeer_0 : decode cX11_isPeer 0 = .ok (.iload_n 1, 1) := by decide +kernel
theorem dX11_isPeer_1 : decode cX11_isPeer 1 = .ok (.iconst 0, 1) := by decide +kernel
theorem dX11_isPeer_2 : decode cX11_isPeer 2 = .ok (.aload_n 0, 1) := by decide +kernel
theorem dX11_isPeer_3 : decode cX11_isPeer 3 = .ok (.getfield 78, 3) := by decide +kernel
theorem dX11_isPeer_6 : decode cX11_isPeer 6 = .ok (.iconst 1, 1) := by decide +kernel
theorem dX11_isPeer_7 : decode cX11_isPeer 7 = .ok (.isub, 1) := by decide +kernel
theorem dX11_isPeer_8 : decode cX11_isPeer 8 = .ok (.invokestatic 81, 3) := by decide +kernel
theorem dX11_isPeer_11 : decode cX11_isPeer 11 = .ok (.ireturn, 1) := by decide +kernel
set_option maxRecDepth 20000 in
theorem ggX11_isFile_X11_isIn : GoodIn wsX11_isFile wsX11_isIn := goodIn_r _ [5] (by decide +kernel) (by decide +kernel)
set_option maxRecDepth 20000 in
theorem gX11_isFile_X11_isIn : GoodIn wsX11_isFile (va_wsS RX11 81 yX11_isIn wsX11_isIn) := goodIn_app (goodIn_of _ (by decide +kernel)) ggX11_isFile_X11_isIn
theorem dX11_isFile_0 : decode cX11_isFile 0 = .ok (.iload_n 1, 1) := by decide +kernel
theorem dX11_isFile_1 : decode cX11_isFile 1 = .ok (.iconst 0, 1) := by decide +kernel
theorem dX11_isFile_2 : decode cX11_isFile 2 = .ok (.aload_n 0, 1) := by decide +kernel
theorem dX11_isFile_3 : decode cX11_isFile 3 = .ok (.getfield 85, 3) := by decide +kernel
theorem dX11_isFile_6 : decode cX11_isFile 6 = .ok (.iconst 1, 1) := by decide +kernel
theorem dX11_isFile_7 : decode cX11_isFile 7 = .ok (.isub, 1) := by decide +kernel
theorem dX11_isFile_8 : decode cX11_isFile 8 = .ok (.invokestatic 81, 3) := by decide +kernel
theorem dX11_isFile_11 : decode cX11_isFile 11 = .ok (.ireturn, 1) := by decide +kernel
theorem dX11_bucketOf_0 : decode cX11_bucketOf 0 = .ok (.iload_n 0, 1) := by decide +kernel
theorem dX11_bucketOf_1 : decode cX11_bucketOf 1 = .ok (.iload_n 1, 1) := by decide +kernel
theorem dX11_bucketOf_2 : decode cX11_bucketOf 2 = .ok (.ixor, 1) := by decide +kernel
theorem dX11_bucketOf_3 : decode cX11_bucketOf 3 = .ok (.istore_n 2, 1) := by decide +kernel
theorem dX11_bucketOf_4 : decode cX11_bucketOf 4 = .ok (.iconst 0, 1) := by decide +kernel
theorem dX11_bucketOf_5 : decode cX11_bucketOf 5 = .ok (.istore_n 3, 1) := by decide +kernel
theorem dX11_bucketOf_6 : decode cX11_bucketOf 6 = .ok (.iload_n 2, 1) := by decide +kernel
theorem dX11_bucketOf_7 : decode cX11_bucketOf 7 = .ok (.iconst 1, 1) := by decide +kernel
theorem dX11_bucketOf_8 : decode cX11_bucketOf 8 = .ok (.if_icmp .le 13, 3) := by decide +kernel
theorem dX11_bucketOf_11 : decode cX11_bucketOf 11 = .ok (.iload_n 2, 1) := by decide +kernel
theorem dX11_bucketOf_12 : decode cX11_bucketOf 12 = .ok (.iconst 1, 1) := by decide +kernel
theorem dX11_bucketOf_13 : decode cX11_bucketOf 13 = .ok (.ishr, 1) := by decide +kernel
theorem dX11_bucketOf_14 : decode cX11_bucketOf 14 = .ok (.istore_n 2, 1) := by decide +kernel
theorem dX11_bucketOf_15 : decode cX11_bucketOf 15 = .ok (.iinc 3 1, 3) := by decide +kernel
theorem dX11_bucketOf_18 : decode cX11_bucketOf 18 = .ok (.goto (-12), 3) := by decide +kernel
theorem dX11_bucketOf_21 : decode cX11_bucketOf 21 = .ok (.iload_n 3, 1) := by decide +kernel
theorem dX11_bucketOf_22 : decode cX11_bucketOf 22 = .ok (.ireturn, 1) := by decide +kernel
set_option maxRecDepth 20000 in
theorem ggX11_hears_X11_bucketOf : GoodIn wsX11_hears wsX11_bucketOf := goodIn_r _ [8] (by decide +kernel) (by decide +kernel)
set_option maxRecDepth 20000 in
theorem gX11_hears_X11_bucketOf : GoodIn wsX11_hears (va_wsS RX11 88 yX11_bucketOf wsX11_bucketOf) := goodIn_app (goodIn_of _ (by decide +kernel)) ggX11_hears_X11_bucketOf
theorem dX11_hears_0 : decode cX11_hears 0 = .ok (.bipush 8, 2) := by decide +kernel
theorem dX11_hears_2 : decode cX11_hears 2 = .ok (.iload_n 1, 1) := by decide +kernel
theorem dX11_hears_3 : decode cX11_hears 3 = .ok (.imul, 1) := by decide +kernel
theorem dX11_hears_4 : decode cX11_hears 4 = .ok (.aload_n 0, 1) := by decide +kernel
theorem dX11_hears_5 : decode cX11_hears 5 = .ok (.getfield 7, 3) := by decide +kernel
theorem dX11_hears_8 : decode cX11_hears 8 = .ok (.iload_n 1, 1) := by decide +kernel
theorem dX11_hears_9 : decode cX11_hears 9 = .ok (.iaload, 1) := by decide +kernel
theorem dX11_hears_10 : decode cX11_hears 10 = .ok (.aload_n 0, 1) := by decide +kernel
theorem dX11_hears_11 : decode cX11_hears 11 = .ok (.getfield 7, 3) := by decide +kernel
theorem dX11_hears_14 : decode cX11_hears 14 = .ok (.iload_n 2, 1) := by decide +kernel
theorem dX11_hears_15 : decode cX11_hears 15 = .ok (.iaload, 1) := by decide +kernel
theorem dX11_hears_16 : decode cX11_hears 16 = .ok (.invokestatic 88, 3) := by decide +kernel
theorem dX11_hears_19 : decode cX11_hears 19 = .ok (.iadd, 1) := by decide +kernel
theorem dX11_hears_20 : decode cX11_hears 20 = .ok (.istore_n 3, 1) := by decide +kernel
theorem dX11_hears_21 : decode cX11_hears 21 = .ok (.iconst 2, 1) := by decide +kernel
theorem dX11_hears_22 : decode cX11_hears 22 = .ok (.iload_n 3, 1) := by decide +kernel
theorem dX11_hears_23 : decode cX11_hears 23 = .ok (.imul, 1) := by decide +kernel
theorem dX11_hears_24 : decode cX11_hears 24 = .ok (.istore 4, 2) := by decide +kernel
theorem dX11_hears_26 : decode cX11_hears 26 = .ok (.aload_n 0, 1) := by decide +kernel
theorem dX11_hears_27 : decode cX11_hears 27 = .ok (.getfield 23, 3) := by decide +kernel
theorem dX11_hears_30 : decode cX11_hears 30 = .ok (.iload_n 3, 1) := by decide +kernel
theorem dX11_hears_31 : decode cX11_hears 31 = .ok (.iaload, 1) := by decide +kernel
theorem dX11_hears_32 : decode cX11_hears 32 = .ok (.istore 5, 2) := by decide +kernel
theorem dX11_hears_34 : decode cX11_hears 34 = .ok (.iload 5, 2) := by decide +kernel
theorem dX11_hears_36 : decode cX11_hears 36 = .ok (.iconst 1, 1) := by decide +kernel
theorem dX11_hears_37 : decode cX11_hears 37 = .ok (.if_icmp .ne 14, 3) := by decide +kernel
theorem dX11_hears_40 : decode cX11_hears 40 = .ok (.aload_n 0, 1) := by decide +kernel
theorem dX11_hears_41 : decode cX11_hears 41 = .ok (.getfield 20, 3) := by decide +kernel
theorem dX11_hears_44 : decode cX11_hears 44 = .ok (.iload 4, 2) := by decide +kernel
theorem dX11_hears_46 : decode cX11_hears 46 = .ok (.iaload, 1) := by decide +kernel
theorem dX11_hears_47 : decode cX11_hears 47 = .ok (.iload_n 2, 1) := by decide +kernel
theorem dX11_hears_48 : decode cX11_hears 48 = .ok (.if_icmp .eq 22, 3) := by decide +kernel
theorem dX11_hears_51 : decode cX11_hears 51 = .ok (.iload 5, 2) := by decide +kernel
theorem dX11_hears_53 : decode cX11_hears 53 = .ok (.iconst 2, 1) := by decide +kernel
theorem dX11_hears_54 : decode cX11_hears 54 = .ok (.if_icmp .ne 17, 3) := by decide +kernel
theorem dX11_hears_57 : decode cX11_hears 57 = .ok (.aload_n 0, 1) := by decide +kernel
theorem dX11_hears_58 : decode cX11_hears 58 = .ok (.getfield 20, 3) := by decide +kernel
theorem dX11_hears_61 : decode cX11_hears 61 = .ok (.iload 4, 2) := by decide +kernel
theorem dX11_hears_63 : decode cX11_hears 63 = .ok (.iconst 1, 1) := by decide +kernel
theorem dX11_hears_64 : decode cX11_hears 64 = .ok (.iadd, 1) := by decide +kernel
theorem dX11_hears_65 : decode cX11_hears 65 = .ok (.iaload, 1) := by decide +kernel
theorem dX11_hears_66 : decode cX11_hears 66 = .ok (.iload_n 2, 1) := by decide +kernel
theorem dX11_hears_67 : decode cX11_hears 67 = .ok (.if_icmp .ne 4, 3) := by decide +kernel
theorem dX11_hears_70 : decode cX11_hears 70 = .ok (.return_, 1) := by decide +kernel
theorem dX11_hears_71 : decode cX11_hears 71 = .ok (.iload 5, 2) := by decide +kernel
theorem dX11_hears_73 : decode cX11_hears 73 = .ok (.iconst 2, 1) := by decide +kernel
theorem dX11_hears_74 : decode cX11_hears 74 = .ok (.if_icmp .ge 25, 3) := by decide +kernel
theorem dX11_hears_77 : decode cX11_hears 77 = .ok (.aload_n 0, 1) := by decide +kernel
theorem dX11_hears_78 : decode cX11_hears 78 = .ok (.getfield 20, 3) := by decide +kernel
theorem dX11_hears_81 : decode cX11_hears 81 = .ok (.iload 4, 2) := by decide +kernel
theorem dX11_hears_83 : decode cX11_hears 83 = .ok (.iload 5, 2) := by decide +kernel
theorem dX11_hears_85 : decode cX11_hears 85 = .ok (.iadd, 1) := by decide +kernel
theorem dX11_hears_86 : decode cX11_hears 86 = .ok (.iload_n 2, 1) := by decide +kernel
theorem dX11_hears_87 : decode cX11_hears 87 = .ok (.iastore, 1) := by decide +kernel
theorem dX11_hears_88 : decode cX11_hears 88 = .ok (.aload_n 0, 1) := by decide +kernel
theorem dX11_hears_89 : decode cX11_hears 89 = .ok (.getfield 23, 3) := by decide +kernel
theorem dX11_hears_92 : decode cX11_hears 92 = .ok (.iload_n 3, 1) := by decide +kernel
theorem dX11_hears_93 : decode cX11_hears 93 = .ok (.dup2, 1) := by decide +kernel
theorem dX11_hears_94 : decode cX11_hears 94 = .ok (.iaload, 1) := by decide +kernel
theorem dX11_hears_95 : decode cX11_hears 95 = .ok (.iconst 1, 1) := by decide +kernel
theorem dX11_hears_96 : decode cX11_hears 96 = .ok (.iadd, 1) := by decide +kernel
theorem dX11_hears_97 : decode cX11_hears 97 = .ok (.iastore, 1) := by decide +kernel
theorem dX11_hears_98 : decode cX11_hears 98 = .ok (.return_, 1) := by decide +kernel
theorem dX11_hears_99 : decode cX11_hears 99 = .ok (.aload_n 0, 1) := by decide +kernel
theorem dX11_hears_100 : decode cX11_hears 100 = .ok (.getfield 20, 3) := by decide +kernel
theorem dX11_hears_103 : decode cX11_hears 103 = .ok (.iload 4, 2) := by decide +kernel
theorem dX11_hears_105 : decode cX11_hears 105 = .ok (.iaload, 1) := by decide +kernel
theorem dX11_hears_106 : decode cX11_hears 106 = .ok (.iload_n 2, 1) := by decide +kernel
theorem dX11_hears_107 : decode cX11_hears 107 = .ok (.if_icmp .ne 7, 3) := by decide +kernel
theorem dX11_hears_110 : decode cX11_hears 110 = .ok (.iconst 1, 1) := by decide +kernel
theorem dX11_hears_111 : decode cX11_hears 111 = .ok (.goto 4, 3) := by decide +kernel
theorem dX11_hears_114 : decode cX11_hears 114 = .ok (.iconst 0, 1) := by decide +kernel
theorem dX11_hears_115 : decode cX11_hears 115 = .ok (.istore 6, 2) := by decide +kernel
theorem dX11_hears_117 : decode cX11_hears 117 = .ok (.aload_n 0, 1) := by decide +kernel
theorem dX11_hears_118 : decode cX11_hears 118 = .ok (.getfield 20, 3) := by decide +kernel
theorem dX11_hears_121 : decode cX11_hears 121 = .ok (.iload 4, 2) := by decide +kernel
theorem dX11_hears_123 : decode cX11_hears 123 = .ok (.iaload, 1) := by decide +kernel
theorem dX11_hears_124 : decode cX11_hears 124 = .ok (.istore 7, 2) := by decide +kernel
theorem dX11_hears_126 : decode cX11_hears 126 = .ok (.aload_n 0, 1) := by decide +kernel
theorem dX11_hears_127 : decode cX11_hears 127 = .ok (.getfield 20, 3) := by decide +kernel
theorem dX11_hears_130 : decode cX11_hears 130 = .ok (.iload 4, 2) := by decide +kernel
theorem dX11_hears_132 : decode cX11_hears 132 = .ok (.aload_n 0, 1) := by decide +kernel
theorem dX11_hears_133 : decode cX11_hears 133 = .ok (.getfield 20, 3) := by decide +kernel
theorem dX11_hears_136 : decode cX11_hears 136 = .ok (.iload 4, 2) := by decide +kernel
theorem dX11_hears_138 : decode cX11_hears 138 = .ok (.iconst 1, 1) := by decide +kernel
theorem dX11_hears_139 : decode cX11_hears 139 = .ok (.iadd, 1) := by decide +kernel
theorem dX11_hears_140 : decode cX11_hears 140 = .ok (.iaload, 1) := by decide +kernel
theorem dX11_hears_141 : decode cX11_hears 141 = .ok (.iastore, 1) := by decide +kernel
theorem dX11_hears_142 : decode cX11_hears 142 = .ok (.aload_n 0, 1) := by decide +kernel
theorem dX11_hears_143 : decode cX11_hears 143 = .ok (.getfield 20, 3) := by decide +kernel
theorem dX11_hears_146 : decode cX11_hears 146 = .ok (.iload 4, 2) := by decide +kernel
theorem dX11_hears_148 : decode cX11_hears 148 = .ok (.iconst 1, 1) := by decide +kernel
theorem dX11_hears_149 : decode cX11_hears 149 = .ok (.iadd, 1) := by decide +kernel
theorem dX11_hears_150 : decode cX11_hears 150 = .ok (.iload 6, 2) := by decide +kernel
theorem dX11_hears_152 : decode cX11_hears 152 = .ok (.ifCond .ne 13, 3) := by decide +kernel
theorem dX11_hears_155 : decode cX11_hears 155 = .ok (.aload_n 0, 1) := by decide +kernel
theorem dX11_hears_156 : decode cX11_hears 156 = .ok (.getfield 16, 3) := by decide +kernel
theorem dX11_hears_159 : decode cX11_hears 159 = .ok (.iload 7, 2) := by decide +kernel
theorem dX11_hears_161 : decode cX11_hears 161 = .ok (.baload, 1) := by decide +kernel
theorem dX11_hears_162 : decode cX11_hears 162 = .ok (.ifCond .ne 7, 3) := by decide +kernel
theorem dX11_hears_165 : decode cX11_hears 165 = .ok (.iload_n 2, 1) := by decide +kernel
theorem dX11_hears_166 : decode cX11_hears 166 = .ok (.goto 5, 3) := by decide +kernel
theorem dX11_hears_169 : decode cX11_hears 169 = .ok (.iload 7, 2) := by decide +kernel
theorem dX11_hears_171 : decode cX11_hears 171 = .ok (.iastore, 1) := by decide +kernel
theorem dX11_hears_172 : decode cX11_hears 172 = .ok (.return_, 1) := by decide +kernel
theorem dX11_keepsPeer_0 : decode cX11_keepsPeer 0 = .ok (.iconst 0, 1) := by decide +kernel
theorem dX11_keepsPeer_1 : decode cX11_keepsPeer 1 = .ok (.istore_n 3, 1) := by decide +kernel
theorem dX11_keepsPeer_2 : decode cX11_keepsPeer 2 = .ok (.iconst 0, 1) := by decide +kernel
theorem dX11_keepsPeer_3 : decode cX11_keepsPeer 3 = .ok (.istore 4, 2) := by decide +kernel
theorem dX11_keepsPeer_5 : decode cX11_keepsPeer 5 = .ok (.iload 4, 2) := by decide +kernel
theorem dX11_keepsPeer_7 : decode cX11_keepsPeer 7 = .ok (.bipush 16, 2) := by decide +kernel
theorem dX11_keepsPeer_9 : decode cX11_keepsPeer 9 = .ok (.if_icmp .ge 62, 3) := by decide +kernel
theorem dX11_keepsPeer_12 : decode cX11_keepsPeer 12 = .ok (.bipush 8, 2) := by decide +kernel
theorem dX11_keepsPeer_14 : decode cX11_keepsPeer 14 = .ok (.iload_n 1, 1) := by decide +kernel
theorem dX11_keepsPeer_15 : decode cX11_keepsPeer 15 = .ok (.imul, 1) := by decide +kernel
theorem dX11_keepsPeer_16 : decode cX11_keepsPeer 16 = .ok (.iload 4, 2) := by decide +kernel
theorem dX11_keepsPeer_18 : decode cX11_keepsPeer 18 = .ok (.iconst 2, 1) := by decide +kernel
theorem dX11_keepsPeer_19 : decode cX11_keepsPeer 19 = .ok (.idiv, 1) := by decide +kernel
theorem dX11_keepsPeer_20 : decode cX11_keepsPeer 20 = .ok (.iadd, 1) := by decide +kernel
theorem dX11_keepsPeer_21 : decode cX11_keepsPeer 21 = .ok (.istore 5, 2) := by decide +kernel
theorem dX11_keepsPeer_23 : decode cX11_keepsPeer 23 = .ok (.iload_n 3, 1) := by decide +kernel
theorem dX11_keepsPeer_24 : decode cX11_keepsPeer 24 = .ok (.ifCond .ne 35, 3) := by decide +kernel
theorem dX11_keepsPeer_27 : decode cX11_keepsPeer 27 = .ok (.iload 4, 2) := by decide +kernel
theorem dX11_keepsPeer_29 : decode cX11_keepsPeer 29 = .ok (.iconst 2, 1) := by decide +kernel
theorem dX11_keepsPeer_30 : decode cX11_keepsPeer 30 = .ok (.irem, 1) := by decide +kernel
theorem dX11_keepsPeer_31 : decode cX11_keepsPeer 31 = .ok (.aload_n 0, 1) := by decide +kernel
theorem dX11_keepsPeer_32 : decode cX11_keepsPeer 32 = .ok (.getfield 23, 3) := by decide +kernel
theorem dX11_keepsPeer_35 : decode cX11_keepsPeer 35 = .ok (.iload 5, 2) := by decide +kernel
theorem dX11_keepsPeer_37 : decode cX11_keepsPeer 37 = .ok (.iaload, 1) := by decide +kernel
theorem dX11_keepsPeer_38 : decode cX11_keepsPeer 38 = .ok (.if_icmp .ge 25, 3) := by decide +kernel
theorem dX11_keepsPeer_41 : decode cX11_keepsPeer 41 = .ok (.aload_n 0, 1) := by decide +kernel
theorem dX11_keepsPeer_42 : decode cX11_keepsPeer 42 = .ok (.getfield 20, 3) := by decide +kernel
theorem dX11_keepsPeer_45 : decode cX11_keepsPeer 45 = .ok (.iconst 2, 1) := by decide +kernel
theorem dX11_keepsPeer_46 : decode cX11_keepsPeer 46 = .ok (.iload 5, 2) := by decide +kernel
theorem dX11_keepsPeer_48 : decode cX11_keepsPeer 48 = .ok (.imul, 1) := by decide +kernel
theorem dX11_keepsPeer_49 : decode cX11_keepsPeer 49 = .ok (.iload 4, 2) := by decide +kernel
theorem dX11_keepsPeer_51 : decode cX11_keepsPeer 51 = .ok (.iconst 2, 1) := by decide +kernel
theorem dX11_keepsPeer_52 : decode cX11_keepsPeer 52 = .ok (.irem, 1) := by decide +kernel
theorem dX11_keepsPeer_53 : decode cX11_keepsPeer 53 = .ok (.iadd, 1) := by decide +kernel
theorem dX11_keepsPeer_54 : decode cX11_keepsPeer 54 = .ok (.iaload, 1) := by decide +kernel
theorem dX11_keepsPeer_55 : decode cX11_keepsPeer 55 = .ok (.iload_n 2, 1) := by decide +kernel
theorem dX11_keepsPeer_56 : decode cX11_keepsPeer 56 = .ok (.if_icmp .ne 7, 3) := by decide +kernel
theorem dX11_keepsPeer_59 : decode cX11_keepsPeer 59 = .ok (.iconst 1, 1) := by decide +kernel
theorem dX11_keepsPeer_60 : decode cX11_keepsPeer 60 = .ok (.goto 4, 3) := by decide +kernel
theorem dX11_keepsPeer_63 : decode cX11_keepsPeer 63 = .ok (.iconst 0, 1) := by decide +kernel
theorem dX11_keepsPeer_64 : decode cX11_keepsPeer 64 = .ok (.istore_n 3, 1) := by decide +kernel
theorem dX11_keepsPeer_65 : decode cX11_keepsPeer 65 = .ok (.iinc 4 1, 3) := by decide +kernel
theorem dX11_keepsPeer_68 : decode cX11_keepsPeer 68 = .ok (.goto (-63), 3) := by decide +kernel
theorem dX11_keepsPeer_71 : decode cX11_keepsPeer 71 = .ok (.iload_n 3, 1) := by decide +kernel
theorem dX11_keepsPeer_72 : decode cX11_keepsPeer 72 = .ok (.ireturn, 1) := by decide +kernel
theorem dX11_picks_0 : decode cX11_picks 0 = .ok (.iconst 0, 1) := by decide +kernel
theorem dX11_picks_1 : decode cX11_picks 1 = .ok (.istore_n 3, 1) := by decide +kernel
theorem dX11_picks_2 : decode cX11_picks 2 = .ok (.iconst 0, 1) := by decide +kernel
theorem dX11_picks_3 : decode cX11_picks 3 = .ok (.istore 4, 2) := by decide +kernel
theorem dX11_picks_5 : decode cX11_picks 5 = .ok (.iconst (-1), 1) := by decide +kernel
theorem dX11_picks_6 : decode cX11_picks 6 = .ok (.istore 5, 2) := by decide +kernel
theorem dX11_picks_8 : decode cX11_picks 8 = .ok (.iload_n 3, 1) := by decide +kernel
theorem dX11_picks_9 : decode cX11_picks 9 = .ok (.iconst 3, 1) := by decide +kernel
theorem dX11_picks_10 : decode cX11_picks 10 = .ok (.if_icmp .ge 152, 3) := by decide +kernel
theorem dX11_picks_13 : decode cX11_picks 13 = .ok (.iconst (-1), 1) := by decide +kernel
theorem dX11_picks_14 : decode cX11_picks 14 = .ok (.istore 6, 2) := by decide +kernel
theorem dX11_picks_16 : decode cX11_picks 16 = .ok (.iconst 0, 1) := by decide +kernel
theorem dX11_picks_17 : decode cX11_picks 17 = .ok (.istore 7, 2) := by decide +kernel
theorem dX11_picks_19 : decode cX11_picks 19 = .ok (.iload 7, 2) := by decide +kernel
theorem dX11_picks_21 : decode cX11_picks 21 = .ok (.aload_n 0, 1) := by decide +kernel
theorem dX11_picks_22 : decode cX11_picks 22 = .ok (.getfield 78, 3) := by decide +kernel
theorem dX11_picks_25 : decode cX11_picks 25 = .ok (.if_icmp .ge 83, 3) := by decide +kernel
theorem dX11_picks_28 : decode cX11_picks 28 = .ok (.aload_n 0, 1) := by decide +kernel
theorem dX11_picks_29 : decode cX11_picks 29 = .ok (.getfield 7, 3) := by decide +kernel
theorem dX11_picks_32 : decode cX11_picks 32 = .ok (.iload 7, 2) := by decide +kernel
theorem dX11_picks_34 : decode cX11_picks 34 = .ok (.iaload, 1) := by decide +kernel
theorem dX11_picks_35 : decode cX11_picks 35 = .ok (.iload_n 2, 1) := by decide +kernel
theorem dX11_picks_36 : decode cX11_picks 36 = .ok (.ixor, 1) := by decide +kernel
theorem dX11_picks_37 : decode cX11_picks 37 = .ok (.istore 8, 2) := by decide +kernel
theorem dX11_picks_39 : decode cX11_picks 39 = .ok (.aload_n 0, 1) := by decide +kernel
theorem dX11_picks_40 : decode cX11_picks 40 = .ok (.getfield 26, 3) := by decide +kernel
theorem dX11_picks_43 : decode cX11_picks 43 = .ok (.bipush 16, 2) := by decide +kernel
theorem dX11_picks_45 : decode cX11_picks 45 = .ok (.iload_n 1, 1) := by decide +kernel
theorem dX11_picks_46 : decode cX11_picks 46 = .ok (.imul, 1) := by decide +kernel
theorem dX11_picks_47 : decode cX11_picks 47 = .ok (.iload 7, 2) := by decide +kernel
theorem dX11_picks_49 : decode cX11_picks 49 = .ok (.iadd, 1) := by decide +kernel
theorem dX11_picks_50 : decode cX11_picks 50 = .ok (.baload, 1) := by decide +kernel
theorem dX11_picks_51 : decode cX11_picks 51 = .ok (.ifCond .eq 14, 3) := by decide +kernel
theorem dX11_picks_54 : decode cX11_picks 54 = .ok (.iload 8, 2) := by decide +kernel
theorem dX11_picks_56 : decode cX11_picks 56 = .ok (.iload 5, 2) := by decide +kernel
theorem dX11_picks_58 : decode cX11_picks 58 = .ok (.if_icmp .le 7, 3) := by decide +kernel
theorem dX11_picks_61 : decode cX11_picks 61 = .ok (.iconst 1, 1) := by decide +kernel
theorem dX11_picks_62 : decode cX11_picks 62 = .ok (.goto 4, 3) := by decide +kernel
theorem dX11_picks_65 : decode cX11_picks 65 = .ok (.iconst 0, 1) := by decide +kernel
theorem dX11_picks_66 : decode cX11_picks 66 = .ok (.istore 9, 2) := by decide +kernel
theorem dX11_picks_68 : decode cX11_picks 68 = .ok (.iload 9, 2) := by decide +kernel
theorem dX11_picks_70 : decode cX11_picks 70 = .ok (.ifCond .eq 28, 3) := by decide +kernel
theorem dX11_picks_73 : decode cX11_picks 73 = .ok (.iload 6, 2) := by decide +kernel
theorem dX11_picks_75 : decode cX11_picks 75 = .ok (.iconst (-1), 1) := by decide +kernel
theorem dX11_picks_76 : decode cX11_picks 76 = .ok (.if_icmp .eq 17, 3) := by decide +kernel
theorem dX11_picks_79 : decode cX11_picks 79 = .ok (.iload 8, 2) := by decide +kernel
theorem dX11_picks_81 : decode cX11_picks 81 = .ok (.aload_n 0, 1) := by decide +kernel
theorem dX11_picks_82 : decode cX11_picks 82 = .ok (.getfield 7, 3) := by decide +kernel
theorem dX11_picks_85 : decode cX11_picks 85 = .ok (.iload 6, 2) := by decide +kernel
theorem dX11_picks_87 : decode cX11_picks 87 = .ok (.iaload, 1) := by decide +kernel
theorem dX11_picks_88 : decode cX11_picks 88 = .ok (.iload_n 2, 1) := by decide +kernel
theorem dX11_picks_89 : decode cX11_picks 89 = .ok (.ixor, 1) := by decide +kernel
theorem dX11_picks_90 : decode cX11_picks 90 = .ok (.if_icmp .ge 8, 3) := by decide +kernel
theorem dX11_picks_93 : decode cX11_picks 93 = .ok (.iload 7, 2) := by decide +kernel
theorem dX11_picks_95 : decode cX11_picks 95 = .ok (.goto 5, 3) := by decide +kernel
theorem dX11_picks_98 : decode cX11_picks 98 = .ok (.iload 6, 2) := by decide +kernel
theorem dX11_picks_100 : decode cX11_picks 100 = .ok (.istore 6, 2) := by decide +kernel
theorem dX11_picks_102 : decode cX11_picks 102 = .ok (.iinc 7 1, 3) := by decide +kernel
theorem dX11_picks_105 : decode cX11_picks 105 = .ok (.goto (-86), 3) := by decide +kernel
theorem dX11_picks_108 : decode cX11_picks 108 = .ok (.iload 6, 2) := by decide +kernel
theorem dX11_picks_110 : decode cX11_picks 110 = .ok (.iconst (-1), 1) := by decide +kernel
theorem dX11_picks_111 : decode cX11_picks 111 = .ok (.if_icmp .ne 6, 3) := by decide +kernel
theorem dX11_picks_114 : decode cX11_picks 114 = .ok (.iload 4, 2) := by decide +kernel
theorem dX11_picks_116 : decode cX11_picks 116 = .ok (.ireturn, 1) := by decide +kernel
theorem dX11_picks_117 : decode cX11_picks 117 = .ok (.aload_n 0, 1) := by decide +kernel
theorem dX11_picks_118 : decode cX11_picks 118 = .ok (.getfield 7, 3) := by decide +kernel
theorem dX11_picks_121 : decode cX11_picks 121 = .ok (.iload 6, 2) := by decide +kernel
theorem dX11_picks_123 : decode cX11_picks 123 = .ok (.iaload, 1) := by decide +kernel
theorem dX11_picks_124 : decode cX11_picks 124 = .ok (.iload_n 2, 1) := by decide +kernel
theorem dX11_picks_125 : decode cX11_picks 125 = .ok (.ixor, 1) := by decide +kernel
theorem dX11_picks_126 : decode cX11_picks 126 = .ok (.istore 5, 2) := by decide +kernel
theorem dX11_picks_128 : decode cX11_picks 128 = .ok (.iinc 3 1, 3) := by decide +kernel
theorem dX11_picks_131 : decode cX11_picks 131 = .ok (.aload_n 0, 1) := by decide +kernel
theorem dX11_picks_132 : decode cX11_picks 132 = .ok (.getfield 29, 3) := by decide +kernel
theorem dX11_picks_135 : decode cX11_picks 135 = .ok (.iload 6, 2) := by decide +kernel
theorem dX11_picks_137 : decode cX11_picks 137 = .ok (.baload, 1) := by decide +kernel
theorem dX11_picks_138 : decode cX11_picks 138 = .ok (.ifCond .ne 21, 3) := by decide +kernel
theorem dX11_picks_141 : decode cX11_picks 141 = .ok (.iload 4, 2) := by decide +kernel
theorem dX11_picks_143 : decode cX11_picks 143 = .ok (.iconst 2, 1) := by decide +kernel
theorem dX11_picks_144 : decode cX11_picks 144 = .ok (.if_icmp .ge 15, 3) := by decide +kernel
theorem dX11_picks_147 : decode cX11_picks 147 = .ok (.aload_n 0, 1) := by decide +kernel
theorem dX11_picks_148 : decode cX11_picks 148 = .ok (.getfield 35, 3) := by decide +kernel
theorem dX11_picks_151 : decode cX11_picks 151 = .ok (.iload 4, 2) := by decide +kernel
theorem dX11_picks_153 : decode cX11_picks 153 = .ok (.iload 6, 2) := by decide +kernel
theorem dX11_picks_155 : decode cX11_picks 155 = .ok (.iastore, 1) := by decide +kernel
theorem dX11_picks_156 : decode cX11_picks 156 = .ok (.iinc 4 1, 3) := by decide +kernel
theorem dX11_picks_159 : decode cX11_picks 159 = .ok (.goto (-151), 3) := by decide +kernel
theorem dX11_picks_162 : decode cX11_picks 162 = .ok (.iload 4, 2) := by decide +kernel
theorem dX11_picks_164 : decode cX11_picks 164 = .ok (.ireturn, 1) := by decide +kernel
set_option maxRecDepth 20000 in
theorem ggX11_asks_X11_hears : GoodIn wsX11_asks wsX11_hears := goodIn_r _ [13, 7, 14, 15, 3, 16, 17, 12, 18, 23, 24, 25, 26, 27, 28, 29, 30, 31, 32, 33, 34, 35, 36, 37, 38, 39, 40, 41, 42, 43, 44, 45, 46, 47, 48, 49, 50] (by decide +kernel) (by decide +kernel)
set_option maxRecDepth 20000 in
theorem gX11_asks_X11_hears : GoodIn wsX11_asks (wsV RX11 95 RX11 yX11_hears wsX11_hears) := goodIn_app (goodIn_of _ (by decide +kernel)) ggX11_asks_X11_hears
set_option maxRecDepth 20000 in
theorem ggX11_asks_X11_keepsPeer : GoodIn wsX11_asks wsX11_keepsPeer := goodIn_r _ [22, 14, 15, 23, 24, 25, 26, 27, 28, 29, 30, 31, 32, 33, 34, 35, 36, 37, 38, 39, 40, 41, 42, 43, 44, 45, 46, 47, 48, 49, 50] (by decide +kernel) (by decide +kernel)
set_option maxRecDepth 20000 in
theorem gX11_asks_X11_keepsPeer : GoodIn wsX11_asks (wsV RX11 99 RX11 yX11_keepsPeer wsX11_keepsPeer) := goodIn_app (goodIn_of _ (by decide +kernel)) ggX11_asks_X11_keepsPeer
theorem dX11_asks_0 : decode cX11_asks 0 = .ok (.aload_n 0, 1) := by decide +kernel
theorem dX11_asks_1 : decode cX11_asks 1 = .ok (.getfield 29, 3) := by decide +kernel
theorem dX11_asks_4 : decode cX11_asks 4 = .ok (.iload_n 2, 1) := by decide +kernel
theorem dX11_asks_5 : decode cX11_asks 5 = .ok (.iconst 1, 1) := by decide +kernel
theorem dX11_asks_6 : decode cX11_asks 6 = .ok (.bastore, 1) := by decide +kernel
theorem dX11_asks_7 : decode cX11_asks 7 = .ok (.aload_n 0, 1) := by decide +kernel
theorem dX11_asks_8 : decode cX11_asks 8 = .ok (.dup, 1) := by decide +kernel
theorem dX11_asks_9 : decode cX11_asks 9 = .ok (.getfield 92, 3) := by decide +kernel
theorem dX11_asks_12 : decode cX11_asks 12 = .ok (.iconst 1, 1) := by decide +kernel
theorem dX11_asks_13 : decode cX11_asks 13 = .ok (.iadd, 1) := by decide +kernel
theorem dX11_asks_14 : decode cX11_asks 14 = .ok (.putfield 92, 3) := by decide +kernel
theorem dX11_asks_17 : decode cX11_asks 17 = .ok (.aload_n 0, 1) := by decide +kernel
theorem dX11_asks_18 : decode cX11_asks 18 = .ok (.getfield 16, 3) := by decide +kernel
theorem dX11_asks_21 : decode cX11_asks 21 = .ok (.iload_n 2, 1) := by decide +kernel
theorem dX11_asks_22 : decode cX11_asks 22 = .ok (.baload, 1) := by decide +kernel
theorem dX11_asks_23 : decode cX11_asks 23 = .ok (.ifCond .eq 13, 3) := by decide +kernel
theorem dX11_asks_26 : decode cX11_asks 26 = .ok (.aload_n 0, 1) := by decide +kernel
theorem dX11_asks_27 : decode cX11_asks 27 = .ok (.getfield 13, 3) := by decide +kernel
theorem dX11_asks_30 : decode cX11_asks 30 = .ok (.iload_n 2, 1) := by decide +kernel
theorem dX11_asks_31 : decode cX11_asks 31 = .ok (.iaload, 1) := by decide +kernel
theorem dX11_asks_32 : decode cX11_asks 32 = .ok (.iconst 1, 1) := by decide +kernel
theorem dX11_asks_33 : decode cX11_asks 33 = .ok (.if_icmp .ne 4, 3) := by decide +kernel
theorem dX11_asks_36 : decode cX11_asks 36 = .ok (.return_, 1) := by decide +kernel
theorem dX11_asks_37 : decode cX11_asks 37 = .ok (.aload_n 0, 1) := by decide +kernel
theorem dX11_asks_38 : decode cX11_asks 38 = .ok (.iload_n 2, 1) := by decide +kernel
theorem dX11_asks_39 : decode cX11_asks 39 = .ok (.iload_n 1, 1) := by decide +kernel
theorem dX11_asks_40 : decode cX11_asks 40 = .ok (.invokevirtual 95, 3) := by decide +kernel
theorem dX11_asks_43 : decode cX11_asks 43 = .ok (.aload_n 0, 1) := by decide +kernel
theorem dX11_asks_44 : decode cX11_asks 44 = .ok (.iload_n 1, 1) := by decide +kernel
theorem dX11_asks_45 : decode cX11_asks 45 = .ok (.iload_n 2, 1) := by decide +kernel
theorem dX11_asks_46 : decode cX11_asks 46 = .ok (.invokevirtual 95, 3) := by decide +kernel
theorem dX11_asks_49 : decode cX11_asks 49 = .ok (.aload_n 0, 1) := by decide +kernel
theorem dX11_asks_50 : decode cX11_asks 50 = .ok (.getfield 32, 3) := by decide +kernel
theorem dX11_asks_53 : decode cX11_asks 53 = .ok (.iload_n 2, 1) := by decide +kernel
theorem dX11_asks_54 : decode cX11_asks 54 = .ok (.iconst 1, 1) := by decide +kernel
theorem dX11_asks_55 : decode cX11_asks 55 = .ok (.bastore, 1) := by decide +kernel
theorem dX11_asks_56 : decode cX11_asks 56 = .ok (.iconst (-1), 1) := by decide +kernel
theorem dX11_asks_57 : decode cX11_asks 57 = .ok (.istore 5, 2) := by decide +kernel
theorem dX11_asks_59 : decode cX11_asks 59 = .ok (.iconst 0, 1) := by decide +kernel
theorem dX11_asks_60 : decode cX11_asks 60 = .ok (.istore 6, 2) := by decide +kernel
theorem dX11_asks_62 : decode cX11_asks 62 = .ok (.iload 6, 2) := by decide +kernel
theorem dX11_asks_64 : decode cX11_asks 64 = .ok (.iconst 3, 1) := by decide +kernel
theorem dX11_asks_65 : decode cX11_asks 65 = .ok (.if_icmp .ge 179, 3) := by decide +kernel
theorem dX11_asks_68 : decode cX11_asks 68 = .ok (.iconst (-1), 1) := by decide +kernel
theorem dX11_asks_69 : decode cX11_asks 69 = .ok (.istore 7, 2) := by decide +kernel
theorem dX11_asks_71 : decode cX11_asks 71 = .ok (.iconst 0, 1) := by decide +kernel
theorem dX11_asks_72 : decode cX11_asks 72 = .ok (.istore 8, 2) := by decide +kernel
theorem dX11_asks_74 : decode cX11_asks 74 = .ok (.iload 8, 2) := by decide +kernel
theorem dX11_asks_76 : decode cX11_asks 76 = .ok (.aload_n 0, 1) := by decide +kernel
theorem dX11_asks_77 : decode cX11_asks 77 = .ok (.getfield 78, 3) := by decide +kernel
theorem dX11_asks_80 : decode cX11_asks 80 = .ok (.if_icmp .ge 101, 3) := by decide +kernel
theorem dX11_asks_83 : decode cX11_asks 83 = .ok (.aload_n 0, 1) := by decide +kernel
theorem dX11_asks_84 : decode cX11_asks 84 = .ok (.getfield 7, 3) := by decide +kernel
theorem dX11_asks_87 : decode cX11_asks 87 = .ok (.iload 8, 2) := by decide +kernel
theorem dX11_asks_89 : decode cX11_asks 89 = .ok (.iaload, 1) := by decide +kernel
theorem dX11_asks_90 : decode cX11_asks 90 = .ok (.iload 4, 2) := by decide +kernel
theorem dX11_asks_92 : decode cX11_asks 92 = .ok (.ixor, 1) := by decide +kernel
theorem dX11_asks_93 : decode cX11_asks 93 = .ok (.istore 9, 2) := by decide +kernel
theorem dX11_asks_95 : decode cX11_asks 95 = .ok (.aload_n 0, 1) := by decide +kernel
theorem dX11_asks_96 : decode cX11_asks 96 = .ok (.iload_n 2, 1) := by decide +kernel
theorem dX11_asks_97 : decode cX11_asks 97 = .ok (.iload 8, 2) := by decide +kernel
theorem dX11_asks_99 : decode cX11_asks 99 = .ok (.invokevirtual 99, 3) := by decide +kernel
theorem dX11_asks_102 : decode cX11_asks 102 = .ok (.ifCond .eq 35, 3) := by decide +kernel
theorem dX11_asks_105 : decode cX11_asks 105 = .ok (.iload 9, 2) := by decide +kernel
theorem dX11_asks_107 : decode cX11_asks 107 = .ok (.iload 5, 2) := by decide +kernel
theorem dX11_asks_109 : decode cX11_asks 109 = .ok (.if_icmp .le 28, 3) := by decide +kernel
theorem dX11_asks_112 : decode cX11_asks 112 = .ok (.aload_n 0, 1) := by decide +kernel
theorem dX11_asks_113 : decode cX11_asks 113 = .ok (.getfield 13, 3) := by decide +kernel
theorem dX11_asks_116 : decode cX11_asks 116 = .ok (.iload_n 2, 1) := by decide +kernel
theorem dX11_asks_117 : decode cX11_asks 117 = .ok (.iaload, 1) := by decide +kernel
theorem dX11_asks_118 : decode cX11_asks 118 = .ok (.iconst 2, 1) := by decide +kernel
theorem dX11_asks_119 : decode cX11_asks 119 = .ok (.if_icmp .ne 14, 3) := by decide +kernel
theorem dX11_asks_122 : decode cX11_asks 122 = .ok (.aload_n 0, 1) := by decide +kernel
theorem dX11_asks_123 : decode cX11_asks 123 = .ok (.getfield 13, 3) := by decide +kernel
theorem dX11_asks_126 : decode cX11_asks 126 = .ok (.iload 8, 2) := by decide +kernel
theorem dX11_asks_128 : decode cX11_asks 128 = .ok (.iaload, 1) := by decide +kernel
theorem dX11_asks_129 : decode cX11_asks 129 = .ok (.iconst 2, 1) := by decide +kernel
theorem dX11_asks_130 : decode cX11_asks 130 = .ok (.if_icmp .ne 7, 3) := by decide +kernel
theorem dX11_asks_133 : decode cX11_asks 133 = .ok (.iconst 1, 1) := by decide +kernel
theorem dX11_asks_134 : decode cX11_asks 134 = .ok (.goto 4, 3) := by decide +kernel
theorem dX11_asks_137 : decode cX11_asks 137 = .ok (.iconst 0, 1) := by decide +kernel
theorem dX11_asks_138 : decode cX11_asks 138 = .ok (.istore 10, 2) := by decide +kernel
theorem dX11_asks_140 : decode cX11_asks 140 = .ok (.iload 10, 2) := by decide +kernel
theorem dX11_asks_142 : decode cX11_asks 142 = .ok (.ifCond .eq 29, 3) := by decide +kernel
theorem dX11_asks_145 : decode cX11_asks 145 = .ok (.iload 7, 2) := by decide +kernel
theorem dX11_asks_147 : decode cX11_asks 147 = .ok (.iconst (-1), 1) := by decide +kernel
theorem dX11_asks_148 : decode cX11_asks 148 = .ok (.if_icmp .eq 18, 3) := by decide +kernel
theorem dX11_asks_151 : decode cX11_asks 151 = .ok (.iload 9, 2) := by decide +kernel
theorem dX11_asks_153 : decode cX11_asks 153 = .ok (.aload_n 0, 1) := by decide +kernel
theorem dX11_asks_154 : decode cX11_asks 154 = .ok (.getfield 7, 3) := by decide +kernel
theorem dX11_asks_157 : decode cX11_asks 157 = .ok (.iload 7, 2) := by decide +kernel
theorem dX11_asks_159 : decode cX11_asks 159 = .ok (.iaload, 1) := by decide +kernel
theorem dX11_asks_160 : decode cX11_asks 160 = .ok (.iload 4, 2) := by decide +kernel
theorem dX11_asks_162 : decode cX11_asks 162 = .ok (.ixor, 1) := by decide +kernel
theorem dX11_asks_163 : decode cX11_asks 163 = .ok (.if_icmp .ge 8, 3) := by decide +kernel
theorem dX11_asks_166 : decode cX11_asks 166 = .ok (.iload 8, 2) := by decide +kernel
theorem dX11_asks_168 : decode cX11_asks 168 = .ok (.goto 5, 3) := by decide +kernel
theorem dX11_asks_171 : decode cX11_asks 171 = .ok (.iload 7, 2) := by decide +kernel
theorem dX11_asks_173 : decode cX11_asks 173 = .ok (.istore 7, 2) := by decide +kernel
theorem dX11_asks_175 : decode cX11_asks 175 = .ok (.iinc 8 1, 3) := by decide +kernel
theorem dX11_asks_178 : decode cX11_asks 178 = .ok (.goto (-104), 3) := by decide +kernel
theorem dX11_asks_181 : decode cX11_asks 181 = .ok (.iload 7, 2) := by decide +kernel
theorem dX11_asks_183 : decode cX11_asks 183 = .ok (.iconst (-1), 1) := by decide +kernel
theorem dX11_asks_184 : decode cX11_asks 184 = .ok (.if_icmp .ne 4, 3) := by decide +kernel
theorem dX11_asks_187 : decode cX11_asks 187 = .ok (.return_, 1) := by decide +kernel
theorem dX11_asks_188 : decode cX11_asks 188 = .ok (.aload_n 0, 1) := by decide +kernel
theorem dX11_asks_189 : decode cX11_asks 189 = .ok (.getfield 7, 3) := by decide +kernel
theorem dX11_asks_192 : decode cX11_asks 192 = .ok (.iload 7, 2) := by decide +kernel
theorem dX11_asks_194 : decode cX11_asks 194 = .ok (.iaload, 1) := by decide +kernel
theorem dX11_asks_195 : decode cX11_asks 195 = .ok (.iload 4, 2) := by decide +kernel
theorem dX11_asks_197 : decode cX11_asks 197 = .ok (.ixor, 1) := by decide +kernel
theorem dX11_asks_198 : decode cX11_asks 198 = .ok (.istore 5, 2) := by decide +kernel
theorem dX11_asks_200 : decode cX11_asks 200 = .ok (.aload_n 0, 1) := by decide +kernel
theorem dX11_asks_201 : decode cX11_asks 201 = .ok (.getfield 26, 3) := by decide +kernel
theorem dX11_asks_204 : decode cX11_asks 204 = .ok (.bipush 16, 2) := by decide +kernel
theorem dX11_asks_206 : decode cX11_asks 206 = .ok (.iload_n 3, 1) := by decide +kernel
theorem dX11_asks_207 : decode cX11_asks 207 = .ok (.imul, 1) := by decide +kernel
theorem dX11_asks_208 : decode cX11_asks 208 = .ok (.iload 7, 2) := by decide +kernel
theorem dX11_asks_210 : decode cX11_asks 210 = .ok (.iadd, 1) := by decide +kernel
theorem dX11_asks_211 : decode cX11_asks 211 = .ok (.aload_n 0, 1) := by decide +kernel
theorem dX11_asks_212 : decode cX11_asks 212 = .ok (.getfield 26, 3) := by decide +kernel
theorem dX11_asks_215 : decode cX11_asks 215 = .ok (.bipush 16, 2) := by decide +kernel
theorem dX11_asks_217 : decode cX11_asks 217 = .ok (.iload_n 3, 1) := by decide +kernel
theorem dX11_asks_218 : decode cX11_asks 218 = .ok (.imul, 1) := by decide +kernel
theorem dX11_asks_219 : decode cX11_asks 219 = .ok (.iload 7, 2) := by decide +kernel
theorem dX11_asks_221 : decode cX11_asks 221 = .ok (.iadd, 1) := by decide +kernel
theorem dX11_asks_222 : decode cX11_asks 222 = .ok (.baload, 1) := by decide +kernel
theorem dX11_asks_223 : decode cX11_asks 223 = .ok (.ifCond .ne 9, 3) := by decide +kernel
theorem dX11_asks_226 : decode cX11_asks 226 = .ok (.iload 7, 2) := by decide +kernel
theorem dX11_asks_228 : decode cX11_asks 228 = .ok (.iload_n 1, 1) := by decide +kernel
theorem dX11_asks_229 : decode cX11_asks 229 = .ok (.if_icmp .eq 7, 3) := by decide +kernel
theorem dX11_asks_232 : decode cX11_asks 232 = .ok (.iconst 1, 1) := by decide +kernel
theorem dX11_asks_233 : decode cX11_asks 233 = .ok (.goto 4, 3) := by decide +kernel
theorem dX11_asks_236 : decode cX11_asks 236 = .ok (.iconst 0, 1) := by decide +kernel
theorem dX11_asks_237 : decode cX11_asks 237 = .ok (.bastore, 1) := by decide +kernel
theorem dX11_asks_238 : decode cX11_asks 238 = .ok (.iinc 6 1, 3) := by decide +kernel
theorem dX11_asks_241 : decode cX11_asks 241 = .ok (.goto (-179), 3) := by decide +kernel
theorem dX11_asks_244 : decode cX11_asks 244 = .ok (.return_, 1) := by decide +kernel
set_option maxRecDepth 20000 in
theorem ggX11_looksUp_X11_keepsPeer : GoodIn wsX11_looksUp wsX11_keepsPeer := goodIn_r _ [12, 13, 14, 38, 39, 40, 41, 42, 43, 44, 45, 46, 47, 48, 49, 50, 51, 52, 53, 54, 55, 56, 57, 58, 59, 60, 61, 62, 63, 64, 65] (by decide +kernel) (by decide +kernel)
set_option maxRecDepth 20000 in
theorem gX11_looksUp_X11_keepsPeer : GoodIn wsX11_looksUp (wsV RX11 99 RX11 yX11_keepsPeer wsX11_keepsPeer) := goodIn_app (goodIn_of _ (by decide +kernel)) ggX11_looksUp_X11_keepsPeer
set_option maxRecDepth 20000 in
theorem ggX11_looksUp_X11_picks : GoodIn wsX11_looksUp wsX11_picks := goodIn_r _ [18, 5, 6, 2, 3, 7, 38, 39, 40, 41, 42, 43, 44, 45, 46, 47, 48, 49, 50, 51, 52, 53, 54, 55, 56, 57, 58, 59, 60, 61, 62, 63, 64, 65] (by decide +kernel) (by decide +kernel)
set_option maxRecDepth 20000 in
theorem gX11_looksUp_X11_picks : GoodIn wsX11_looksUp (wsV RX11 103 RX11 yX11_picks wsX11_picks) := goodIn_app (goodIn_of _ (by decide +kernel)) ggX11_looksUp_X11_picks
set_option maxRecDepth 20000 in
theorem ggX11_looksUp_X11_asks : GoodIn wsX11_looksUp wsX11_asks := goodIn_r _ [22, 3, 1, 23, 24, 4, 5, 6, 2, 25, 26, 27, 11, 28, 13, 14, 29, 30, 31, 8, 9, 10, 12, 38, 39, 40, 41, 42, 43, 44, 45, 46, 47, 48, 49, 50, 51, 52, 53, 54, 55, 56, 57, 58, 59, 60, 61, 62, 63, 64, 65] (by decide +kernel) (by decide +kernel)
set_option maxRecDepth 20000 in
theorem gX11_looksUp_X11_asks : GoodIn wsX11_looksUp (wsV RX11 106 RX11 yX11_asks wsX11_asks) := goodIn_app (goodIn_of _ (by decide +kernel)) ggX11_looksUp_X11_asks
set_option maxRecDepth 20000 in
theorem ggX11_looksUp_X11_closestOf : GoodIn wsX11_looksUp wsX11_closestOf := goodIn_r _ [35, 36, 5, 6, 4, 37, 38, 39, 40, 41, 42, 43, 44, 45, 46, 47, 48, 49, 50, 51, 52, 53, 54, 55, 56, 57, 58, 59, 60, 61, 62, 63, 64, 65] (by decide +kernel) (by decide +kernel)
set_option maxRecDepth 20000 in
theorem gX11_looksUp_X11_closestOf : GoodIn wsX11_looksUp (wsV RX11 110 RX11 yX11_closestOf wsX11_closestOf) := goodIn_app (goodIn_of _ (by decide +kernel)) ggX11_looksUp_X11_closestOf
theorem dX11_looksUp_0 : decode cX11_looksUp 0 = .ok (.aload_n 0, 1) := by decide +kernel
theorem dX11_looksUp_1 : decode cX11_looksUp 1 = .ok (.iconst 0, 1) := by decide +kernel
theorem dX11_looksUp_2 : decode cX11_looksUp 2 = .ok (.putfield 92, 3) := by decide +kernel
theorem dX11_looksUp_5 : decode cX11_looksUp 5 = .ok (.iconst 0, 1) := by decide +kernel
theorem dX11_looksUp_6 : decode cX11_looksUp 6 = .ok (.istore 4, 2) := by decide +kernel
theorem dX11_looksUp_8 : decode cX11_looksUp 8 = .ok (.iload 4, 2) := by decide +kernel
theorem dX11_looksUp_10 : decode cX11_looksUp 10 = .ok (.bipush 16, 2) := by decide +kernel
theorem dX11_looksUp_12 : decode cX11_looksUp 12 = .ok (.if_icmp .ge 44, 3) := by decide +kernel
theorem dX11_looksUp_15 : decode cX11_looksUp 15 = .ok (.aload_n 0, 1) := by decide +kernel
theorem dX11_looksUp_16 : decode cX11_looksUp 16 = .ok (.getfield 26, 3) := by decide +kernel
theorem dX11_looksUp_19 : decode cX11_looksUp 19 = .ok (.iload 4, 2) := by decide +kernel
theorem dX11_looksUp_21 : decode cX11_looksUp 21 = .ok (.iconst 0, 1) := by decide +kernel
theorem dX11_looksUp_22 : decode cX11_looksUp 22 = .ok (.bastore, 1) := by decide +kernel
theorem dX11_looksUp_23 : decode cX11_looksUp 23 = .ok (.aload_n 0, 1) := by decide +kernel
theorem dX11_looksUp_24 : decode cX11_looksUp 24 = .ok (.getfield 26, 3) := by decide +kernel
theorem dX11_looksUp_27 : decode cX11_looksUp 27 = .ok (.bipush 16, 2) := by decide +kernel
theorem dX11_looksUp_29 : decode cX11_looksUp 29 = .ok (.iload 4, 2) := by decide +kernel
theorem dX11_looksUp_31 : decode cX11_looksUp 31 = .ok (.iadd, 1) := by decide +kernel
theorem dX11_looksUp_32 : decode cX11_looksUp 32 = .ok (.iconst 0, 1) := by decide +kernel
theorem dX11_looksUp_33 : decode cX11_looksUp 33 = .ok (.bastore, 1) := by decide +kernel
theorem dX11_looksUp_34 : decode cX11_looksUp 34 = .ok (.aload_n 0, 1) := by decide +kernel
theorem dX11_looksUp_35 : decode cX11_looksUp 35 = .ok (.getfield 29, 3) := by decide +kernel
theorem dX11_looksUp_38 : decode cX11_looksUp 38 = .ok (.iload 4, 2) := by decide +kernel
theorem dX11_looksUp_40 : decode cX11_looksUp 40 = .ok (.iconst 0, 1) := by decide +kernel
theorem dX11_looksUp_41 : decode cX11_looksUp 41 = .ok (.bastore, 1) := by decide +kernel
theorem dX11_looksUp_42 : decode cX11_looksUp 42 = .ok (.aload_n 0, 1) := by decide +kernel
theorem dX11_looksUp_43 : decode cX11_looksUp 43 = .ok (.getfield 32, 3) := by decide +kernel
theorem dX11_looksUp_46 : decode cX11_looksUp 46 = .ok (.iload 4, 2) := by decide +kernel
theorem dX11_looksUp_48 : decode cX11_looksUp 48 = .ok (.iconst 0, 1) := by decide +kernel
theorem dX11_looksUp_49 : decode cX11_looksUp 49 = .ok (.bastore, 1) := by decide +kernel
theorem dX11_looksUp_50 : decode cX11_looksUp 50 = .ok (.iinc 4 1, 3) := by decide +kernel
theorem dX11_looksUp_53 : decode cX11_looksUp 53 = .ok (.goto (-45), 3) := by decide +kernel
theorem dX11_looksUp_56 : decode cX11_looksUp 56 = .ok (.iconst (-1), 1) := by decide +kernel
theorem dX11_looksUp_57 : decode cX11_looksUp 57 = .ok (.istore 4, 2) := by decide +kernel
theorem dX11_looksUp_59 : decode cX11_looksUp 59 = .ok (.iconst 0, 1) := by decide +kernel
theorem dX11_looksUp_60 : decode cX11_looksUp 60 = .ok (.istore 5, 2) := by decide +kernel
theorem dX11_looksUp_62 : decode cX11_looksUp 62 = .ok (.iload 5, 2) := by decide +kernel
theorem dX11_looksUp_64 : decode cX11_looksUp 64 = .ok (.aload_n 0, 1) := by decide +kernel
theorem dX11_looksUp_65 : decode cX11_looksUp 65 = .ok (.getfield 78, 3) := by decide +kernel
theorem dX11_looksUp_68 : decode cX11_looksUp 68 = .ok (.if_icmp .ge 141, 3) := by decide +kernel
theorem dX11_looksUp_71 : decode cX11_looksUp 71 = .ok (.iconst (-1), 1) := by decide +kernel
theorem dX11_looksUp_72 : decode cX11_looksUp 72 = .ok (.istore 6, 2) := by decide +kernel
theorem dX11_looksUp_74 : decode cX11_looksUp 74 = .ok (.iconst 0, 1) := by decide +kernel
theorem dX11_looksUp_75 : decode cX11_looksUp 75 = .ok (.istore 7, 2) := by decide +kernel
theorem dX11_looksUp_77 : decode cX11_looksUp 77 = .ok (.iload 7, 2) := by decide +kernel
theorem dX11_looksUp_79 : decode cX11_looksUp 79 = .ok (.aload_n 0, 1) := by decide +kernel
theorem dX11_looksUp_80 : decode cX11_looksUp 80 = .ok (.getfield 78, 3) := by decide +kernel
theorem dX11_looksUp_83 : decode cX11_looksUp 83 = .ok (.if_icmp .ge 78, 3) := by decide +kernel
theorem dX11_looksUp_86 : decode cX11_looksUp 86 = .ok (.aload_n 0, 1) := by decide +kernel
theorem dX11_looksUp_87 : decode cX11_looksUp 87 = .ok (.getfield 7, 3) := by decide +kernel
theorem dX11_looksUp_90 : decode cX11_looksUp 90 = .ok (.iload 7, 2) := by decide +kernel
theorem dX11_looksUp_92 : decode cX11_looksUp 92 = .ok (.iaload, 1) := by decide +kernel
theorem dX11_looksUp_93 : decode cX11_looksUp 93 = .ok (.iload_n 2, 1) := by decide +kernel
theorem dX11_looksUp_94 : decode cX11_looksUp 94 = .ok (.ixor, 1) := by decide +kernel
theorem dX11_looksUp_95 : decode cX11_looksUp 95 = .ok (.istore 8, 2) := by decide +kernel
theorem dX11_looksUp_97 : decode cX11_looksUp 97 = .ok (.aload_n 0, 1) := by decide +kernel
theorem dX11_looksUp_98 : decode cX11_looksUp 98 = .ok (.iload_n 1, 1) := by decide +kernel
theorem dX11_looksUp_99 : decode cX11_looksUp 99 = .ok (.iload 7, 2) := by decide +kernel
theorem dX11_looksUp_101 : decode cX11_looksUp 101 = .ok (.invokevirtual 99, 3) := by decide +kernel
theorem dX11_looksUp_104 : decode cX11_looksUp 104 = .ok (.ifCond .eq 14, 3) := by decide +kernel
theorem dX11_looksUp_107 : decode cX11_looksUp 107 = .ok (.iload 8, 2) := by decide +kernel
theorem dX11_looksUp_109 : decode cX11_looksUp 109 = .ok (.iload 4, 2) := by decide +kernel
theorem dX11_looksUp_111 : decode cX11_looksUp 111 = .ok (.if_icmp .le 7, 3) := by decide +kernel
theorem dX11_looksUp_114 : decode cX11_looksUp 114 = .ok (.iconst 1, 1) := by decide +kernel
theorem dX11_looksUp_115 : decode cX11_looksUp 115 = .ok (.goto 4, 3) := by decide +kernel
theorem dX11_looksUp_118 : decode cX11_looksUp 118 = .ok (.iconst 0, 1) := by decide +kernel
theorem dX11_looksUp_119 : decode cX11_looksUp 119 = .ok (.istore 9, 2) := by decide +kernel
theorem dX11_looksUp_121 : decode cX11_looksUp 121 = .ok (.iload 9, 2) := by decide +kernel
theorem dX11_looksUp_123 : decode cX11_looksUp 123 = .ok (.ifCond .eq 28, 3) := by decide +kernel
theorem dX11_looksUp_126 : decode cX11_looksUp 126 = .ok (.iload 6, 2) := by decide +kernel
theorem dX11_looksUp_128 : decode cX11_looksUp 128 = .ok (.iconst (-1), 1) := by decide +kernel
theorem dX11_looksUp_129 : decode cX11_looksUp 129 = .ok (.if_icmp .eq 17, 3) := by decide +kernel
theorem dX11_looksUp_132 : decode cX11_looksUp 132 = .ok (.iload 8, 2) := by decide +kernel
theorem dX11_looksUp_134 : decode cX11_looksUp 134 = .ok (.aload_n 0, 1) := by decide +kernel
theorem dX11_looksUp_135 : decode cX11_looksUp 135 = .ok (.getfield 7, 3) := by decide +kernel
theorem dX11_looksUp_138 : decode cX11_looksUp 138 = .ok (.iload 6, 2) := by decide +kernel
theorem dX11_looksUp_140 : decode cX11_looksUp 140 = .ok (.iaload, 1) := by decide +kernel
theorem dX11_looksUp_141 : decode cX11_looksUp 141 = .ok (.iload_n 2, 1) := by decide +kernel
theorem dX11_looksUp_142 : decode cX11_looksUp 142 = .ok (.ixor, 1) := by decide +kernel
theorem dX11_looksUp_143 : decode cX11_looksUp 143 = .ok (.if_icmp .ge 8, 3) := by decide +kernel
theorem dX11_looksUp_146 : decode cX11_looksUp 146 = .ok (.iload 7, 2) := by decide +kernel
theorem dX11_looksUp_148 : decode cX11_looksUp 148 = .ok (.goto 5, 3) := by decide +kernel
theorem dX11_looksUp_151 : decode cX11_looksUp 151 = .ok (.iload 6, 2) := by decide +kernel
theorem dX11_looksUp_153 : decode cX11_looksUp 153 = .ok (.istore 6, 2) := by decide +kernel
theorem dX11_looksUp_155 : decode cX11_looksUp 155 = .ok (.iinc 7 1, 3) := by decide +kernel
theorem dX11_looksUp_158 : decode cX11_looksUp 158 = .ok (.goto (-81), 3) := by decide +kernel
theorem dX11_looksUp_161 : decode cX11_looksUp 161 = .ok (.iload 6, 2) := by decide +kernel
theorem dX11_looksUp_163 : decode cX11_looksUp 163 = .ok (.iconst (-1), 1) := by decide +kernel
theorem dX11_looksUp_164 : decode cX11_looksUp 164 = .ok (.if_icmp .eq 39, 3) := by decide +kernel
theorem dX11_looksUp_167 : decode cX11_looksUp 167 = .ok (.aload_n 0, 1) := by decide +kernel
theorem dX11_looksUp_168 : decode cX11_looksUp 168 = .ok (.getfield 26, 3) := by decide +kernel
theorem dX11_looksUp_171 : decode cX11_looksUp 171 = .ok (.bipush 16, 2) := by decide +kernel
theorem dX11_looksUp_173 : decode cX11_looksUp 173 = .ok (.iload_n 3, 1) := by decide +kernel
theorem dX11_looksUp_174 : decode cX11_looksUp 174 = .ok (.iconst 2, 1) := by decide +kernel
theorem dX11_looksUp_175 : decode cX11_looksUp 175 = .ok (.if_icmp .ne 10, 3) := by decide +kernel
theorem dX11_looksUp_178 : decode cX11_looksUp 178 = .ok (.iload 5, 2) := by decide +kernel
theorem dX11_looksUp_180 : decode cX11_looksUp 180 = .ok (.iconst 2, 1) := by decide +kernel
theorem dX11_looksUp_181 : decode cX11_looksUp 181 = .ok (.irem, 1) := by decide +kernel
theorem dX11_looksUp_182 : decode cX11_looksUp 182 = .ok (.goto 4, 3) := by decide +kernel
theorem dX11_looksUp_185 : decode cX11_looksUp 185 = .ok (.iconst 0, 1) := by decide +kernel
theorem dX11_looksUp_186 : decode cX11_looksUp 186 = .ok (.imul, 1) := by decide +kernel
theorem dX11_looksUp_187 : decode cX11_looksUp 187 = .ok (.iload 6, 2) := by decide +kernel
theorem dX11_looksUp_189 : decode cX11_looksUp 189 = .ok (.iadd, 1) := by decide +kernel
theorem dX11_looksUp_190 : decode cX11_looksUp 190 = .ok (.iconst 1, 1) := by decide +kernel
theorem dX11_looksUp_191 : decode cX11_looksUp 191 = .ok (.bastore, 1) := by decide +kernel
theorem dX11_looksUp_192 : decode cX11_looksUp 192 = .ok (.aload_n 0, 1) := by decide +kernel
theorem dX11_looksUp_193 : decode cX11_looksUp 193 = .ok (.getfield 7, 3) := by decide +kernel
theorem dX11_looksUp_196 : decode cX11_looksUp 196 = .ok (.iload 6, 2) := by decide +kernel
theorem dX11_looksUp_198 : decode cX11_looksUp 198 = .ok (.iaload, 1) := by decide +kernel
theorem dX11_looksUp_199 : decode cX11_looksUp 199 = .ok (.iload_n 2, 1) := by decide +kernel
theorem dX11_looksUp_200 : decode cX11_looksUp 200 = .ok (.ixor, 1) := by decide +kernel
theorem dX11_looksUp_201 : decode cX11_looksUp 201 = .ok (.istore 4, 2) := by decide +kernel
theorem dX11_looksUp_203 : decode cX11_looksUp 203 = .ok (.iinc 5 1, 3) := by decide +kernel
theorem dX11_looksUp_206 : decode cX11_looksUp 206 = .ok (.goto (-144), 3) := by decide +kernel
theorem dX11_looksUp_209 : decode cX11_looksUp 209 = .ok (.iconst 1, 1) := by decide +kernel
theorem dX11_looksUp_210 : decode cX11_looksUp 210 = .ok (.istore 5, 2) := by decide +kernel
theorem dX11_looksUp_212 : decode cX11_looksUp 212 = .ok (.iload 5, 2) := by decide +kernel
theorem dX11_looksUp_214 : decode cX11_looksUp 214 = .ok (.ifCond .eq 97, 3) := by decide +kernel
theorem dX11_looksUp_217 : decode cX11_looksUp 217 = .ok (.iconst 0, 1) := by decide +kernel
theorem dX11_looksUp_218 : decode cX11_looksUp 218 = .ok (.istore 5, 2) := by decide +kernel
theorem dX11_looksUp_220 : decode cX11_looksUp 220 = .ok (.iconst 0, 1) := by decide +kernel
theorem dX11_looksUp_221 : decode cX11_looksUp 221 = .ok (.istore 6, 2) := by decide +kernel
theorem dX11_looksUp_223 : decode cX11_looksUp 223 = .ok (.iload 6, 2) := by decide +kernel
theorem dX11_looksUp_225 : decode cX11_looksUp 225 = .ok (.iload_n 3, 1) := by decide +kernel
theorem dX11_looksUp_226 : decode cX11_looksUp 226 = .ok (.if_icmp .ge 82, 3) := by decide +kernel
theorem dX11_looksUp_229 : decode cX11_looksUp 229 = .ok (.aload_n 0, 1) := by decide +kernel
theorem dX11_looksUp_230 : decode cX11_looksUp 230 = .ok (.iload 6, 2) := by decide +kernel
theorem dX11_looksUp_232 : decode cX11_looksUp 232 = .ok (.iload_n 2, 1) := by decide +kernel
theorem dX11_looksUp_233 : decode cX11_looksUp 233 = .ok (.invokevirtual 103, 3) := by decide +kernel
theorem dX11_looksUp_236 : decode cX11_looksUp 236 = .ok (.istore 7, 2) := by decide +kernel
theorem dX11_looksUp_238 : decode cX11_looksUp 238 = .ok (.aload_n 0, 1) := by decide +kernel
theorem dX11_looksUp_239 : decode cX11_looksUp 239 = .ok (.getfield 35, 3) := by decide +kernel
theorem dX11_looksUp_242 : decode cX11_looksUp 242 = .ok (.iconst 0, 1) := by decide +kernel
theorem dX11_looksUp_243 : decode cX11_looksUp 243 = .ok (.iaload, 1) := by decide +kernel
theorem dX11_looksUp_244 : decode cX11_looksUp 244 = .ok (.istore 8, 2) := by decide +kernel
theorem dX11_looksUp_246 : decode cX11_looksUp 246 = .ok (.aload_n 0, 1) := by decide +kernel
theorem dX11_looksUp_247 : decode cX11_looksUp 247 = .ok (.getfield 35, 3) := by decide +kernel
theorem dX11_looksUp_250 : decode cX11_looksUp 250 = .ok (.iconst 1, 1) := by decide +kernel
theorem dX11_looksUp_251 : decode cX11_looksUp 251 = .ok (.iaload, 1) := by decide +kernel
theorem dX11_looksUp_252 : decode cX11_looksUp 252 = .ok (.istore 9, 2) := by decide +kernel
theorem dX11_looksUp_254 : decode cX11_looksUp 254 = .ok (.iload 7, 2) := by decide +kernel
theorem dX11_looksUp_256 : decode cX11_looksUp 256 = .ok (.ifCond .le 13, 3) := by decide +kernel
theorem dX11_looksUp_259 : decode cX11_looksUp 259 = .ok (.aload_n 0, 1) := by decide +kernel
theorem dX11_looksUp_260 : decode cX11_looksUp 260 = .ok (.iload_n 1, 1) := by decide +kernel
theorem dX11_looksUp_261 : decode cX11_looksUp 261 = .ok (.iload 8, 2) := by decide +kernel
theorem dX11_looksUp_263 : decode cX11_looksUp 263 = .ok (.iload 6, 2) := by decide +kernel
theorem dX11_looksUp_265 : decode cX11_looksUp 265 = .ok (.iload_n 2, 1) := by decide +kernel
theorem dX11_looksUp_266 : decode cX11_looksUp 266 = .ok (.invokevirtual 106, 3) := by decide +kernel
theorem dX11_looksUp_269 : decode cX11_looksUp 269 = .ok (.iload 7, 2) := by decide +kernel
theorem dX11_looksUp_271 : decode cX11_looksUp 271 = .ok (.iconst 1, 1) := by decide +kernel
theorem dX11_looksUp_272 : decode cX11_looksUp 272 = .ok (.if_icmp .le 13, 3) := by decide +kernel
theorem dX11_looksUp_275 : decode cX11_looksUp 275 = .ok (.aload_n 0, 1) := by decide +kernel
theorem dX11_looksUp_276 : decode cX11_looksUp 276 = .ok (.iload_n 1, 1) := by decide +kernel
theorem dX11_looksUp_277 : decode cX11_looksUp 277 = .ok (.iload 9, 2) := by decide +kernel
theorem dX11_looksUp_279 : decode cX11_looksUp 279 = .ok (.iload 6, 2) := by decide +kernel
theorem dX11_looksUp_281 : decode cX11_looksUp 281 = .ok (.iload_n 2, 1) := by decide +kernel
theorem dX11_looksUp_282 : decode cX11_looksUp 282 = .ok (.invokevirtual 106, 3) := by decide +kernel
theorem dX11_looksUp_285 : decode cX11_looksUp 285 = .ok (.iload 5, 2) := by decide +kernel
theorem dX11_looksUp_287 : decode cX11_looksUp 287 = .ok (.ifCond .ne 8, 3) := by decide +kernel
theorem dX11_looksUp_290 : decode cX11_looksUp 290 = .ok (.iload 7, 2) := by decide +kernel
theorem dX11_looksUp_292 : decode cX11_looksUp 292 = .ok (.ifCond .le 7, 3) := by decide +kernel
theorem dX11_looksUp_295 : decode cX11_looksUp 295 = .ok (.iconst 1, 1) := by decide +kernel
theorem dX11_looksUp_296 : decode cX11_looksUp 296 = .ok (.goto 4, 3) := by decide +kernel
theorem dX11_looksUp_299 : decode cX11_looksUp 299 = .ok (.iconst 0, 1) := by decide +kernel
theorem dX11_looksUp_300 : decode cX11_looksUp 300 = .ok (.istore 5, 2) := by decide +kernel
theorem dX11_looksUp_302 : decode cX11_looksUp 302 = .ok (.iinc 6 1, 3) := by decide +kernel
theorem dX11_looksUp_305 : decode cX11_looksUp 305 = .ok (.goto (-82), 3) := by decide +kernel
theorem dX11_looksUp_308 : decode cX11_looksUp 308 = .ok (.goto (-96), 3) := by decide +kernel
theorem dX11_looksUp_311 : decode cX11_looksUp 311 = .ok (.aload_n 0, 1) := by decide +kernel
theorem dX11_looksUp_312 : decode cX11_looksUp 312 = .ok (.iload_n 2, 1) := by decide +kernel
theorem dX11_looksUp_313 : decode cX11_looksUp 313 = .ok (.invokevirtual 110, 3) := by decide +kernel
theorem dX11_looksUp_316 : decode cX11_looksUp 316 = .ok (.return_, 1) := by decide +kernel
theorem dX11_closestOf_0 : decode cX11_closestOf 0 = .ok (.aload_n 0, 1) := by decide +kernel
theorem dX11_closestOf_1 : decode cX11_closestOf 1 = .ok (.iconst 0, 1) := by decide +kernel
theorem dX11_closestOf_2 : decode cX11_closestOf 2 = .ok (.putfield 114, 3) := by decide +kernel
theorem dX11_closestOf_5 : decode cX11_closestOf 5 = .ok (.iconst (-1), 1) := by decide +kernel
theorem dX11_closestOf_6 : decode cX11_closestOf 6 = .ok (.istore_n 2, 1) := by decide +kernel
theorem dX11_closestOf_7 : decode cX11_closestOf 7 = .ok (.iconst 0, 1) := by decide +kernel
theorem dX11_closestOf_8 : decode cX11_closestOf 8 = .ok (.istore_n 3, 1) := by decide +kernel
theorem dX11_closestOf_9 : decode cX11_closestOf 9 = .ok (.iload_n 3, 1) := by decide +kernel
theorem dX11_closestOf_10 : decode cX11_closestOf 10 = .ok (.iconst 3, 1) := by decide +kernel
theorem dX11_closestOf_11 : decode cX11_closestOf 11 = .ok (.if_icmp .ge 135, 3) := by decide +kernel
theorem dX11_closestOf_14 : decode cX11_closestOf 14 = .ok (.iconst (-1), 1) := by decide +kernel
theorem dX11_closestOf_15 : decode cX11_closestOf 15 = .ok (.istore 4, 2) := by decide +kernel
theorem dX11_closestOf_17 : decode cX11_closestOf 17 = .ok (.iconst 0, 1) := by decide +kernel
theorem dX11_closestOf_18 : decode cX11_closestOf 18 = .ok (.istore 5, 2) := by decide +kernel
theorem dX11_closestOf_20 : decode cX11_closestOf 20 = .ok (.iload 5, 2) := by decide +kernel
theorem dX11_closestOf_22 : decode cX11_closestOf 22 = .ok (.aload_n 0, 1) := by decide +kernel
theorem dX11_closestOf_23 : decode cX11_closestOf 23 = .ok (.getfield 78, 3) := by decide +kernel
theorem dX11_closestOf_26 : decode cX11_closestOf 26 = .ok (.if_icmp .ge 77, 3) := by decide +kernel
theorem dX11_closestOf_29 : decode cX11_closestOf 29 = .ok (.aload_n 0, 1) := by decide +kernel
theorem dX11_closestOf_30 : decode cX11_closestOf 30 = .ok (.getfield 7, 3) := by decide +kernel
theorem dX11_closestOf_33 : decode cX11_closestOf 33 = .ok (.iload 5, 2) := by decide +kernel
theorem dX11_closestOf_35 : decode cX11_closestOf 35 = .ok (.iaload, 1) := by decide +kernel
theorem dX11_closestOf_36 : decode cX11_closestOf 36 = .ok (.iload_n 1, 1) := by decide +kernel
theorem dX11_closestOf_37 : decode cX11_closestOf 37 = .ok (.ixor, 1) := by decide +kernel
theorem dX11_closestOf_38 : decode cX11_closestOf 38 = .ok (.istore 6, 2) := by decide +kernel
theorem dX11_closestOf_40 : decode cX11_closestOf 40 = .ok (.aload_n 0, 1) := by decide +kernel
theorem dX11_closestOf_41 : decode cX11_closestOf 41 = .ok (.getfield 32, 3) := by decide +kernel
theorem dX11_closestOf_44 : decode cX11_closestOf 44 = .ok (.iload 5, 2) := by decide +kernel
theorem dX11_closestOf_46 : decode cX11_closestOf 46 = .ok (.baload, 1) := by decide +kernel
theorem dX11_closestOf_47 : decode cX11_closestOf 47 = .ok (.ifCond .eq 13, 3) := by decide +kernel
theorem dX11_closestOf_50 : decode cX11_closestOf 50 = .ok (.iload 6, 2) := by decide +kernel
theorem dX11_closestOf_52 : decode cX11_closestOf 52 = .ok (.iload_n 2, 1) := by decide +kernel
theorem dX11_closestOf_53 : decode cX11_closestOf 53 = .ok (.if_icmp .le 7, 3) := by decide +kernel
theorem dX11_closestOf_56 : decode cX11_closestOf 56 = .ok (.iconst 1, 1) := by decide +kernel
theorem dX11_closestOf_57 : decode cX11_closestOf 57 = .ok (.goto 4, 3) := by decide +kernel
theorem dX11_closestOf_60 : decode cX11_closestOf 60 = .ok (.iconst 0, 1) := by decide +kernel
theorem dX11_closestOf_61 : decode cX11_closestOf 61 = .ok (.istore 7, 2) := by decide +kernel
theorem dX11_closestOf_63 : decode cX11_closestOf 63 = .ok (.iload 7, 2) := by decide +kernel
theorem dX11_closestOf_65 : decode cX11_closestOf 65 = .ok (.ifCond .eq 28, 3) := by decide +kernel
theorem dX11_closestOf_68 : decode cX11_closestOf 68 = .ok (.iload 4, 2) := by decide +kernel
theorem dX11_closestOf_70 : decode cX11_closestOf 70 = .ok (.iconst (-1), 1) := by decide +kernel
theorem dX11_closestOf_71 : decode cX11_closestOf 71 = .ok (.if_icmp .eq 17, 3) := by decide +kernel
theorem dX11_closestOf_74 : decode cX11_closestOf 74 = .ok (.iload 6, 2) := by decide +kernel
theorem dX11_closestOf_76 : decode cX11_closestOf 76 = .ok (.aload_n 0, 1) := by decide +kernel
theorem dX11_closestOf_77 : decode cX11_closestOf 77 = .ok (.getfield 7, 3) := by decide +kernel
theorem dX11_closestOf_80 : decode cX11_closestOf 80 = .ok (.iload 4, 2) := by decide +kernel
theorem dX11_closestOf_82 : decode cX11_closestOf 82 = .ok (.iaload, 1) := by decide +kernel
theorem dX11_closestOf_83 : decode cX11_closestOf 83 = .ok (.iload_n 1, 1) := by decide +kernel
theorem dX11_closestOf_84 : decode cX11_closestOf 84 = .ok (.ixor, 1) := by decide +kernel
theorem dX11_closestOf_85 : decode cX11_closestOf 85 = .ok (.if_icmp .ge 8, 3) := by decide +kernel
theorem dX11_closestOf_88 : decode cX11_closestOf 88 = .ok (.iload 5, 2) := by decide +kernel
theorem dX11_closestOf_90 : decode cX11_closestOf 90 = .ok (.goto 5, 3) := by decide +kernel
theorem dX11_closestOf_93 : decode cX11_closestOf 93 = .ok (.iload 4, 2) := by decide +kernel
theorem dX11_closestOf_95 : decode cX11_closestOf 95 = .ok (.istore 4, 2) := by decide +kernel
theorem dX11_closestOf_97 : decode cX11_closestOf 97 = .ok (.iinc 5 1, 3) := by decide +kernel
theorem dX11_closestOf_100 : decode cX11_closestOf 100 = .ok (.goto (-80), 3) := by decide +kernel
theorem dX11_closestOf_103 : decode cX11_closestOf 103 = .ok (.iload 4, 2) := by decide +kernel
theorem dX11_closestOf_105 : decode cX11_closestOf 105 = .ok (.iconst (-1), 1) := by decide +kernel
theorem dX11_closestOf_106 : decode cX11_closestOf 106 = .ok (.if_icmp .eq 34, 3) := by decide +kernel
theorem dX11_closestOf_109 : decode cX11_closestOf 109 = .ok (.aload_n 0, 1) := by decide +kernel
theorem dX11_closestOf_110 : decode cX11_closestOf 110 = .ok (.getfield 38, 3) := by decide +kernel
theorem dX11_closestOf_113 : decode cX11_closestOf 113 = .ok (.aload_n 0, 1) := by decide +kernel
theorem dX11_closestOf_114 : decode cX11_closestOf 114 = .ok (.getfield 114, 3) := by decide +kernel
theorem dX11_closestOf_117 : decode cX11_closestOf 117 = .ok (.iload 4, 2) := by decide +kernel
theorem dX11_closestOf_119 : decode cX11_closestOf 119 = .ok (.iastore, 1) := by decide +kernel
theorem dX11_closestOf_120 : decode cX11_closestOf 120 = .ok (.aload_n 0, 1) := by decide +kernel
theorem dX11_closestOf_121 : decode cX11_closestOf 121 = .ok (.dup, 1) := by decide +kernel
theorem dX11_closestOf_122 : decode cX11_closestOf 122 = .ok (.getfield 114, 3) := by decide +kernel
theorem dX11_closestOf_125 : decode cX11_closestOf 125 = .ok (.iconst 1, 1) := by decide +kernel
theorem dX11_closestOf_126 : decode cX11_closestOf 126 = .ok (.iadd, 1) := by decide +kernel
theorem dX11_closestOf_127 : decode cX11_closestOf 127 = .ok (.putfield 114, 3) := by decide +kernel
theorem dX11_closestOf_130 : decode cX11_closestOf 130 = .ok (.aload_n 0, 1) := by decide +kernel
theorem dX11_closestOf_131 : decode cX11_closestOf 131 = .ok (.getfield 7, 3) := by decide +kernel
theorem dX11_closestOf_134 : decode cX11_closestOf 134 = .ok (.iload 4, 2) := by decide +kernel
theorem dX11_closestOf_136 : decode cX11_closestOf 136 = .ok (.iaload, 1) := by decide +kernel
theorem dX11_closestOf_137 : decode cX11_closestOf 137 = .ok (.iload_n 1, 1) := by decide +kernel
theorem dX11_closestOf_138 : decode cX11_closestOf 138 = .ok (.ixor, 1) := by decide +kernel
theorem dX11_closestOf_139 : decode cX11_closestOf 139 = .ok (.istore_n 2, 1) := by decide +kernel
theorem dX11_closestOf_140 : decode cX11_closestOf 140 = .ok (.iinc 3 1, 3) := by decide +kernel
theorem dX11_closestOf_143 : decode cX11_closestOf 143 = .ok (.goto (-134), 3) := by decide +kernel
theorem dX11_closestOf_146 : decode cX11_closestOf 146 = .ok (.return_, 1) := by decide +kernel
theorem dX11_told_0 : decode cX11_told 0 = .ok (.iconst 0, 1) := by decide +kernel
theorem dX11_told_1 : decode cX11_told 1 = .ok (.istore_n 1, 1) := by decide +kernel
theorem dX11_told_2 : decode cX11_told 2 = .ok (.aload_n 0, 1) := by decide +kernel
theorem dX11_told_3 : decode cX11_told 3 = .ok (.getfield 114, 3) := by decide +kernel
theorem dX11_told_6 : decode cX11_told 6 = .ok (.iconst 1, 1) := by decide +kernel
theorem dX11_told_7 : decode cX11_told 7 = .ok (.isub, 1) := by decide +kernel
theorem dX11_told_8 : decode cX11_told 8 = .ok (.istore_n 2, 1) := by decide +kernel
theorem dX11_told_9 : decode cX11_told 9 = .ok (.iload_n 2, 1) := by decide +kernel
theorem dX11_told_10 : decode cX11_told 10 = .ok (.ifCond .lt 23, 3) := by decide +kernel
theorem dX11_told_13 : decode cX11_told 13 = .ok (.bipush 32, 2) := by decide +kernel
theorem dX11_told_15 : decode cX11_told 15 = .ok (.iload_n 1, 1) := by decide +kernel
theorem dX11_told_16 : decode cX11_told 16 = .ok (.imul, 1) := by decide +kernel
theorem dX11_told_17 : decode cX11_told 17 = .ok (.aload_n 0, 1) := by decide +kernel
theorem dX11_told_18 : decode cX11_told 18 = .ok (.getfield 38, 3) := by decide +kernel
theorem dX11_told_21 : decode cX11_told 21 = .ok (.iload_n 2, 1) := by decide +kernel
theorem dX11_told_22 : decode cX11_told 22 = .ok (.iaload, 1) := by decide +kernel
theorem dX11_told_23 : decode cX11_told 23 = .ok (.iadd, 1) := by decide +kernel
theorem dX11_told_24 : decode cX11_told 24 = .ok (.iconst 1, 1) := by decide +kernel
theorem dX11_told_25 : decode cX11_told 25 = .ok (.iadd, 1) := by decide +kernel
theorem dX11_told_26 : decode cX11_told 26 = .ok (.istore_n 1, 1) := by decide +kernel
theorem dX11_told_27 : decode cX11_told 27 = .ok (.iinc 2 (-1), 3) := by decide +kernel
theorem dX11_told_30 : decode cX11_told 30 = .ok (.goto (-21), 3) := by decide +kernel
theorem dX11_told_33 : decode cX11_told 33 = .ok (.iload_n 1, 1) := by decide +kernel
theorem dX11_told_34 : decode cX11_told 34 = .ok (.ireturn, 1) := by decide +kernel
theorem dX11_isId_0 : decode cX11_isId 0 = .ok (.iconst 0, 1) := by decide +kernel
theorem dX11_isId_1 : decode cX11_isId 1 = .ok (.istore_n 2, 1) := by decide +kernel
theorem dX11_isId_2 : decode cX11_isId 2 = .ok (.iconst 0, 1) := by decide +kernel
theorem dX11_isId_3 : decode cX11_isId 3 = .ok (.istore_n 3, 1) := by decide +kernel
theorem dX11_isId_4 : decode cX11_isId 4 = .ok (.iload_n 3, 1) := by decide +kernel
theorem dX11_isId_5 : decode cX11_isId 5 = .ok (.aload_n 0, 1) := by decide +kernel
theorem dX11_isId_6 : decode cX11_isId 6 = .ok (.getfield 78, 3) := by decide +kernel
theorem dX11_isId_9 : decode cX11_isId 9 = .ok (.if_icmp .ge 29, 3) := by decide +kernel
theorem dX11_isId_12 : decode cX11_isId 12 = .ok (.iload_n 2, 1) := by decide +kernel
theorem dX11_isId_13 : decode cX11_isId 13 = .ok (.ifCond .ne 13, 3) := by decide +kernel
theorem dX11_isId_16 : decode cX11_isId 16 = .ok (.aload_n 0, 1) := by decide +kernel
theorem dX11_isId_17 : decode cX11_isId 17 = .ok (.getfield 7, 3) := by decide +kernel
theorem dX11_isId_20 : decode cX11_isId 20 = .ok (.iload_n 3, 1) := by decide +kernel
theorem dX11_isId_21 : decode cX11_isId 21 = .ok (.iaload, 1) := by decide +kernel
theorem dX11_isId_22 : decode cX11_isId 22 = .ok (.iload_n 1, 1) := by decide +kernel
theorem dX11_isId_23 : decode cX11_isId 23 = .ok (.if_icmp .ne 7, 3) := by decide +kernel
theorem dX11_isId_26 : decode cX11_isId 26 = .ok (.iconst 1, 1) := by decide +kernel
theorem dX11_isId_27 : decode cX11_isId 27 = .ok (.goto 4, 3) := by decide +kernel
theorem dX11_isId_30 : decode cX11_isId 30 = .ok (.iconst 0, 1) := by decide +kernel
theorem dX11_isId_31 : decode cX11_isId 31 = .ok (.istore_n 2, 1) := by decide +kernel
theorem dX11_isId_32 : decode cX11_isId 32 = .ok (.iinc 3 1, 3) := by decide +kernel
end
section
theorem dX11_isId_35 : decode cX11_isId 35 = .ok (.goto (-31), 3) := by decide +kernel
theorem dX11_isId_38 : decode cX11_isId 38 = .ok (.iload_n 2, 1) := by decide +kernel
theorem dX11_isId_39 : decode cX11_isId 39 = .ok (.ireturn, 1) := by decide +kernel
set_option maxRecDepth 20000 in
theorem ggX11_peer_X11_isIn : GoodIn wsX11_peer wsX11_isIn := goodIn_r _ [8] (by decide +kernel) (by decide +kernel)
set_option maxRecDepth 20000 in
theorem gX11_peer_X11_isIn : GoodIn wsX11_peer (va_wsS RX11 81 yX11_isIn wsX11_isIn) := goodIn_app (goodIn_of _ (by decide +kernel)) ggX11_peer_X11_isIn
set_option maxRecDepth 20000 in
theorem ggX11_peer_X11_isPeer : GoodIn wsX11_peer wsX11_isPeer := goodIn_r _ [12, 1, 5, 6, 7, 8, 58, 59, 60, 61, 62, 63, 64, 65, 66, 67, 68, 69, 70, 71, 72, 73, 74, 75, 76, 77, 78, 79, 80, 81, 82, 83, 84, 85] (by decide +kernel) (by decide +kernel)
set_option maxRecDepth 20000 in
theorem gX11_peer_X11_isPeer : GoodIn wsX11_peer (wsV RX11 117 RX11 yX11_isPeer wsX11_isPeer) := goodIn_app (goodIn_of _ (by decide +kernel)) ggX11_peer_X11_isPeer
set_option maxRecDepth 20000 in
theorem ggX11_peer_X11_isId : GoodIn wsX11_peer wsX11_isId := goodIn_r _ [16, 1, 3, 58, 59, 60, 61, 62, 63, 64, 65, 66, 67, 68, 69, 70, 71, 72, 73, 74, 75, 76, 77, 78, 79, 80, 81, 82, 83, 84, 85] (by decide +kernel) (by decide +kernel)
set_option maxRecDepth 20000 in
theorem gX11_peer_X11_isId : GoodIn wsX11_peer (wsV RX11 121 RX11 yX11_isId wsX11_isId) := goodIn_app (goodIn_of _ (by decide +kernel)) ggX11_peer_X11_isId
set_option maxRecDepth 20000 in
theorem ggX11_peer_X11_holds : GoodIn wsX11_peer wsX11_holds := goodIn_r _ [20, 21, 58, 59, 60, 61, 62, 63, 64, 65, 66, 67, 68, 69, 70, 71, 72, 73, 74, 75, 76, 77, 78, 79, 80, 81, 82, 83, 84, 85] (by decide +kernel) (by decide +kernel)
set_option maxRecDepth 20000 in
theorem gX11_peer_X11_holds : GoodIn wsX11_peer (wsV RX11 124 RX11 yX11_holds wsX11_holds) := goodIn_app (goodIn_of _ (by decide +kernel)) ggX11_peer_X11_holds
set_option maxRecDepth 20000 in
theorem ggX11_peer_X11_hears : GoodIn wsX11_peer wsX11_hears := goodIn_r _ [25, 3, 26, 27, 2, 28, 29, 7, 30, 58, 59, 60, 61, 62, 63, 64, 65, 66, 67, 68, 69, 70, 71, 72, 73, 74, 75, 76, 77, 78, 79, 80, 81, 82, 83, 84, 85] (by decide +kernel) (by decide +kernel)
set_option maxRecDepth 20000 in
theorem gX11_peer_X11_hears : GoodIn wsX11_peer (wsV RX11 95 RX11 yX11_hears wsX11_hears) := goodIn_app (goodIn_of _ (by decide +kernel)) ggX11_peer_X11_hears
set_option maxRecDepth 20000 in
theorem ggX11_peer_X11_looksUp : GoodIn wsX11_peer wsX11_looksUp := goodIn_r _ [34, 35, 36, 37, 38, 1, 3, 39, 40, 41, 42, 7, 43, 26, 27, 44, 45, 46, 47, 48, 49, 50, 51, 2, 4, 22, 23, 24, 25, 28, 29, 30, 52, 53, 54, 55, 56, 57, 58, 59, 60, 61, 62, 63, 64, 65, 66, 67, 68, 69, 70, 71, 72, 73, 74, 75, 76, 77, 78, 79, 80, 81, 82, 83, 84, 85] (by decide +kernel) (by decide +kernel)
set_option maxRecDepth 20000 in
theorem gX11_peer_X11_looksUp : GoodIn wsX11_peer (wsV RX11 127 RX11 yX11_looksUp wsX11_looksUp) := goodIn_app (goodIn_of _ (by decide +kernel)) ggX11_peer_X11_looksUp
theorem dX11_peer_0 : decode cX11_peer 0 = .ok (.iload_n 1, 1) := by decide +kernel
theorem dX11_peer_1 : decode cX11_peer 1 = .ok (.iconst 0, 1) := by decide +kernel
theorem dX11_peer_2 : decode cX11_peer 2 = .ok (.sipush 255, 3) := by decide +kernel
theorem dX11_peer_5 : decode cX11_peer 5 = .ok (.invokestatic 81, 3) := by decide +kernel
theorem dX11_peer_8 : decode cX11_peer 8 = .ok (.ifCond .eq 16, 3) := by decide +kernel
theorem dX11_peer_11 : decode cX11_peer 11 = .ok (.iload_n 2, 1) := by decide +kernel
theorem dX11_peer_12 : decode cX11_peer 12 = .ok (.iconst 0, 1) := by decide +kernel
theorem dX11_peer_13 : decode cX11_peer 13 = .ok (.iconst 2, 1) := by decide +kernel
theorem dX11_peer_14 : decode cX11_peer 14 = .ok (.invokestatic 81, 3) := by decide +kernel
theorem dX11_peer_17 : decode cX11_peer 17 = .ok (.ifCond .eq 7, 3) := by decide +kernel
theorem dX11_peer_20 : decode cX11_peer 20 = .ok (.iconst 1, 1) := by decide +kernel
theorem dX11_peer_21 : decode cX11_peer 21 = .ok (.goto 4, 3) := by decide +kernel
theorem dX11_peer_24 : decode cX11_peer 24 = .ok (.iconst 0, 1) := by decide +kernel
theorem dX11_peer_25 : decode cX11_peer 25 = .ok (.istore 4, 2) := by decide +kernel
theorem dX11_peer_27 : decode cX11_peer 27 = .ok (.iload_n 3, 1) := by decide +kernel
theorem dX11_peer_28 : decode cX11_peer 28 = .ok (.iconst (-1), 1) := by decide +kernel
theorem dX11_peer_29 : decode cX11_peer 29 = .ok (.if_icmp .eq 11, 3) := by decide +kernel
theorem dX11_peer_32 : decode cX11_peer 32 = .ok (.aload_n 0, 1) := by decide +kernel
theorem dX11_peer_33 : decode cX11_peer 33 = .ok (.iload_n 3, 1) := by decide +kernel
theorem dX11_peer_34 : decode cX11_peer 34 = .ok (.invokevirtual 117, 3) := by decide +kernel
theorem dX11_peer_37 : decode cX11_peer 37 = .ok (.ifCond .eq 7, 3) := by decide +kernel
theorem dX11_peer_40 : decode cX11_peer 40 = .ok (.iconst 1, 1) := by decide +kernel
theorem dX11_peer_41 : decode cX11_peer 41 = .ok (.goto 4, 3) := by decide +kernel
theorem dX11_peer_44 : decode cX11_peer 44 = .ok (.iconst 0, 1) := by decide +kernel
theorem dX11_peer_45 : decode cX11_peer 45 = .ok (.istore 5, 2) := by decide +kernel
theorem dX11_peer_47 : decode cX11_peer 47 = .ok (.iload 5, 2) := by decide +kernel
theorem dX11_peer_49 : decode cX11_peer 49 = .ok (.ifCond .eq 38, 3) := by decide +kernel
theorem dX11_peer_52 : decode cX11_peer 52 = .ok (.aload_n 0, 1) := by decide +kernel
theorem dX11_peer_53 : decode cX11_peer 53 = .ok (.getfield 78, 3) := by decide +kernel
theorem dX11_peer_56 : decode cX11_peer 56 = .ok (.bipush 16, 2) := by decide +kernel
theorem dX11_peer_58 : decode cX11_peer 58 = .ok (.if_icmp .ge 29, 3) := by decide +kernel
theorem dX11_peer_61 : decode cX11_peer 61 = .ok (.aload_n 0, 1) := by decide +kernel
theorem dX11_peer_62 : decode cX11_peer 62 = .ok (.iload_n 1, 1) := by decide +kernel
theorem dX11_peer_63 : decode cX11_peer 63 = .ok (.invokevirtual 121, 3) := by decide +kernel
theorem dX11_peer_66 : decode cX11_peer 66 = .ok (.ifCond .ne 21, 3) := by decide +kernel
theorem dX11_peer_69 : decode cX11_peer 69 = .ok (.iload_n 3, 1) := by decide +kernel
theorem dX11_peer_70 : decode cX11_peer 70 = .ok (.iconst (-1), 1) := by decide +kernel
theorem dX11_peer_71 : decode cX11_peer 71 = .ok (.if_icmp .eq 12, 3) := by decide +kernel
theorem dX11_peer_74 : decode cX11_peer 74 = .ok (.aload_n 0, 1) := by decide +kernel
theorem dX11_peer_75 : decode cX11_peer 75 = .ok (.getfield 16, 3) := by decide +kernel
theorem dX11_peer_78 : decode cX11_peer 78 = .ok (.iload_n 3, 1) := by decide +kernel
theorem dX11_peer_79 : decode cX11_peer 79 = .ok (.baload, 1) := by decide +kernel
theorem dX11_peer_80 : decode cX11_peer 80 = .ok (.ifCond .eq 7, 3) := by decide +kernel
theorem dX11_peer_83 : decode cX11_peer 83 = .ok (.iconst 1, 1) := by decide +kernel
theorem dX11_peer_84 : decode cX11_peer 84 = .ok (.goto 4, 3) := by decide +kernel
theorem dX11_peer_87 : decode cX11_peer 87 = .ok (.iconst 0, 1) := by decide +kernel
theorem dX11_peer_88 : decode cX11_peer 88 = .ok (.istore 6, 2) := by decide +kernel
theorem dX11_peer_90 : decode cX11_peer 90 = .ok (.aload_n 0, 1) := by decide +kernel
theorem dX11_peer_91 : decode cX11_peer 91 = .ok (.iload 4, 2) := by decide +kernel
theorem dX11_peer_93 : decode cX11_peer 93 = .ok (.ifCond .ne 7, 3) := by decide +kernel
theorem dX11_peer_96 : decode cX11_peer 96 = .ok (.iconst 1, 1) := by decide +kernel
theorem dX11_peer_97 : decode cX11_peer 97 = .ok (.goto 22, 3) := by decide +kernel
theorem dX11_peer_100 : decode cX11_peer 100 = .ok (.iload 5, 2) := by decide +kernel
theorem dX11_peer_102 : decode cX11_peer 102 = .ok (.ifCond .ne 7, 3) := by decide +kernel
theorem dX11_peer_105 : decode cX11_peer 105 = .ok (.iconst 2, 1) := by decide +kernel
theorem dX11_peer_106 : decode cX11_peer 106 = .ok (.goto 13, 3) := by decide +kernel
theorem dX11_peer_109 : decode cX11_peer 109 = .ok (.iload 6, 2) := by decide +kernel
theorem dX11_peer_111 : decode cX11_peer 111 = .ok (.ifCond .eq 7, 3) := by decide +kernel
theorem dX11_peer_114 : decode cX11_peer 114 = .ok (.iconst 0, 1) := by decide +kernel
theorem dX11_peer_115 : decode cX11_peer 115 = .ok (.goto 4, 3) := by decide +kernel
theorem dX11_peer_118 : decode cX11_peer 118 = .ok (.iconst 3, 1) := by decide +kernel
theorem dX11_peer_119 : decode cX11_peer 119 = .ok (.invokevirtual 124, 3) := by decide +kernel
theorem dX11_peer_122 : decode cX11_peer 122 = .ok (.ifCond .ne 5, 3) := by decide +kernel
theorem dX11_peer_125 : decode cX11_peer 125 = .ok (.iconst 0, 1) := by decide +kernel
theorem dX11_peer_126 : decode cX11_peer 126 = .ok (.ireturn, 1) := by decide +kernel
theorem dX11_peer_127 : decode cX11_peer 127 = .ok (.aload_n 0, 1) := by decide +kernel
theorem dX11_peer_128 : decode cX11_peer 128 = .ok (.getfield 78, 3) := by decide +kernel
theorem dX11_peer_131 : decode cX11_peer 131 = .ok (.istore 7, 2) := by decide +kernel
theorem dX11_peer_133 : decode cX11_peer 133 = .ok (.aload_n 0, 1) := by decide +kernel
theorem dX11_peer_134 : decode cX11_peer 134 = .ok (.getfield 7, 3) := by decide +kernel
theorem dX11_peer_137 : decode cX11_peer 137 = .ok (.iload 7, 2) := by decide +kernel
theorem dX11_peer_139 : decode cX11_peer 139 = .ok (.iload_n 1, 1) := by decide +kernel
theorem dX11_peer_140 : decode cX11_peer 140 = .ok (.iastore, 1) := by decide +kernel
theorem dX11_peer_141 : decode cX11_peer 141 = .ok (.aload_n 0, 1) := by decide +kernel
theorem dX11_peer_142 : decode cX11_peer 142 = .ok (.getfield 13, 3) := by decide +kernel
theorem dX11_peer_145 : decode cX11_peer 145 = .ok (.iload 7, 2) := by decide +kernel
theorem dX11_peer_147 : decode cX11_peer 147 = .ok (.iload_n 2, 1) := by decide +kernel
theorem dX11_peer_148 : decode cX11_peer 148 = .ok (.iastore, 1) := by decide +kernel
theorem dX11_peer_149 : decode cX11_peer 149 = .ok (.aload_n 0, 1) := by decide +kernel
theorem dX11_peer_150 : decode cX11_peer 150 = .ok (.getfield 16, 3) := by decide +kernel
theorem dX11_peer_153 : decode cX11_peer 153 = .ok (.iload 7, 2) := by decide +kernel
theorem dX11_peer_155 : decode cX11_peer 155 = .ok (.iconst 1, 1) := by decide +kernel
theorem dX11_peer_156 : decode cX11_peer 156 = .ok (.bastore, 1) := by decide +kernel
theorem dX11_peer_157 : decode cX11_peer 157 = .ok (.aload_n 0, 1) := by decide +kernel
theorem dX11_peer_158 : decode cX11_peer 158 = .ok (.dup, 1) := by decide +kernel
theorem dX11_peer_159 : decode cX11_peer 159 = .ok (.getfield 78, 3) := by decide +kernel
theorem dX11_peer_162 : decode cX11_peer 162 = .ok (.iconst 1, 1) := by decide +kernel
theorem dX11_peer_163 : decode cX11_peer 163 = .ok (.iadd, 1) := by decide +kernel
theorem dX11_peer_164 : decode cX11_peer 164 = .ok (.putfield 78, 3) := by decide +kernel
theorem dX11_peer_167 : decode cX11_peer 167 = .ok (.iload_n 3, 1) := by decide +kernel
theorem dX11_peer_168 : decode cX11_peer 168 = .ok (.iconst (-1), 1) := by decide +kernel
theorem dX11_peer_169 : decode cX11_peer 169 = .ok (.if_icmp .eq 25, 3) := by decide +kernel
theorem dX11_peer_172 : decode cX11_peer 172 = .ok (.aload_n 0, 1) := by decide +kernel
theorem dX11_peer_173 : decode cX11_peer 173 = .ok (.iload 7, 2) := by decide +kernel
theorem dX11_peer_175 : decode cX11_peer 175 = .ok (.iload_n 3, 1) := by decide +kernel
theorem dX11_peer_176 : decode cX11_peer 176 = .ok (.invokevirtual 95, 3) := by decide +kernel
theorem dX11_peer_179 : decode cX11_peer 179 = .ok (.aload_n 0, 1) := by decide +kernel
theorem dX11_peer_180 : decode cX11_peer 180 = .ok (.iload_n 3, 1) := by decide +kernel
theorem dX11_peer_181 : decode cX11_peer 181 = .ok (.iload 7, 2) := by decide +kernel
theorem dX11_peer_183 : decode cX11_peer 183 = .ok (.invokevirtual 95, 3) := by decide +kernel
theorem dX11_peer_186 : decode cX11_peer 186 = .ok (.aload_n 0, 1) := by decide +kernel
theorem dX11_peer_187 : decode cX11_peer 187 = .ok (.iload 7, 2) := by decide +kernel
theorem dX11_peer_189 : decode cX11_peer 189 = .ok (.iload_n 1, 1) := by decide +kernel
theorem dX11_peer_190 : decode cX11_peer 190 = .ok (.iconst 1, 1) := by decide +kernel
theorem dX11_peer_191 : decode cX11_peer 191 = .ok (.invokevirtual 127, 3) := by decide +kernel
theorem dX11_peer_194 : decode cX11_peer 194 = .ok (.iload 7, 2) := by decide +kernel
theorem dX11_peer_196 : decode cX11_peer 196 = .ok (.ireturn, 1) := by decide +kernel
set_option maxRecDepth 20000 in
theorem ggX11_turn_X11_isPeer : GoodIn wsX11_turn wsX11_isPeer := goodIn_r _ [6, 7, 8, 9, 5, 10, 16, 17, 18, 19, 20, 21, 22, 23, 24, 25, 26, 27, 28, 29, 30, 31, 32, 33, 34, 35, 36, 37, 38, 39, 40, 41, 42, 43] (by decide +kernel) (by decide +kernel)
set_option maxRecDepth 20000 in
theorem gX11_turn_X11_isPeer : GoodIn wsX11_turn (wsV RX11 117 RX11 yX11_isPeer wsX11_isPeer) := goodIn_app (goodIn_of _ (by decide +kernel)) ggX11_turn_X11_isPeer
set_option maxRecDepth 20000 in
theorem ggX11_turn_X11_holds : GoodIn wsX11_turn wsX11_holds := goodIn_r _ [14, 15, 16, 17, 18, 19, 20, 21, 22, 23, 24, 25, 26, 27, 28, 29, 30, 31, 32, 33, 34, 35, 36, 37, 38, 39, 40, 41, 42, 43] (by decide +kernel) (by decide +kernel)
set_option maxRecDepth 20000 in
theorem gX11_turn_X11_holds : GoodIn wsX11_turn (wsV RX11 124 RX11 yX11_holds wsX11_holds) := goodIn_app (goodIn_of _ (by decide +kernel)) ggX11_turn_X11_holds
theorem dX11_turn_0 : decode cX11_turn 0 = .ok (.aload_n 0, 1) := by decide +kernel
theorem dX11_turn_1 : decode cX11_turn 1 = .ok (.aload_n 0, 1) := by decide +kernel
theorem dX11_turn_2 : decode cX11_turn 2 = .ok (.iload_n 1, 1) := by decide +kernel
theorem dX11_turn_3 : decode cX11_turn 3 = .ok (.invokevirtual 117, 3) := by decide +kernel
theorem dX11_turn_6 : decode cX11_turn 6 = .ok (.ifCond .eq 7, 3) := by decide +kernel
theorem dX11_turn_9 : decode cX11_turn 9 = .ok (.iconst 0, 1) := by decide +kernel
theorem dX11_turn_10 : decode cX11_turn 10 = .ok (.goto 4, 3) := by decide +kernel
theorem dX11_turn_13 : decode cX11_turn 13 = .ok (.iconst 1, 1) := by decide +kernel
theorem dX11_turn_14 : decode cX11_turn 14 = .ok (.invokevirtual 124, 3) := by decide +kernel
theorem dX11_turn_17 : decode cX11_turn 17 = .ok (.ifCond .ne 5, 3) := by decide +kernel
theorem dX11_turn_20 : decode cX11_turn 20 = .ok (.iconst 0, 1) := by decide +kernel
theorem dX11_turn_21 : decode cX11_turn 21 = .ok (.ireturn, 1) := by decide +kernel
theorem dX11_turn_22 : decode cX11_turn 22 = .ok (.aload_n 0, 1) := by decide +kernel
theorem dX11_turn_23 : decode cX11_turn 23 = .ok (.getfield 16, 3) := by decide +kernel
theorem dX11_turn_26 : decode cX11_turn 26 = .ok (.iload_n 1, 1) := by decide +kernel
theorem dX11_turn_27 : decode cX11_turn 27 = .ok (.baload, 1) := by decide +kernel
theorem dX11_turn_28 : decode cX11_turn 28 = .ok (.istore_n 3, 1) := by decide +kernel
theorem dX11_turn_29 : decode cX11_turn 29 = .ok (.aload_n 0, 1) := by decide +kernel
theorem dX11_turn_30 : decode cX11_turn 30 = .ok (.getfield 16, 3) := by decide +kernel
theorem dX11_turn_33 : decode cX11_turn 33 = .ok (.iload_n 1, 1) := by decide +kernel
theorem dX11_turn_34 : decode cX11_turn 34 = .ok (.iload_n 2, 1) := by decide +kernel
theorem dX11_turn_35 : decode cX11_turn 35 = .ok (.bastore, 1) := by decide +kernel
theorem dX11_turn_36 : decode cX11_turn 36 = .ok (.iload_n 3, 1) := by decide +kernel
theorem dX11_turn_37 : decode cX11_turn 37 = .ok (.ireturn, 1) := by decide +kernel
set_option maxRecDepth 20000 in
theorem ggX11_bucket_X11_isPeer : GoodIn wsX11_bucket wsX11_isPeer := goodIn_r _ [7, 8, 9, 10, 6, 11, 17, 18, 19, 20, 21, 22, 23, 24, 25, 26, 27, 28, 29, 30, 31, 32, 33, 34, 35, 36, 37, 38, 39, 40, 41, 42, 43, 44] (by decide +kernel) (by decide +kernel)
set_option maxRecDepth 20000 in
theorem gX11_bucket_X11_isPeer : GoodIn wsX11_bucket (wsV RX11 117 RX11 yX11_isPeer wsX11_isPeer) := goodIn_app (goodIn_of _ (by decide +kernel)) ggX11_bucket_X11_isPeer
set_option maxRecDepth 20000 in
theorem ggX11_bucket_X11_isIn : GoodIn wsX11_bucket wsX11_isIn := goodIn_r _ [11] (by decide +kernel) (by decide +kernel)
set_option maxRecDepth 20000 in
theorem gX11_bucket_X11_isIn : GoodIn wsX11_bucket (va_wsS RX11 81 yX11_isIn wsX11_isIn) := goodIn_app (goodIn_of _ (by decide +kernel)) ggX11_bucket_X11_isIn
set_option maxRecDepth 20000 in
theorem ggX11_bucket_X11_holds : GoodIn wsX11_bucket wsX11_holds := goodIn_r _ [15, 16, 17, 18, 19, 20, 21, 22, 23, 24, 25, 26, 27, 28, 29, 30, 31, 32, 33, 34, 35, 36, 37, 38, 39, 40, 41, 42, 43, 44] (by decide +kernel) (by decide +kernel)
set_option maxRecDepth 20000 in
theorem gX11_bucket_X11_holds : GoodIn wsX11_bucket (wsV RX11 124 RX11 yX11_holds wsX11_holds) := goodIn_app (goodIn_of _ (by decide +kernel)) ggX11_bucket_X11_holds
theorem dX11_bucket_0 : decode cX11_bucket 0 = .ok (.aload_n 0, 1) := by decide +kernel
theorem dX11_bucket_1 : decode cX11_bucket 1 = .ok (.aload_n 0, 1) := by decide +kernel
theorem dX11_bucket_2 : decode cX11_bucket 2 = .ok (.iload_n 1, 1) := by decide +kernel
theorem dX11_bucket_3 : decode cX11_bucket 3 = .ok (.invokevirtual 117, 3) := by decide +kernel
theorem dX11_bucket_6 : decode cX11_bucket 6 = .ok (.ifCond .eq 7, 3) := by decide +kernel
theorem dX11_bucket_9 : decode cX11_bucket 9 = .ok (.iload_n 3, 1) := by decide +kernel
theorem dX11_bucket_10 : decode cX11_bucket 10 = .ok (.ifCond .ge 7, 3) := by decide +kernel
theorem dX11_bucket_13 : decode cX11_bucket 13 = .ok (.iconst 1, 1) := by decide +kernel
theorem dX11_bucket_14 : decode cX11_bucket 14 = .ok (.goto 18, 3) := by decide +kernel
theorem dX11_bucket_17 : decode cX11_bucket 17 = .ok (.iload_n 2, 1) := by decide +kernel
theorem dX11_bucket_18 : decode cX11_bucket 18 = .ok (.iconst 0, 1) := by decide +kernel
theorem dX11_bucket_19 : decode cX11_bucket 19 = .ok (.bipush 7, 2) := by decide +kernel
theorem dX11_bucket_21 : decode cX11_bucket 21 = .ok (.invokestatic 81, 3) := by decide +kernel
theorem dX11_bucket_24 : decode cX11_bucket 24 = .ok (.ifCond .eq 7, 3) := by decide +kernel
theorem dX11_bucket_27 : decode cX11_bucket 27 = .ok (.iconst 0, 1) := by decide +kernel
theorem dX11_bucket_28 : decode cX11_bucket 28 = .ok (.goto 4, 3) := by decide +kernel
theorem dX11_bucket_31 : decode cX11_bucket 31 = .ok (.iconst 2, 1) := by decide +kernel
theorem dX11_bucket_32 : decode cX11_bucket 32 = .ok (.invokevirtual 124, 3) := by decide +kernel
theorem dX11_bucket_35 : decode cX11_bucket 35 = .ok (.ifCond .ne 5, 3) := by decide +kernel
theorem dX11_bucket_38 : decode cX11_bucket 38 = .ok (.iconst 0, 1) := by decide +kernel
theorem dX11_bucket_39 : decode cX11_bucket 39 = .ok (.ireturn, 1) := by decide +kernel
theorem dX11_bucket_40 : decode cX11_bucket 40 = .ok (.bipush 8, 2) := by decide +kernel
theorem dX11_bucket_42 : decode cX11_bucket 42 = .ok (.iload_n 1, 1) := by decide +kernel
theorem dX11_bucket_43 : decode cX11_bucket 43 = .ok (.imul, 1) := by decide +kernel
theorem dX11_bucket_44 : decode cX11_bucket 44 = .ok (.iload_n 2, 1) := by decide +kernel
theorem dX11_bucket_45 : decode cX11_bucket 45 = .ok (.iadd, 1) := by decide +kernel
theorem dX11_bucket_46 : decode cX11_bucket 46 = .ok (.istore 4, 2) := by decide +kernel
theorem dX11_bucket_48 : decode cX11_bucket 48 = .ok (.iload_n 3, 1) := by decide +kernel
theorem dX11_bucket_49 : decode cX11_bucket 49 = .ok (.aload_n 0, 1) := by decide +kernel
theorem dX11_bucket_50 : decode cX11_bucket 50 = .ok (.getfield 23, 3) := by decide +kernel
theorem dX11_bucket_53 : decode cX11_bucket 53 = .ok (.iload 4, 2) := by decide +kernel
theorem dX11_bucket_55 : decode cX11_bucket 55 = .ok (.iaload, 1) := by decide +kernel
theorem dX11_bucket_56 : decode cX11_bucket 56 = .ok (.if_icmp .ge 17, 3) := by decide +kernel
theorem dX11_bucket_59 : decode cX11_bucket 59 = .ok (.aload_n 0, 1) := by decide +kernel
theorem dX11_bucket_60 : decode cX11_bucket 60 = .ok (.getfield 20, 3) := by decide +kernel
theorem dX11_bucket_63 : decode cX11_bucket 63 = .ok (.iconst 2, 1) := by decide +kernel
theorem dX11_bucket_64 : decode cX11_bucket 64 = .ok (.iload 4, 2) := by decide +kernel
theorem dX11_bucket_66 : decode cX11_bucket 66 = .ok (.imul, 1) := by decide +kernel
theorem dX11_bucket_67 : decode cX11_bucket 67 = .ok (.iload_n 3, 1) := by decide +kernel
theorem dX11_bucket_68 : decode cX11_bucket 68 = .ok (.iadd, 1) := by decide +kernel
theorem dX11_bucket_69 : decode cX11_bucket 69 = .ok (.iaload, 1) := by decide +kernel
theorem dX11_bucket_70 : decode cX11_bucket 70 = .ok (.goto 4, 3) := by decide +kernel
theorem dX11_bucket_73 : decode cX11_bucket 73 = .ok (.iconst (-1), 1) := by decide +kernel
theorem dX11_bucket_74 : decode cX11_bucket 74 = .ok (.ireturn, 1) := by decide +kernel
set_option maxRecDepth 20000 in
theorem ggX11_lookup_X11_isPeer : GoodIn wsX11_lookup wsX11_isPeer := goodIn_r _ [6, 7, 8, 9, 5, 10, 58, 59, 60, 61, 62, 63, 64, 65, 66, 67, 68, 69, 70, 71, 72, 73, 74, 75, 76, 77, 78, 79, 80, 81, 82, 83, 84, 85] (by decide +kernel) (by decide +kernel)
set_option maxRecDepth 20000 in
theorem gX11_lookup_X11_isPeer : GoodIn wsX11_lookup (wsV RX11 117 RX11 yX11_isPeer wsX11_isPeer) := goodIn_app (goodIn_of _ (by decide +kernel)) ggX11_lookup_X11_isPeer
set_option maxRecDepth 20000 in
theorem ggX11_lookup_X11_isIn : GoodIn wsX11_lookup wsX11_isIn := goodIn_r _ [10] (by decide +kernel) (by decide +kernel)
set_option maxRecDepth 20000 in
theorem gX11_lookup_X11_isIn : GoodIn wsX11_lookup (va_wsS RX11 81 yX11_isIn wsX11_isIn) := goodIn_app (goodIn_of _ (by decide +kernel)) ggX11_lookup_X11_isIn
set_option maxRecDepth 20000 in
theorem ggX11_lookup_X11_holds : GoodIn wsX11_lookup wsX11_holds := goodIn_r _ [14, 15, 58, 59, 60, 61, 62, 63, 64, 65, 66, 67, 68, 69, 70, 71, 72, 73, 74, 75, 76, 77, 78, 79, 80, 81, 82, 83, 84, 85] (by decide +kernel) (by decide +kernel)
set_option maxRecDepth 20000 in
theorem gX11_lookup_X11_holds : GoodIn wsX11_lookup (wsV RX11 124 RX11 yX11_holds wsX11_holds) := goodIn_app (goodIn_of _ (by decide +kernel)) ggX11_lookup_X11_holds
set_option maxRecDepth 20000 in
theorem ggX11_lookup_X11_looksUp : GoodIn wsX11_lookup wsX11_looksUp := goodIn_r _ [19, 20, 21, 22, 23, 7, 24, 25, 26, 27, 28, 5, 29, 30, 31, 32, 33, 34, 35, 36, 37, 38, 39, 1, 40, 41, 42, 43, 44, 45, 46, 47, 48, 49, 50, 51, 52, 53, 58, 59, 60, 61, 62, 63, 64, 65, 66, 67, 68, 69, 70, 71, 72, 73, 74, 75, 76, 77, 78, 79, 80, 81, 82, 83, 84, 85] (by decide +kernel) (by decide +kernel)
set_option maxRecDepth 20000 in
theorem gX11_lookup_X11_looksUp : GoodIn wsX11_lookup (wsV RX11 127 RX11 yX11_looksUp wsX11_looksUp) := goodIn_app (goodIn_of _ (by decide +kernel)) ggX11_lookup_X11_looksUp
set_option maxRecDepth 20000 in
theorem ggX11_lookup_X11_told : GoodIn wsX11_lookup wsX11_told := goodIn_r _ [57, 52, 53, 58, 59, 60, 61, 62, 63, 64, 65, 66, 67, 68, 69, 70, 71, 72, 73, 74, 75, 76, 77, 78, 79, 80, 81, 82, 83, 84, 85] (by decide +kernel) (by decide +kernel)
set_option maxRecDepth 20000 in
theorem gX11_lookup_X11_told : GoodIn wsX11_lookup (wsV RX11 131 RX11 yX11_told wsX11_told) := goodIn_app (goodIn_of _ (by decide +kernel)) ggX11_lookup_X11_told
theorem dX11_lookup_0 : decode cX11_lookup 0 = .ok (.aload_n 0, 1) := by decide +kernel
theorem dX11_lookup_1 : decode cX11_lookup 1 = .ok (.iload_n 1, 1) := by decide +kernel
theorem dX11_lookup_2 : decode cX11_lookup 2 = .ok (.invokevirtual 117, 3) := by decide +kernel
theorem dX11_lookup_5 : decode cX11_lookup 5 = .ok (.istore 4, 2) := by decide +kernel
theorem dX11_lookup_7 : decode cX11_lookup 7 = .ok (.iload_n 2, 1) := by decide +kernel
theorem dX11_lookup_8 : decode cX11_lookup 8 = .ok (.iconst 0, 1) := by decide +kernel
theorem dX11_lookup_9 : decode cX11_lookup 9 = .ok (.sipush 255, 3) := by decide +kernel
theorem dX11_lookup_12 : decode cX11_lookup 12 = .ok (.invokestatic 81, 3) := by decide +kernel
theorem dX11_lookup_15 : decode cX11_lookup 15 = .ok (.ifCond .eq 16, 3) := by decide +kernel
theorem dX11_lookup_18 : decode cX11_lookup 18 = .ok (.iload_n 3, 1) := by decide +kernel
theorem dX11_lookup_19 : decode cX11_lookup 19 = .ok (.iconst 1, 1) := by decide +kernel
theorem dX11_lookup_20 : decode cX11_lookup 20 = .ok (.iconst 2, 1) := by decide +kernel
theorem dX11_lookup_21 : decode cX11_lookup 21 = .ok (.invokestatic 81, 3) := by decide +kernel
theorem dX11_lookup_24 : decode cX11_lookup 24 = .ok (.ifCond .eq 7, 3) := by decide +kernel
theorem dX11_lookup_27 : decode cX11_lookup 27 = .ok (.iconst 1, 1) := by decide +kernel
theorem dX11_lookup_28 : decode cX11_lookup 28 = .ok (.goto 4, 3) := by decide +kernel
theorem dX11_lookup_31 : decode cX11_lookup 31 = .ok (.iconst 0, 1) := by decide +kernel
theorem dX11_lookup_32 : decode cX11_lookup 32 = .ok (.istore 5, 2) := by decide +kernel
theorem dX11_lookup_34 : decode cX11_lookup 34 = .ok (.aload_n 0, 1) := by decide +kernel
theorem dX11_lookup_35 : decode cX11_lookup 35 = .ok (.iload 4, 2) := by decide +kernel
theorem dX11_lookup_37 : decode cX11_lookup 37 = .ok (.ifCond .ne 7, 3) := by decide +kernel
theorem dX11_lookup_40 : decode cX11_lookup 40 = .ok (.iconst 1, 1) := by decide +kernel
theorem dX11_lookup_41 : decode cX11_lookup 41 = .ok (.goto 26, 3) := by decide +kernel
theorem dX11_lookup_44 : decode cX11_lookup 44 = .ok (.iload 5, 2) := by decide +kernel
theorem dX11_lookup_46 : decode cX11_lookup 46 = .ok (.ifCond .ne 7, 3) := by decide +kernel
theorem dX11_lookup_49 : decode cX11_lookup 49 = .ok (.iconst 2, 1) := by decide +kernel
theorem dX11_lookup_50 : decode cX11_lookup 50 = .ok (.goto 17, 3) := by decide +kernel
theorem dX11_lookup_53 : decode cX11_lookup 53 = .ok (.aload_n 0, 1) := by decide +kernel
theorem dX11_lookup_54 : decode cX11_lookup 54 = .ok (.getfield 16, 3) := by decide +kernel
theorem dX11_lookup_57 : decode cX11_lookup 57 = .ok (.iload_n 1, 1) := by decide +kernel
theorem dX11_lookup_58 : decode cX11_lookup 58 = .ok (.baload, 1) := by decide +kernel
theorem dX11_lookup_59 : decode cX11_lookup 59 = .ok (.ifCond .eq 7, 3) := by decide +kernel
theorem dX11_lookup_62 : decode cX11_lookup 62 = .ok (.iconst 0, 1) := by decide +kernel
theorem dX11_lookup_63 : decode cX11_lookup 63 = .ok (.goto 4, 3) := by decide +kernel
theorem dX11_lookup_66 : decode cX11_lookup 66 = .ok (.iconst 3, 1) := by decide +kernel
theorem dX11_lookup_67 : decode cX11_lookup 67 = .ok (.invokevirtual 124, 3) := by decide +kernel
theorem dX11_lookup_70 : decode cX11_lookup 70 = .ok (.ifCond .ne 5, 3) := by decide +kernel
theorem dX11_lookup_73 : decode cX11_lookup 73 = .ok (.iconst 0, 1) := by decide +kernel
theorem dX11_lookup_74 : decode cX11_lookup 74 = .ok (.ireturn, 1) := by decide +kernel
theorem dX11_lookup_75 : decode cX11_lookup 75 = .ok (.aload_n 0, 1) := by decide +kernel
theorem dX11_lookup_76 : decode cX11_lookup 76 = .ok (.iload_n 1, 1) := by decide +kernel
theorem dX11_lookup_77 : decode cX11_lookup 77 = .ok (.iload_n 2, 1) := by decide +kernel
theorem dX11_lookup_78 : decode cX11_lookup 78 = .ok (.iload_n 3, 1) := by decide +kernel
theorem dX11_lookup_79 : decode cX11_lookup 79 = .ok (.invokevirtual 127, 3) := by decide +kernel
theorem dX11_lookup_82 : decode cX11_lookup 82 = .ok (.aload_n 0, 1) := by decide +kernel
theorem dX11_lookup_83 : decode cX11_lookup 83 = .ok (.invokevirtual 131, 3) := by decide +kernel
theorem dX11_lookup_86 : decode cX11_lookup 86 = .ok (.ireturn, 1) := by decide +kernel
theorem dX11_asked_0 : decode cX11_asked 0 = .ok (.aload_n 0, 1) := by decide +kernel
theorem dX11_asked_1 : decode cX11_asked 1 = .ok (.iconst 0, 1) := by decide +kernel
theorem dX11_asked_2 : decode cX11_asked 2 = .ok (.putfield 74, 3) := by decide +kernel
theorem dX11_asked_5 : decode cX11_asked 5 = .ok (.aload_n 0, 1) := by decide +kernel
theorem dX11_asked_6 : decode cX11_asked 6 = .ok (.getfield 92, 3) := by decide +kernel
theorem dX11_asked_9 : decode cX11_asked 9 = .ok (.ireturn, 1) := by decide +kernel
set_option maxRecDepth 20000 in
theorem ggX11_closest_X11_isPeer : GoodIn wsX11_closest wsX11_isPeer := goodIn_r _ [9, 2, 10, 11, 8, 12, 29, 30, 31, 32, 33, 34, 35, 36, 37, 38, 39, 40, 41, 42, 43, 44, 45, 46, 47, 48, 49, 50, 51, 52, 53, 54, 55, 56] (by decide +kernel) (by decide +kernel)
set_option maxRecDepth 20000 in
theorem gX11_closest_X11_isPeer : GoodIn wsX11_closest (wsV RX11 117 RX11 yX11_isPeer wsX11_isPeer) := goodIn_app (goodIn_of _ (by decide +kernel)) ggX11_closest_X11_isPeer
set_option maxRecDepth 20000 in
theorem ggX11_closest_X11_isIn : GoodIn wsX11_closest wsX11_isIn := goodIn_r _ [12] (by decide +kernel) (by decide +kernel)
set_option maxRecDepth 20000 in
theorem gX11_closest_X11_isIn : GoodIn wsX11_closest (va_wsS RX11 81 yX11_isIn wsX11_isIn) := goodIn_app (goodIn_of _ (by decide +kernel)) ggX11_closest_X11_isIn
set_option maxRecDepth 20000 in
theorem ggX11_closest_X11_holds : GoodIn wsX11_closest wsX11_holds := goodIn_r _ [16, 17, 29, 30, 31, 32, 33, 34, 35, 36, 37, 38, 39, 40, 41, 42, 43, 44, 45, 46, 47, 48, 49, 50, 51, 52, 53, 54, 55, 56] (by decide +kernel) (by decide +kernel)
set_option maxRecDepth 20000 in
theorem gX11_closest_X11_holds : GoodIn wsX11_closest (wsV RX11 124 RX11 yX11_holds wsX11_holds) := goodIn_app (goodIn_of _ (by decide +kernel)) ggX11_closest_X11_holds
set_option maxRecDepth 20000 in
theorem ggX11_closest_X11_closestOf : GoodIn wsX11_closest wsX11_closestOf := goodIn_r _ [21, 22, 2, 23, 1, 24, 29, 30, 31, 32, 33, 34, 35, 36, 37, 38, 39, 40, 41, 42, 43, 44, 45, 46, 47, 48, 49, 50, 51, 52, 53, 54, 55, 56] (by decide +kernel) (by decide +kernel)
set_option maxRecDepth 20000 in
theorem gX11_closest_X11_closestOf : GoodIn wsX11_closest (wsV RX11 110 RX11 yX11_closestOf wsX11_closestOf) := goodIn_app (goodIn_of _ (by decide +kernel)) ggX11_closest_X11_closestOf
set_option maxRecDepth 20000 in
theorem ggX11_closest_X11_told : GoodIn wsX11_closest wsX11_told := goodIn_r _ [28, 22, 24, 29, 30, 31, 32, 33, 34, 35, 36, 37, 38, 39, 40, 41, 42, 43, 44, 45, 46, 47, 48, 49, 50, 51, 52, 53, 54, 55, 56] (by decide +kernel) (by decide +kernel)
set_option maxRecDepth 20000 in
theorem gX11_closest_X11_told : GoodIn wsX11_closest (wsV RX11 131 RX11 yX11_told wsX11_told) := goodIn_app (goodIn_of _ (by decide +kernel)) ggX11_closest_X11_told
theorem dX11_closest_0 : decode cX11_closest 0 = .ok (.aload_n 0, 1) := by decide +kernel
theorem dX11_closest_1 : decode cX11_closest 1 = .ok (.aload_n 0, 1) := by decide +kernel
theorem dX11_closest_2 : decode cX11_closest 2 = .ok (.iload_n 1, 1) := by decide +kernel
theorem dX11_closest_3 : decode cX11_closest 3 = .ok (.invokevirtual 117, 3) := by decide +kernel
theorem dX11_closest_6 : decode cX11_closest 6 = .ok (.ifCond .ne 7, 3) := by decide +kernel
theorem dX11_closest_9 : decode cX11_closest 9 = .ok (.iconst 1, 1) := by decide +kernel
theorem dX11_closest_10 : decode cX11_closest 10 = .ok (.goto 19, 3) := by decide +kernel
theorem dX11_closest_13 : decode cX11_closest 13 = .ok (.iload_n 2, 1) := by decide +kernel
theorem dX11_closest_14 : decode cX11_closest 14 = .ok (.iconst 0, 1) := by decide +kernel
theorem dX11_closest_15 : decode cX11_closest 15 = .ok (.sipush 255, 3) := by decide +kernel
theorem dX11_closest_18 : decode cX11_closest 18 = .ok (.invokestatic 81, 3) := by decide +kernel
theorem dX11_closest_21 : decode cX11_closest 21 = .ok (.ifCond .eq 7, 3) := by decide +kernel
theorem dX11_closest_24 : decode cX11_closest 24 = .ok (.iconst 0, 1) := by decide +kernel
theorem dX11_closest_25 : decode cX11_closest 25 = .ok (.goto 4, 3) := by decide +kernel
theorem dX11_closest_28 : decode cX11_closest 28 = .ok (.iconst 2, 1) := by decide +kernel
theorem dX11_closest_29 : decode cX11_closest 29 = .ok (.invokevirtual 124, 3) := by decide +kernel
theorem dX11_closest_32 : decode cX11_closest 32 = .ok (.ifCond .ne 5, 3) := by decide +kernel
theorem dX11_closest_35 : decode cX11_closest 35 = .ok (.iconst 0, 1) := by decide +kernel
theorem dX11_closest_36 : decode cX11_closest 36 = .ok (.ireturn, 1) := by decide +kernel
theorem dX11_closest_37 : decode cX11_closest 37 = .ok (.iconst 0, 1) := by decide +kernel
theorem dX11_closest_38 : decode cX11_closest 38 = .ok (.istore_n 3, 1) := by decide +kernel
theorem dX11_closest_39 : decode cX11_closest 39 = .ok (.iload_n 3, 1) := by decide +kernel
theorem dX11_closest_40 : decode cX11_closest 40 = .ok (.bipush 16, 2) := by decide +kernel
theorem dX11_closest_42 : decode cX11_closest 42 = .ok (.if_icmp .ge 52, 3) := by decide +kernel
theorem dX11_closest_45 : decode cX11_closest 45 = .ok (.aload_n 0, 1) := by decide +kernel
theorem dX11_closest_46 : decode cX11_closest 46 = .ok (.getfield 32, 3) := by decide +kernel
theorem dX11_closest_49 : decode cX11_closest 49 = .ok (.iload_n 3, 1) := by decide +kernel
theorem dX11_closest_50 : decode cX11_closest 50 = .ok (.iload_n 3, 1) := by decide +kernel
theorem dX11_closest_51 : decode cX11_closest 51 = .ok (.aload_n 0, 1) := by decide +kernel
theorem dX11_closest_52 : decode cX11_closest 52 = .ok (.getfield 78, 3) := by decide +kernel
theorem dX11_closest_55 : decode cX11_closest 55 = .ok (.if_icmp .ge 31, 3) := by decide +kernel
theorem dX11_closest_58 : decode cX11_closest 58 = .ok (.iload_n 3, 1) := by decide +kernel
theorem dX11_closest_59 : decode cX11_closest 59 = .ok (.iload_n 1, 1) := by decide +kernel
theorem dX11_closest_60 : decode cX11_closest 60 = .ok (.if_icmp .eq 26, 3) := by decide +kernel
theorem dX11_closest_63 : decode cX11_closest 63 = .ok (.aload_n 0, 1) := by decide +kernel
theorem dX11_closest_64 : decode cX11_closest 64 = .ok (.getfield 16, 3) := by decide +kernel
theorem dX11_closest_67 : decode cX11_closest 67 = .ok (.iload_n 3, 1) := by decide +kernel
theorem dX11_closest_68 : decode cX11_closest 68 = .ok (.baload, 1) := by decide +kernel
theorem dX11_closest_69 : decode cX11_closest 69 = .ok (.ifCond .eq 17, 3) := by decide +kernel
theorem dX11_closest_72 : decode cX11_closest 72 = .ok (.aload_n 0, 1) := by decide +kernel
theorem dX11_closest_73 : decode cX11_closest 73 = .ok (.getfield 13, 3) := by decide +kernel
theorem dX11_closest_76 : decode cX11_closest 76 = .ok (.iload_n 3, 1) := by decide +kernel
theorem dX11_closest_77 : decode cX11_closest 77 = .ok (.iaload, 1) := by decide +kernel
theorem dX11_closest_78 : decode cX11_closest 78 = .ok (.iconst 1, 1) := by decide +kernel
theorem dX11_closest_79 : decode cX11_closest 79 = .ok (.if_icmp .eq 7, 3) := by decide +kernel
theorem dX11_closest_82 : decode cX11_closest 82 = .ok (.iconst 1, 1) := by decide +kernel
theorem dX11_closest_83 : decode cX11_closest 83 = .ok (.goto 4, 3) := by decide +kernel
theorem dX11_closest_86 : decode cX11_closest 86 = .ok (.iconst 0, 1) := by decide +kernel
theorem dX11_closest_87 : decode cX11_closest 87 = .ok (.bastore, 1) := by decide +kernel
theorem dX11_closest_88 : decode cX11_closest 88 = .ok (.iinc 3 1, 3) := by decide +kernel
theorem dX11_closest_91 : decode cX11_closest 91 = .ok (.goto (-52), 3) := by decide +kernel
theorem dX11_closest_94 : decode cX11_closest 94 = .ok (.aload_n 0, 1) := by decide +kernel
theorem dX11_closest_95 : decode cX11_closest 95 = .ok (.iload_n 2, 1) := by decide +kernel
theorem dX11_closest_96 : decode cX11_closest 96 = .ok (.invokevirtual 110, 3) := by decide +kernel
theorem dX11_closest_99 : decode cX11_closest 99 = .ok (.aload_n 0, 1) := by decide +kernel
theorem dX11_closest_100 : decode cX11_closest 100 = .ok (.invokevirtual 131, 3) := by decide +kernel
theorem dX11_closest_103 : decode cX11_closest 103 = .ok (.ireturn, 1) := by decide +kernel
theorem dX11_twice_0 : decode cX11_twice 0 = .ok (.iload_n 0, 1) := by decide +kernel
theorem dX11_twice_1 : decode cX11_twice 1 = .ok (.sipush 128, 3) := by decide +kernel
theorem dX11_twice_4 : decode cX11_twice 4 = .ok (.if_icmp .ge 9, 3) := by decide +kernel
theorem dX11_twice_7 : decode cX11_twice 7 = .ok (.iconst 2, 1) := by decide +kernel
theorem dX11_twice_8 : decode cX11_twice 8 = .ok (.iload_n 0, 1) := by decide +kernel
theorem dX11_twice_9 : decode cX11_twice 9 = .ok (.imul, 1) := by decide +kernel
theorem dX11_twice_10 : decode cX11_twice 10 = .ok (.goto 10, 3) := by decide +kernel
theorem dX11_twice_13 : decode cX11_twice 13 = .ok (.iconst 2, 1) := by decide +kernel
theorem dX11_twice_14 : decode cX11_twice 14 = .ok (.iload_n 0, 1) := by decide +kernel
theorem dX11_twice_15 : decode cX11_twice 15 = .ok (.imul, 1) := by decide +kernel
theorem dX11_twice_16 : decode cX11_twice 16 = .ok (.sipush 285, 3) := by decide +kernel
theorem dX11_twice_19 : decode cX11_twice 19 = .ok (.ixor, 1) := by decide +kernel
theorem dX11_twice_20 : decode cX11_twice 20 = .ok (.ireturn, 1) := by decide +kernel
set_option maxRecDepth 20000 in
theorem ggX11_times_X11_twice : GoodIn wsX11_times wsX11_twice := goodIn_r _ [4] (by decide +kernel) (by decide +kernel)
set_option maxRecDepth 20000 in
theorem gX11_times_X11_twice : GoodIn wsX11_times (va_wsS RX11 135 yX11_twice wsX11_twice) := goodIn_app (goodIn_of _ (by decide +kernel)) ggX11_times_X11_twice
theorem dX11_times_0 : decode cX11_times 0 = .ok (.iconst 0, 1) := by decide +kernel
theorem dX11_times_1 : decode cX11_times 1 = .ok (.istore_n 2, 1) := by decide +kernel
theorem dX11_times_2 : decode cX11_times 2 = .ok (.iload_n 0, 1) := by decide +kernel
theorem dX11_times_3 : decode cX11_times 3 = .ok (.istore_n 3, 1) := by decide +kernel
theorem dX11_times_4 : decode cX11_times 4 = .ok (.iload_n 1, 1) := by decide +kernel
theorem dX11_times_5 : decode cX11_times 5 = .ok (.istore 4, 2) := by decide +kernel
theorem dX11_times_7 : decode cX11_times 7 = .ok (.iload 4, 2) := by decide +kernel
theorem dX11_times_9 : decode cX11_times 9 = .ok (.ifCond .le 33, 3) := by decide +kernel
theorem dX11_times_12 : decode cX11_times 12 = .ok (.iload_n 2, 1) := by decide +kernel
theorem dX11_times_13 : decode cX11_times 13 = .ok (.iload 4, 2) := by decide +kernel
theorem dX11_times_15 : decode cX11_times 15 = .ok (.iconst 2, 1) := by decide +kernel
theorem dX11_times_16 : decode cX11_times 16 = .ok (.irem, 1) := by decide +kernel
theorem dX11_times_17 : decode cX11_times 17 = .ok (.iconst 1, 1) := by decide +kernel
theorem dX11_times_18 : decode cX11_times 18 = .ok (.if_icmp .ne 7, 3) := by decide +kernel
theorem dX11_times_21 : decode cX11_times 21 = .ok (.iload_n 3, 1) := by decide +kernel
theorem dX11_times_22 : decode cX11_times 22 = .ok (.goto 4, 3) := by decide +kernel
theorem dX11_times_25 : decode cX11_times 25 = .ok (.iconst 0, 1) := by decide +kernel
theorem dX11_times_26 : decode cX11_times 26 = .ok (.ixor, 1) := by decide +kernel
theorem dX11_times_27 : decode cX11_times 27 = .ok (.istore_n 2, 1) := by decide +kernel
theorem dX11_times_28 : decode cX11_times 28 = .ok (.iload_n 3, 1) := by decide +kernel
theorem dX11_times_29 : decode cX11_times 29 = .ok (.invokestatic 135, 3) := by decide +kernel
theorem dX11_times_32 : decode cX11_times 32 = .ok (.istore_n 3, 1) := by decide +kernel
theorem dX11_times_33 : decode cX11_times 33 = .ok (.iload 4, 2) := by decide +kernel
theorem dX11_times_35 : decode cX11_times 35 = .ok (.iconst 2, 1) := by decide +kernel
theorem dX11_times_36 : decode cX11_times 36 = .ok (.idiv, 1) := by decide +kernel
theorem dX11_times_37 : decode cX11_times 37 = .ok (.istore 4, 2) := by decide +kernel
theorem dX11_times_39 : decode cX11_times 39 = .ok (.goto (-32), 3) := by decide +kernel
theorem dX11_times_42 : decode cX11_times 42 = .ok (.iload_n 2, 1) := by decide +kernel
theorem dX11_times_43 : decode cX11_times 43 = .ok (.ireturn, 1) := by decide +kernel
theorem dX11_hash_0 : decode cX11_hash 0 = .ok (.iload_n 0, 1) := by decide +kernel
theorem dX11_hash_1 : decode cX11_hash 1 = .ok (.bipush 31, 2) := by decide +kernel
theorem dX11_hash_3 : decode cX11_hash 3 = .ok (.imul, 1) := by decide +kernel
theorem dX11_hash_4 : decode cX11_hash 4 = .ok (.iload_n 1, 1) := by decide +kernel
theorem dX11_hash_5 : decode cX11_hash 5 = .ok (.iadd, 1) := by decide +kernel
theorem dX11_hash_6 : decode cX11_hash 6 = .ok (.ldc 139, 2) := by decide +kernel
theorem dX11_hash_8 : decode cX11_hash 8 = .ok (.imul, 1) := by decide +kernel
theorem dX11_hash_9 : decode cX11_hash 9 = .ok (.sipush 12345, 3) := by decide +kernel
theorem dX11_hash_12 : decode cX11_hash 12 = .ok (.iadd, 1) := by decide +kernel
theorem dX11_hash_13 : decode cX11_hash 13 = .ok (.istore_n 2, 1) := by decide +kernel
theorem dX11_hash_14 : decode cX11_hash 14 = .ok (.iload_n 2, 1) := by decide +kernel
theorem dX11_hash_15 : decode cX11_hash 15 = .ok (.iload_n 2, 1) := by decide +kernel
theorem dX11_hash_16 : decode cX11_hash 16 = .ok (.bipush 16, 2) := by decide +kernel
theorem dX11_hash_18 : decode cX11_hash 18 = .ok (.iushr, 1) := by decide +kernel
theorem dX11_hash_19 : decode cX11_hash 19 = .ok (.ixor, 1) := by decide +kernel
theorem dX11_hash_20 : decode cX11_hash 20 = .ok (.ireturn, 1) := by decide +kernel
set_option maxRecDepth 20000 in
theorem ggX11_laysTree_X11_hash : GoodIn wsX11_laysTree wsX11_hash := goodIn_r _ [6, 7] (by decide +kernel) (by decide +kernel)
set_option maxRecDepth 20000 in
theorem gX11_laysTree_X11_hash : GoodIn wsX11_laysTree (va_wsS RX11 140 yX11_hash wsX11_hash) := goodIn_app (goodIn_of _ (by decide +kernel)) ggX11_laysTree_X11_hash
theorem dX11_laysTree_0 : decode cX11_laysTree 0 = .ok (.iconst 0, 1) := by decide +kernel
theorem dX11_laysTree_1 : decode cX11_laysTree 1 = .ok (.istore_n 2, 1) := by decide +kernel
theorem dX11_laysTree_2 : decode cX11_laysTree 2 = .ok (.iload_n 2, 1) := by decide +kernel
theorem dX11_laysTree_3 : decode cX11_laysTree 3 = .ok (.bipush 8, 2) := by decide +kernel
theorem dX11_laysTree_5 : decode cX11_laysTree 5 = .ok (.if_icmp .ge 43, 3) := by decide +kernel
theorem dX11_laysTree_8 : decode cX11_laysTree 8 = .ok (.aload_n 0, 1) := by decide +kernel
theorem dX11_laysTree_9 : decode cX11_laysTree 9 = .ok (.getfield 56, 3) := by decide +kernel
theorem dX11_laysTree_12 : decode cX11_laysTree 12 = .ok (.bipush 8, 2) := by decide +kernel
theorem dX11_laysTree_14 : decode cX11_laysTree 14 = .ok (.iload_n 2, 1) := by decide +kernel
theorem dX11_laysTree_15 : decode cX11_laysTree 15 = .ok (.iadd, 1) := by decide +kernel
theorem dX11_laysTree_16 : decode cX11_laysTree 16 = .ok (.iload_n 2, 1) := by decide +kernel
theorem dX11_laysTree_17 : decode cX11_laysTree 17 = .ok (.bipush 6, 2) := by decide +kernel
theorem dX11_laysTree_19 : decode cX11_laysTree 19 = .ok (.if_icmp .ge 21, 3) := by decide +kernel
theorem dX11_laysTree_22 : decode cX11_laysTree 22 = .ok (.aload_n 0, 1) := by decide +kernel
theorem dX11_laysTree_23 : decode cX11_laysTree 23 = .ok (.getfield 44, 3) := by decide +kernel
theorem dX11_laysTree_26 : decode cX11_laysTree 26 = .ok (.bipush 6, 2) := by decide +kernel
theorem dX11_laysTree_28 : decode cX11_laysTree 28 = .ok (.iload_n 1, 1) := by decide +kernel
theorem dX11_laysTree_29 : decode cX11_laysTree 29 = .ok (.imul, 1) := by decide +kernel
theorem dX11_laysTree_30 : decode cX11_laysTree 30 = .ok (.iload_n 2, 1) := by decide +kernel
theorem dX11_laysTree_31 : decode cX11_laysTree 31 = .ok (.iadd, 1) := by decide +kernel
theorem dX11_laysTree_32 : decode cX11_laysTree 32 = .ok (.iaload, 1) := by decide +kernel
theorem dX11_laysTree_33 : decode cX11_laysTree 33 = .ok (.iload_n 2, 1) := by decide +kernel
theorem dX11_laysTree_34 : decode cX11_laysTree 34 = .ok (.invokestatic 140, 3) := by decide +kernel
theorem dX11_laysTree_37 : decode cX11_laysTree 37 = .ok (.goto 4, 3) := by decide +kernel
theorem dX11_laysTree_40 : decode cX11_laysTree 40 = .ok (.iconst 0, 1) := by decide +kernel
theorem dX11_laysTree_41 : decode cX11_laysTree 41 = .ok (.iastore, 1) := by decide +kernel
theorem dX11_laysTree_42 : decode cX11_laysTree 42 = .ok (.iinc 2 1, 3) := by decide +kernel
theorem dX11_laysTree_45 : decode cX11_laysTree 45 = .ok (.goto (-43), 3) := by decide +kernel
theorem dX11_laysTree_48 : decode cX11_laysTree 48 = .ok (.bipush 7, 2) := by decide +kernel
theorem dX11_laysTree_50 : decode cX11_laysTree 50 = .ok (.istore_n 2, 1) := by decide +kernel
theorem dX11_laysTree_51 : decode cX11_laysTree 51 = .ok (.iload_n 2, 1) := by decide +kernel
theorem dX11_laysTree_52 : decode cX11_laysTree 52 = .ok (.ifCond .le 36, 3) := by decide +kernel
theorem dX11_laysTree_55 : decode cX11_laysTree 55 = .ok (.aload_n 0, 1) := by decide +kernel
theorem dX11_laysTree_56 : decode cX11_laysTree 56 = .ok (.getfield 56, 3) := by decide +kernel
theorem dX11_laysTree_59 : decode cX11_laysTree 59 = .ok (.iload_n 2, 1) := by decide +kernel
theorem dX11_laysTree_60 : decode cX11_laysTree 60 = .ok (.aload_n 0, 1) := by decide +kernel
theorem dX11_laysTree_61 : decode cX11_laysTree 61 = .ok (.getfield 56, 3) := by decide +kernel
theorem dX11_laysTree_64 : decode cX11_laysTree 64 = .ok (.iconst 2, 1) := by decide +kernel
theorem dX11_laysTree_65 : decode cX11_laysTree 65 = .ok (.iload_n 2, 1) := by decide +kernel
theorem dX11_laysTree_66 : decode cX11_laysTree 66 = .ok (.imul, 1) := by decide +kernel
theorem dX11_laysTree_67 : decode cX11_laysTree 67 = .ok (.iaload, 1) := by decide +kernel
theorem dX11_laysTree_68 : decode cX11_laysTree 68 = .ok (.aload_n 0, 1) := by decide +kernel
theorem dX11_laysTree_69 : decode cX11_laysTree 69 = .ok (.getfield 56, 3) := by decide +kernel
theorem dX11_laysTree_72 : decode cX11_laysTree 72 = .ok (.iconst 2, 1) := by decide +kernel
theorem dX11_laysTree_73 : decode cX11_laysTree 73 = .ok (.iload_n 2, 1) := by decide +kernel
theorem dX11_laysTree_74 : decode cX11_laysTree 74 = .ok (.imul, 1) := by decide +kernel
theorem dX11_laysTree_75 : decode cX11_laysTree 75 = .ok (.iconst 1, 1) := by decide +kernel
theorem dX11_laysTree_76 : decode cX11_laysTree 76 = .ok (.iadd, 1) := by decide +kernel
theorem dX11_laysTree_77 : decode cX11_laysTree 77 = .ok (.iaload, 1) := by decide +kernel
theorem dX11_laysTree_78 : decode cX11_laysTree 78 = .ok (.invokestatic 140, 3) := by decide +kernel
theorem dX11_laysTree_81 : decode cX11_laysTree 81 = .ok (.iastore, 1) := by decide +kernel
theorem dX11_laysTree_82 : decode cX11_laysTree 82 = .ok (.iinc 2 (-1), 3) := by decide +kernel
theorem dX11_laysTree_85 : decode cX11_laysTree 85 = .ok (.goto (-34), 3) := by decide +kernel
theorem dX11_laysTree_88 : decode cX11_laysTree 88 = .ok (.return_, 1) := by decide +kernel
set_option maxRecDepth 20000 in
theorem ggX11_stores_X11_hash : GoodIn wsX11_stores wsX11_hash := goodIn_r _ [12, 13] (by decide +kernel) (by decide +kernel)
set_option maxRecDepth 20000 in
theorem gX11_stores_X11_hash : GoodIn wsX11_stores (va_wsS RX11 140 yX11_hash wsX11_hash) := goodIn_app (goodIn_of _ (by decide +kernel)) ggX11_stores_X11_hash
set_option maxRecDepth 20000 in
theorem ggX11_stores_X11_looksUp : GoodIn wsX11_stores wsX11_looksUp := goodIn_r _ [17, 18, 19, 20, 21, 22, 23, 24, 25, 26, 27, 11, 28, 29, 30, 31, 32, 33, 34, 35, 36, 37, 38, 39, 8, 40, 41, 42, 43, 44, 45, 46, 47, 48, 49, 50, 6, 7, 51, 52, 53, 54, 55, 56, 57, 58, 59, 60, 61, 62, 63, 64, 65, 66, 67, 68, 69, 70, 71, 72, 73, 74, 75, 76, 77, 78] (by decide +kernel) (by decide +kernel)
set_option maxRecDepth 20000 in
theorem gX11_stores_X11_looksUp : GoodIn wsX11_stores (wsV RX11 127 RX11 yX11_looksUp wsX11_looksUp) := goodIn_app (goodIn_of _ (by decide +kernel)) ggX11_stores_X11_looksUp
theorem dX11_stores_0 : decode cX11_stores 0 = .ok (.bipush 6, 2) := by decide +kernel
theorem dX11_stores_2 : decode cX11_stores 2 = .ok (.iload_n 1, 1) := by decide +kernel
theorem dX11_stores_3 : decode cX11_stores 3 = .ok (.imul, 1) := by decide +kernel
theorem dX11_stores_4 : decode cX11_stores 4 = .ok (.iload_n 2, 1) := by decide +kernel
theorem dX11_stores_5 : decode cX11_stores 5 = .ok (.iadd, 1) := by decide +kernel
theorem dX11_stores_6 : decode cX11_stores 6 = .ok (.istore_n 3, 1) := by decide +kernel
theorem dX11_stores_7 : decode cX11_stores 7 = .ok (.aload_n 0, 1) := by decide +kernel
theorem dX11_stores_8 : decode cX11_stores 8 = .ok (.getfield 44, 3) := by decide +kernel
theorem dX11_stores_11 : decode cX11_stores 11 = .ok (.iload_n 3, 1) := by decide +kernel
theorem dX11_stores_12 : decode cX11_stores 12 = .ok (.iaload, 1) := by decide +kernel
theorem dX11_stores_13 : decode cX11_stores 13 = .ok (.iload_n 2, 1) := by decide +kernel
theorem dX11_stores_14 : decode cX11_stores 14 = .ok (.invokestatic 140, 3) := by decide +kernel
theorem dX11_stores_17 : decode cX11_stores 17 = .ok (.sipush 255, 3) := by decide +kernel
theorem dX11_stores_20 : decode cX11_stores 20 = .ok (.iand, 1) := by decide +kernel
theorem dX11_stores_21 : decode cX11_stores 21 = .ok (.istore 4, 2) := by decide +kernel
theorem dX11_stores_23 : decode cX11_stores 23 = .ok (.aload_n 0, 1) := by decide +kernel
theorem dX11_stores_24 : decode cX11_stores 24 = .ok (.aload_n 0, 1) := by decide +kernel
theorem dX11_stores_25 : decode cX11_stores 25 = .ok (.getfield 41, 3) := by decide +kernel
theorem dX11_stores_28 : decode cX11_stores 28 = .ok (.iload_n 1, 1) := by decide +kernel
theorem dX11_stores_29 : decode cX11_stores 29 = .ok (.iaload, 1) := by decide +kernel
theorem dX11_stores_30 : decode cX11_stores 30 = .ok (.iload 4, 2) := by decide +kernel
theorem dX11_stores_32 : decode cX11_stores 32 = .ok (.iconst 2, 1) := by decide +kernel
theorem dX11_stores_33 : decode cX11_stores 33 = .ok (.invokevirtual 127, 3) := by decide +kernel
theorem dX11_stores_36 : decode cX11_stores 36 = .ok (.aload_n 0, 1) := by decide +kernel
theorem dX11_stores_37 : decode cX11_stores 37 = .ok (.getfield 47, 3) := by decide +kernel
theorem dX11_stores_40 : decode cX11_stores 40 = .ok (.iload_n 3, 1) := by decide +kernel
theorem dX11_stores_41 : decode cX11_stores 41 = .ok (.iconst (-1), 1) := by decide +kernel
theorem dX11_stores_42 : decode cX11_stores 42 = .ok (.iastore, 1) := by decide +kernel
theorem dX11_stores_43 : decode cX11_stores 43 = .ok (.aload_n 0, 1) := by decide +kernel
theorem dX11_stores_44 : decode cX11_stores 44 = .ok (.getfield 53, 3) := by decide +kernel
theorem dX11_stores_47 : decode cX11_stores 47 = .ok (.iload_n 3, 1) := by decide +kernel
theorem dX11_stores_48 : decode cX11_stores 48 = .ok (.iconst 0, 1) := by decide +kernel
theorem dX11_stores_49 : decode cX11_stores 49 = .ok (.iastore, 1) := by decide +kernel
theorem dX11_stores_50 : decode cX11_stores 50 = .ok (.aload_n 0, 1) := by decide +kernel
theorem dX11_stores_51 : decode cX11_stores 51 = .ok (.getfield 50, 3) := by decide +kernel
theorem dX11_stores_54 : decode cX11_stores 54 = .ok (.iload_n 3, 1) := by decide +kernel
theorem dX11_stores_55 : decode cX11_stores 55 = .ok (.iconst 0, 1) := by decide +kernel
theorem dX11_stores_56 : decode cX11_stores 56 = .ok (.bastore, 1) := by decide +kernel
theorem dX11_stores_57 : decode cX11_stores 57 = .ok (.iconst 0, 1) := by decide +kernel
theorem dX11_stores_58 : decode cX11_stores 58 = .ok (.istore 5, 2) := by decide +kernel
theorem dX11_stores_60 : decode cX11_stores 60 = .ok (.iload 5, 2) := by decide +kernel
theorem dX11_stores_62 : decode cX11_stores 62 = .ok (.aload_n 0, 1) := by decide +kernel
theorem dX11_stores_63 : decode cX11_stores 63 = .ok (.getfield 114, 3) := by decide +kernel
theorem dX11_stores_66 : decode cX11_stores 66 = .ok (.if_icmp .ge 136, 3) := by decide +kernel
theorem dX11_stores_69 : decode cX11_stores 69 = .ok (.aload_n 0, 1) := by decide +kernel
theorem dX11_stores_70 : decode cX11_stores 70 = .ok (.getfield 47, 3) := by decide +kernel
theorem dX11_stores_73 : decode cX11_stores 73 = .ok (.iload_n 3, 1) := by decide +kernel
theorem dX11_stores_74 : decode cX11_stores 74 = .ok (.iaload, 1) := by decide +kernel
theorem dX11_stores_75 : decode cX11_stores 75 = .ok (.iconst (-1), 1) := by decide +kernel
theorem dX11_stores_76 : decode cX11_stores 76 = .ok (.if_icmp .ne 126, 3) := by decide +kernel
theorem dX11_stores_79 : decode cX11_stores 79 = .ok (.aload_n 0, 1) := by decide +kernel
theorem dX11_stores_80 : decode cX11_stores 80 = .ok (.getfield 38, 3) := by decide +kernel
theorem dX11_stores_83 : decode cX11_stores 83 = .ok (.iload 5, 2) := by decide +kernel
theorem dX11_stores_85 : decode cX11_stores 85 = .ok (.iaload, 1) := by decide +kernel
theorem dX11_stores_86 : decode cX11_stores 86 = .ok (.aload_n 0, 1) := by decide +kernel
theorem dX11_stores_87 : decode cX11_stores 87 = .ok (.getfield 41, 3) := by decide +kernel
theorem dX11_stores_90 : decode cX11_stores 90 = .ok (.iload_n 1, 1) := by decide +kernel
theorem dX11_stores_91 : decode cX11_stores 91 = .ok (.iaload, 1) := by decide +kernel
theorem dX11_stores_92 : decode cX11_stores 92 = .ok (.if_icmp .eq 7, 3) := by decide +kernel
theorem dX11_stores_95 : decode cX11_stores 95 = .ok (.iconst 1, 1) := by decide +kernel
theorem dX11_stores_96 : decode cX11_stores 96 = .ok (.goto 4, 3) := by decide +kernel
theorem dX11_stores_99 : decode cX11_stores 99 = .ok (.iconst 0, 1) := by decide +kernel
theorem dX11_stores_100 : decode cX11_stores 100 = .ok (.istore 6, 2) := by decide +kernel
theorem dX11_stores_102 : decode cX11_stores 102 = .ok (.iconst 0, 1) := by decide +kernel
theorem dX11_stores_103 : decode cX11_stores 103 = .ok (.istore 7, 2) := by decide +kernel
theorem dX11_stores_105 : decode cX11_stores 105 = .ok (.iload 7, 2) := by decide +kernel
theorem dX11_stores_107 : decode cX11_stores 107 = .ok (.bipush 6, 2) := by decide +kernel
theorem dX11_stores_109 : decode cX11_stores 109 = .ok (.if_icmp .ge 43, 3) := by decide +kernel
theorem dX11_stores_112 : decode cX11_stores 112 = .ok (.iload 6, 2) := by decide +kernel
theorem dX11_stores_114 : decode cX11_stores 114 = .ok (.ifCond .eq 29, 3) := by decide +kernel
theorem dX11_stores_117 : decode cX11_stores 117 = .ok (.aload_n 0, 1) := by decide +kernel
theorem dX11_stores_118 : decode cX11_stores 118 = .ok (.getfield 47, 3) := by decide +kernel
theorem dX11_stores_121 : decode cX11_stores 121 = .ok (.bipush 6, 2) := by decide +kernel
theorem dX11_stores_123 : decode cX11_stores 123 = .ok (.iload_n 1, 1) := by decide +kernel
theorem dX11_stores_124 : decode cX11_stores 124 = .ok (.imul, 1) := by decide +kernel
theorem dX11_stores_125 : decode cX11_stores 125 = .ok (.iload 7, 2) := by decide +kernel
theorem dX11_stores_127 : decode cX11_stores 127 = .ok (.iadd, 1) := by decide +kernel
theorem dX11_stores_128 : decode cX11_stores 128 = .ok (.iaload, 1) := by decide +kernel
theorem dX11_stores_129 : decode cX11_stores 129 = .ok (.aload_n 0, 1) := by decide +kernel
theorem dX11_stores_130 : decode cX11_stores 130 = .ok (.getfield 38, 3) := by decide +kernel
theorem dX11_stores_133 : decode cX11_stores 133 = .ok (.iload 5, 2) := by decide +kernel
theorem dX11_stores_135 : decode cX11_stores 135 = .ok (.iaload, 1) := by decide +kernel
theorem dX11_stores_136 : decode cX11_stores 136 = .ok (.if_icmp .eq 7, 3) := by decide +kernel
theorem dX11_stores_139 : decode cX11_stores 139 = .ok (.iconst 1, 1) := by decide +kernel
theorem dX11_stores_140 : decode cX11_stores 140 = .ok (.goto 4, 3) := by decide +kernel
theorem dX11_stores_143 : decode cX11_stores 143 = .ok (.iconst 0, 1) := by decide +kernel
theorem dX11_stores_144 : decode cX11_stores 144 = .ok (.istore 6, 2) := by decide +kernel
theorem dX11_stores_146 : decode cX11_stores 146 = .ok (.iinc 7 1, 3) := by decide +kernel
theorem dX11_stores_149 : decode cX11_stores 149 = .ok (.goto (-44), 3) := by decide +kernel
theorem dX11_stores_152 : decode cX11_stores 152 = .ok (.iload 6, 2) := by decide +kernel
theorem dX11_stores_154 : decode cX11_stores 154 = .ok (.ifCond .eq 42, 3) := by decide +kernel
theorem dX11_stores_157 : decode cX11_stores 157 = .ok (.aload_n 0, 1) := by decide +kernel
theorem dX11_stores_158 : decode cX11_stores 158 = .ok (.getfield 47, 3) := by decide +kernel
theorem dX11_stores_161 : decode cX11_stores 161 = .ok (.iload_n 3, 1) := by decide +kernel
theorem dX11_stores_162 : decode cX11_stores 162 = .ok (.aload_n 0, 1) := by decide +kernel
theorem dX11_stores_163 : decode cX11_stores 163 = .ok (.getfield 38, 3) := by decide +kernel
theorem dX11_stores_166 : decode cX11_stores 166 = .ok (.iload 5, 2) := by decide +kernel
theorem dX11_stores_168 : decode cX11_stores 168 = .ok (.iaload, 1) := by decide +kernel
theorem dX11_stores_169 : decode cX11_stores 169 = .ok (.iastore, 1) := by decide +kernel
theorem dX11_stores_170 : decode cX11_stores 170 = .ok (.aload_n 0, 1) := by decide +kernel
theorem dX11_stores_171 : decode cX11_stores 171 = .ok (.getfield 50, 3) := by decide +kernel
theorem dX11_stores_174 : decode cX11_stores 174 = .ok (.iload_n 3, 1) := by decide +kernel
theorem dX11_stores_175 : decode cX11_stores 175 = .ok (.aload_n 0, 1) := by decide +kernel
theorem dX11_stores_176 : decode cX11_stores 176 = .ok (.getfield 13, 3) := by decide +kernel
theorem dX11_stores_179 : decode cX11_stores 179 = .ok (.aload_n 0, 1) := by decide +kernel
theorem dX11_stores_180 : decode cX11_stores 180 = .ok (.getfield 38, 3) := by decide +kernel
theorem dX11_stores_183 : decode cX11_stores 183 = .ok (.iload 5, 2) := by decide +kernel
theorem dX11_stores_185 : decode cX11_stores 185 = .ok (.iaload, 1) := by decide +kernel
theorem dX11_stores_186 : decode cX11_stores 186 = .ok (.iaload, 1) := by decide +kernel
theorem dX11_stores_187 : decode cX11_stores 187 = .ok (.ifCond .ne 7, 3) := by decide +kernel
theorem dX11_stores_190 : decode cX11_stores 190 = .ok (.iconst 1, 1) := by decide +kernel
theorem dX11_stores_191 : decode cX11_stores 191 = .ok (.goto 4, 3) := by decide +kernel
theorem dX11_stores_194 : decode cX11_stores 194 = .ok (.iconst 0, 1) := by decide +kernel
theorem dX11_stores_195 : decode cX11_stores 195 = .ok (.bastore, 1) := by decide +kernel
theorem dX11_stores_196 : decode cX11_stores 196 = .ok (.iinc 5 1, 3) := by decide +kernel
theorem dX11_stores_199 : decode cX11_stores 199 = .ok (.goto (-139), 3) := by decide +kernel
theorem dX11_stores_202 : decode cX11_stores 202 = .ok (.return_, 1) := by decide +kernel
set_option maxRecDepth 20000 in
theorem ggX11_file_X11_isPeer : GoodIn wsX11_file wsX11_isPeer := goodIn_r _ [10, 11, 12, 13, 9, 14, 74, 75, 76, 77, 78, 79, 80, 81, 82, 83, 84, 85, 86, 87, 88, 89, 90, 91, 92, 93, 94, 95, 96, 97, 98, 99, 100, 101] (by decide +kernel) (by decide +kernel)
set_option maxRecDepth 20000 in
theorem gX11_file_X11_isPeer : GoodIn wsX11_file (wsV RX11 117 RX11 yX11_isPeer wsX11_isPeer) := goodIn_app (goodIn_of _ (by decide +kernel)) ggX11_file_X11_isPeer
set_option maxRecDepth 20000 in
theorem ggX11_file_X11_holds : GoodIn wsX11_file wsX11_holds := goodIn_r _ [18, 19, 74, 75, 76, 77, 78, 79, 80, 81, 82, 83, 84, 85, 86, 87, 88, 89, 90, 91, 92, 93, 94, 95, 96, 97, 98, 99, 100, 101] (by decide +kernel) (by decide +kernel)
set_option maxRecDepth 20000 in
theorem gX11_file_X11_holds : GoodIn wsX11_file (wsV RX11 124 RX11 yX11_holds wsX11_holds) := goodIn_app (goodIn_of _ (by decide +kernel)) ggX11_file_X11_holds
set_option maxRecDepth 20000 in
theorem ggX11_file_X11_times : GoodIn wsX11_file wsX11_times := goodIn_r _ [22, 23, 24, 9, 25] (by decide +kernel) (by decide +kernel)
set_option maxRecDepth 20000 in
theorem gX11_file_X11_times : GoodIn wsX11_file (va_wsS RX11 143 yX11_times wsX11_times) := goodIn_app (goodIn_of _ (by decide +kernel)) ggX11_file_X11_times
set_option maxRecDepth 20000 in
theorem ggX11_file_X11_stores : GoodIn wsX11_file wsX11_stores := goodIn_r _ [29, 4, 3, 5, 30, 31, 32, 33, 34, 35, 36, 9, 37, 38, 39, 40, 41, 42, 43, 44, 45, 46, 11, 47, 48, 49, 50, 51, 52, 53, 54, 55, 56, 57, 58, 59, 60, 61, 62, 1, 63, 64, 65, 66, 67, 68, 69, 70, 71, 72, 73, 74, 75, 76, 77, 78, 79, 80, 81, 82, 83, 84, 85, 86, 87, 88, 89, 90, 91, 92, 93, 94, 95, 96, 97, 98, 99, 100, 101] (by decide +kernel) (by decide +kernel)
set_option maxRecDepth 20000 in
theorem gX11_file_X11_stores : GoodIn wsX11_file (wsV RX11 146 RX11 yX11_stores wsX11_stores) := goodIn_app (goodIn_of _ (by decide +kernel)) ggX11_file_X11_stores
theorem dX11_file_0 : decode cX11_file 0 = .ok (.aload_n 0, 1) := by decide +kernel
theorem dX11_file_1 : decode cX11_file 1 = .ok (.iload_n 1, 1) := by decide +kernel
theorem dX11_file_2 : decode cX11_file 2 = .ok (.invokevirtual 117, 3) := by decide +kernel
theorem dX11_file_5 : decode cX11_file 5 = .ok (.istore_n 3, 1) := by decide +kernel
theorem dX11_file_6 : decode cX11_file 6 = .ok (.aload_n 0, 1) := by decide +kernel
theorem dX11_file_7 : decode cX11_file 7 = .ok (.iload_n 3, 1) := by decide +kernel
theorem dX11_file_8 : decode cX11_file 8 = .ok (.ifCond .ne 7, 3) := by decide +kernel
theorem dX11_file_11 : decode cX11_file 11 = .ok (.iconst 1, 1) := by decide +kernel
theorem dX11_file_12 : decode cX11_file 12 = .ok (.goto 26, 3) := by decide +kernel
theorem dX11_file_15 : decode cX11_file 15 = .ok (.aload_n 0, 1) := by decide +kernel
theorem dX11_file_16 : decode cX11_file 16 = .ok (.getfield 16, 3) := by decide +kernel
theorem dX11_file_19 : decode cX11_file 19 = .ok (.iload_n 1, 1) := by decide +kernel
theorem dX11_file_20 : decode cX11_file 20 = .ok (.baload, 1) := by decide +kernel
theorem dX11_file_21 : decode cX11_file 21 = .ok (.ifCond .eq 16, 3) := by decide +kernel
theorem dX11_file_24 : decode cX11_file 24 = .ok (.aload_n 0, 1) := by decide +kernel
theorem dX11_file_25 : decode cX11_file 25 = .ok (.getfield 85, 3) := by decide +kernel
theorem dX11_file_28 : decode cX11_file 28 = .ok (.bipush 12, 2) := by decide +kernel
theorem dX11_file_30 : decode cX11_file 30 = .ok (.if_icmp .ge 7, 3) := by decide +kernel
theorem dX11_file_33 : decode cX11_file 33 = .ok (.iconst 0, 1) := by decide +kernel
theorem dX11_file_34 : decode cX11_file 34 = .ok (.goto 4, 3) := by decide +kernel
theorem dX11_file_37 : decode cX11_file 37 = .ok (.iconst 2, 1) := by decide +kernel
theorem dX11_file_38 : decode cX11_file 38 = .ok (.invokevirtual 124, 3) := by decide +kernel
theorem dX11_file_41 : decode cX11_file 41 = .ok (.ifCond .ne 5, 3) := by decide +kernel
theorem dX11_file_44 : decode cX11_file 44 = .ok (.iconst 0, 1) := by decide +kernel
theorem dX11_file_45 : decode cX11_file 45 = .ok (.ireturn, 1) := by decide +kernel
theorem dX11_file_46 : decode cX11_file 46 = .ok (.aload_n 0, 1) := by decide +kernel
theorem dX11_file_47 : decode cX11_file 47 = .ok (.getfield 85, 3) := by decide +kernel
theorem dX11_file_50 : decode cX11_file 50 = .ok (.istore 4, 2) := by decide +kernel
theorem dX11_file_52 : decode cX11_file 52 = .ok (.bipush 6, 2) := by decide +kernel
theorem dX11_file_54 : decode cX11_file 54 = .ok (.iload 4, 2) := by decide +kernel
theorem dX11_file_56 : decode cX11_file 56 = .ok (.imul, 1) := by decide +kernel
theorem dX11_file_57 : decode cX11_file 57 = .ok (.istore 5, 2) := by decide +kernel
theorem dX11_file_59 : decode cX11_file 59 = .ok (.aload_n 0, 1) := by decide +kernel
theorem dX11_file_60 : decode cX11_file 60 = .ok (.dup, 1) := by decide +kernel
theorem dX11_file_61 : decode cX11_file 61 = .ok (.getfield 85, 3) := by decide +kernel
theorem dX11_file_64 : decode cX11_file 64 = .ok (.iconst 1, 1) := by decide +kernel
theorem dX11_file_65 : decode cX11_file 65 = .ok (.iadd, 1) := by decide +kernel
theorem dX11_file_66 : decode cX11_file 66 = .ok (.putfield 85, 3) := by decide +kernel
theorem dX11_file_69 : decode cX11_file 69 = .ok (.aload_n 0, 1) := by decide +kernel
theorem dX11_file_70 : decode cX11_file 70 = .ok (.getfield 41, 3) := by decide +kernel
theorem dX11_file_73 : decode cX11_file 73 = .ok (.iload 4, 2) := by decide +kernel
theorem dX11_file_75 : decode cX11_file 75 = .ok (.iload_n 1, 1) := by decide +kernel
theorem dX11_file_76 : decode cX11_file 76 = .ok (.iastore, 1) := by decide +kernel
theorem dX11_file_77 : decode cX11_file 77 = .ok (.aload_n 0, 1) := by decide +kernel
theorem dX11_file_78 : decode cX11_file 78 = .ok (.getfield 44, 3) := by decide +kernel
theorem dX11_file_81 : decode cX11_file 81 = .ok (.iload 5, 2) := by decide +kernel
theorem dX11_file_83 : decode cX11_file 83 = .ok (.iconst 4, 1) := by decide +kernel
theorem dX11_file_84 : decode cX11_file 84 = .ok (.iadd, 1) := by decide +kernel
theorem dX11_file_85 : decode cX11_file 85 = .ok (.iconst 0, 1) := by decide +kernel
theorem dX11_file_86 : decode cX11_file 86 = .ok (.iastore, 1) := by decide +kernel
theorem dX11_file_87 : decode cX11_file 87 = .ok (.aload_n 0, 1) := by decide +kernel
theorem dX11_file_88 : decode cX11_file 88 = .ok (.getfield 44, 3) := by decide +kernel
theorem dX11_file_91 : decode cX11_file 91 = .ok (.iload 5, 2) := by decide +kernel
theorem dX11_file_93 : decode cX11_file 93 = .ok (.iconst 5, 1) := by decide +kernel
theorem dX11_file_94 : decode cX11_file 94 = .ok (.iadd, 1) := by decide +kernel
theorem dX11_file_95 : decode cX11_file 95 = .ok (.iconst 0, 1) := by decide +kernel
theorem dX11_file_96 : decode cX11_file 96 = .ok (.iastore, 1) := by decide +kernel
theorem dX11_file_97 : decode cX11_file 97 = .ok (.iconst 0, 1) := by decide +kernel
theorem dX11_file_98 : decode cX11_file 98 = .ok (.istore 6, 2) := by decide +kernel
theorem dX11_file_100 : decode cX11_file 100 = .ok (.iload 6, 2) := by decide +kernel
theorem dX11_file_102 : decode cX11_file 102 = .ok (.iconst 4, 1) := by decide +kernel
theorem dX11_file_103 : decode cX11_file 103 = .ok (.if_icmp .ge 69, 3) := by decide +kernel
theorem dX11_file_106 : decode cX11_file 106 = .ok (.iload_n 2, 1) := by decide +kernel
theorem dX11_file_107 : decode cX11_file 107 = .ok (.bipush 8, 2) := by decide +kernel
theorem dX11_file_109 : decode cX11_file 109 = .ok (.iload 6, 2) := by decide +kernel
theorem dX11_file_111 : decode cX11_file 111 = .ok (.imul, 1) := by decide +kernel
theorem dX11_file_112 : decode cX11_file 112 = .ok (.ishr, 1) := by decide +kernel
theorem dX11_file_113 : decode cX11_file 113 = .ok (.sipush 255, 3) := by decide +kernel
theorem dX11_file_116 : decode cX11_file 116 = .ok (.iand, 1) := by decide +kernel
theorem dX11_file_117 : decode cX11_file 117 = .ok (.istore 7, 2) := by decide +kernel
theorem dX11_file_119 : decode cX11_file 119 = .ok (.aload_n 0, 1) := by decide +kernel
theorem dX11_file_120 : decode cX11_file 120 = .ok (.getfield 44, 3) := by decide +kernel
theorem dX11_file_123 : decode cX11_file 123 = .ok (.iload 5, 2) := by decide +kernel
theorem dX11_file_125 : decode cX11_file 125 = .ok (.iload 6, 2) := by decide +kernel
theorem dX11_file_127 : decode cX11_file 127 = .ok (.iadd, 1) := by decide +kernel
theorem dX11_file_128 : decode cX11_file 128 = .ok (.iload 7, 2) := by decide +kernel
theorem dX11_file_130 : decode cX11_file 130 = .ok (.iastore, 1) := by decide +kernel
theorem dX11_file_131 : decode cX11_file 131 = .ok (.aload_n 0, 1) := by decide +kernel
theorem dX11_file_132 : decode cX11_file 132 = .ok (.getfield 44, 3) := by decide +kernel
theorem dX11_file_135 : decode cX11_file 135 = .ok (.iload 5, 2) := by decide +kernel
theorem dX11_file_137 : decode cX11_file 137 = .ok (.iconst 4, 1) := by decide +kernel
theorem dX11_file_138 : decode cX11_file 138 = .ok (.iadd, 1) := by decide +kernel
theorem dX11_file_139 : decode cX11_file 139 = .ok (.dup2, 1) := by decide +kernel
theorem dX11_file_140 : decode cX11_file 140 = .ok (.iaload, 1) := by decide +kernel
theorem dX11_file_141 : decode cX11_file 141 = .ok (.iload 7, 2) := by decide +kernel
theorem dX11_file_143 : decode cX11_file 143 = .ok (.ixor, 1) := by decide +kernel
theorem dX11_file_144 : decode cX11_file 144 = .ok (.iastore, 1) := by decide +kernel
theorem dX11_file_145 : decode cX11_file 145 = .ok (.aload_n 0, 1) := by decide +kernel
theorem dX11_file_146 : decode cX11_file 146 = .ok (.getfield 44, 3) := by decide +kernel
theorem dX11_file_149 : decode cX11_file 149 = .ok (.iload 5, 2) := by decide +kernel
theorem dX11_file_151 : decode cX11_file 151 = .ok (.iconst 5, 1) := by decide +kernel
theorem dX11_file_152 : decode cX11_file 152 = .ok (.iadd, 1) := by decide +kernel
theorem dX11_file_153 : decode cX11_file 153 = .ok (.dup2, 1) := by decide +kernel
theorem dX11_file_154 : decode cX11_file 154 = .ok (.iaload, 1) := by decide +kernel
theorem dX11_file_155 : decode cX11_file 155 = .ok (.iload 7, 2) := by decide +kernel
theorem dX11_file_157 : decode cX11_file 157 = .ok (.iconst 1, 1) := by decide +kernel
theorem dX11_file_158 : decode cX11_file 158 = .ok (.iload 6, 2) := by decide +kernel
theorem dX11_file_160 : decode cX11_file 160 = .ok (.ishl, 1) := by decide +kernel
theorem dX11_file_161 : decode cX11_file 161 = .ok (.invokestatic 143, 3) := by decide +kernel
theorem dX11_file_164 : decode cX11_file 164 = .ok (.ixor, 1) := by decide +kernel
theorem dX11_file_165 : decode cX11_file 165 = .ok (.iastore, 1) := by decide +kernel
theorem dX11_file_166 : decode cX11_file 166 = .ok (.iinc 6 1, 3) := by decide +kernel
theorem dX11_file_169 : decode cX11_file 169 = .ok (.goto (-69), 3) := by decide +kernel
theorem dX11_file_172 : decode cX11_file 172 = .ok (.iconst 0, 1) := by decide +kernel
theorem dX11_file_173 : decode cX11_file 173 = .ok (.istore 6, 2) := by decide +kernel
theorem dX11_file_175 : decode cX11_file 175 = .ok (.iload 6, 2) := by decide +kernel
theorem dX11_file_177 : decode cX11_file 177 = .ok (.bipush 6, 2) := by decide +kernel
theorem dX11_file_179 : decode cX11_file 179 = .ok (.if_icmp .ge 20, 3) := by decide +kernel
theorem dX11_file_182 : decode cX11_file 182 = .ok (.aload_n 0, 1) := by decide +kernel
theorem dX11_file_183 : decode cX11_file 183 = .ok (.getfield 47, 3) := by decide +kernel
theorem dX11_file_186 : decode cX11_file 186 = .ok (.iload 5, 2) := by decide +kernel
theorem dX11_file_188 : decode cX11_file 188 = .ok (.iload 6, 2) := by decide +kernel
theorem dX11_file_190 : decode cX11_file 190 = .ok (.iadd, 1) := by decide +kernel
theorem dX11_file_191 : decode cX11_file 191 = .ok (.iconst (-1), 1) := by decide +kernel
theorem dX11_file_192 : decode cX11_file 192 = .ok (.iastore, 1) := by decide +kernel
theorem dX11_file_193 : decode cX11_file 193 = .ok (.iinc 6 1, 3) := by decide +kernel
theorem dX11_file_196 : decode cX11_file 196 = .ok (.goto (-21), 3) := by decide +kernel
theorem dX11_file_199 : decode cX11_file 199 = .ok (.iconst 0, 1) := by decide +kernel
theorem dX11_file_200 : decode cX11_file 200 = .ok (.istore 6, 2) := by decide +kernel
theorem dX11_file_202 : decode cX11_file 202 = .ok (.iload 6, 2) := by decide +kernel
theorem dX11_file_204 : decode cX11_file 204 = .ok (.bipush 6, 2) := by decide +kernel
theorem dX11_file_206 : decode cX11_file 206 = .ok (.if_icmp .ge 17, 3) := by decide +kernel
theorem dX11_file_209 : decode cX11_file 209 = .ok (.aload_n 0, 1) := by decide +kernel
theorem dX11_file_210 : decode cX11_file 210 = .ok (.iload 4, 2) := by decide +kernel
theorem dX11_file_212 : decode cX11_file 212 = .ok (.iload 6, 2) := by decide +kernel
theorem dX11_file_214 : decode cX11_file 214 = .ok (.invokevirtual 146, 3) := by decide +kernel
theorem dX11_file_217 : decode cX11_file 217 = .ok (.iinc 6 1, 3) := by decide +kernel
theorem dX11_file_220 : decode cX11_file 220 = .ok (.goto (-18), 3) := by decide +kernel
theorem dX11_file_223 : decode cX11_file 223 = .ok (.iload 4, 2) := by decide +kernel
theorem dX11_file_225 : decode cX11_file 225 = .ok (.ireturn, 1) := by decide +kernel
set_option maxRecDepth 20000 in
theorem ggX11_isAsked_X11_isFile : GoodIn wsX11_isAsked wsX11_isFile := goodIn_r _ [5, 6, 7, 8, 4, 9, 10, 11, 12, 13, 14, 15, 16, 17, 18, 19, 20, 21, 22, 23, 24, 25, 26, 27, 28, 29, 30, 31, 32, 33, 34, 35, 36, 37] (by decide +kernel) (by decide +kernel)
set_option maxRecDepth 20000 in
theorem gX11_isAsked_X11_isFile : GoodIn wsX11_isAsked (wsV RX11 149 RX11 yX11_isFile wsX11_isFile) := goodIn_app (goodIn_of _ (by decide +kernel)) ggX11_isAsked_X11_isFile
set_option maxRecDepth 20000 in
theorem ggX11_isAsked_X11_isIn : GoodIn wsX11_isAsked wsX11_isIn := goodIn_r _ [9] (by decide +kernel) (by decide +kernel)
set_option maxRecDepth 20000 in
theorem gX11_isAsked_X11_isIn : GoodIn wsX11_isAsked (va_wsS RX11 81 yX11_isIn wsX11_isIn) := goodIn_app (goodIn_of _ (by decide +kernel)) ggX11_isAsked_X11_isIn
theorem dX11_isAsked_0 : decode cX11_isAsked 0 = .ok (.aload_n 0, 1) := by decide +kernel
theorem dX11_isAsked_1 : decode cX11_isAsked 1 = .ok (.iload_n 1, 1) := by decide +kernel
theorem dX11_isAsked_2 : decode cX11_isAsked 2 = .ok (.invokevirtual 149, 3) := by decide +kernel
theorem dX11_isAsked_5 : decode cX11_isAsked 5 = .ok (.ifCond .eq 16, 3) := by decide +kernel
theorem dX11_isAsked_8 : decode cX11_isAsked 8 = .ok (.iload_n 2, 1) := by decide +kernel
theorem dX11_isAsked_9 : decode cX11_isAsked 9 = .ok (.iconst 0, 1) := by decide +kernel
theorem dX11_isAsked_10 : decode cX11_isAsked 10 = .ok (.iconst 5, 1) := by decide +kernel
theorem dX11_isAsked_11 : decode cX11_isAsked 11 = .ok (.invokestatic 81, 3) := by decide +kernel
theorem dX11_isAsked_14 : decode cX11_isAsked 14 = .ok (.ifCond .eq 7, 3) := by decide +kernel
theorem dX11_isAsked_17 : decode cX11_isAsked 17 = .ok (.iconst 1, 1) := by decide +kernel
theorem dX11_isAsked_18 : decode cX11_isAsked 18 = .ok (.goto 4, 3) := by decide +kernel
theorem dX11_isAsked_21 : decode cX11_isAsked 21 = .ok (.iconst 0, 1) := by decide +kernel
theorem dX11_isAsked_22 : decode cX11_isAsked 22 = .ok (.ireturn, 1) := by decide +kernel
set_option maxRecDepth 20000 in
theorem ggX11_piece_X11_isAsked : GoodIn wsX11_piece wsX11_isAsked := goodIn_r _ [9, 10, 11, 12, 8, 13, 14, 15, 16, 17, 23, 24, 25, 26, 27, 28, 29, 30, 31, 32, 33, 34, 35, 36, 37, 38, 39, 40, 41, 42, 43, 44, 45, 46, 47, 48, 49, 50] (by decide +kernel) (by decide +kernel)
set_option maxRecDepth 20000 in
theorem gX11_piece_X11_isAsked : GoodIn wsX11_piece (wsV RX11 152 RX11 yX11_isAsked wsX11_isAsked) := goodIn_app (goodIn_of _ (by decide +kernel)) ggX11_piece_X11_isAsked
set_option maxRecDepth 20000 in
theorem ggX11_piece_X11_isIn : GoodIn wsX11_piece wsX11_isIn := goodIn_r _ [17] (by decide +kernel) (by decide +kernel)
set_option maxRecDepth 20000 in
theorem gX11_piece_X11_isIn : GoodIn wsX11_piece (va_wsS RX11 81 yX11_isIn wsX11_isIn) := goodIn_app (goodIn_of _ (by decide +kernel)) ggX11_piece_X11_isIn
set_option maxRecDepth 20000 in
theorem ggX11_piece_X11_holds : GoodIn wsX11_piece wsX11_holds := goodIn_r _ [21, 22, 23, 24, 25, 26, 27, 28, 29, 30, 31, 32, 33, 34, 35, 36, 37, 38, 39, 40, 41, 42, 43, 44, 45, 46, 47, 48, 49, 50] (by decide +kernel) (by decide +kernel)
set_option maxRecDepth 20000 in
theorem gX11_piece_X11_holds : GoodIn wsX11_piece (wsV RX11 124 RX11 yX11_holds wsX11_holds) := goodIn_app (goodIn_of _ (by decide +kernel)) ggX11_piece_X11_holds
theorem dX11_piece_0 : decode cX11_piece 0 = .ok (.aload_n 0, 1) := by decide +kernel
theorem dX11_piece_1 : decode cX11_piece 1 = .ok (.aload_n 0, 1) := by decide +kernel
theorem dX11_piece_2 : decode cX11_piece 2 = .ok (.iload_n 1, 1) := by decide +kernel
theorem dX11_piece_3 : decode cX11_piece 3 = .ok (.iload_n 2, 1) := by decide +kernel
theorem dX11_piece_4 : decode cX11_piece 4 = .ok (.invokevirtual 152, 3) := by decide +kernel
theorem dX11_piece_7 : decode cX11_piece 7 = .ok (.ifCond .ne 7, 3) := by decide +kernel
theorem dX11_piece_10 : decode cX11_piece 10 = .ok (.iconst 1, 1) := by decide +kernel
theorem dX11_piece_11 : decode cX11_piece 11 = .ok (.goto 17, 3) := by decide +kernel
theorem dX11_piece_14 : decode cX11_piece 14 = .ok (.iload_n 3, 1) := by decide +kernel
theorem dX11_piece_15 : decode cX11_piece 15 = .ok (.iconst 0, 1) := by decide +kernel
theorem dX11_piece_16 : decode cX11_piece 16 = .ok (.iconst 3, 1) := by decide +kernel
theorem dX11_piece_17 : decode cX11_piece 17 = .ok (.invokestatic 81, 3) := by decide +kernel
theorem dX11_piece_20 : decode cX11_piece 20 = .ok (.ifCond .eq 7, 3) := by decide +kernel
theorem dX11_piece_23 : decode cX11_piece 23 = .ok (.iconst 0, 1) := by decide +kernel
theorem dX11_piece_24 : decode cX11_piece 24 = .ok (.goto 4, 3) := by decide +kernel
theorem dX11_piece_27 : decode cX11_piece 27 = .ok (.iconst 2, 1) := by decide +kernel
theorem dX11_piece_28 : decode cX11_piece 28 = .ok (.invokevirtual 124, 3) := by decide +kernel
theorem dX11_piece_31 : decode cX11_piece 31 = .ok (.ifCond .ne 5, 3) := by decide +kernel
theorem dX11_piece_34 : decode cX11_piece 34 = .ok (.iconst 0, 1) := by decide +kernel
theorem dX11_piece_35 : decode cX11_piece 35 = .ok (.ireturn, 1) := by decide +kernel
theorem dX11_piece_36 : decode cX11_piece 36 = .ok (.bipush 6, 2) := by decide +kernel
theorem dX11_piece_38 : decode cX11_piece 38 = .ok (.iload_n 1, 1) := by decide +kernel
theorem dX11_piece_39 : decode cX11_piece 39 = .ok (.imul, 1) := by decide +kernel
theorem dX11_piece_40 : decode cX11_piece 40 = .ok (.iload_n 2, 1) := by decide +kernel
theorem dX11_piece_41 : decode cX11_piece 41 = .ok (.iadd, 1) := by decide +kernel
theorem dX11_piece_42 : decode cX11_piece 42 = .ok (.istore 4, 2) := by decide +kernel
theorem dX11_piece_44 : decode cX11_piece 44 = .ok (.iload_n 3, 1) := by decide +kernel
theorem dX11_piece_45 : decode cX11_piece 45 = .ok (.ifCond .ne 13, 3) := by decide +kernel
theorem dX11_piece_48 : decode cX11_piece 48 = .ok (.aload_n 0, 1) := by decide +kernel
theorem dX11_piece_49 : decode cX11_piece 49 = .ok (.getfield 44, 3) := by decide +kernel
theorem dX11_piece_52 : decode cX11_piece 52 = .ok (.iload 4, 2) := by decide +kernel
theorem dX11_piece_54 : decode cX11_piece 54 = .ok (.iaload, 1) := by decide +kernel
theorem dX11_piece_55 : decode cX11_piece 55 = .ok (.goto 48, 3) := by decide +kernel
theorem dX11_piece_58 : decode cX11_piece 58 = .ok (.iload_n 3, 1) := by decide +kernel
theorem dX11_piece_59 : decode cX11_piece 59 = .ok (.iconst 1, 1) := by decide +kernel
theorem dX11_piece_60 : decode cX11_piece 60 = .ok (.if_icmp .ne 13, 3) := by decide +kernel
theorem dX11_piece_63 : decode cX11_piece 63 = .ok (.aload_n 0, 1) := by decide +kernel
theorem dX11_piece_64 : decode cX11_piece 64 = .ok (.getfield 47, 3) := by decide +kernel
theorem dX11_piece_67 : decode cX11_piece 67 = .ok (.iload 4, 2) := by decide +kernel
theorem dX11_piece_69 : decode cX11_piece 69 = .ok (.iaload, 1) := by decide +kernel
theorem dX11_piece_70 : decode cX11_piece 70 = .ok (.goto 33, 3) := by decide +kernel
theorem dX11_piece_73 : decode cX11_piece 73 = .ok (.iload_n 3, 1) := by decide +kernel
theorem dX11_piece_74 : decode cX11_piece 74 = .ok (.iconst 2, 1) := by decide +kernel
theorem dX11_piece_75 : decode cX11_piece 75 = .ok (.if_icmp .ne 21, 3) := by decide +kernel
theorem dX11_piece_78 : decode cX11_piece 78 = .ok (.aload_n 0, 1) := by decide +kernel
theorem dX11_piece_79 : decode cX11_piece 79 = .ok (.getfield 50, 3) := by decide +kernel
theorem dX11_piece_82 : decode cX11_piece 82 = .ok (.iload 4, 2) := by decide +kernel
theorem dX11_piece_84 : decode cX11_piece 84 = .ok (.baload, 1) := by decide +kernel
theorem dX11_piece_85 : decode cX11_piece 85 = .ok (.ifCond .eq 7, 3) := by decide +kernel
theorem dX11_piece_88 : decode cX11_piece 88 = .ok (.iconst 1, 1) := by decide +kernel
theorem dX11_piece_89 : decode cX11_piece 89 = .ok (.goto 14, 3) := by decide +kernel
theorem dX11_piece_92 : decode cX11_piece 92 = .ok (.iconst 0, 1) := by decide +kernel
theorem dX11_piece_93 : decode cX11_piece 93 = .ok (.goto 10, 3) := by decide +kernel
theorem dX11_piece_96 : decode cX11_piece 96 = .ok (.aload_n 0, 1) := by decide +kernel
theorem dX11_piece_97 : decode cX11_piece 97 = .ok (.getfield 53, 3) := by decide +kernel
theorem dX11_piece_100 : decode cX11_piece 100 = .ok (.iload 4, 2) := by decide +kernel
theorem dX11_piece_102 : decode cX11_piece 102 = .ok (.iaload, 1) := by decide +kernel
theorem dX11_piece_103 : decode cX11_piece 103 = .ok (.ireturn, 1) := by decide +kernel
set_option maxRecDepth 20000 in
theorem ggX11_spoil_X11_isAsked : GoodIn wsX11_spoil wsX11_isAsked := goodIn_r _ [7, 8, 9, 10, 6, 11, 12, 13, 14, 15, 21, 22, 23, 24, 25, 26, 27, 28, 29, 30, 31, 32, 33, 34, 35, 36, 37, 38, 39, 40, 41, 42, 43, 44, 45, 46, 47, 48] (by decide +kernel) (by decide +kernel)
set_option maxRecDepth 20000 in
theorem gX11_spoil_X11_isAsked : GoodIn wsX11_spoil (wsV RX11 152 RX11 yX11_isAsked wsX11_isAsked) := goodIn_app (goodIn_of _ (by decide +kernel)) ggX11_spoil_X11_isAsked
set_option maxRecDepth 20000 in
theorem ggX11_spoil_X11_holds : GoodIn wsX11_spoil wsX11_holds := goodIn_r _ [19, 20, 21, 22, 23, 24, 25, 26, 27, 28, 29, 30, 31, 32, 33, 34, 35, 36, 37, 38, 39, 40, 41, 42, 43, 44, 45, 46, 47, 48] (by decide +kernel) (by decide +kernel)
set_option maxRecDepth 20000 in
theorem gX11_spoil_X11_holds : GoodIn wsX11_spoil (wsV RX11 124 RX11 yX11_holds wsX11_holds) := goodIn_app (goodIn_of _ (by decide +kernel)) ggX11_spoil_X11_holds
theorem dX11_spoil_0 : decode cX11_spoil 0 = .ok (.aload_n 0, 1) := by decide +kernel
theorem dX11_spoil_1 : decode cX11_spoil 1 = .ok (.iload_n 1, 1) := by decide +kernel
theorem dX11_spoil_2 : decode cX11_spoil 2 = .ok (.iload_n 2, 1) := by decide +kernel
theorem dX11_spoil_3 : decode cX11_spoil 3 = .ok (.invokevirtual 152, 3) := by decide +kernel
theorem dX11_spoil_6 : decode cX11_spoil 6 = .ok (.istore_n 3, 1) := by decide +kernel
theorem dX11_spoil_7 : decode cX11_spoil 7 = .ok (.aload_n 0, 1) := by decide +kernel
theorem dX11_spoil_8 : decode cX11_spoil 8 = .ok (.iload_n 3, 1) := by decide +kernel
theorem dX11_spoil_9 : decode cX11_spoil 9 = .ok (.ifCond .ne 7, 3) := by decide +kernel
theorem dX11_spoil_12 : decode cX11_spoil 12 = .ok (.iconst 1, 1) := by decide +kernel
theorem dX11_spoil_13 : decode cX11_spoil 13 = .ok (.goto 23, 3) := by decide +kernel
theorem dX11_spoil_16 : decode cX11_spoil 16 = .ok (.aload_n 0, 1) := by decide +kernel
theorem dX11_spoil_17 : decode cX11_spoil 17 = .ok (.getfield 47, 3) := by decide +kernel
theorem dX11_spoil_20 : decode cX11_spoil 20 = .ok (.bipush 6, 2) := by decide +kernel
theorem dX11_spoil_22 : decode cX11_spoil 22 = .ok (.iload_n 1, 1) := by decide +kernel
theorem dX11_spoil_23 : decode cX11_spoil 23 = .ok (.imul, 1) := by decide +kernel
theorem dX11_spoil_24 : decode cX11_spoil 24 = .ok (.iload_n 2, 1) := by decide +kernel
theorem dX11_spoil_25 : decode cX11_spoil 25 = .ok (.iadd, 1) := by decide +kernel
theorem dX11_spoil_26 : decode cX11_spoil 26 = .ok (.iaload, 1) := by decide +kernel
theorem dX11_spoil_27 : decode cX11_spoil 27 = .ok (.iconst (-1), 1) := by decide +kernel
theorem dX11_spoil_28 : decode cX11_spoil 28 = .ok (.if_icmp .ne 7, 3) := by decide +kernel
theorem dX11_spoil_31 : decode cX11_spoil 31 = .ok (.iconst 2, 1) := by decide +kernel
theorem dX11_spoil_32 : decode cX11_spoil 32 = .ok (.goto 4, 3) := by decide +kernel
theorem dX11_spoil_35 : decode cX11_spoil 35 = .ok (.iconst 0, 1) := by decide +kernel
theorem dX11_spoil_36 : decode cX11_spoil 36 = .ok (.invokevirtual 124, 3) := by decide +kernel
theorem dX11_spoil_39 : decode cX11_spoil 39 = .ok (.ifCond .ne 5, 3) := by decide +kernel
theorem dX11_spoil_42 : decode cX11_spoil 42 = .ok (.iconst 0, 1) := by decide +kernel
theorem dX11_spoil_43 : decode cX11_spoil 43 = .ok (.ireturn, 1) := by decide +kernel
theorem dX11_spoil_44 : decode cX11_spoil 44 = .ok (.aload_n 0, 1) := by decide +kernel
theorem dX11_spoil_45 : decode cX11_spoil 45 = .ok (.getfield 50, 3) := by decide +kernel
theorem dX11_spoil_48 : decode cX11_spoil 48 = .ok (.bipush 6, 2) := by decide +kernel
theorem dX11_spoil_50 : decode cX11_spoil 50 = .ok (.iload_n 1, 1) := by decide +kernel
theorem dX11_spoil_51 : decode cX11_spoil 51 = .ok (.imul, 1) := by decide +kernel
theorem dX11_spoil_52 : decode cX11_spoil 52 = .ok (.iload_n 2, 1) := by decide +kernel
theorem dX11_spoil_53 : decode cX11_spoil 53 = .ok (.iadd, 1) := by decide +kernel
theorem dX11_spoil_54 : decode cX11_spoil 54 = .ok (.baload, 1) := by decide +kernel
theorem dX11_spoil_55 : decode cX11_spoil 55 = .ok (.istore 4, 2) := by decide +kernel
theorem dX11_spoil_57 : decode cX11_spoil 57 = .ok (.aload_n 0, 1) := by decide +kernel
theorem dX11_spoil_58 : decode cX11_spoil 58 = .ok (.getfield 50, 3) := by decide +kernel
theorem dX11_spoil_61 : decode cX11_spoil 61 = .ok (.bipush 6, 2) := by decide +kernel
theorem dX11_spoil_63 : decode cX11_spoil 63 = .ok (.iload_n 1, 1) := by decide +kernel
theorem dX11_spoil_64 : decode cX11_spoil 64 = .ok (.imul, 1) := by decide +kernel
theorem dX11_spoil_65 : decode cX11_spoil 65 = .ok (.iload_n 2, 1) := by decide +kernel
theorem dX11_spoil_66 : decode cX11_spoil 66 = .ok (.iadd, 1) := by decide +kernel
theorem dX11_spoil_67 : decode cX11_spoil 67 = .ok (.iconst 0, 1) := by decide +kernel
theorem dX11_spoil_68 : decode cX11_spoil 68 = .ok (.bastore, 1) := by decide +kernel
theorem dX11_spoil_69 : decode cX11_spoil 69 = .ok (.iload 4, 2) := by decide +kernel
theorem dX11_spoil_71 : decode cX11_spoil 71 = .ok (.ireturn, 1) := by decide +kernel
set_option maxRecDepth 20000 in
theorem ggX11_root_X11_isFile : GoodIn wsX11_root wsX11_isFile := goodIn_r _ [6, 7, 8, 9, 5, 10, 25, 26, 27, 28, 29, 30, 31, 32, 33, 34, 35, 36, 37, 38, 39, 40, 41, 42, 43, 44, 45, 46, 47, 48, 49, 50, 51, 52] (by decide +kernel) (by decide +kernel)
set_option maxRecDepth 20000 in
theorem gX11_root_X11_isFile : GoodIn wsX11_root (wsV RX11 149 RX11 yX11_isFile wsX11_isFile) := goodIn_app (goodIn_of _ (by decide +kernel)) ggX11_root_X11_isFile
set_option maxRecDepth 20000 in
theorem ggX11_root_X11_holds : GoodIn wsX11_root wsX11_holds := goodIn_r _ [14, 15, 25, 26, 27, 28, 29, 30, 31, 32, 33, 34, 35, 36, 37, 38, 39, 40, 41, 42, 43, 44, 45, 46, 47, 48, 49, 50, 51, 52] (by decide +kernel) (by decide +kernel)
set_option maxRecDepth 20000 in
theorem gX11_root_X11_holds : GoodIn wsX11_root (wsV RX11 124 RX11 yX11_holds wsX11_holds) := goodIn_app (goodIn_of _ (by decide +kernel)) ggX11_root_X11_holds
set_option maxRecDepth 20000 in
theorem ggX11_root_X11_laysTree : GoodIn wsX11_root wsX11_laysTree := goodIn_r _ [19, 1, 20, 21, 22, 5, 23, 24, 25, 26, 27, 28, 29, 30, 31, 32, 33, 34, 35, 36, 37, 38, 39, 40, 41, 42, 43, 44, 45, 46, 47, 48, 49, 50, 51, 52] (by decide +kernel) (by decide +kernel)
set_option maxRecDepth 20000 in
theorem gX11_root_X11_laysTree : GoodIn wsX11_root (wsV RX11 155 RX11 yX11_laysTree wsX11_laysTree) := goodIn_app (goodIn_of _ (by decide +kernel)) ggX11_root_X11_laysTree
theorem dX11_root_0 : decode cX11_root 0 = .ok (.aload_n 0, 1) := by decide +kernel
theorem dX11_root_1 : decode cX11_root 1 = .ok (.aload_n 0, 1) := by decide +kernel
theorem dX11_root_2 : decode cX11_root 2 = .ok (.iload_n 1, 1) := by decide +kernel
theorem dX11_root_3 : decode cX11_root 3 = .ok (.invokevirtual 149, 3) := by decide +kernel
theorem dX11_root_6 : decode cX11_root 6 = .ok (.ifCond .eq 7, 3) := by decide +kernel
theorem dX11_root_9 : decode cX11_root 9 = .ok (.iconst 0, 1) := by decide +kernel
theorem dX11_root_10 : decode cX11_root 10 = .ok (.goto 4, 3) := by decide +kernel
theorem dX11_root_13 : decode cX11_root 13 = .ok (.iconst 1, 1) := by decide +kernel
theorem dX11_root_14 : decode cX11_root 14 = .ok (.invokevirtual 124, 3) := by decide +kernel
theorem dX11_root_17 : decode cX11_root 17 = .ok (.ifCond .ne 5, 3) := by decide +kernel
theorem dX11_root_20 : decode cX11_root 20 = .ok (.iconst 0, 1) := by decide +kernel
theorem dX11_root_21 : decode cX11_root 21 = .ok (.ireturn, 1) := by decide +kernel
theorem dX11_root_22 : decode cX11_root 22 = .ok (.aload_n 0, 1) := by decide +kernel
theorem dX11_root_23 : decode cX11_root 23 = .ok (.iload_n 1, 1) := by decide +kernel
theorem dX11_root_24 : decode cX11_root 24 = .ok (.invokevirtual 155, 3) := by decide +kernel
theorem dX11_root_27 : decode cX11_root 27 = .ok (.aload_n 0, 1) := by decide +kernel
theorem dX11_root_28 : decode cX11_root 28 = .ok (.getfield 56, 3) := by decide +kernel
theorem dX11_root_31 : decode cX11_root 31 = .ok (.iconst 1, 1) := by decide +kernel
theorem dX11_root_32 : decode cX11_root 32 = .ok (.iaload, 1) := by decide +kernel
theorem dX11_root_33 : decode cX11_root 33 = .ok (.ireturn, 1) := by decide +kernel
set_option maxRecDepth 20000 in
theorem ggX11_proof_X11_isAsked : GoodIn wsX11_proof wsX11_isAsked := goodIn_r _ [6, 7, 8, 9, 5, 10, 11, 12, 13, 14, 29, 30, 31, 32, 33, 34, 35, 36, 37, 38, 39, 40, 41, 42, 43, 44, 45, 46, 47, 48, 49, 50, 51, 52, 53, 54, 55, 56] (by decide +kernel) (by decide +kernel)
set_option maxRecDepth 20000 in
theorem gX11_proof_X11_isAsked : GoodIn wsX11_proof (wsV RX11 152 RX11 yX11_isAsked wsX11_isAsked) := goodIn_app (goodIn_of _ (by decide +kernel)) ggX11_proof_X11_isAsked
set_option maxRecDepth 20000 in
theorem ggX11_proof_X11_isIn : GoodIn wsX11_proof wsX11_isIn := goodIn_r _ [14] (by decide +kernel) (by decide +kernel)
set_option maxRecDepth 20000 in
theorem gX11_proof_X11_isIn : GoodIn wsX11_proof (va_wsS RX11 81 yX11_isIn wsX11_isIn) := goodIn_app (goodIn_of _ (by decide +kernel)) ggX11_proof_X11_isIn
set_option maxRecDepth 20000 in
theorem ggX11_proof_X11_holds : GoodIn wsX11_proof wsX11_holds := goodIn_r _ [18, 19, 29, 30, 31, 32, 33, 34, 35, 36, 37, 38, 39, 40, 41, 42, 43, 44, 45, 46, 47, 48, 49, 50, 51, 52, 53, 54, 55, 56] (by decide +kernel) (by decide +kernel)
set_option maxRecDepth 20000 in
theorem gX11_proof_X11_holds : GoodIn wsX11_proof (wsV RX11 124 RX11 yX11_holds wsX11_holds) := goodIn_app (goodIn_of _ (by decide +kernel)) ggX11_proof_X11_holds
set_option maxRecDepth 20000 in
theorem ggX11_proof_X11_laysTree : GoodIn wsX11_proof wsX11_laysTree := goodIn_r _ [23, 1, 24, 25, 26, 5, 27, 28, 29, 30, 31, 32, 33, 34, 35, 36, 37, 38, 39, 40, 41, 42, 43, 44, 45, 46, 47, 48, 49, 50, 51, 52, 53, 54, 55, 56] (by decide +kernel) (by decide +kernel)
set_option maxRecDepth 20000 in
theorem gX11_proof_X11_laysTree : GoodIn wsX11_proof (wsV RX11 155 RX11 yX11_laysTree wsX11_laysTree) := goodIn_app (goodIn_of _ (by decide +kernel)) ggX11_proof_X11_laysTree
theorem dX11_proof_0 : decode cX11_proof 0 = .ok (.aload_n 0, 1) := by decide +kernel
theorem dX11_proof_1 : decode cX11_proof 1 = .ok (.aload_n 0, 1) := by decide +kernel
theorem dX11_proof_2 : decode cX11_proof 2 = .ok (.iload_n 1, 1) := by decide +kernel
theorem dX11_proof_3 : decode cX11_proof 3 = .ok (.iload_n 2, 1) := by decide +kernel
theorem dX11_proof_4 : decode cX11_proof 4 = .ok (.invokevirtual 152, 3) := by decide +kernel
theorem dX11_proof_7 : decode cX11_proof 7 = .ok (.ifCond .ne 7, 3) := by decide +kernel
theorem dX11_proof_10 : decode cX11_proof 10 = .ok (.iconst 1, 1) := by decide +kernel
theorem dX11_proof_11 : decode cX11_proof 11 = .ok (.goto 17, 3) := by decide +kernel
theorem dX11_proof_14 : decode cX11_proof 14 = .ok (.iload_n 3, 1) := by decide +kernel
theorem dX11_proof_15 : decode cX11_proof 15 = .ok (.iconst 0, 1) := by decide +kernel
theorem dX11_proof_16 : decode cX11_proof 16 = .ok (.iconst 2, 1) := by decide +kernel
theorem dX11_proof_17 : decode cX11_proof 17 = .ok (.invokestatic 81, 3) := by decide +kernel
theorem dX11_proof_20 : decode cX11_proof 20 = .ok (.ifCond .eq 7, 3) := by decide +kernel
theorem dX11_proof_23 : decode cX11_proof 23 = .ok (.iconst 0, 1) := by decide +kernel
theorem dX11_proof_24 : decode cX11_proof 24 = .ok (.goto 4, 3) := by decide +kernel
theorem dX11_proof_27 : decode cX11_proof 27 = .ok (.iconst 2, 1) := by decide +kernel
theorem dX11_proof_28 : decode cX11_proof 28 = .ok (.invokevirtual 124, 3) := by decide +kernel
theorem dX11_proof_31 : decode cX11_proof 31 = .ok (.ifCond .ne 5, 3) := by decide +kernel
theorem dX11_proof_34 : decode cX11_proof 34 = .ok (.iconst 0, 1) := by decide +kernel
theorem dX11_proof_35 : decode cX11_proof 35 = .ok (.ireturn, 1) := by decide +kernel
theorem dX11_proof_36 : decode cX11_proof 36 = .ok (.aload_n 0, 1) := by decide +kernel
theorem dX11_proof_37 : decode cX11_proof 37 = .ok (.iload_n 1, 1) := by decide +kernel
theorem dX11_proof_38 : decode cX11_proof 38 = .ok (.invokevirtual 155, 3) := by decide +kernel
theorem dX11_proof_41 : decode cX11_proof 41 = .ok (.aload_n 0, 1) := by decide +kernel
theorem dX11_proof_42 : decode cX11_proof 42 = .ok (.getfield 56, 3) := by decide +kernel
theorem dX11_proof_45 : decode cX11_proof 45 = .ok (.bipush 8, 2) := by decide +kernel
theorem dX11_proof_47 : decode cX11_proof 47 = .ok (.iload_n 2, 1) := by decide +kernel
theorem dX11_proof_48 : decode cX11_proof 48 = .ok (.iadd, 1) := by decide +kernel
theorem dX11_proof_49 : decode cX11_proof 49 = .ok (.iload_n 3, 1) := by decide +kernel
theorem dX11_proof_50 : decode cX11_proof 50 = .ok (.ishr, 1) := by decide +kernel
theorem dX11_proof_51 : decode cX11_proof 51 = .ok (.iconst 1, 1) := by decide +kernel
theorem dX11_proof_52 : decode cX11_proof 52 = .ok (.ixor, 1) := by decide +kernel
theorem dX11_proof_53 : decode cX11_proof 53 = .ok (.iaload, 1) := by decide +kernel
theorem dX11_proof_54 : decode cX11_proof 54 = .ok (.ireturn, 1) := by decide +kernel
set_option maxRecDepth 20000 in
theorem ggX11_isProved_X11_isAsked : GoodIn wsX11_isProved wsX11_isAsked := goodIn_r _ [6, 7, 8, 9, 5, 10, 11, 12, 13, 14, 29, 30, 31, 32, 33, 34, 35, 36, 37, 38, 39, 40, 41, 42, 43, 44, 45, 46, 47, 48, 49, 50, 51, 52, 53, 54, 55, 56] (by decide +kernel) (by decide +kernel)
set_option maxRecDepth 20000 in
theorem gX11_isProved_X11_isAsked : GoodIn wsX11_isProved (wsV RX11 152 RX11 yX11_isAsked wsX11_isAsked) := goodIn_app (goodIn_of _ (by decide +kernel)) ggX11_isProved_X11_isAsked
set_option maxRecDepth 20000 in
theorem ggX11_isProved_X11_isIn : GoodIn wsX11_isProved wsX11_isIn := goodIn_r _ [14] (by decide +kernel) (by decide +kernel)
set_option maxRecDepth 20000 in
theorem gX11_isProved_X11_isIn : GoodIn wsX11_isProved (va_wsS RX11 81 yX11_isIn wsX11_isIn) := goodIn_app (goodIn_of _ (by decide +kernel)) ggX11_isProved_X11_isIn
set_option maxRecDepth 20000 in
theorem ggX11_isProved_X11_holds : GoodIn wsX11_isProved wsX11_holds := goodIn_r _ [18, 19, 29, 30, 31, 32, 33, 34, 35, 36, 37, 38, 39, 40, 41, 42, 43, 44, 45, 46, 47, 48, 49, 50, 51, 52, 53, 54, 55, 56] (by decide +kernel) (by decide +kernel)
set_option maxRecDepth 20000 in
theorem gX11_isProved_X11_holds : GoodIn wsX11_isProved (wsV RX11 124 RX11 yX11_holds wsX11_holds) := goodIn_app (goodIn_of _ (by decide +kernel)) ggX11_isProved_X11_holds
set_option maxRecDepth 20000 in
theorem ggX11_isProved_X11_laysTree : GoodIn wsX11_isProved wsX11_laysTree := goodIn_r _ [23, 1, 24, 25, 26, 5, 27, 28, 29, 30, 31, 32, 33, 34, 35, 36, 37, 38, 39, 40, 41, 42, 43, 44, 45, 46, 47, 48, 49, 50, 51, 52, 53, 54, 55, 56] (by decide +kernel) (by decide +kernel)
set_option maxRecDepth 20000 in
theorem gX11_isProved_X11_laysTree : GoodIn wsX11_isProved (wsV RX11 155 RX11 yX11_laysTree wsX11_laysTree) := goodIn_app (goodIn_of _ (by decide +kernel)) ggX11_isProved_X11_laysTree
set_option maxRecDepth 20000 in
theorem ggX11_isProved_X11_hash : GoodIn wsX11_isProved wsX11_hash := goodIn_r _ [27, 28] (by decide +kernel) (by decide +kernel)
set_option maxRecDepth 20000 in
theorem gX11_isProved_X11_hash : GoodIn wsX11_isProved (va_wsS RX11 140 yX11_hash wsX11_hash) := goodIn_app (goodIn_of _ (by decide +kernel)) ggX11_isProved_X11_hash
theorem dX11_isProved_0 : decode cX11_isProved 0 = .ok (.aload_n 0, 1) := by decide +kernel
theorem dX11_isProved_1 : decode cX11_isProved 1 = .ok (.aload_n 0, 1) := by decide +kernel
theorem dX11_isProved_2 : decode cX11_isProved 2 = .ok (.iload_n 1, 1) := by decide +kernel
theorem dX11_isProved_3 : decode cX11_isProved 3 = .ok (.iload_n 2, 1) := by decide +kernel
theorem dX11_isProved_4 : decode cX11_isProved 4 = .ok (.invokevirtual 152, 3) := by decide +kernel
theorem dX11_isProved_7 : decode cX11_isProved 7 = .ok (.ifCond .ne 7, 3) := by decide +kernel
theorem dX11_isProved_10 : decode cX11_isProved 10 = .ok (.iconst 1, 1) := by decide +kernel
theorem dX11_isProved_11 : decode cX11_isProved 11 = .ok (.goto 19, 3) := by decide +kernel
theorem dX11_isProved_14 : decode cX11_isProved 14 = .ok (.iload_n 3, 1) := by decide +kernel
theorem dX11_isProved_15 : decode cX11_isProved 15 = .ok (.iconst 0, 1) := by decide +kernel
theorem dX11_isProved_16 : decode cX11_isProved 16 = .ok (.sipush 255, 3) := by decide +kernel
theorem dX11_isProved_19 : decode cX11_isProved 19 = .ok (.invokestatic 81, 3) := by decide +kernel
theorem dX11_isProved_22 : decode cX11_isProved 22 = .ok (.ifCond .eq 7, 3) := by decide +kernel
theorem dX11_isProved_25 : decode cX11_isProved 25 = .ok (.iconst 0, 1) := by decide +kernel
theorem dX11_isProved_26 : decode cX11_isProved 26 = .ok (.goto 4, 3) := by decide +kernel
theorem dX11_isProved_29 : decode cX11_isProved 29 = .ok (.iconst 2, 1) := by decide +kernel
theorem dX11_isProved_30 : decode cX11_isProved 30 = .ok (.invokevirtual 124, 3) := by decide +kernel
theorem dX11_isProved_33 : decode cX11_isProved 33 = .ok (.ifCond .ne 5, 3) := by decide +kernel
theorem dX11_isProved_36 : decode cX11_isProved 36 = .ok (.iconst 0, 1) := by decide +kernel
theorem dX11_isProved_37 : decode cX11_isProved 37 = .ok (.ireturn, 1) := by decide +kernel
theorem dX11_isProved_38 : decode cX11_isProved 38 = .ok (.aload_n 0, 1) := by decide +kernel
theorem dX11_isProved_39 : decode cX11_isProved 39 = .ok (.iload_n 1, 1) := by decide +kernel
theorem dX11_isProved_40 : decode cX11_isProved 40 = .ok (.invokevirtual 155, 3) := by decide +kernel
theorem dX11_isProved_43 : decode cX11_isProved 43 = .ok (.iload_n 3, 1) := by decide +kernel
theorem dX11_isProved_44 : decode cX11_isProved 44 = .ok (.iload_n 2, 1) := by decide +kernel
theorem dX11_isProved_45 : decode cX11_isProved 45 = .ok (.invokestatic 140, 3) := by decide +kernel
theorem dX11_isProved_48 : decode cX11_isProved 48 = .ok (.istore 7, 2) := by decide +kernel
theorem dX11_isProved_50 : decode cX11_isProved 50 = .ok (.iconst 0, 1) := by decide +kernel
theorem dX11_isProved_51 : decode cX11_isProved 51 = .ok (.istore 8, 2) := by decide +kernel
theorem dX11_isProved_53 : decode cX11_isProved 53 = .ok (.iload 8, 2) := by decide +kernel
theorem dX11_isProved_55 : decode cX11_isProved 55 = .ok (.iconst 3, 1) := by decide +kernel
theorem dX11_isProved_56 : decode cX11_isProved 56 = .ok (.if_icmp .ge 62, 3) := by decide +kernel
theorem dX11_isProved_59 : decode cX11_isProved 59 = .ok (.iload 8, 2) := by decide +kernel
theorem dX11_isProved_61 : decode cX11_isProved 61 = .ok (.ifCond .ne 8, 3) := by decide +kernel
theorem dX11_isProved_64 : decode cX11_isProved 64 = .ok (.iload 4, 2) := by decide +kernel
theorem dX11_isProved_66 : decode cX11_isProved 66 = .ok (.goto 16, 3) := by decide +kernel
theorem dX11_isProved_69 : decode cX11_isProved 69 = .ok (.iload 8, 2) := by decide +kernel
theorem dX11_isProved_71 : decode cX11_isProved 71 = .ok (.iconst 1, 1) := by decide +kernel
theorem dX11_isProved_72 : decode cX11_isProved 72 = .ok (.if_icmp .ne 8, 3) := by decide +kernel
theorem dX11_isProved_75 : decode cX11_isProved 75 = .ok (.iload 5, 2) := by decide +kernel
theorem dX11_isProved_77 : decode cX11_isProved 77 = .ok (.goto 5, 3) := by decide +kernel
theorem dX11_isProved_80 : decode cX11_isProved 80 = .ok (.iload 6, 2) := by decide +kernel
theorem dX11_isProved_82 : decode cX11_isProved 82 = .ok (.istore 9, 2) := by decide +kernel
theorem dX11_isProved_84 : decode cX11_isProved 84 = .ok (.iload_n 2, 1) := by decide +kernel
theorem dX11_isProved_85 : decode cX11_isProved 85 = .ok (.iload 8, 2) := by decide +kernel
theorem dX11_isProved_87 : decode cX11_isProved 87 = .ok (.ishr, 1) := by decide +kernel
theorem dX11_isProved_88 : decode cX11_isProved 88 = .ok (.iconst 1, 1) := by decide +kernel
theorem dX11_isProved_89 : decode cX11_isProved 89 = .ok (.iand, 1) := by decide +kernel
theorem dX11_isProved_90 : decode cX11_isProved 90 = .ok (.ifCond .ne 13, 3) := by decide +kernel
theorem dX11_isProved_93 : decode cX11_isProved 93 = .ok (.iload 7, 2) := by decide +kernel
theorem dX11_isProved_95 : decode cX11_isProved 95 = .ok (.iload 9, 2) := by decide +kernel
theorem dX11_isProved_97 : decode cX11_isProved 97 = .ok (.invokestatic 140, 3) := by decide +kernel
theorem dX11_isProved_100 : decode cX11_isProved 100 = .ok (.goto 10, 3) := by decide +kernel
theorem dX11_isProved_103 : decode cX11_isProved 103 = .ok (.iload 9, 2) := by decide +kernel
theorem dX11_isProved_105 : decode cX11_isProved 105 = .ok (.iload 7, 2) := by decide +kernel
theorem dX11_isProved_107 : decode cX11_isProved 107 = .ok (.invokestatic 140, 3) := by decide +kernel
theorem dX11_isProved_110 : decode cX11_isProved 110 = .ok (.istore 7, 2) := by decide +kernel
theorem dX11_isProved_112 : decode cX11_isProved 112 = .ok (.iinc 8 1, 3) := by decide +kernel
theorem dX11_isProved_115 : decode cX11_isProved 115 = .ok (.goto (-62), 3) := by decide +kernel
theorem dX11_isProved_118 : decode cX11_isProved 118 = .ok (.iload 7, 2) := by decide +kernel
theorem dX11_isProved_120 : decode cX11_isProved 120 = .ok (.aload_n 0, 1) := by decide +kernel
theorem dX11_isProved_121 : decode cX11_isProved 121 = .ok (.getfield 56, 3) := by decide +kernel
theorem dX11_isProved_124 : decode cX11_isProved 124 = .ok (.iconst 1, 1) := by decide +kernel
theorem dX11_isProved_125 : decode cX11_isProved 125 = .ok (.iaload, 1) := by decide +kernel
theorem dX11_isProved_126 : decode cX11_isProved 126 = .ok (.if_icmp .ne 7, 3) := by decide +kernel
theorem dX11_isProved_129 : decode cX11_isProved 129 = .ok (.iconst 1, 1) := by decide +kernel
theorem dX11_isProved_130 : decode cX11_isProved 130 = .ok (.goto 4, 3) := by decide +kernel
theorem dX11_isProved_133 : decode cX11_isProved 133 = .ok (.iconst 0, 1) := by decide +kernel
theorem dX11_isProved_134 : decode cX11_isProved 134 = .ok (.ireturn, 1) := by decide +kernel
theorem dX11_count_0 : decode cX11_count 0 = .ok (.iconst 0, 1) := by decide +kernel
theorem dX11_count_1 : decode cX11_count 1 = .ok (.istore_n 1, 1) := by decide +kernel
theorem dX11_count_2 : decode cX11_count 2 = .ok (.iconst 0, 1) := by decide +kernel
theorem dX11_count_3 : decode cX11_count 3 = .ok (.istore_n 2, 1) := by decide +kernel
theorem dX11_count_4 : decode cX11_count 4 = .ok (.iload_n 2, 1) := by decide +kernel
theorem dX11_count_5 : decode cX11_count 5 = .ok (.bipush 6, 2) := by decide +kernel
theorem dX11_count_7 : decode cX11_count 7 = .ok (.if_icmp .ge 17, 3) := by decide +kernel
theorem dX11_count_10 : decode cX11_count 10 = .ok (.iload_n 1, 1) := by decide +kernel
theorem dX11_count_11 : decode cX11_count 11 = .ok (.iload_n 0, 1) := by decide +kernel
theorem dX11_count_12 : decode cX11_count 12 = .ok (.iload_n 2, 1) := by decide +kernel
theorem dX11_count_13 : decode cX11_count 13 = .ok (.ishr, 1) := by decide +kernel
theorem dX11_count_14 : decode cX11_count 14 = .ok (.iconst 1, 1) := by decide +kernel
theorem dX11_count_15 : decode cX11_count 15 = .ok (.iand, 1) := by decide +kernel
theorem dX11_count_16 : decode cX11_count 16 = .ok (.iadd, 1) := by decide +kernel
theorem dX11_count_17 : decode cX11_count 17 = .ok (.istore_n 1, 1) := by decide +kernel
theorem dX11_count_18 : decode cX11_count 18 = .ok (.iinc 2 1, 3) := by decide +kernel
theorem dX11_count_21 : decode cX11_count 21 = .ok (.goto (-17), 3) := by decide +kernel
theorem dX11_count_24 : decode cX11_count 24 = .ok (.iload_n 1, 1) := by decide +kernel
theorem dX11_count_25 : decode cX11_count 25 = .ok (.ireturn, 1) := by decide +kernel
set_option maxRecDepth 20000 in
theorem ggX11_mend_X11_isFile : GoodIn wsX11_mend wsX11_isFile := goodIn_r _ [6, 7, 8, 9, 5, 10, 19, 20, 21, 22, 23, 24, 25, 26, 27, 28, 29, 30, 31, 32, 33, 34, 35, 36, 37, 38, 39, 40, 41, 42, 43, 44, 45, 46] (by decide +kernel) (by decide +kernel)
set_option maxRecDepth 20000 in
theorem gX11_mend_X11_isFile : GoodIn wsX11_mend (wsV RX11 149 RX11 yX11_isFile wsX11_isFile) := goodIn_app (goodIn_of _ (by decide +kernel)) ggX11_mend_X11_isFile
set_option maxRecDepth 20000 in
theorem ggX11_mend_X11_isIn : GoodIn wsX11_mend wsX11_isIn := goodIn_r _ [10] (by decide +kernel) (by decide +kernel)
set_option maxRecDepth 20000 in
theorem gX11_mend_X11_isIn : GoodIn wsX11_mend (va_wsS RX11 81 yX11_isIn wsX11_isIn) := goodIn_app (goodIn_of _ (by decide +kernel)) ggX11_mend_X11_isIn
set_option maxRecDepth 20000 in
theorem ggX11_mend_X11_count : GoodIn wsX11_mend wsX11_count := goodIn_r _ [13] (by decide +kernel) (by decide +kernel)
set_option maxRecDepth 20000 in
theorem gX11_mend_X11_count : GoodIn wsX11_mend (va_wsS RX11 158 yX11_count wsX11_count) := goodIn_app (goodIn_of _ (by decide +kernel)) ggX11_mend_X11_count
set_option maxRecDepth 20000 in
theorem ggX11_mend_X11_holds : GoodIn wsX11_mend wsX11_holds := goodIn_r _ [17, 18, 19, 20, 21, 22, 23, 24, 25, 26, 27, 28, 29, 30, 31, 32, 33, 34, 35, 36, 37, 38, 39, 40, 41, 42, 43, 44, 45, 46] (by decide +kernel) (by decide +kernel)
set_option maxRecDepth 20000 in
theorem gX11_mend_X11_holds : GoodIn wsX11_mend (wsV RX11 124 RX11 yX11_holds wsX11_holds) := goodIn_app (goodIn_of _ (by decide +kernel)) ggX11_mend_X11_holds
theorem dX11_mend_0 : decode cX11_mend 0 = .ok (.aload_n 0, 1) := by decide +kernel
theorem dX11_mend_1 : decode cX11_mend 1 = .ok (.aload_n 0, 1) := by decide +kernel
theorem dX11_mend_2 : decode cX11_mend 2 = .ok (.iload_n 1, 1) := by decide +kernel
theorem dX11_mend_3 : decode cX11_mend 3 = .ok (.invokevirtual 149, 3) := by decide +kernel
theorem dX11_mend_6 : decode cX11_mend 6 = .ok (.ifCond .ne 7, 3) := by decide +kernel
theorem dX11_mend_9 : decode cX11_mend 9 = .ok (.iconst 1, 1) := by decide +kernel
theorem dX11_mend_10 : decode cX11_mend 10 = .ok (.goto 26, 3) := by decide +kernel
theorem dX11_mend_13 : decode cX11_mend 13 = .ok (.iload_n 2, 1) := by decide +kernel
theorem dX11_mend_14 : decode cX11_mend 14 = .ok (.iconst 0, 1) := by decide +kernel
theorem dX11_mend_15 : decode cX11_mend 15 = .ok (.bipush 63, 2) := by decide +kernel
theorem dX11_mend_17 : decode cX11_mend 17 = .ok (.invokestatic 81, 3) := by decide +kernel
theorem dX11_mend_20 : decode cX11_mend 20 = .ok (.ifCond .eq 15, 3) := by decide +kernel
theorem dX11_mend_23 : decode cX11_mend 23 = .ok (.iload_n 2, 1) := by decide +kernel
theorem dX11_mend_24 : decode cX11_mend 24 = .ok (.invokestatic 158, 3) := by decide +kernel
theorem dX11_mend_27 : decode cX11_mend 27 = .ok (.iconst 3, 1) := by decide +kernel
theorem dX11_mend_28 : decode cX11_mend 28 = .ok (.if_icmp .le 7, 3) := by decide +kernel
theorem dX11_mend_31 : decode cX11_mend 31 = .ok (.iconst 0, 1) := by decide +kernel
theorem dX11_mend_32 : decode cX11_mend 32 = .ok (.goto 4, 3) := by decide +kernel
theorem dX11_mend_35 : decode cX11_mend 35 = .ok (.iconst 2, 1) := by decide +kernel
theorem dX11_mend_36 : decode cX11_mend 36 = .ok (.invokevirtual 124, 3) := by decide +kernel
theorem dX11_mend_39 : decode cX11_mend 39 = .ok (.ifCond .ne 5, 3) := by decide +kernel
theorem dX11_mend_42 : decode cX11_mend 42 = .ok (.iconst 0, 1) := by decide +kernel
theorem dX11_mend_43 : decode cX11_mend 43 = .ok (.ireturn, 1) := by decide +kernel
theorem dX11_mend_44 : decode cX11_mend 44 = .ok (.bipush 6, 2) := by decide +kernel
theorem dX11_mend_46 : decode cX11_mend 46 = .ok (.iload_n 1, 1) := by decide +kernel
theorem dX11_mend_47 : decode cX11_mend 47 = .ok (.imul, 1) := by decide +kernel
theorem dX11_mend_48 : decode cX11_mend 48 = .ok (.istore_n 3, 1) := by decide +kernel
theorem dX11_mend_49 : decode cX11_mend 49 = .ok (.aload_n 0, 1) := by decide +kernel
theorem dX11_mend_50 : decode cX11_mend 50 = .ok (.getfield 44, 3) := by decide +kernel
theorem dX11_mend_53 : decode cX11_mend 53 = .ok (.iload_n 3, 1) := by decide +kernel
theorem dX11_mend_54 : decode cX11_mend 54 = .ok (.iaload, 1) := by decide +kernel
theorem dX11_mend_55 : decode cX11_mend 55 = .ok (.aload_n 0, 1) := by decide +kernel
theorem dX11_mend_56 : decode cX11_mend 56 = .ok (.getfield 44, 3) := by decide +kernel
theorem dX11_mend_59 : decode cX11_mend 59 = .ok (.iload_n 3, 1) := by decide +kernel
theorem dX11_mend_60 : decode cX11_mend 60 = .ok (.iconst 1, 1) := by decide +kernel
theorem dX11_mend_61 : decode cX11_mend 61 = .ok (.iadd, 1) := by decide +kernel
theorem dX11_mend_62 : decode cX11_mend 62 = .ok (.iaload, 1) := by decide +kernel
theorem dX11_mend_63 : decode cX11_mend 63 = .ok (.bipush 8, 2) := by decide +kernel
theorem dX11_mend_65 : decode cX11_mend 65 = .ok (.ishl, 1) := by decide +kernel
theorem dX11_mend_66 : decode cX11_mend 66 = .ok (.ior, 1) := by decide +kernel
theorem dX11_mend_67 : decode cX11_mend 67 = .ok (.aload_n 0, 1) := by decide +kernel
theorem dX11_mend_68 : decode cX11_mend 68 = .ok (.getfield 44, 3) := by decide +kernel
theorem dX11_mend_71 : decode cX11_mend 71 = .ok (.iload_n 3, 1) := by decide +kernel
theorem dX11_mend_72 : decode cX11_mend 72 = .ok (.iconst 2, 1) := by decide +kernel
theorem dX11_mend_73 : decode cX11_mend 73 = .ok (.iadd, 1) := by decide +kernel
theorem dX11_mend_74 : decode cX11_mend 74 = .ok (.iaload, 1) := by decide +kernel
theorem dX11_mend_75 : decode cX11_mend 75 = .ok (.bipush 16, 2) := by decide +kernel
theorem dX11_mend_77 : decode cX11_mend 77 = .ok (.ishl, 1) := by decide +kernel
theorem dX11_mend_78 : decode cX11_mend 78 = .ok (.ior, 1) := by decide +kernel
theorem dX11_mend_79 : decode cX11_mend 79 = .ok (.aload_n 0, 1) := by decide +kernel
theorem dX11_mend_80 : decode cX11_mend 80 = .ok (.getfield 44, 3) := by decide +kernel
theorem dX11_mend_83 : decode cX11_mend 83 = .ok (.iload_n 3, 1) := by decide +kernel
theorem dX11_mend_84 : decode cX11_mend 84 = .ok (.iconst 3, 1) := by decide +kernel
theorem dX11_mend_85 : decode cX11_mend 85 = .ok (.iadd, 1) := by decide +kernel
theorem dX11_mend_86 : decode cX11_mend 86 = .ok (.iaload, 1) := by decide +kernel
theorem dX11_mend_87 : decode cX11_mend 87 = .ok (.bipush 24, 2) := by decide +kernel
theorem dX11_mend_89 : decode cX11_mend 89 = .ok (.ishl, 1) := by decide +kernel
theorem dX11_mend_90 : decode cX11_mend 90 = .ok (.ior, 1) := by decide +kernel
theorem dX11_mend_91 : decode cX11_mend 91 = .ok (.ireturn, 1) := by decide +kernel
theorem dX11_isThere_0 : decode cX11_isThere 0 = .ok (.aload_n 0, 1) := by decide +kernel
theorem dX11_isThere_1 : decode cX11_isThere 1 = .ok (.getfield 47, 3) := by decide +kernel
theorem dX11_isThere_4 : decode cX11_isThere 4 = .ok (.iload_n 1, 1) := by decide +kernel
theorem dX11_isThere_5 : decode cX11_isThere 5 = .ok (.iaload, 1) := by decide +kernel
theorem dX11_isThere_6 : decode cX11_isThere 6 = .ok (.iconst (-1), 1) := by decide +kernel
theorem dX11_isThere_7 : decode cX11_isThere 7 = .ok (.if_icmp .eq 30, 3) := by decide +kernel
theorem dX11_isThere_10 : decode cX11_isThere 10 = .ok (.aload_n 0, 1) := by decide +kernel
theorem dX11_isThere_11 : decode cX11_isThere 11 = .ok (.getfield 50, 3) := by decide +kernel
theorem dX11_isThere_14 : decode cX11_isThere 14 = .ok (.iload_n 1, 1) := by decide +kernel
theorem dX11_isThere_15 : decode cX11_isThere 15 = .ok (.baload, 1) := by decide +kernel
theorem dX11_isThere_16 : decode cX11_isThere 16 = .ok (.ifCond .eq 21, 3) := by decide +kernel
theorem dX11_isThere_19 : decode cX11_isThere 19 = .ok (.aload_n 0, 1) := by decide +kernel
theorem dX11_isThere_20 : decode cX11_isThere 20 = .ok (.getfield 16, 3) := by decide +kernel
theorem dX11_isThere_23 : decode cX11_isThere 23 = .ok (.aload_n 0, 1) := by decide +kernel
theorem dX11_isThere_24 : decode cX11_isThere 24 = .ok (.getfield 47, 3) := by decide +kernel
theorem dX11_isThere_27 : decode cX11_isThere 27 = .ok (.iload_n 1, 1) := by decide +kernel
theorem dX11_isThere_28 : decode cX11_isThere 28 = .ok (.iaload, 1) := by decide +kernel
theorem dX11_isThere_29 : decode cX11_isThere 29 = .ok (.baload, 1) := by decide +kernel
theorem dX11_isThere_30 : decode cX11_isThere 30 = .ok (.ifCond .eq 7, 3) := by decide +kernel
theorem dX11_isThere_33 : decode cX11_isThere 33 = .ok (.iconst 1, 1) := by decide +kernel
theorem dX11_isThere_34 : decode cX11_isThere 34 = .ok (.goto 4, 3) := by decide +kernel
theorem dX11_isThere_37 : decode cX11_isThere 37 = .ok (.iconst 0, 1) := by decide +kernel
theorem dX11_isThere_38 : decode cX11_isThere 38 = .ok (.ireturn, 1) := by decide +kernel
set_option maxRecDepth 20000 in
theorem ggX11_fetch_X11_isPeer : GoodIn wsX11_fetch wsX11_isPeer := goodIn_r _ [9, 10, 11, 12, 8, 13, 29, 30, 31, 32, 33, 34, 35, 36, 37, 38, 39, 40, 41, 42, 43, 44, 45, 46, 47, 48, 49, 50, 51, 52, 53, 54, 55, 56] (by decide +kernel) (by decide +kernel)
set_option maxRecDepth 20000 in
theorem gX11_fetch_X11_isPeer : GoodIn wsX11_fetch (wsV RX11 117 RX11 yX11_isPeer wsX11_isPeer) := goodIn_app (goodIn_of _ (by decide +kernel)) ggX11_fetch_X11_isPeer
set_option maxRecDepth 20000 in
theorem ggX11_fetch_X11_isFile : GoodIn wsX11_fetch wsX11_isFile := goodIn_r _ [17, 18, 11, 12, 8, 13, 29, 30, 31, 32, 33, 34, 35, 36, 37, 38, 39, 40, 41, 42, 43, 44, 45, 46, 47, 48, 49, 50, 51, 52, 53, 54, 55, 56] (by decide +kernel) (by decide +kernel)
set_option maxRecDepth 20000 in
theorem gX11_fetch_X11_isFile : GoodIn wsX11_fetch (wsV RX11 149 RX11 yX11_isFile wsX11_isFile) := goodIn_app (goodIn_of _ (by decide +kernel)) ggX11_fetch_X11_isFile
set_option maxRecDepth 20000 in
theorem ggX11_fetch_X11_holds : GoodIn wsX11_fetch wsX11_holds := goodIn_r _ [22, 23, 29, 30, 31, 32, 33, 34, 35, 36, 37, 38, 39, 40, 41, 42, 43, 44, 45, 46, 47, 48, 49, 50, 51, 52, 53, 54, 55, 56] (by decide +kernel) (by decide +kernel)
set_option maxRecDepth 20000 in
theorem gX11_fetch_X11_holds : GoodIn wsX11_fetch (wsV RX11 124 RX11 yX11_holds wsX11_holds) := goodIn_app (goodIn_of _ (by decide +kernel)) ggX11_fetch_X11_holds
set_option maxRecDepth 20000 in
theorem ggX11_fetch_X11_isThere : GoodIn wsX11_fetch wsX11_isThere := goodIn_r _ [27, 4, 28, 1, 29, 30, 31, 32, 33, 34, 35, 36, 37, 38, 39, 40, 41, 42, 43, 44, 45, 46, 47, 48, 49, 50, 51, 52, 53, 54, 55, 56] (by decide +kernel) (by decide +kernel)
set_option maxRecDepth 20000 in
theorem gX11_fetch_X11_isThere : GoodIn wsX11_fetch (wsV RX11 161 RX11 yX11_isThere wsX11_isThere) := goodIn_app (goodIn_of _ (by decide +kernel)) ggX11_fetch_X11_isThere
theorem dX11_fetch_0 : decode cX11_fetch 0 = .ok (.aload_n 0, 1) := by decide +kernel
theorem dX11_fetch_1 : decode cX11_fetch 1 = .ok (.iload_n 1, 1) := by decide +kernel
theorem dX11_fetch_2 : decode cX11_fetch 2 = .ok (.invokevirtual 117, 3) := by decide +kernel
theorem dX11_fetch_5 : decode cX11_fetch 5 = .ok (.ifCond .eq 15, 3) := by decide +kernel
theorem dX11_fetch_8 : decode cX11_fetch 8 = .ok (.aload_n 0, 1) := by decide +kernel
theorem dX11_fetch_9 : decode cX11_fetch 9 = .ok (.iload_n 2, 1) := by decide +kernel
theorem dX11_fetch_10 : decode cX11_fetch 10 = .ok (.invokevirtual 149, 3) := by decide +kernel
theorem dX11_fetch_13 : decode cX11_fetch 13 = .ok (.ifCond .eq 7, 3) := by decide +kernel
theorem dX11_fetch_16 : decode cX11_fetch 16 = .ok (.iconst 1, 1) := by decide +kernel
theorem dX11_fetch_17 : decode cX11_fetch 17 = .ok (.goto 4, 3) := by decide +kernel
theorem dX11_fetch_20 : decode cX11_fetch 20 = .ok (.iconst 0, 1) := by decide +kernel
theorem dX11_fetch_21 : decode cX11_fetch 21 = .ok (.istore_n 3, 1) := by decide +kernel
theorem dX11_fetch_22 : decode cX11_fetch 22 = .ok (.aload_n 0, 1) := by decide +kernel
theorem dX11_fetch_23 : decode cX11_fetch 23 = .ok (.iload_n 3, 1) := by decide +kernel
theorem dX11_fetch_24 : decode cX11_fetch 24 = .ok (.ifCond .ne 7, 3) := by decide +kernel
theorem dX11_fetch_27 : decode cX11_fetch 27 = .ok (.iconst 1, 1) := by decide +kernel
theorem dX11_fetch_28 : decode cX11_fetch 28 = .ok (.goto 17, 3) := by decide +kernel
theorem dX11_fetch_31 : decode cX11_fetch 31 = .ok (.aload_n 0, 1) := by decide +kernel
theorem dX11_fetch_32 : decode cX11_fetch 32 = .ok (.getfield 16, 3) := by decide +kernel
theorem dX11_fetch_35 : decode cX11_fetch 35 = .ok (.iload_n 1, 1) := by decide +kernel
theorem dX11_fetch_36 : decode cX11_fetch 36 = .ok (.baload, 1) := by decide +kernel
theorem dX11_fetch_37 : decode cX11_fetch 37 = .ok (.ifCond .eq 7, 3) := by decide +kernel
theorem dX11_fetch_40 : decode cX11_fetch 40 = .ok (.iconst 0, 1) := by decide +kernel
theorem dX11_fetch_41 : decode cX11_fetch 41 = .ok (.goto 4, 3) := by decide +kernel
theorem dX11_fetch_44 : decode cX11_fetch 44 = .ok (.iconst 2, 1) := by decide +kernel
theorem dX11_fetch_45 : decode cX11_fetch 45 = .ok (.invokevirtual 124, 3) := by decide +kernel
theorem dX11_fetch_48 : decode cX11_fetch 48 = .ok (.ifCond .ne 5, 3) := by decide +kernel
theorem dX11_fetch_51 : decode cX11_fetch 51 = .ok (.iconst 0, 1) := by decide +kernel
theorem dX11_fetch_52 : decode cX11_fetch 52 = .ok (.ireturn, 1) := by decide +kernel
theorem dX11_fetch_53 : decode cX11_fetch 53 = .ok (.iconst 0, 1) := by decide +kernel
theorem dX11_fetch_54 : decode cX11_fetch 54 = .ok (.istore 4, 2) := by decide +kernel
theorem dX11_fetch_56 : decode cX11_fetch 56 = .ok (.bipush 6, 2) := by decide +kernel
theorem dX11_fetch_58 : decode cX11_fetch 58 = .ok (.iload_n 2, 1) := by decide +kernel
theorem dX11_fetch_59 : decode cX11_fetch 59 = .ok (.imul, 1) := by decide +kernel
theorem dX11_fetch_60 : decode cX11_fetch 60 = .ok (.istore 5, 2) := by decide +kernel
theorem dX11_fetch_62 : decode cX11_fetch 62 = .ok (.iload 5, 2) := by decide +kernel
theorem dX11_fetch_64 : decode cX11_fetch 64 = .ok (.bipush 6, 2) := by decide +kernel
theorem dX11_fetch_66 : decode cX11_fetch 66 = .ok (.iload_n 2, 1) := by decide +kernel
theorem dX11_fetch_67 : decode cX11_fetch 67 = .ok (.imul, 1) := by decide +kernel
theorem dX11_fetch_68 : decode cX11_fetch 68 = .ok (.bipush 6, 2) := by decide +kernel
theorem dX11_fetch_70 : decode cX11_fetch 70 = .ok (.iadd, 1) := by decide +kernel
theorem dX11_fetch_71 : decode cX11_fetch 71 = .ok (.if_icmp .ge 28, 3) := by decide +kernel
theorem dX11_fetch_74 : decode cX11_fetch 74 = .ok (.iload 4, 2) := by decide +kernel
theorem dX11_fetch_76 : decode cX11_fetch 76 = .ok (.aload_n 0, 1) := by decide +kernel
theorem dX11_fetch_77 : decode cX11_fetch 77 = .ok (.iload 5, 2) := by decide +kernel
theorem dX11_fetch_79 : decode cX11_fetch 79 = .ok (.invokevirtual 161, 3) := by decide +kernel
theorem dX11_fetch_82 : decode cX11_fetch 82 = .ok (.ifCond .eq 7, 3) := by decide +kernel
theorem dX11_fetch_85 : decode cX11_fetch 85 = .ok (.iconst 1, 1) := by decide +kernel
theorem dX11_fetch_86 : decode cX11_fetch 86 = .ok (.goto 4, 3) := by decide +kernel
theorem dX11_fetch_89 : decode cX11_fetch 89 = .ok (.iconst 0, 1) := by decide +kernel
theorem dX11_fetch_90 : decode cX11_fetch 90 = .ok (.iadd, 1) := by decide +kernel
theorem dX11_fetch_91 : decode cX11_fetch 91 = .ok (.istore 4, 2) := by decide +kernel
theorem dX11_fetch_93 : decode cX11_fetch 93 = .ok (.iinc 5 1, 3) := by decide +kernel
theorem dX11_fetch_96 : decode cX11_fetch 96 = .ok (.goto (-34), 3) := by decide +kernel
theorem dX11_fetch_99 : decode cX11_fetch 99 = .ok (.aload_n 0, 1) := by decide +kernel
theorem dX11_fetch_100 : decode cX11_fetch 100 = .ok (.getfield 41, 3) := by decide +kernel
theorem dX11_fetch_103 : decode cX11_fetch 103 = .ok (.iload_n 2, 1) := by decide +kernel
theorem dX11_fetch_104 : decode cX11_fetch 104 = .ok (.iaload, 1) := by decide +kernel
theorem dX11_fetch_105 : decode cX11_fetch 105 = .ok (.iload_n 1, 1) := by decide +kernel
theorem dX11_fetch_106 : decode cX11_fetch 106 = .ok (.if_icmp .eq 9, 3) := by decide +kernel
theorem dX11_fetch_109 : decode cX11_fetch 109 = .ok (.iload 4, 2) := by decide +kernel
theorem dX11_fetch_111 : decode cX11_fetch 111 = .ok (.iconst 4, 1) := by decide +kernel
theorem dX11_fetch_112 : decode cX11_fetch 112 = .ok (.if_icmp .ge 5, 3) := by decide +kernel
theorem dX11_fetch_115 : decode cX11_fetch 115 = .ok (.iconst 0, 1) := by decide +kernel
theorem dX11_fetch_116 : decode cX11_fetch 116 = .ok (.ireturn, 1) := by decide +kernel
theorem dX11_fetch_117 : decode cX11_fetch 117 = .ok (.iconst 0, 1) := by decide +kernel
theorem dX11_fetch_118 : decode cX11_fetch 118 = .ok (.istore 4, 2) := by decide +kernel
theorem dX11_fetch_120 : decode cX11_fetch 120 = .ok (.bipush 6, 2) := by decide +kernel
theorem dX11_fetch_122 : decode cX11_fetch 122 = .ok (.iload_n 2, 1) := by decide +kernel
theorem dX11_fetch_123 : decode cX11_fetch 123 = .ok (.imul, 1) := by decide +kernel
theorem dX11_fetch_124 : decode cX11_fetch 124 = .ok (.istore 5, 2) := by decide +kernel
theorem dX11_fetch_126 : decode cX11_fetch 126 = .ok (.iload 5, 2) := by decide +kernel
theorem dX11_fetch_128 : decode cX11_fetch 128 = .ok (.bipush 6, 2) := by decide +kernel
theorem dX11_fetch_130 : decode cX11_fetch 130 = .ok (.iload_n 2, 1) := by decide +kernel
theorem dX11_fetch_131 : decode cX11_fetch 131 = .ok (.imul, 1) := by decide +kernel
theorem dX11_fetch_132 : decode cX11_fetch 132 = .ok (.bipush 6, 2) := by decide +kernel
theorem dX11_fetch_134 : decode cX11_fetch 134 = .ok (.iadd, 1) := by decide +kernel
theorem dX11_fetch_135 : decode cX11_fetch 135 = .ok (.if_icmp .ge 63, 3) := by decide +kernel
theorem dX11_fetch_138 : decode cX11_fetch 138 = .ok (.iload 4, 2) := by decide +kernel
theorem dX11_fetch_140 : decode cX11_fetch 140 = .ok (.iconst 4, 1) := by decide +kernel
theorem dX11_fetch_141 : decode cX11_fetch 141 = .ok (.if_icmp .ge 57, 3) := by decide +kernel
theorem dX11_fetch_144 : decode cX11_fetch 144 = .ok (.aload_n 0, 1) := by decide +kernel
theorem dX11_fetch_145 : decode cX11_fetch 145 = .ok (.iload 5, 2) := by decide +kernel
theorem dX11_fetch_147 : decode cX11_fetch 147 = .ok (.invokevirtual 161, 3) := by decide +kernel
theorem dX11_fetch_150 : decode cX11_fetch 150 = .ok (.ifCond .eq 42, 3) := by decide +kernel
theorem dX11_fetch_153 : decode cX11_fetch 153 = .ok (.aload_n 0, 1) := by decide +kernel
theorem dX11_fetch_154 : decode cX11_fetch 154 = .ok (.getfield 71, 3) := by decide +kernel
theorem dX11_fetch_157 : decode cX11_fetch 157 = .ok (.bipush 16, 2) := by decide +kernel
theorem dX11_fetch_159 : decode cX11_fetch 159 = .ok (.iload_n 1, 1) := by decide +kernel
theorem dX11_fetch_160 : decode cX11_fetch 160 = .ok (.imul, 1) := by decide +kernel
theorem dX11_fetch_161 : decode cX11_fetch 161 = .ok (.aload_n 0, 1) := by decide +kernel
theorem dX11_fetch_162 : decode cX11_fetch 162 = .ok (.getfield 47, 3) := by decide +kernel
theorem dX11_fetch_165 : decode cX11_fetch 165 = .ok (.iload 5, 2) := by decide +kernel
theorem dX11_fetch_167 : decode cX11_fetch 167 = .ok (.iaload, 1) := by decide +kernel
theorem dX11_fetch_168 : decode cX11_fetch 168 = .ok (.iadd, 1) := by decide +kernel
theorem dX11_fetch_169 : decode cX11_fetch 169 = .ok (.dup2, 1) := by decide +kernel
theorem dX11_fetch_170 : decode cX11_fetch 170 = .ok (.iaload, 1) := by decide +kernel
theorem dX11_fetch_171 : decode cX11_fetch 171 = .ok (.aload_n 0, 1) := by decide +kernel
theorem dX11_fetch_172 : decode cX11_fetch 172 = .ok (.getfield 47, 3) := by decide +kernel
theorem dX11_fetch_175 : decode cX11_fetch 175 = .ok (.iload 5, 2) := by decide +kernel
theorem dX11_fetch_177 : decode cX11_fetch 177 = .ok (.iaload, 1) := by decide +kernel
theorem dX11_fetch_178 : decode cX11_fetch 178 = .ok (.iload_n 1, 1) := by decide +kernel
theorem dX11_fetch_179 : decode cX11_fetch 179 = .ok (.if_icmp .ne 7, 3) := by decide +kernel
theorem dX11_fetch_182 : decode cX11_fetch 182 = .ok (.iconst 0, 1) := by decide +kernel
theorem dX11_fetch_183 : decode cX11_fetch 183 = .ok (.goto 4, 3) := by decide +kernel
theorem dX11_fetch_186 : decode cX11_fetch 186 = .ok (.iconst 1, 1) := by decide +kernel
theorem dX11_fetch_187 : decode cX11_fetch 187 = .ok (.iadd, 1) := by decide +kernel
theorem dX11_fetch_188 : decode cX11_fetch 188 = .ok (.iastore, 1) := by decide +kernel
theorem dX11_fetch_189 : decode cX11_fetch 189 = .ok (.iinc 4 1, 3) := by decide +kernel
theorem dX11_fetch_192 : decode cX11_fetch 192 = .ok (.iinc 5 1, 3) := by decide +kernel
theorem dX11_fetch_195 : decode cX11_fetch 195 = .ok (.goto (-69), 3) := by decide +kernel
theorem dX11_fetch_198 : decode cX11_fetch 198 = .ok (.iload 4, 2) := by decide +kernel
theorem dX11_fetch_200 : decode cX11_fetch 200 = .ok (.ireturn, 1) := by decide +kernel
set_option maxRecDepth 20000 in
theorem ggX11_challenges_X11_isThere : GoodIn wsX11_challenges wsX11_isThere := goodIn_r _ [11, 2, 6, 3, 12, 13, 14, 15, 16, 17, 18, 19, 20, 21, 22, 23, 24, 25, 26, 27, 28, 29, 30, 31, 32, 33, 34, 35, 36, 37, 38, 39] (by decide +kernel) (by decide +kernel)
set_option maxRecDepth 20000 in
theorem gX11_challenges_X11_isThere : GoodIn wsX11_challenges (wsV RX11 161 RX11 yX11_isThere wsX11_isThere) := goodIn_app (goodIn_of _ (by decide +kernel)) ggX11_challenges_X11_isThere
theorem dX11_challenges_0 : decode cX11_challenges 0 = .ok (.aload_n 0, 1) := by decide +kernel
theorem dX11_challenges_1 : decode cX11_challenges 1 = .ok (.getfield 41, 3) := by decide +kernel
theorem dX11_challenges_4 : decode cX11_challenges 4 = .ok (.iload_n 1, 1) := by decide +kernel
theorem dX11_challenges_5 : decode cX11_challenges 5 = .ok (.bipush 6, 2) := by decide +kernel
theorem dX11_challenges_7 : decode cX11_challenges 7 = .ok (.idiv, 1) := by decide +kernel
theorem dX11_challenges_8 : decode cX11_challenges 8 = .ok (.iaload, 1) := by decide +kernel
theorem dX11_challenges_9 : decode cX11_challenges 9 = .ok (.istore_n 2, 1) := by decide +kernel
theorem dX11_challenges_10 : decode cX11_challenges 10 = .ok (.aload_n 0, 1) := by decide +kernel
theorem dX11_challenges_11 : decode cX11_challenges 11 = .ok (.getfield 47, 3) := by decide +kernel
theorem dX11_challenges_14 : decode cX11_challenges 14 = .ok (.iload_n 1, 1) := by decide +kernel
theorem dX11_challenges_15 : decode cX11_challenges 15 = .ok (.iaload, 1) := by decide +kernel
theorem dX11_challenges_16 : decode cX11_challenges 16 = .ok (.iconst (-1), 1) := by decide +kernel
theorem dX11_challenges_17 : decode cX11_challenges 17 = .ok (.if_icmp .eq 12, 3) := by decide +kernel
theorem dX11_challenges_20 : decode cX11_challenges 20 = .ok (.aload_n 0, 1) := by decide +kernel
theorem dX11_challenges_21 : decode cX11_challenges 21 = .ok (.getfield 16, 3) := by decide +kernel
theorem dX11_challenges_24 : decode cX11_challenges 24 = .ok (.iload_n 2, 1) := by decide +kernel
theorem dX11_challenges_25 : decode cX11_challenges 25 = .ok (.baload, 1) := by decide +kernel
theorem dX11_challenges_26 : decode cX11_challenges 26 = .ok (.ifCond .ne 4, 3) := by decide +kernel
theorem dX11_challenges_29 : decode cX11_challenges 29 = .ok (.return_, 1) := by decide +kernel
theorem dX11_challenges_30 : decode cX11_challenges 30 = .ok (.aload_n 0, 1) := by decide +kernel
theorem dX11_challenges_31 : decode cX11_challenges 31 = .ok (.iload_n 1, 1) := by decide +kernel
theorem dX11_challenges_32 : decode cX11_challenges 32 = .ok (.invokevirtual 161, 3) := by decide +kernel
theorem dX11_challenges_35 : decode cX11_challenges 35 = .ok (.ifCond .eq 31, 3) := by decide +kernel
theorem dX11_challenges_38 : decode cX11_challenges 38 = .ok (.aload_n 0, 1) := by decide +kernel
theorem dX11_challenges_39 : decode cX11_challenges 39 = .ok (.getfield 71, 3) := by decide +kernel
theorem dX11_challenges_42 : decode cX11_challenges 42 = .ok (.bipush 16, 2) := by decide +kernel
theorem dX11_challenges_44 : decode cX11_challenges 44 = .ok (.iload_n 2, 1) := by decide +kernel
theorem dX11_challenges_45 : decode cX11_challenges 45 = .ok (.imul, 1) := by decide +kernel
theorem dX11_challenges_46 : decode cX11_challenges 46 = .ok (.aload_n 0, 1) := by decide +kernel
theorem dX11_challenges_47 : decode cX11_challenges 47 = .ok (.getfield 47, 3) := by decide +kernel
theorem dX11_challenges_50 : decode cX11_challenges 50 = .ok (.iload_n 1, 1) := by decide +kernel
theorem dX11_challenges_51 : decode cX11_challenges 51 = .ok (.iaload, 1) := by decide +kernel
theorem dX11_challenges_52 : decode cX11_challenges 52 = .ok (.iadd, 1) := by decide +kernel
theorem dX11_challenges_53 : decode cX11_challenges 53 = .ok (.dup2, 1) := by decide +kernel
theorem dX11_challenges_54 : decode cX11_challenges 54 = .ok (.iaload, 1) := by decide +kernel
theorem dX11_challenges_55 : decode cX11_challenges 55 = .ok (.iconst 3, 1) := by decide +kernel
theorem dX11_challenges_56 : decode cX11_challenges 56 = .ok (.iadd, 1) := by decide +kernel
theorem dX11_challenges_57 : decode cX11_challenges 57 = .ok (.iastore, 1) := by decide +kernel
theorem dX11_challenges_58 : decode cX11_challenges 58 = .ok (.aload_n 0, 1) := by decide +kernel
theorem dX11_challenges_59 : decode cX11_challenges 59 = .ok (.getfield 53, 3) := by decide +kernel
theorem dX11_challenges_62 : decode cX11_challenges 62 = .ok (.iload_n 1, 1) := by decide +kernel
theorem dX11_challenges_63 : decode cX11_challenges 63 = .ok (.iconst 0, 1) := by decide +kernel
theorem dX11_challenges_64 : decode cX11_challenges 64 = .ok (.iastore, 1) := by decide +kernel
theorem dX11_challenges_65 : decode cX11_challenges 65 = .ok (.return_, 1) := by decide +kernel
theorem dX11_challenges_66 : decode cX11_challenges 66 = .ok (.aload_n 0, 1) := by decide +kernel
theorem dX11_challenges_67 : decode cX11_challenges 67 = .ok (.getfield 53, 3) := by decide +kernel
theorem dX11_challenges_70 : decode cX11_challenges 70 = .ok (.iload_n 1, 1) := by decide +kernel
theorem dX11_challenges_71 : decode cX11_challenges 71 = .ok (.dup2, 1) := by decide +kernel
theorem dX11_challenges_72 : decode cX11_challenges 72 = .ok (.iaload, 1) := by decide +kernel
theorem dX11_challenges_73 : decode cX11_challenges 73 = .ok (.iconst 1, 1) := by decide +kernel
theorem dX11_challenges_74 : decode cX11_challenges 74 = .ok (.iadd, 1) := by decide +kernel
theorem dX11_challenges_75 : decode cX11_challenges 75 = .ok (.iastore, 1) := by decide +kernel
theorem dX11_challenges_76 : decode cX11_challenges 76 = .ok (.aload_n 0, 1) := by decide +kernel
theorem dX11_challenges_77 : decode cX11_challenges 77 = .ok (.getfield 53, 3) := by decide +kernel
theorem dX11_challenges_80 : decode cX11_challenges 80 = .ok (.iload_n 1, 1) := by decide +kernel
theorem dX11_challenges_81 : decode cX11_challenges 81 = .ok (.iaload, 1) := by decide +kernel
theorem dX11_challenges_82 : decode cX11_challenges 82 = .ok (.iconst 3, 1) := by decide +kernel
theorem dX11_challenges_83 : decode cX11_challenges 83 = .ok (.if_icmp .ne 45, 3) := by decide +kernel
theorem dX11_challenges_86 : decode cX11_challenges 86 = .ok (.aload_n 0, 1) := by decide +kernel
theorem dX11_challenges_87 : decode cX11_challenges 87 = .ok (.getfield 71, 3) := by decide +kernel
theorem dX11_challenges_90 : decode cX11_challenges 90 = .ok (.bipush 16, 2) := by decide +kernel
theorem dX11_challenges_92 : decode cX11_challenges 92 = .ok (.aload_n 0, 1) := by decide +kernel
theorem dX11_challenges_93 : decode cX11_challenges 93 = .ok (.getfield 47, 3) := by decide +kernel
theorem dX11_challenges_96 : decode cX11_challenges 96 = .ok (.iload_n 1, 1) := by decide +kernel
theorem dX11_challenges_97 : decode cX11_challenges 97 = .ok (.iaload, 1) := by decide +kernel
theorem dX11_challenges_98 : decode cX11_challenges 98 = .ok (.imul, 1) := by decide +kernel
theorem dX11_challenges_99 : decode cX11_challenges 99 = .ok (.iload_n 2, 1) := by decide +kernel
theorem dX11_challenges_100 : decode cX11_challenges 100 = .ok (.iadd, 1) := by decide +kernel
theorem dX11_challenges_101 : decode cX11_challenges 101 = .ok (.dup2, 1) := by decide +kernel
theorem dX11_challenges_102 : decode cX11_challenges 102 = .ok (.iaload, 1) := by decide +kernel
theorem dX11_challenges_103 : decode cX11_challenges 103 = .ok (.bipush 10, 2) := by decide +kernel
theorem dX11_challenges_105 : decode cX11_challenges 105 = .ok (.iadd, 1) := by decide +kernel
theorem dX11_challenges_106 : decode cX11_challenges 106 = .ok (.iastore, 1) := by decide +kernel
theorem dX11_challenges_107 : decode cX11_challenges 107 = .ok (.aload_n 0, 1) := by decide +kernel
theorem dX11_challenges_108 : decode cX11_challenges 108 = .ok (.getfield 47, 3) := by decide +kernel
theorem dX11_challenges_111 : decode cX11_challenges 111 = .ok (.iload_n 1, 1) := by decide +kernel
theorem dX11_challenges_112 : decode cX11_challenges 112 = .ok (.iconst (-1), 1) := by decide +kernel
theorem dX11_challenges_113 : decode cX11_challenges 113 = .ok (.iastore, 1) := by decide +kernel
theorem dX11_challenges_114 : decode cX11_challenges 114 = .ok (.aload_n 0, 1) := by decide +kernel
theorem dX11_challenges_115 : decode cX11_challenges 115 = .ok (.getfield 50, 3) := by decide +kernel
theorem dX11_challenges_118 : decode cX11_challenges 118 = .ok (.iload_n 1, 1) := by decide +kernel
theorem dX11_challenges_119 : decode cX11_challenges 119 = .ok (.iconst 0, 1) := by decide +kernel
theorem dX11_challenges_120 : decode cX11_challenges 120 = .ok (.bastore, 1) := by decide +kernel
theorem dX11_challenges_121 : decode cX11_challenges 121 = .ok (.aload_n 0, 1) := by decide +kernel
theorem dX11_challenges_122 : decode cX11_challenges 122 = .ok (.getfield 53, 3) := by decide +kernel
theorem dX11_challenges_125 : decode cX11_challenges 125 = .ok (.iload_n 1, 1) := by decide +kernel
theorem dX11_challenges_126 : decode cX11_challenges 126 = .ok (.iconst 0, 1) := by decide +kernel
theorem dX11_challenges_127 : decode cX11_challenges 127 = .ok (.iastore, 1) := by decide +kernel
theorem dX11_challenges_128 : decode cX11_challenges 128 = .ok (.return_, 1) := by decide +kernel
set_option maxRecDepth 20000 in
theorem ggX11_repairs_X11_isThere : GoodIn wsX11_repairs wsX11_isThere := goodIn_r _ [8, 1, 9, 2, 59, 60, 61, 62, 63, 64, 65, 66, 67, 68, 69, 70, 71, 72, 73, 74, 75, 76, 77, 78, 79, 80, 81, 82, 83, 84, 85, 86] (by decide +kernel) (by decide +kernel)
set_option maxRecDepth 20000 in
theorem gX11_repairs_X11_isThere : GoodIn wsX11_repairs (wsV RX11 161 RX11 yX11_isThere wsX11_isThere) := goodIn_app (goodIn_of _ (by decide +kernel)) ggX11_repairs_X11_isThere
set_option maxRecDepth 20000 in
theorem ggX11_repairs_X11_stores : GoodIn wsX11_repairs wsX11_stores := goodIn_r _ [13, 14, 3, 1, 15, 9, 16, 17, 18, 19, 20, 7, 21, 22, 23, 24, 25, 26, 27, 28, 29, 30, 31, 32, 33, 34, 35, 36, 37, 38, 39, 40, 41, 42, 43, 44, 45, 46, 47, 2, 48, 49, 50, 51, 52, 53, 54, 55, 56, 57, 58, 59, 60, 61, 62, 63, 64, 65, 66, 67, 68, 69, 70, 71, 72, 73, 74, 75, 76, 77, 78, 79, 80, 81, 82, 83, 84, 85, 86] (by decide +kernel) (by decide +kernel)
set_option maxRecDepth 20000 in
theorem gX11_repairs_X11_stores : GoodIn wsX11_repairs (wsV RX11 146 RX11 yX11_stores wsX11_stores) := goodIn_app (goodIn_of _ (by decide +kernel)) ggX11_repairs_X11_stores
theorem dX11_repairs_0 : decode cX11_repairs 0 = .ok (.iconst 0, 1) := by decide +kernel
theorem dX11_repairs_1 : decode cX11_repairs 1 = .ok (.istore_n 2, 1) := by decide +kernel
theorem dX11_repairs_2 : decode cX11_repairs 2 = .ok (.iconst 0, 1) := by decide +kernel
theorem dX11_repairs_3 : decode cX11_repairs 3 = .ok (.istore_n 3, 1) := by decide +kernel
theorem dX11_repairs_4 : decode cX11_repairs 4 = .ok (.bipush 6, 2) := by decide +kernel
theorem dX11_repairs_6 : decode cX11_repairs 6 = .ok (.iload_n 1, 1) := by decide +kernel
theorem dX11_repairs_7 : decode cX11_repairs 7 = .ok (.imul, 1) := by decide +kernel
theorem dX11_repairs_8 : decode cX11_repairs 8 = .ok (.istore 4, 2) := by decide +kernel
theorem dX11_repairs_10 : decode cX11_repairs 10 = .ok (.iload 4, 2) := by decide +kernel
theorem dX11_repairs_12 : decode cX11_repairs 12 = .ok (.bipush 6, 2) := by decide +kernel
theorem dX11_repairs_14 : decode cX11_repairs 14 = .ok (.iload_n 1, 1) := by decide +kernel
theorem dX11_repairs_15 : decode cX11_repairs 15 = .ok (.imul, 1) := by decide +kernel
theorem dX11_repairs_16 : decode cX11_repairs 16 = .ok (.bipush 6, 2) := by decide +kernel
theorem dX11_repairs_18 : decode cX11_repairs 18 = .ok (.iadd, 1) := by decide +kernel
theorem dX11_repairs_19 : decode cX11_repairs 19 = .ok (.if_icmp .ge 45, 3) := by decide +kernel
theorem dX11_repairs_22 : decode cX11_repairs 22 = .ok (.iload_n 2, 1) := by decide +kernel
theorem dX11_repairs_23 : decode cX11_repairs 23 = .ok (.aload_n 0, 1) := by decide +kernel
theorem dX11_repairs_24 : decode cX11_repairs 24 = .ok (.getfield 47, 3) := by decide +kernel
theorem dX11_repairs_27 : decode cX11_repairs 27 = .ok (.iload 4, 2) := by decide +kernel
theorem dX11_repairs_29 : decode cX11_repairs 29 = .ok (.iaload, 1) := by decide +kernel
theorem dX11_repairs_30 : decode cX11_repairs 30 = .ok (.iconst (-1), 1) := by decide +kernel
theorem dX11_repairs_31 : decode cX11_repairs 31 = .ok (.if_icmp .ne 7, 3) := by decide +kernel
theorem dX11_repairs_34 : decode cX11_repairs 34 = .ok (.iconst 0, 1) := by decide +kernel
theorem dX11_repairs_35 : decode cX11_repairs 35 = .ok (.goto 4, 3) := by decide +kernel
theorem dX11_repairs_38 : decode cX11_repairs 38 = .ok (.iconst 1, 1) := by decide +kernel
theorem dX11_repairs_39 : decode cX11_repairs 39 = .ok (.iadd, 1) := by decide +kernel
theorem dX11_repairs_40 : decode cX11_repairs 40 = .ok (.istore_n 2, 1) := by decide +kernel
theorem dX11_repairs_41 : decode cX11_repairs 41 = .ok (.iload_n 3, 1) := by decide +kernel
theorem dX11_repairs_42 : decode cX11_repairs 42 = .ok (.aload_n 0, 1) := by decide +kernel
theorem dX11_repairs_43 : decode cX11_repairs 43 = .ok (.iload 4, 2) := by decide +kernel
theorem dX11_repairs_45 : decode cX11_repairs 45 = .ok (.invokevirtual 161, 3) := by decide +kernel
theorem dX11_repairs_48 : decode cX11_repairs 48 = .ok (.ifCond .eq 7, 3) := by decide +kernel
theorem dX11_repairs_51 : decode cX11_repairs 51 = .ok (.iconst 1, 1) := by decide +kernel
theorem dX11_repairs_52 : decode cX11_repairs 52 = .ok (.goto 4, 3) := by decide +kernel
theorem dX11_repairs_55 : decode cX11_repairs 55 = .ok (.iconst 0, 1) := by decide +kernel
theorem dX11_repairs_56 : decode cX11_repairs 56 = .ok (.iadd, 1) := by decide +kernel
theorem dX11_repairs_57 : decode cX11_repairs 57 = .ok (.istore_n 3, 1) := by decide +kernel
theorem dX11_repairs_58 : decode cX11_repairs 58 = .ok (.iinc 4 1, 3) := by decide +kernel
theorem dX11_repairs_61 : decode cX11_repairs 61 = .ok (.goto (-51), 3) := by decide +kernel
theorem dX11_repairs_64 : decode cX11_repairs 64 = .ok (.iconst 0, 1) := by decide +kernel
theorem dX11_repairs_65 : decode cX11_repairs 65 = .ok (.istore 4, 2) := by decide +kernel
theorem dX11_repairs_67 : decode cX11_repairs 67 = .ok (.iload 4, 2) := by decide +kernel
theorem dX11_repairs_69 : decode cX11_repairs 69 = .ok (.bipush 6, 2) := by decide +kernel
theorem dX11_repairs_71 : decode cX11_repairs 71 = .ok (.if_icmp .ge 56, 3) := by decide +kernel
theorem dX11_repairs_74 : decode cX11_repairs 74 = .ok (.aload_n 0, 1) := by decide +kernel
theorem dX11_repairs_75 : decode cX11_repairs 75 = .ok (.getfield 16, 3) := by decide +kernel
theorem dX11_repairs_78 : decode cX11_repairs 78 = .ok (.aload_n 0, 1) := by decide +kernel
theorem dX11_repairs_79 : decode cX11_repairs 79 = .ok (.getfield 41, 3) := by decide +kernel
theorem dX11_repairs_82 : decode cX11_repairs 82 = .ok (.iload_n 1, 1) := by decide +kernel
theorem dX11_repairs_83 : decode cX11_repairs 83 = .ok (.iaload, 1) := by decide +kernel
theorem dX11_repairs_84 : decode cX11_repairs 84 = .ok (.baload, 1) := by decide +kernel
theorem dX11_repairs_85 : decode cX11_repairs 85 = .ok (.ifCond .eq 42, 3) := by decide +kernel
theorem dX11_repairs_88 : decode cX11_repairs 88 = .ok (.iload_n 2, 1) := by decide +kernel
theorem dX11_repairs_89 : decode cX11_repairs 89 = .ok (.iconst 4, 1) := by decide +kernel
theorem dX11_repairs_90 : decode cX11_repairs 90 = .ok (.if_icmp .gt 37, 3) := by decide +kernel
theorem dX11_repairs_93 : decode cX11_repairs 93 = .ok (.iload_n 3, 1) := by decide +kernel
theorem dX11_repairs_94 : decode cX11_repairs 94 = .ok (.iconst 4, 1) := by decide +kernel
theorem dX11_repairs_95 : decode cX11_repairs 95 = .ok (.if_icmp .lt 32, 3) := by decide +kernel
theorem dX11_repairs_98 : decode cX11_repairs 98 = .ok (.aload_n 0, 1) := by decide +kernel
theorem dX11_repairs_99 : decode cX11_repairs 99 = .ok (.getfield 47, 3) := by decide +kernel
theorem dX11_repairs_102 : decode cX11_repairs 102 = .ok (.bipush 6, 2) := by decide +kernel
theorem dX11_repairs_104 : decode cX11_repairs 104 = .ok (.iload_n 1, 1) := by decide +kernel
theorem dX11_repairs_105 : decode cX11_repairs 105 = .ok (.imul, 1) := by decide +kernel
theorem dX11_repairs_106 : decode cX11_repairs 106 = .ok (.iload 4, 2) := by decide +kernel
theorem dX11_repairs_108 : decode cX11_repairs 108 = .ok (.iadd, 1) := by decide +kernel
theorem dX11_repairs_109 : decode cX11_repairs 109 = .ok (.iaload, 1) := by decide +kernel
theorem dX11_repairs_110 : decode cX11_repairs 110 = .ok (.iconst (-1), 1) := by decide +kernel
theorem dX11_repairs_111 : decode cX11_repairs 111 = .ok (.if_icmp .ne 10, 3) := by decide +kernel
theorem dX11_repairs_114 : decode cX11_repairs 114 = .ok (.aload_n 0, 1) := by decide +kernel
theorem dX11_repairs_115 : decode cX11_repairs 115 = .ok (.iload_n 1, 1) := by decide +kernel
theorem dX11_repairs_116 : decode cX11_repairs 116 = .ok (.iload 4, 2) := by decide +kernel
theorem dX11_repairs_118 : decode cX11_repairs 118 = .ok (.invokevirtual 146, 3) := by decide +kernel
theorem dX11_repairs_121 : decode cX11_repairs 121 = .ok (.iinc 4 1, 3) := by decide +kernel
theorem dX11_repairs_124 : decode cX11_repairs 124 = .ok (.goto (-57), 3) := by decide +kernel
theorem dX11_repairs_127 : decode cX11_repairs 127 = .ok (.return_, 1) := by decide +kernel
set_option maxRecDepth 20000 in
theorem ggX11_pass_X11_holds : GoodIn wsX11_pass wsX11_holds := goodIn_r _ [7, 8, 75, 76, 77, 78, 79, 80, 81, 82, 83, 84, 85, 86, 87, 88, 89, 90, 91, 92, 93, 94, 95, 96, 97, 98, 99, 100, 101, 102] (by decide +kernel) (by decide +kernel)
set_option maxRecDepth 20000 in
theorem gX11_pass_X11_holds : GoodIn wsX11_pass (wsV RX11 124 RX11 yX11_holds wsX11_holds) := goodIn_app (goodIn_of _ (by decide +kernel)) ggX11_pass_X11_holds
set_option maxRecDepth 20000 in
theorem ggX11_pass_X11_challenges : GoodIn wsX11_pass wsX11_challenges := goodIn_r _ [12, 13, 14, 15, 16, 17, 18, 19, 20, 21, 6, 22, 75, 76, 77, 78, 79, 80, 81, 82, 83, 84, 85, 86, 87, 88, 89, 90, 91, 92, 93, 94, 95, 96, 97, 98, 99, 100, 101, 102] (by decide +kernel) (by decide +kernel)
set_option maxRecDepth 20000 in
theorem gX11_pass_X11_challenges : GoodIn wsX11_pass (wsV RX11 167 RX11 yX11_challenges wsX11_challenges) := goodIn_app (goodIn_of _ (by decide +kernel)) ggX11_pass_X11_challenges
set_option maxRecDepth 20000 in
theorem ggX11_pass_X11_repairs : GoodIn wsX11_pass wsX11_repairs := goodIn_r _ [26, 14, 15, 13, 19, 20, 21, 6, 22, 18, 27, 28, 29, 30, 31, 17, 32, 33, 34, 35, 36, 37, 38, 39, 40, 41, 42, 43, 44, 45, 46, 47, 48, 49, 50, 51, 52, 53, 54, 55, 56, 57, 58, 59, 60, 61, 62, 63, 64, 65, 66, 67, 68, 69, 70, 71, 72, 73, 74, 75, 76, 77, 78, 79, 80, 81, 82, 83, 84, 85, 86, 87, 88, 89, 90, 91, 92, 93, 94, 95, 96, 97, 98, 99, 100, 101, 102] (by decide +kernel) (by decide +kernel)
set_option maxRecDepth 20000 in
theorem gX11_pass_X11_repairs : GoodIn wsX11_pass (wsV RX11 170 RX11 yX11_repairs wsX11_repairs) := goodIn_app (goodIn_of _ (by decide +kernel)) ggX11_pass_X11_repairs
theorem dX11_pass_0 : decode cX11_pass 0 = .ok (.aload_n 0, 1) := by decide +kernel
theorem dX11_pass_1 : decode cX11_pass 1 = .ok (.aload_n 0, 1) := by decide +kernel
theorem dX11_pass_2 : decode cX11_pass 2 = .ok (.getfield 164, 3) := by decide +kernel
theorem dX11_pass_5 : decode cX11_pass 5 = .ok (.sipush 500, 3) := by decide +kernel
theorem dX11_pass_8 : decode cX11_pass 8 = .ok (.if_icmp .ne 7, 3) := by decide +kernel
theorem dX11_pass_11 : decode cX11_pass 11 = .ok (.iconst 1, 1) := by decide +kernel
theorem dX11_pass_12 : decode cX11_pass 12 = .ok (.goto 4, 3) := by decide +kernel
theorem dX11_pass_15 : decode cX11_pass 15 = .ok (.iconst 0, 1) := by decide +kernel
theorem dX11_pass_16 : decode cX11_pass 16 = .ok (.invokevirtual 124, 3) := by decide +kernel
theorem dX11_pass_19 : decode cX11_pass 19 = .ok (.ifCond .ne 5, 3) := by decide +kernel
theorem dX11_pass_22 : decode cX11_pass 22 = .ok (.iconst 0, 1) := by decide +kernel
theorem dX11_pass_23 : decode cX11_pass 23 = .ok (.ireturn, 1) := by decide +kernel
theorem dX11_pass_24 : decode cX11_pass 24 = .ok (.iconst 0, 1) := by decide +kernel
theorem dX11_pass_25 : decode cX11_pass 25 = .ok (.istore_n 1, 1) := by decide +kernel
theorem dX11_pass_26 : decode cX11_pass 26 = .ok (.iload_n 1, 1) := by decide +kernel
theorem dX11_pass_27 : decode cX11_pass 27 = .ok (.bipush 6, 2) := by decide +kernel
theorem dX11_pass_29 : decode cX11_pass 29 = .ok (.aload_n 0, 1) := by decide +kernel
theorem dX11_pass_30 : decode cX11_pass 30 = .ok (.getfield 85, 3) := by decide +kernel
theorem dX11_pass_33 : decode cX11_pass 33 = .ok (.imul, 1) := by decide +kernel
theorem dX11_pass_34 : decode cX11_pass 34 = .ok (.if_icmp .ge 14, 3) := by decide +kernel
theorem dX11_pass_37 : decode cX11_pass 37 = .ok (.aload_n 0, 1) := by decide +kernel
theorem dX11_pass_38 : decode cX11_pass 38 = .ok (.iload_n 1, 1) := by decide +kernel
theorem dX11_pass_39 : decode cX11_pass 39 = .ok (.invokevirtual 167, 3) := by decide +kernel
theorem dX11_pass_42 : decode cX11_pass 42 = .ok (.iinc 1 1, 3) := by decide +kernel
theorem dX11_pass_45 : decode cX11_pass 45 = .ok (.goto (-19), 3) := by decide +kernel
theorem dX11_pass_48 : decode cX11_pass 48 = .ok (.iconst 0, 1) := by decide +kernel
theorem dX11_pass_49 : decode cX11_pass 49 = .ok (.istore_n 1, 1) := by decide +kernel
theorem dX11_pass_50 : decode cX11_pass 50 = .ok (.iload_n 1, 1) := by decide +kernel
theorem dX11_pass_51 : decode cX11_pass 51 = .ok (.aload_n 0, 1) := by decide +kernel
theorem dX11_pass_52 : decode cX11_pass 52 = .ok (.getfield 85, 3) := by decide +kernel
theorem dX11_pass_55 : decode cX11_pass 55 = .ok (.if_icmp .ge 14, 3) := by decide +kernel
theorem dX11_pass_58 : decode cX11_pass 58 = .ok (.aload_n 0, 1) := by decide +kernel
theorem dX11_pass_59 : decode cX11_pass 59 = .ok (.iload_n 1, 1) := by decide +kernel
theorem dX11_pass_60 : decode cX11_pass 60 = .ok (.invokevirtual 170, 3) := by decide +kernel
theorem dX11_pass_63 : decode cX11_pass 63 = .ok (.iinc 1 1, 3) := by decide +kernel
theorem dX11_pass_66 : decode cX11_pass 66 = .ok (.goto (-16), 3) := by decide +kernel
theorem dX11_pass_69 : decode cX11_pass 69 = .ok (.aload_n 0, 1) := by decide +kernel
theorem dX11_pass_70 : decode cX11_pass 70 = .ok (.dup, 1) := by decide +kernel
theorem dX11_pass_71 : decode cX11_pass 71 = .ok (.getfield 164, 3) := by decide +kernel
theorem dX11_pass_74 : decode cX11_pass 74 = .ok (.iconst 1, 1) := by decide +kernel
theorem dX11_pass_75 : decode cX11_pass 75 = .ok (.iadd, 1) := by decide +kernel
theorem dX11_pass_76 : decode cX11_pass 76 = .ok (.putfield 164, 3) := by decide +kernel
theorem dX11_pass_79 : decode cX11_pass 79 = .ok (.aload_n 0, 1) := by decide +kernel
theorem dX11_pass_80 : decode cX11_pass 80 = .ok (.getfield 164, 3) := by decide +kernel
theorem dX11_pass_83 : decode cX11_pass 83 = .ok (.ireturn, 1) := by decide +kernel
set_option maxRecDepth 20000 in
theorem ggX11_tell_X11_isPeer : GoodIn wsX11_tell wsX11_isPeer := goodIn_r _ [12, 13, 14, 15, 11, 16, 57, 58, 59, 60, 61, 62, 63, 64, 65, 66, 67, 68, 69, 70, 71, 72, 73, 74, 75, 76, 77, 78, 79, 80, 81, 82, 83, 84] (by decide +kernel) (by decide +kernel)
set_option maxRecDepth 20000 in
theorem gX11_tell_X11_isPeer : GoodIn wsX11_tell (wsV RX11 117 RX11 yX11_isPeer wsX11_isPeer) := goodIn_app (goodIn_of _ (by decide +kernel)) ggX11_tell_X11_isPeer
set_option maxRecDepth 20000 in
theorem ggX11_tell_X11_isIn : GoodIn wsX11_tell wsX11_isIn := goodIn_r _ [16] (by decide +kernel) (by decide +kernel)
set_option maxRecDepth 20000 in
theorem gX11_tell_X11_isIn : GoodIn wsX11_tell (va_wsS RX11 81 yX11_isIn wsX11_isIn) := goodIn_app (goodIn_of _ (by decide +kernel)) ggX11_tell_X11_isIn
set_option maxRecDepth 20000 in
theorem ggX11_tell_X11_holds : GoodIn wsX11_tell wsX11_holds := goodIn_r _ [20, 21, 57, 58, 59, 60, 61, 62, 63, 64, 65, 66, 67, 68, 69, 70, 71, 72, 73, 74, 75, 76, 77, 78, 79, 80, 81, 82, 83, 84] (by decide +kernel) (by decide +kernel)
set_option maxRecDepth 20000 in
theorem gX11_tell_X11_holds : GoodIn wsX11_tell (wsV RX11 124 RX11 yX11_holds wsX11_holds) := goodIn_app (goodIn_of _ (by decide +kernel)) ggX11_tell_X11_holds
set_option maxRecDepth 20000 in
theorem ggX11_tell_X11_looksUp : GoodIn wsX11_tell wsX11_looksUp := goodIn_r _ [25, 26, 27, 28, 29, 13, 30, 31, 32, 33, 34, 11, 35, 36, 37, 38, 39, 40, 41, 42, 43, 44, 45, 1, 5, 46, 47, 48, 49, 50, 51, 52, 53, 54, 55, 56, 3, 4, 57, 58, 59, 60, 61, 62, 63, 64, 65, 66, 67, 68, 69, 70, 71, 72, 73, 74, 75, 76, 77, 78, 79, 80, 81, 82, 83, 84] (by decide +kernel) (by decide +kernel)
set_option maxRecDepth 20000 in
theorem gX11_tell_X11_looksUp : GoodIn wsX11_tell (wsV RX11 127 RX11 yX11_looksUp wsX11_looksUp) := goodIn_app (goodIn_of _ (by decide +kernel)) ggX11_tell_X11_looksUp
theorem dX11_tell_0 : decode cX11_tell 0 = .ok (.aload_n 0, 1) := by decide +kernel
theorem dX11_tell_1 : decode cX11_tell 1 = .ok (.iload_n 1, 1) := by decide +kernel
theorem dX11_tell_2 : decode cX11_tell 2 = .ok (.invokevirtual 117, 3) := by decide +kernel
theorem dX11_tell_5 : decode cX11_tell 5 = .ok (.istore 5, 2) := by decide +kernel
theorem dX11_tell_7 : decode cX11_tell 7 = .ok (.iload_n 2, 1) := by decide +kernel
theorem dX11_tell_8 : decode cX11_tell 8 = .ok (.iconst 0, 1) := by decide +kernel
theorem dX11_tell_9 : decode cX11_tell 9 = .ok (.sipush 255, 3) := by decide +kernel
theorem dX11_tell_12 : decode cX11_tell 12 = .ok (.invokestatic 81, 3) := by decide +kernel
theorem dX11_tell_15 : decode cX11_tell 15 = .ok (.ifCond .eq 30, 3) := by decide +kernel
theorem dX11_tell_18 : decode cX11_tell 18 = .ok (.iload_n 3, 1) := by decide +kernel
theorem dX11_tell_19 : decode cX11_tell 19 = .ok (.iconst 0, 1) := by decide +kernel
theorem dX11_tell_20 : decode cX11_tell 20 = .ok (.sipush 999, 3) := by decide +kernel
theorem dX11_tell_23 : decode cX11_tell 23 = .ok (.invokestatic 81, 3) := by decide +kernel
theorem dX11_tell_26 : decode cX11_tell 26 = .ok (.ifCond .eq 19, 3) := by decide +kernel
theorem dX11_tell_29 : decode cX11_tell 29 = .ok (.iload 4, 2) := by decide +kernel
theorem dX11_tell_31 : decode cX11_tell 31 = .ok (.iconst 0, 1) := by decide +kernel
theorem dX11_tell_32 : decode cX11_tell 32 = .ok (.sipush 999, 3) := by decide +kernel
theorem dX11_tell_35 : decode cX11_tell 35 = .ok (.invokestatic 81, 3) := by decide +kernel
theorem dX11_tell_38 : decode cX11_tell 38 = .ok (.ifCond .eq 7, 3) := by decide +kernel
theorem dX11_tell_41 : decode cX11_tell 41 = .ok (.iconst 1, 1) := by decide +kernel
theorem dX11_tell_42 : decode cX11_tell 42 = .ok (.goto 4, 3) := by decide +kernel
theorem dX11_tell_45 : decode cX11_tell 45 = .ok (.iconst 0, 1) := by decide +kernel
theorem dX11_tell_46 : decode cX11_tell 46 = .ok (.istore 6, 2) := by decide +kernel
theorem dX11_tell_48 : decode cX11_tell 48 = .ok (.iload 5, 2) := by decide +kernel
theorem dX11_tell_50 : decode cX11_tell 50 = .ok (.ifCond .eq 41, 3) := by decide +kernel
theorem dX11_tell_53 : decode cX11_tell 53 = .ok (.iload 6, 2) := by decide +kernel
theorem dX11_tell_55 : decode cX11_tell 55 = .ok (.ifCond .eq 36, 3) := by decide +kernel
theorem dX11_tell_58 : decode cX11_tell 58 = .ok (.aload_n 0, 1) := by decide +kernel
theorem dX11_tell_59 : decode cX11_tell 59 = .ok (.getfield 16, 3) := by decide +kernel
theorem dX11_tell_62 : decode cX11_tell 62 = .ok (.iload_n 1, 1) := by decide +kernel
theorem dX11_tell_63 : decode cX11_tell 63 = .ok (.baload, 1) := by decide +kernel
theorem dX11_tell_64 : decode cX11_tell 64 = .ok (.ifCond .eq 27, 3) := by decide +kernel
theorem dX11_tell_67 : decode cX11_tell 67 = .ok (.aload_n 0, 1) := by decide +kernel
theorem dX11_tell_68 : decode cX11_tell 68 = .ok (.getfield 59, 3) := by decide +kernel
theorem dX11_tell_71 : decode cX11_tell 71 = .ok (.iload_n 2, 1) := by decide +kernel
theorem dX11_tell_72 : decode cX11_tell 72 = .ok (.iaload, 1) := by decide +kernel
theorem dX11_tell_73 : decode cX11_tell 73 = .ok (.iconst (-1), 1) := by decide +kernel
theorem dX11_tell_74 : decode cX11_tell 74 = .ok (.if_icmp .eq 13, 3) := by decide +kernel
theorem dX11_tell_77 : decode cX11_tell 77 = .ok (.aload_n 0, 1) := by decide +kernel
theorem dX11_tell_78 : decode cX11_tell 78 = .ok (.getfield 59, 3) := by decide +kernel
theorem dX11_tell_81 : decode cX11_tell 81 = .ok (.iload_n 2, 1) := by decide +kernel
theorem dX11_tell_82 : decode cX11_tell 82 = .ok (.iaload, 1) := by decide +kernel
theorem dX11_tell_83 : decode cX11_tell 83 = .ok (.iload_n 1, 1) := by decide +kernel
theorem dX11_tell_84 : decode cX11_tell 84 = .ok (.if_icmp .ne 7, 3) := by decide +kernel
theorem dX11_tell_87 : decode cX11_tell 87 = .ok (.iconst 1, 1) := by decide +kernel
theorem dX11_tell_88 : decode cX11_tell 88 = .ok (.goto 4, 3) := by decide +kernel
theorem dX11_tell_91 : decode cX11_tell 91 = .ok (.iconst 0, 1) := by decide +kernel
theorem dX11_tell_92 : decode cX11_tell 92 = .ok (.istore 7, 2) := by decide +kernel
theorem dX11_tell_94 : decode cX11_tell 94 = .ok (.aload_n 0, 1) := by decide +kernel
theorem dX11_tell_95 : decode cX11_tell 95 = .ok (.iload 5, 2) := by decide +kernel
theorem dX11_tell_97 : decode cX11_tell 97 = .ok (.ifCond .ne 7, 3) := by decide +kernel
theorem dX11_tell_100 : decode cX11_tell 100 = .ok (.iconst 1, 1) := by decide +kernel
theorem dX11_tell_101 : decode cX11_tell 101 = .ok (.goto 22, 3) := by decide +kernel
theorem dX11_tell_104 : decode cX11_tell 104 = .ok (.iload 6, 2) := by decide +kernel
theorem dX11_tell_106 : decode cX11_tell 106 = .ok (.ifCond .ne 7, 3) := by decide +kernel
theorem dX11_tell_109 : decode cX11_tell 109 = .ok (.iconst 2, 1) := by decide +kernel
theorem dX11_tell_110 : decode cX11_tell 110 = .ok (.goto 13, 3) := by decide +kernel
theorem dX11_tell_113 : decode cX11_tell 113 = .ok (.iload 7, 2) := by decide +kernel
theorem dX11_tell_115 : decode cX11_tell 115 = .ok (.ifCond .eq 7, 3) := by decide +kernel
theorem dX11_tell_118 : decode cX11_tell 118 = .ok (.iconst 0, 1) := by decide +kernel
theorem dX11_tell_119 : decode cX11_tell 119 = .ok (.goto 4, 3) := by decide +kernel
theorem dX11_tell_122 : decode cX11_tell 122 = .ok (.iconst 3, 1) := by decide +kernel
theorem dX11_tell_123 : decode cX11_tell 123 = .ok (.invokevirtual 124, 3) := by decide +kernel
theorem dX11_tell_126 : decode cX11_tell 126 = .ok (.ifCond .ne 5, 3) := by decide +kernel
theorem dX11_tell_129 : decode cX11_tell 129 = .ok (.iconst 0, 1) := by decide +kernel
theorem dX11_tell_130 : decode cX11_tell 130 = .ok (.ireturn, 1) := by decide +kernel
theorem dX11_tell_131 : decode cX11_tell 131 = .ok (.aload_n 0, 1) := by decide +kernel
theorem dX11_tell_132 : decode cX11_tell 132 = .ok (.getfield 59, 3) := by decide +kernel
theorem dX11_tell_135 : decode cX11_tell 135 = .ok (.iload_n 2, 1) := by decide +kernel
theorem dX11_tell_136 : decode cX11_tell 136 = .ok (.iload_n 1, 1) := by decide +kernel
theorem dX11_tell_137 : decode cX11_tell 137 = .ok (.iastore, 1) := by decide +kernel
theorem dX11_tell_138 : decode cX11_tell 138 = .ok (.aload_n 0, 1) := by decide +kernel
theorem dX11_tell_139 : decode cX11_tell 139 = .ok (.iload_n 1, 1) := by decide +kernel
theorem dX11_tell_140 : decode cX11_tell 140 = .ok (.iload_n 2, 1) := by decide +kernel
theorem dX11_tell_141 : decode cX11_tell 141 = .ok (.iconst 2, 1) := by decide +kernel
theorem dX11_tell_142 : decode cX11_tell 142 = .ok (.invokevirtual 127, 3) := by decide +kernel
theorem dX11_tell_145 : decode cX11_tell 145 = .ok (.iconst 0, 1) := by decide +kernel
theorem dX11_tell_146 : decode cX11_tell 146 = .ok (.istore 8, 2) := by decide +kernel
theorem dX11_tell_148 : decode cX11_tell 148 = .ok (.iconst 0, 1) := by decide +kernel
theorem dX11_tell_149 : decode cX11_tell 149 = .ok (.istore 9, 2) := by decide +kernel
theorem dX11_tell_151 : decode cX11_tell 151 = .ok (.iload 9, 2) := by decide +kernel
theorem dX11_tell_153 : decode cX11_tell 153 = .ok (.aload_n 0, 1) := by decide +kernel
theorem dX11_tell_154 : decode cX11_tell 154 = .ok (.getfield 114, 3) := by decide +kernel
theorem dX11_tell_157 : decode cX11_tell 157 = .ok (.if_icmp .ge 70, 3) := by decide +kernel
theorem dX11_tell_160 : decode cX11_tell 160 = .ok (.sipush 256, 3) := by decide +kernel
theorem dX11_tell_163 : decode cX11_tell 163 = .ok (.aload_n 0, 1) := by decide +kernel
theorem dX11_tell_164 : decode cX11_tell 164 = .ok (.getfield 38, 3) := by decide +kernel
theorem dX11_tell_167 : decode cX11_tell 167 = .ok (.iload 9, 2) := by decide +kernel
theorem dX11_tell_169 : decode cX11_tell 169 = .ok (.iaload, 1) := by decide +kernel
theorem dX11_tell_170 : decode cX11_tell 170 = .ok (.imul, 1) := by decide +kernel
theorem dX11_tell_171 : decode cX11_tell 171 = .ok (.iload_n 2, 1) := by decide +kernel
theorem dX11_tell_172 : decode cX11_tell 172 = .ok (.iadd, 1) := by decide +kernel
theorem dX11_tell_173 : decode cX11_tell 173 = .ok (.istore 10, 2) := by decide +kernel
theorem dX11_tell_175 : decode cX11_tell 175 = .ok (.aload_n 0, 1) := by decide +kernel
theorem dX11_tell_176 : decode cX11_tell 176 = .ok (.getfield 13, 3) := by decide +kernel
theorem dX11_tell_179 : decode cX11_tell 179 = .ok (.aload_n 0, 1) := by decide +kernel
theorem dX11_tell_180 : decode cX11_tell 180 = .ok (.getfield 38, 3) := by decide +kernel
theorem dX11_tell_183 : decode cX11_tell 183 = .ok (.iload 9, 2) := by decide +kernel
theorem dX11_tell_185 : decode cX11_tell 185 = .ok (.iaload, 1) := by decide +kernel
theorem dX11_tell_186 : decode cX11_tell 186 = .ok (.iaload, 1) := by decide +kernel
theorem dX11_tell_187 : decode cX11_tell 187 = .ok (.ifCond .ne 34, 3) := by decide +kernel
theorem dX11_tell_190 : decode cX11_tell 190 = .ok (.aload_n 0, 1) := by decide +kernel
theorem dX11_tell_191 : decode cX11_tell 191 = .ok (.getfield 62, 3) := by decide +kernel
theorem dX11_tell_194 : decode cX11_tell 194 = .ok (.iload 10, 2) := by decide +kernel
theorem dX11_tell_196 : decode cX11_tell 196 = .ok (.iaload, 1) := by decide +kernel
theorem dX11_tell_197 : decode cX11_tell 197 = .ok (.iload_n 3, 1) := by decide +kernel
theorem dX11_tell_198 : decode cX11_tell 198 = .ok (.if_icmp .ge 23, 3) := by decide +kernel
theorem dX11_tell_201 : decode cX11_tell 201 = .ok (.aload_n 0, 1) := by decide +kernel
theorem dX11_tell_202 : decode cX11_tell 202 = .ok (.getfield 62, 3) := by decide +kernel
theorem dX11_tell_205 : decode cX11_tell 205 = .ok (.iload 10, 2) := by decide +kernel
theorem dX11_tell_207 : decode cX11_tell 207 = .ok (.iload_n 3, 1) := by decide +kernel
theorem dX11_tell_208 : decode cX11_tell 208 = .ok (.iastore, 1) := by decide +kernel
theorem dX11_tell_209 : decode cX11_tell 209 = .ok (.aload_n 0, 1) := by decide +kernel
theorem dX11_tell_210 : decode cX11_tell 210 = .ok (.getfield 65, 3) := by decide +kernel
theorem dX11_tell_213 : decode cX11_tell 213 = .ok (.iload 10, 2) := by decide +kernel
theorem dX11_tell_215 : decode cX11_tell 215 = .ok (.iload 4, 2) := by decide +kernel
theorem dX11_tell_217 : decode cX11_tell 217 = .ok (.iastore, 1) := by decide +kernel
theorem dX11_tell_218 : decode cX11_tell 218 = .ok (.iinc 8 1, 3) := by decide +kernel
theorem dX11_tell_221 : decode cX11_tell 221 = .ok (.iinc 9 1, 3) := by decide +kernel
theorem dX11_tell_224 : decode cX11_tell 224 = .ok (.goto (-73), 3) := by decide +kernel
theorem dX11_tell_227 : decode cX11_tell 227 = .ok (.iload 8, 2) := by decide +kernel
theorem dX11_tell_229 : decode cX11_tell 229 = .ok (.ireturn, 1) := by decide +kernel
set_option maxRecDepth 20000 in
theorem ggX11_name_X11_isPeer : GoodIn wsX11_name wsX11_isPeer := goodIn_r _ [11, 12, 13, 14, 10, 15, 56, 57, 58, 59, 60, 61, 62, 63, 64, 65, 66, 67, 68, 69, 70, 71, 72, 73, 74, 75, 76, 77, 78, 79, 80, 81, 82, 83] (by decide +kernel) (by decide +kernel)
set_option maxRecDepth 20000 in
theorem gX11_name_X11_isPeer : GoodIn wsX11_name (wsV RX11 117 RX11 yX11_isPeer wsX11_isPeer) := goodIn_app (goodIn_of _ (by decide +kernel)) ggX11_name_X11_isPeer
set_option maxRecDepth 20000 in
theorem ggX11_name_X11_isIn : GoodIn wsX11_name wsX11_isIn := goodIn_r _ [15] (by decide +kernel) (by decide +kernel)
set_option maxRecDepth 20000 in
theorem gX11_name_X11_isIn : GoodIn wsX11_name (va_wsS RX11 81 yX11_isIn wsX11_isIn) := goodIn_app (goodIn_of _ (by decide +kernel)) ggX11_name_X11_isIn
set_option maxRecDepth 20000 in
theorem ggX11_name_X11_holds : GoodIn wsX11_name wsX11_holds := goodIn_r _ [19, 20, 56, 57, 58, 59, 60, 61, 62, 63, 64, 65, 66, 67, 68, 69, 70, 71, 72, 73, 74, 75, 76, 77, 78, 79, 80, 81, 82, 83] (by decide +kernel) (by decide +kernel)
set_option maxRecDepth 20000 in
theorem gX11_name_X11_holds : GoodIn wsX11_name (wsV RX11 124 RX11 yX11_holds wsX11_holds) := goodIn_app (goodIn_of _ (by decide +kernel)) ggX11_name_X11_holds
set_option maxRecDepth 20000 in
theorem ggX11_name_X11_looksUp : GoodIn wsX11_name wsX11_looksUp := goodIn_r _ [24, 25, 26, 27, 28, 12, 29, 30, 31, 32, 33, 10, 34, 35, 36, 37, 38, 39, 40, 41, 42, 43, 44, 1, 4, 45, 46, 47, 48, 49, 50, 51, 52, 53, 54, 55, 2, 3, 56, 57, 58, 59, 60, 61, 62, 63, 64, 65, 66, 67, 68, 69, 70, 71, 72, 73, 74, 75, 76, 77, 78, 79, 80, 81, 82, 83] (by decide +kernel) (by decide +kernel)
set_option maxRecDepth 20000 in
theorem gX11_name_X11_looksUp : GoodIn wsX11_name (wsV RX11 127 RX11 yX11_looksUp wsX11_looksUp) := goodIn_app (goodIn_of _ (by decide +kernel)) ggX11_name_X11_looksUp
theorem dX11_name_0 : decode cX11_name 0 = .ok (.aload_n 0, 1) := by decide +kernel
theorem dX11_name_1 : decode cX11_name 1 = .ok (.iload_n 1, 1) := by decide +kernel
theorem dX11_name_2 : decode cX11_name 2 = .ok (.invokevirtual 117, 3) := by decide +kernel
theorem dX11_name_5 : decode cX11_name 5 = .ok (.istore_n 3, 1) := by decide +kernel
theorem dX11_name_6 : decode cX11_name 6 = .ok (.iload_n 2, 1) := by decide +kernel
theorem dX11_name_7 : decode cX11_name 7 = .ok (.iconst 0, 1) := by decide +kernel
theorem dX11_name_8 : decode cX11_name 8 = .ok (.sipush 255, 3) := by decide +kernel
theorem dX11_name_11 : decode cX11_name 11 = .ok (.invokestatic 81, 3) := by decide +kernel
theorem dX11_name_14 : decode cX11_name 14 = .ok (.istore 4, 2) := by decide +kernel
theorem dX11_name_16 : decode cX11_name 16 = .ok (.aload_n 0, 1) := by decide +kernel
theorem dX11_name_17 : decode cX11_name 17 = .ok (.iload_n 3, 1) := by decide +kernel
theorem dX11_name_18 : decode cX11_name 18 = .ok (.ifCond .ne 7, 3) := by decide +kernel
theorem dX11_name_21 : decode cX11_name 21 = .ok (.iconst 1, 1) := by decide +kernel
theorem dX11_name_22 : decode cX11_name 22 = .ok (.goto 26, 3) := by decide +kernel
theorem dX11_name_25 : decode cX11_name 25 = .ok (.iload 4, 2) := by decide +kernel
theorem dX11_name_27 : decode cX11_name 27 = .ok (.ifCond .ne 7, 3) := by decide +kernel
theorem dX11_name_30 : decode cX11_name 30 = .ok (.iconst 2, 1) := by decide +kernel
theorem dX11_name_31 : decode cX11_name 31 = .ok (.goto 17, 3) := by decide +kernel
theorem dX11_name_34 : decode cX11_name 34 = .ok (.aload_n 0, 1) := by decide +kernel
theorem dX11_name_35 : decode cX11_name 35 = .ok (.getfield 16, 3) := by decide +kernel
theorem dX11_name_38 : decode cX11_name 38 = .ok (.iload_n 1, 1) := by decide +kernel
theorem dX11_name_39 : decode cX11_name 39 = .ok (.baload, 1) := by decide +kernel
theorem dX11_name_40 : decode cX11_name 40 = .ok (.ifCond .eq 7, 3) := by decide +kernel
theorem dX11_name_43 : decode cX11_name 43 = .ok (.iconst 0, 1) := by decide +kernel
theorem dX11_name_44 : decode cX11_name 44 = .ok (.goto 4, 3) := by decide +kernel
theorem dX11_name_47 : decode cX11_name 47 = .ok (.iconst 3, 1) := by decide +kernel
theorem dX11_name_48 : decode cX11_name 48 = .ok (.invokevirtual 124, 3) := by decide +kernel
theorem dX11_name_51 : decode cX11_name 51 = .ok (.ifCond .ne 5, 3) := by decide +kernel
theorem dX11_name_54 : decode cX11_name 54 = .ok (.iconst 0, 1) := by decide +kernel
theorem dX11_name_55 : decode cX11_name 55 = .ok (.ireturn, 1) := by decide +kernel
theorem dX11_name_56 : decode cX11_name 56 = .ok (.aload_n 0, 1) := by decide +kernel
theorem dX11_name_57 : decode cX11_name 57 = .ok (.iload_n 1, 1) := by decide +kernel
theorem dX11_name_58 : decode cX11_name 58 = .ok (.iload_n 2, 1) := by decide +kernel
theorem dX11_name_59 : decode cX11_name 59 = .ok (.iconst 2, 1) := by decide +kernel
theorem dX11_name_60 : decode cX11_name 60 = .ok (.invokevirtual 127, 3) := by decide +kernel
theorem dX11_name_63 : decode cX11_name 63 = .ok (.iconst (-1), 1) := by decide +kernel
theorem dX11_name_64 : decode cX11_name 64 = .ok (.istore 5, 2) := by decide +kernel
theorem dX11_name_66 : decode cX11_name 66 = .ok (.iconst 0, 1) := by decide +kernel
theorem dX11_name_67 : decode cX11_name 67 = .ok (.istore 6, 2) := by decide +kernel
theorem dX11_name_69 : decode cX11_name 69 = .ok (.iload 6, 2) := by decide +kernel
theorem dX11_name_71 : decode cX11_name 71 = .ok (.aload_n 0, 1) := by decide +kernel
theorem dX11_name_72 : decode cX11_name 72 = .ok (.getfield 114, 3) := by decide +kernel
theorem dX11_name_75 : decode cX11_name 75 = .ok (.if_icmp .ge 94, 3) := by decide +kernel
theorem dX11_name_78 : decode cX11_name 78 = .ok (.sipush 256, 3) := by decide +kernel
theorem dX11_name_81 : decode cX11_name 81 = .ok (.aload_n 0, 1) := by decide +kernel
theorem dX11_name_82 : decode cX11_name 82 = .ok (.getfield 38, 3) := by decide +kernel
theorem dX11_name_85 : decode cX11_name 85 = .ok (.iload 6, 2) := by decide +kernel
theorem dX11_name_87 : decode cX11_name 87 = .ok (.iaload, 1) := by decide +kernel
theorem dX11_name_88 : decode cX11_name 88 = .ok (.imul, 1) := by decide +kernel
theorem dX11_name_89 : decode cX11_name 89 = .ok (.iload_n 2, 1) := by decide +kernel
theorem dX11_name_90 : decode cX11_name 90 = .ok (.iadd, 1) := by decide +kernel
theorem dX11_name_91 : decode cX11_name 91 = .ok (.istore 7, 2) := by decide +kernel
theorem dX11_name_93 : decode cX11_name 93 = .ok (.aload_n 0, 1) := by decide +kernel
theorem dX11_name_94 : decode cX11_name 94 = .ok (.getfield 13, 3) := by decide +kernel
theorem dX11_name_97 : decode cX11_name 97 = .ok (.aload_n 0, 1) := by decide +kernel
theorem dX11_name_98 : decode cX11_name 98 = .ok (.getfield 38, 3) := by decide +kernel
theorem dX11_name_101 : decode cX11_name 101 = .ok (.iload 6, 2) := by decide +kernel
theorem dX11_name_103 : decode cX11_name 103 = .ok (.iaload, 1) := by decide +kernel
theorem dX11_name_104 : decode cX11_name 104 = .ok (.iaload, 1) := by decide +kernel
theorem dX11_name_105 : decode cX11_name 105 = .ok (.ifCond .ne 18, 3) := by decide +kernel
theorem dX11_name_108 : decode cX11_name 108 = .ok (.aload_n 0, 1) := by decide +kernel
theorem dX11_name_109 : decode cX11_name 109 = .ok (.getfield 62, 3) := by decide +kernel
theorem dX11_name_112 : decode cX11_name 112 = .ok (.iload 7, 2) := by decide +kernel
theorem dX11_name_114 : decode cX11_name 114 = .ok (.iaload, 1) := by decide +kernel
theorem dX11_name_115 : decode cX11_name 115 = .ok (.iconst (-1), 1) := by decide +kernel
theorem dX11_name_116 : decode cX11_name 116 = .ok (.if_icmp .eq 7, 3) := by decide +kernel
theorem dX11_name_119 : decode cX11_name 119 = .ok (.iconst 1, 1) := by decide +kernel
theorem dX11_name_120 : decode cX11_name 120 = .ok (.goto 4, 3) := by decide +kernel
theorem dX11_name_123 : decode cX11_name 123 = .ok (.iconst 0, 1) := by decide +kernel
theorem dX11_name_124 : decode cX11_name 124 = .ok (.istore 8, 2) := by decide +kernel
theorem dX11_name_126 : decode cX11_name 126 = .ok (.iload 8, 2) := by decide +kernel
theorem dX11_name_128 : decode cX11_name 128 = .ok (.ifCond .eq 31, 3) := by decide +kernel
theorem dX11_name_131 : decode cX11_name 131 = .ok (.iload 5, 2) := by decide +kernel
theorem dX11_name_133 : decode cX11_name 133 = .ok (.iconst (-1), 1) := by decide +kernel
theorem dX11_name_134 : decode cX11_name 134 = .ok (.if_icmp .eq 20, 3) := by decide +kernel
theorem dX11_name_137 : decode cX11_name 137 = .ok (.aload_n 0, 1) := by decide +kernel
theorem dX11_name_138 : decode cX11_name 138 = .ok (.getfield 62, 3) := by decide +kernel
theorem dX11_name_141 : decode cX11_name 141 = .ok (.iload 7, 2) := by decide +kernel
theorem dX11_name_143 : decode cX11_name 143 = .ok (.iaload, 1) := by decide +kernel
theorem dX11_name_144 : decode cX11_name 144 = .ok (.aload_n 0, 1) := by decide +kernel
theorem dX11_name_145 : decode cX11_name 145 = .ok (.getfield 62, 3) := by decide +kernel
theorem dX11_name_148 : decode cX11_name 148 = .ok (.iload 5, 2) := by decide +kernel
theorem dX11_name_150 : decode cX11_name 150 = .ok (.iaload, 1) := by decide +kernel
theorem dX11_name_151 : decode cX11_name 151 = .ok (.if_icmp .le 8, 3) := by decide +kernel
theorem dX11_name_154 : decode cX11_name 154 = .ok (.iload 7, 2) := by decide +kernel
theorem dX11_name_156 : decode cX11_name 156 = .ok (.goto 5, 3) := by decide +kernel
theorem dX11_name_159 : decode cX11_name 159 = .ok (.iload 5, 2) := by decide +kernel
theorem dX11_name_161 : decode cX11_name 161 = .ok (.istore 5, 2) := by decide +kernel
theorem dX11_name_163 : decode cX11_name 163 = .ok (.iinc 6 1, 3) := by decide +kernel
theorem dX11_name_166 : decode cX11_name 166 = .ok (.goto (-97), 3) := by decide +kernel
theorem dX11_name_169 : decode cX11_name 169 = .ok (.iload 5, 2) := by decide +kernel
theorem dX11_name_171 : decode cX11_name 171 = .ok (.iconst (-1), 1) := by decide +kernel
theorem dX11_name_172 : decode cX11_name 172 = .ok (.if_icmp .ne 7, 3) := by decide +kernel
theorem dX11_name_175 : decode cX11_name 175 = .ok (.iconst (-1), 1) := by decide +kernel
theorem dX11_name_176 : decode cX11_name 176 = .ok (.goto 22, 3) := by decide +kernel
theorem dX11_name_179 : decode cX11_name 179 = .ok (.sipush 1000, 3) := by decide +kernel
theorem dX11_name_182 : decode cX11_name 182 = .ok (.aload_n 0, 1) := by decide +kernel
theorem dX11_name_183 : decode cX11_name 183 = .ok (.getfield 62, 3) := by decide +kernel
theorem dX11_name_186 : decode cX11_name 186 = .ok (.iload 5, 2) := by decide +kernel
theorem dX11_name_188 : decode cX11_name 188 = .ok (.iaload, 1) := by decide +kernel
theorem dX11_name_189 : decode cX11_name 189 = .ok (.imul, 1) := by decide +kernel
theorem dX11_name_190 : decode cX11_name 190 = .ok (.aload_n 0, 1) := by decide +kernel
theorem dX11_name_191 : decode cX11_name 191 = .ok (.getfield 65, 3) := by decide +kernel
theorem dX11_name_194 : decode cX11_name 194 = .ok (.iload 5, 2) := by decide +kernel
theorem dX11_name_196 : decode cX11_name 196 = .ok (.iaload, 1) := by decide +kernel
theorem dX11_name_197 : decode cX11_name 197 = .ok (.iadd, 1) := by decide +kernel
theorem dX11_name_198 : decode cX11_name 198 = .ok (.ireturn, 1) := by decide +kernel
set_option maxRecDepth 20000 in
theorem ggX11_spread_X11_isPeer : GoodIn wsX11_spread wsX11_isPeer := goodIn_r _ [10, 4, 11, 12, 9, 13, 25, 26, 27, 28, 29, 30, 31, 32, 33, 34, 35, 36, 37, 38, 39, 40, 41, 42, 43, 44, 45, 46, 47, 48, 49, 50, 51, 52] (by decide +kernel) (by decide +kernel)
set_option maxRecDepth 20000 in
theorem gX11_spread_X11_isPeer : GoodIn wsX11_spread (wsV RX11 117 RX11 yX11_isPeer wsX11_isPeer) := goodIn_app (goodIn_of _ (by decide +kernel)) ggX11_spread_X11_isPeer
set_option maxRecDepth 20000 in
theorem ggX11_spread_X11_holds : GoodIn wsX11_spread wsX11_holds := goodIn_r _ [17, 18, 25, 26, 27, 28, 29, 30, 31, 32, 33, 34, 35, 36, 37, 38, 39, 40, 41, 42, 43, 44, 45, 46, 47, 48, 49, 50, 51, 52] (by decide +kernel) (by decide +kernel)
set_option maxRecDepth 20000 in
theorem gX11_spread_X11_holds : GoodIn wsX11_spread (wsV RX11 124 RX11 yX11_holds wsX11_holds) := goodIn_app (goodIn_of _ (by decide +kernel)) ggX11_spread_X11_holds
set_option maxRecDepth 20000 in
theorem ggX11_spread_X11_keepsPeer : GoodIn wsX11_spread wsX11_keepsPeer := goodIn_r _ [22, 23, 24, 25, 26, 27, 28, 29, 30, 31, 32, 33, 34, 35, 36, 37, 38, 39, 40, 41, 42, 43, 44, 45, 46, 47, 48, 49, 50, 51, 52] (by decide +kernel) (by decide +kernel)
set_option maxRecDepth 20000 in
theorem gX11_spread_X11_keepsPeer : GoodIn wsX11_spread (wsV RX11 99 RX11 yX11_keepsPeer wsX11_keepsPeer) := goodIn_app (goodIn_of _ (by decide +kernel)) ggX11_spread_X11_keepsPeer
theorem dX11_spread_0 : decode cX11_spread 0 = .ok (.aload_n 0, 1) := by decide +kernel
theorem dX11_spread_1 : decode cX11_spread 1 = .ok (.iload_n 1, 1) := by decide +kernel
theorem dX11_spread_2 : decode cX11_spread 2 = .ok (.invokevirtual 117, 3) := by decide +kernel
theorem dX11_spread_5 : decode cX11_spread 5 = .ok (.istore_n 2, 1) := by decide +kernel
theorem dX11_spread_6 : decode cX11_spread 6 = .ok (.aload_n 0, 1) := by decide +kernel
theorem dX11_spread_7 : decode cX11_spread 7 = .ok (.iload_n 2, 1) := by decide +kernel
theorem dX11_spread_8 : decode cX11_spread 8 = .ok (.ifCond .ne 7, 3) := by decide +kernel
theorem dX11_spread_11 : decode cX11_spread 11 = .ok (.iconst 1, 1) := by decide +kernel
theorem dX11_spread_12 : decode cX11_spread 12 = .ok (.goto 17, 3) := by decide +kernel
theorem dX11_spread_15 : decode cX11_spread 15 = .ok (.aload_n 0, 1) := by decide +kernel
theorem dX11_spread_16 : decode cX11_spread 16 = .ok (.getfield 16, 3) := by decide +kernel
theorem dX11_spread_19 : decode cX11_spread 19 = .ok (.iload_n 1, 1) := by decide +kernel
theorem dX11_spread_20 : decode cX11_spread 20 = .ok (.baload, 1) := by decide +kernel
theorem dX11_spread_21 : decode cX11_spread 21 = .ok (.ifCond .eq 7, 3) := by decide +kernel
theorem dX11_spread_24 : decode cX11_spread 24 = .ok (.iconst 0, 1) := by decide +kernel
theorem dX11_spread_25 : decode cX11_spread 25 = .ok (.goto 4, 3) := by decide +kernel
theorem dX11_spread_28 : decode cX11_spread 28 = .ok (.iconst 2, 1) := by decide +kernel
theorem dX11_spread_29 : decode cX11_spread 29 = .ok (.invokevirtual 124, 3) := by decide +kernel
theorem dX11_spread_32 : decode cX11_spread 32 = .ok (.ifCond .ne 5, 3) := by decide +kernel
theorem dX11_spread_35 : decode cX11_spread 35 = .ok (.iconst 0, 1) := by decide +kernel
theorem dX11_spread_36 : decode cX11_spread 36 = .ok (.ireturn, 1) := by decide +kernel
theorem dX11_spread_37 : decode cX11_spread 37 = .ok (.iconst 0, 1) := by decide +kernel
theorem dX11_spread_38 : decode cX11_spread 38 = .ok (.istore_n 3, 1) := by decide +kernel
theorem dX11_spread_39 : decode cX11_spread 39 = .ok (.iload_n 3, 1) := by decide +kernel
theorem dX11_spread_40 : decode cX11_spread 40 = .ok (.bipush 16, 2) := by decide +kernel
theorem dX11_spread_42 : decode cX11_spread 42 = .ok (.if_icmp .ge 16, 3) := by decide +kernel
theorem dX11_spread_45 : decode cX11_spread 45 = .ok (.aload_n 0, 1) := by decide +kernel
theorem dX11_spread_46 : decode cX11_spread 46 = .ok (.getfield 68, 3) := by decide +kernel
theorem dX11_spread_49 : decode cX11_spread 49 = .ok (.iload_n 3, 1) := by decide +kernel
theorem dX11_spread_50 : decode cX11_spread 50 = .ok (.iconst (-1), 1) := by decide +kernel
theorem dX11_spread_51 : decode cX11_spread 51 = .ok (.iastore, 1) := by decide +kernel
theorem dX11_spread_52 : decode cX11_spread 52 = .ok (.iinc 3 1, 3) := by decide +kernel
theorem dX11_spread_55 : decode cX11_spread 55 = .ok (.goto (-16), 3) := by decide +kernel
theorem dX11_spread_58 : decode cX11_spread 58 = .ok (.aload_n 0, 1) := by decide +kernel
theorem dX11_spread_59 : decode cX11_spread 59 = .ok (.getfield 68, 3) := by decide +kernel
theorem dX11_spread_62 : decode cX11_spread 62 = .ok (.iload_n 1, 1) := by decide +kernel
theorem dX11_spread_63 : decode cX11_spread 63 = .ok (.iconst 0, 1) := by decide +kernel
theorem dX11_spread_64 : decode cX11_spread 64 = .ok (.iastore, 1) := by decide +kernel
theorem dX11_spread_65 : decode cX11_spread 65 = .ok (.aload_n 0, 1) := by decide +kernel
theorem dX11_spread_66 : decode cX11_spread 66 = .ok (.iconst 0, 1) := by decide +kernel
theorem dX11_spread_67 : decode cX11_spread 67 = .ok (.putfield 173, 3) := by decide +kernel
theorem dX11_spread_70 : decode cX11_spread 70 = .ok (.iconst 0, 1) := by decide +kernel
theorem dX11_spread_71 : decode cX11_spread 71 = .ok (.istore_n 3, 1) := by decide +kernel
theorem dX11_spread_72 : decode cX11_spread 72 = .ok (.iconst 1, 1) := by decide +kernel
theorem dX11_spread_73 : decode cX11_spread 73 = .ok (.istore 4, 2) := by decide +kernel
theorem dX11_spread_75 : decode cX11_spread 75 = .ok (.iconst 1, 1) := by decide +kernel
theorem dX11_spread_76 : decode cX11_spread 76 = .ok (.istore 5, 2) := by decide +kernel
theorem dX11_spread_78 : decode cX11_spread 78 = .ok (.iload 4, 2) := by decide +kernel
theorem dX11_spread_80 : decode cX11_spread 80 = .ok (.ifCond .eq 154, 3) := by decide +kernel
theorem dX11_spread_83 : decode cX11_spread 83 = .ok (.iconst 0, 1) := by decide +kernel
theorem dX11_spread_84 : decode cX11_spread 84 = .ok (.istore 4, 2) := by decide +kernel
theorem dX11_spread_86 : decode cX11_spread 86 = .ok (.iconst 0, 1) := by decide +kernel
theorem dX11_spread_87 : decode cX11_spread 87 = .ok (.istore 6, 2) := by decide +kernel
theorem dX11_spread_89 : decode cX11_spread 89 = .ok (.iload 6, 2) := by decide +kernel
theorem dX11_spread_91 : decode cX11_spread 91 = .ok (.aload_n 0, 1) := by decide +kernel
theorem dX11_spread_92 : decode cX11_spread 92 = .ok (.getfield 78, 3) := by decide +kernel
theorem dX11_spread_95 : decode cX11_spread 95 = .ok (.if_icmp .ge 133, 3) := by decide +kernel
theorem dX11_spread_98 : decode cX11_spread 98 = .ok (.aload_n 0, 1) := by decide +kernel
theorem dX11_spread_99 : decode cX11_spread 99 = .ok (.getfield 68, 3) := by decide +kernel
theorem dX11_spread_102 : decode cX11_spread 102 = .ok (.iload 6, 2) := by decide +kernel
theorem dX11_spread_104 : decode cX11_spread 104 = .ok (.iaload, 1) := by decide +kernel
theorem dX11_spread_105 : decode cX11_spread 105 = .ok (.iload 5, 2) := by decide +kernel
theorem dX11_spread_107 : decode cX11_spread 107 = .ok (.iconst 1, 1) := by decide +kernel
theorem dX11_spread_108 : decode cX11_spread 108 = .ok (.isub, 1) := by decide +kernel
theorem dX11_spread_109 : decode cX11_spread 109 = .ok (.if_icmp .ne 23, 3) := by decide +kernel
theorem dX11_spread_112 : decode cX11_spread 112 = .ok (.iload 5, 2) := by decide +kernel
theorem dX11_spread_114 : decode cX11_spread 114 = .ok (.iconst 1, 1) := by decide +kernel
theorem dX11_spread_115 : decode cX11_spread 115 = .ok (.if_icmp .eq 13, 3) := by decide +kernel
theorem dX11_spread_118 : decode cX11_spread 118 = .ok (.aload_n 0, 1) := by decide +kernel
theorem dX11_spread_119 : decode cX11_spread 119 = .ok (.getfield 13, 3) := by decide +kernel
theorem dX11_spread_122 : decode cX11_spread 122 = .ok (.iload 6, 2) := by decide +kernel
theorem dX11_spread_124 : decode cX11_spread 124 = .ok (.iaload, 1) := by decide +kernel
theorem dX11_spread_125 : decode cX11_spread 125 = .ok (.ifCond .ne 7, 3) := by decide +kernel
theorem dX11_spread_128 : decode cX11_spread 128 = .ok (.iconst 1, 1) := by decide +kernel
theorem dX11_spread_129 : decode cX11_spread 129 = .ok (.goto 4, 3) := by decide +kernel
theorem dX11_spread_132 : decode cX11_spread 132 = .ok (.iconst 0, 1) := by decide +kernel
theorem dX11_spread_133 : decode cX11_spread 133 = .ok (.istore 7, 2) := by decide +kernel
theorem dX11_spread_135 : decode cX11_spread 135 = .ok (.iconst 0, 1) := by decide +kernel
theorem dX11_spread_136 : decode cX11_spread 136 = .ok (.istore 8, 2) := by decide +kernel
theorem dX11_spread_138 : decode cX11_spread 138 = .ok (.iload 8, 2) := by decide +kernel
theorem dX11_spread_140 : decode cX11_spread 140 = .ok (.aload_n 0, 1) := by decide +kernel
theorem dX11_spread_141 : decode cX11_spread 141 = .ok (.getfield 78, 3) := by decide +kernel
theorem dX11_spread_144 : decode cX11_spread 144 = .ok (.if_icmp .ge 78, 3) := by decide +kernel
theorem dX11_spread_147 : decode cX11_spread 147 = .ok (.iload 7, 2) := by decide +kernel
theorem dX11_spread_149 : decode cX11_spread 149 = .ok (.ifCond .eq 73, 3) := by decide +kernel
theorem dX11_spread_152 : decode cX11_spread 152 = .ok (.aload_n 0, 1) := by decide +kernel
theorem dX11_spread_153 : decode cX11_spread 153 = .ok (.getfield 68, 3) := by decide +kernel
theorem dX11_spread_156 : decode cX11_spread 156 = .ok (.iload 8, 2) := by decide +kernel
theorem dX11_spread_158 : decode cX11_spread 158 = .ok (.iaload, 1) := by decide +kernel
theorem dX11_spread_159 : decode cX11_spread 159 = .ok (.iconst (-1), 1) := by decide +kernel
theorem dX11_spread_160 : decode cX11_spread 160 = .ok (.if_icmp .ne 56, 3) := by decide +kernel
theorem dX11_spread_163 : decode cX11_spread 163 = .ok (.aload_n 0, 1) := by decide +kernel
theorem dX11_spread_164 : decode cX11_spread 164 = .ok (.getfield 16, 3) := by decide +kernel
theorem dX11_spread_167 : decode cX11_spread 167 = .ok (.iload 8, 2) := by decide +kernel
theorem dX11_spread_169 : decode cX11_spread 169 = .ok (.baload, 1) := by decide +kernel
theorem dX11_spread_170 : decode cX11_spread 170 = .ok (.ifCond .eq 46, 3) := by decide +kernel
theorem dX11_spread_173 : decode cX11_spread 173 = .ok (.aload_n 0, 1) := by decide +kernel
theorem dX11_spread_174 : decode cX11_spread 174 = .ok (.getfield 13, 3) := by decide +kernel
theorem dX11_spread_177 : decode cX11_spread 177 = .ok (.iload 8, 2) := by decide +kernel
theorem dX11_spread_179 : decode cX11_spread 179 = .ok (.iaload, 1) := by decide +kernel
theorem dX11_spread_180 : decode cX11_spread 180 = .ok (.iconst 1, 1) := by decide +kernel
theorem dX11_spread_181 : decode cX11_spread 181 = .ok (.if_icmp .eq 35, 3) := by decide +kernel
theorem dX11_spread_184 : decode cX11_spread 184 = .ok (.aload_n 0, 1) := by decide +kernel
theorem dX11_spread_185 : decode cX11_spread 185 = .ok (.iload 6, 2) := by decide +kernel
theorem dX11_spread_187 : decode cX11_spread 187 = .ok (.iload 8, 2) := by decide +kernel
theorem dX11_spread_189 : decode cX11_spread 189 = .ok (.invokevirtual 99, 3) := by decide +kernel
theorem dX11_spread_192 : decode cX11_spread 192 = .ok (.ifCond .eq 24, 3) := by decide +kernel
theorem dX11_spread_195 : decode cX11_spread 195 = .ok (.aload_n 0, 1) := by decide +kernel
theorem dX11_spread_196 : decode cX11_spread 196 = .ok (.getfield 68, 3) := by decide +kernel
theorem dX11_spread_199 : decode cX11_spread 199 = .ok (.iload 8, 2) := by decide +kernel
theorem dX11_spread_201 : decode cX11_spread 201 = .ok (.iload 5, 2) := by decide +kernel
theorem dX11_spread_203 : decode cX11_spread 203 = .ok (.iastore, 1) := by decide +kernel
theorem dX11_spread_204 : decode cX11_spread 204 = .ok (.aload_n 0, 1) := by decide +kernel
theorem dX11_spread_205 : decode cX11_spread 205 = .ok (.iload 5, 2) := by decide +kernel
theorem dX11_spread_207 : decode cX11_spread 207 = .ok (.putfield 173, 3) := by decide +kernel
theorem dX11_spread_210 : decode cX11_spread 210 = .ok (.iconst 1, 1) := by decide +kernel
theorem dX11_spread_211 : decode cX11_spread 211 = .ok (.istore 4, 2) := by decide +kernel
theorem dX11_spread_213 : decode cX11_spread 213 = .ok (.iinc 3 1, 3) := by decide +kernel
theorem dX11_spread_216 : decode cX11_spread 216 = .ok (.iinc 8 1, 3) := by decide +kernel
theorem dX11_spread_219 : decode cX11_spread 219 = .ok (.goto (-81), 3) := by decide +kernel
theorem dX11_spread_222 : decode cX11_spread 222 = .ok (.iinc 6 1, 3) := by decide +kernel
theorem dX11_spread_225 : decode cX11_spread 225 = .ok (.goto (-136), 3) := by decide +kernel
theorem dX11_spread_228 : decode cX11_spread 228 = .ok (.iinc 5 1, 3) := by decide +kernel
theorem dX11_spread_231 : decode cX11_spread 231 = .ok (.goto (-153), 3) := by decide +kernel
theorem dX11_spread_234 : decode cX11_spread 234 = .ok (.iload_n 3, 1) := by decide +kernel
theorem dX11_spread_235 : decode cX11_spread 235 = .ok (.ireturn, 1) := by decide +kernel
theorem dX11_rounds_0 : decode cX11_rounds 0 = .ok (.aload_n 0, 1) := by decide +kernel
theorem dX11_rounds_1 : decode cX11_rounds 1 = .ok (.iconst 0, 1) := by decide +kernel
theorem dX11_rounds_2 : decode cX11_rounds 2 = .ok (.putfield 74, 3) := by decide +kernel
theorem dX11_rounds_5 : decode cX11_rounds 5 = .ok (.aload_n 0, 1) := by decide +kernel
theorem dX11_rounds_6 : decode cX11_rounds 6 = .ok (.getfield 173, 3) := by decide +kernel
theorem dX11_rounds_9 : decode cX11_rounds 9 = .ok (.ireturn, 1) := by decide +kernel
set_option maxRecDepth 20000 in
theorem ggX11_owes_X11_isPeer : GoodIn wsX11_owes wsX11_isPeer := goodIn_r _ [6, 7, 8, 9, 5, 10, 16, 17, 18, 19, 20, 21, 22, 23, 24, 25, 26, 27, 28, 29, 30, 31, 32, 33, 34, 35, 36, 37, 38, 39, 40, 41, 42, 43] (by decide +kernel) (by decide +kernel)
set_option maxRecDepth 20000 in
theorem gX11_owes_X11_isPeer : GoodIn wsX11_owes (wsV RX11 117 RX11 yX11_isPeer wsX11_isPeer) := goodIn_app (goodIn_of _ (by decide +kernel)) ggX11_owes_X11_isPeer
set_option maxRecDepth 20000 in
theorem ggX11_owes_X11_holds : GoodIn wsX11_owes wsX11_holds := goodIn_r _ [14, 15, 16, 17, 18, 19, 20, 21, 22, 23, 24, 25, 26, 27, 28, 29, 30, 31, 32, 33, 34, 35, 36, 37, 38, 39, 40, 41, 42, 43] (by decide +kernel) (by decide +kernel)
set_option maxRecDepth 20000 in
theorem gX11_owes_X11_holds : GoodIn wsX11_owes (wsV RX11 124 RX11 yX11_holds wsX11_holds) := goodIn_app (goodIn_of _ (by decide +kernel)) ggX11_owes_X11_holds
theorem dX11_owes_0 : decode cX11_owes 0 = .ok (.aload_n 0, 1) := by decide +kernel
theorem dX11_owes_1 : decode cX11_owes 1 = .ok (.aload_n 0, 1) := by decide +kernel
theorem dX11_owes_2 : decode cX11_owes 2 = .ok (.iload_n 1, 1) := by decide +kernel
theorem dX11_owes_3 : decode cX11_owes 3 = .ok (.invokevirtual 117, 3) := by decide +kernel
theorem dX11_owes_6 : decode cX11_owes 6 = .ok (.ifCond .eq 15, 3) := by decide +kernel
theorem dX11_owes_9 : decode cX11_owes 9 = .ok (.aload_n 0, 1) := by decide +kernel
theorem dX11_owes_10 : decode cX11_owes 10 = .ok (.iload_n 2, 1) := by decide +kernel
theorem dX11_owes_11 : decode cX11_owes 11 = .ok (.invokevirtual 117, 3) := by decide +kernel
theorem dX11_owes_14 : decode cX11_owes 14 = .ok (.ifCond .eq 7, 3) := by decide +kernel
theorem dX11_owes_17 : decode cX11_owes 17 = .ok (.iconst 0, 1) := by decide +kernel
theorem dX11_owes_18 : decode cX11_owes 18 = .ok (.goto 4, 3) := by decide +kernel
theorem dX11_owes_21 : decode cX11_owes 21 = .ok (.iconst 1, 1) := by decide +kernel
theorem dX11_owes_22 : decode cX11_owes 22 = .ok (.invokevirtual 124, 3) := by decide +kernel
theorem dX11_owes_25 : decode cX11_owes 25 = .ok (.ifCond .eq 17, 3) := by decide +kernel
theorem dX11_owes_28 : decode cX11_owes 28 = .ok (.aload_n 0, 1) := by decide +kernel
theorem dX11_owes_29 : decode cX11_owes 29 = .ok (.getfield 71, 3) := by decide +kernel
theorem dX11_owes_32 : decode cX11_owes 32 = .ok (.bipush 16, 2) := by decide +kernel
theorem dX11_owes_34 : decode cX11_owes 34 = .ok (.iload_n 1, 1) := by decide +kernel
theorem dX11_owes_35 : decode cX11_owes 35 = .ok (.imul, 1) := by decide +kernel
theorem dX11_owes_36 : decode cX11_owes 36 = .ok (.iload_n 2, 1) := by decide +kernel
theorem dX11_owes_37 : decode cX11_owes 37 = .ok (.iadd, 1) := by decide +kernel
theorem dX11_owes_38 : decode cX11_owes 38 = .ok (.iaload, 1) := by decide +kernel
theorem dX11_owes_39 : decode cX11_owes 39 = .ok (.goto 4, 3) := by decide +kernel
theorem dX11_owes_42 : decode cX11_owes 42 = .ok (.iconst 0, 1) := by decide +kernel
theorem dX11_owes_43 : decode cX11_owes 43 = .ok (.ireturn, 1) := by decide +kernel
theorem dX11_lessens_0 : decode cX11_lessens 0 = .ok (.bipush 16, 2) := by decide +kernel
theorem dX11_lessens_2 : decode cX11_lessens 2 = .ok (.iload_n 1, 1) := by decide +kernel
theorem dX11_lessens_3 : decode cX11_lessens 3 = .ok (.imul, 1) := by decide +kernel
theorem dX11_lessens_4 : decode cX11_lessens 4 = .ok (.iload_n 2, 1) := by decide +kernel
theorem dX11_lessens_5 : decode cX11_lessens 5 = .ok (.iadd, 1) := by decide +kernel
theorem dX11_lessens_6 : decode cX11_lessens 6 = .ok (.istore 4, 2) := by decide +kernel
theorem dX11_lessens_8 : decode cX11_lessens 8 = .ok (.bipush 16, 2) := by decide +kernel
theorem dX11_lessens_10 : decode cX11_lessens 10 = .ok (.iload_n 2, 1) := by decide +kernel
theorem dX11_lessens_11 : decode cX11_lessens 11 = .ok (.imul, 1) := by decide +kernel
theorem dX11_lessens_12 : decode cX11_lessens 12 = .ok (.iload_n 3, 1) := by decide +kernel
theorem dX11_lessens_13 : decode cX11_lessens 13 = .ok (.iload_n 1, 1) := by decide +kernel
theorem dX11_lessens_14 : decode cX11_lessens 14 = .ok (.if_icmp .ne 7, 3) := by decide +kernel
theorem dX11_lessens_17 : decode cX11_lessens 17 = .ok (.iload_n 1, 1) := by decide +kernel
theorem dX11_lessens_18 : decode cX11_lessens 18 = .ok (.goto 4, 3) := by decide +kernel
theorem dX11_lessens_21 : decode cX11_lessens 21 = .ok (.iload_n 3, 1) := by decide +kernel
theorem dX11_lessens_22 : decode cX11_lessens 22 = .ok (.iadd, 1) := by decide +kernel
theorem dX11_lessens_23 : decode cX11_lessens 23 = .ok (.istore 5, 2) := by decide +kernel
theorem dX11_lessens_25 : decode cX11_lessens 25 = .ok (.iload_n 3, 1) := by decide +kernel
theorem dX11_lessens_26 : decode cX11_lessens 26 = .ok (.iload_n 1, 1) := by decide +kernel
theorem dX11_lessens_27 : decode cX11_lessens 27 = .ok (.if_icmp .ne 8, 3) := by decide +kernel
theorem dX11_lessens_30 : decode cX11_lessens 30 = .ok (.iload 5, 2) := by decide +kernel
theorem dX11_lessens_32 : decode cX11_lessens 32 = .ok (.goto 9, 3) := by decide +kernel
theorem dX11_lessens_35 : decode cX11_lessens 35 = .ok (.bipush 16, 2) := by decide +kernel
theorem dX11_lessens_37 : decode cX11_lessens 37 = .ok (.iload_n 3, 1) := by decide +kernel
theorem dX11_lessens_38 : decode cX11_lessens 38 = .ok (.imul, 1) := by decide +kernel
theorem dX11_lessens_39 : decode cX11_lessens 39 = .ok (.iload_n 1, 1) := by decide +kernel
theorem dX11_lessens_40 : decode cX11_lessens 40 = .ok (.iadd, 1) := by decide +kernel
theorem dX11_lessens_41 : decode cX11_lessens 41 = .ok (.istore 6, 2) := by decide +kernel
theorem dX11_lessens_43 : decode cX11_lessens 43 = .ok (.aload_n 0, 1) := by decide +kernel
theorem dX11_lessens_44 : decode cX11_lessens 44 = .ok (.getfield 71, 3) := by decide +kernel
theorem dX11_lessens_47 : decode cX11_lessens 47 = .ok (.iload 4, 2) := by decide +kernel
theorem dX11_lessens_49 : decode cX11_lessens 49 = .ok (.iaload, 1) := by decide +kernel
theorem dX11_lessens_50 : decode cX11_lessens 50 = .ok (.aload_n 0, 1) := by decide +kernel
theorem dX11_lessens_51 : decode cX11_lessens 51 = .ok (.getfield 71, 3) := by decide +kernel
theorem dX11_lessens_54 : decode cX11_lessens 54 = .ok (.iload 5, 2) := by decide +kernel
theorem dX11_lessens_56 : decode cX11_lessens 56 = .ok (.iaload, 1) := by decide +kernel
theorem dX11_lessens_57 : decode cX11_lessens 57 = .ok (.if_icmp .ge 13, 3) := by decide +kernel
theorem dX11_lessens_60 : decode cX11_lessens 60 = .ok (.aload_n 0, 1) := by decide +kernel
theorem dX11_lessens_61 : decode cX11_lessens 61 = .ok (.getfield 71, 3) := by decide +kernel
theorem dX11_lessens_64 : decode cX11_lessens 64 = .ok (.iload 4, 2) := by decide +kernel
theorem dX11_lessens_66 : decode cX11_lessens 66 = .ok (.iaload, 1) := by decide +kernel
theorem dX11_lessens_67 : decode cX11_lessens 67 = .ok (.goto 10, 3) := by decide +kernel
theorem dX11_lessens_70 : decode cX11_lessens 70 = .ok (.aload_n 0, 1) := by decide +kernel
theorem dX11_lessens_71 : decode cX11_lessens 71 = .ok (.getfield 71, 3) := by decide +kernel
theorem dX11_lessens_74 : decode cX11_lessens 74 = .ok (.iload 5, 2) := by decide +kernel
theorem dX11_lessens_76 : decode cX11_lessens 76 = .ok (.iaload, 1) := by decide +kernel
theorem dX11_lessens_77 : decode cX11_lessens 77 = .ok (.istore 7, 2) := by decide +kernel
theorem dX11_lessens_79 : decode cX11_lessens 79 = .ok (.aload_n 0, 1) := by decide +kernel
theorem dX11_lessens_80 : decode cX11_lessens 80 = .ok (.getfield 71, 3) := by decide +kernel
theorem dX11_lessens_83 : decode cX11_lessens 83 = .ok (.iload 6, 2) := by decide +kernel
theorem dX11_lessens_85 : decode cX11_lessens 85 = .ok (.iaload, 1) := by decide +kernel
theorem dX11_lessens_86 : decode cX11_lessens 86 = .ok (.iload 7, 2) := by decide +kernel
theorem dX11_lessens_88 : decode cX11_lessens 88 = .ok (.if_icmp .ge 13, 3) := by decide +kernel
theorem dX11_lessens_91 : decode cX11_lessens 91 = .ok (.aload_n 0, 1) := by decide +kernel
theorem dX11_lessens_92 : decode cX11_lessens 92 = .ok (.getfield 71, 3) := by decide +kernel
theorem dX11_lessens_95 : decode cX11_lessens 95 = .ok (.iload 6, 2) := by decide +kernel
theorem dX11_lessens_97 : decode cX11_lessens 97 = .ok (.iaload, 1) := by decide +kernel
theorem dX11_lessens_98 : decode cX11_lessens 98 = .ok (.goto 5, 3) := by decide +kernel
theorem dX11_lessens_101 : decode cX11_lessens 101 = .ok (.iload 7, 2) := by decide +kernel
theorem dX11_lessens_103 : decode cX11_lessens 103 = .ok (.istore 7, 2) := by decide +kernel
theorem dX11_lessens_105 : decode cX11_lessens 105 = .ok (.aload_n 0, 1) := by decide +kernel
theorem dX11_lessens_106 : decode cX11_lessens 106 = .ok (.getfield 71, 3) := by decide +kernel
theorem dX11_lessens_109 : decode cX11_lessens 109 = .ok (.iload 4, 2) := by decide +kernel
theorem dX11_lessens_111 : decode cX11_lessens 111 = .ok (.dup2, 1) := by decide +kernel
theorem dX11_lessens_112 : decode cX11_lessens 112 = .ok (.iaload, 1) := by decide +kernel
theorem dX11_lessens_113 : decode cX11_lessens 113 = .ok (.iload 7, 2) := by decide +kernel
theorem dX11_lessens_115 : decode cX11_lessens 115 = .ok (.isub, 1) := by decide +kernel
theorem dX11_lessens_116 : decode cX11_lessens 116 = .ok (.iastore, 1) := by decide +kernel
theorem dX11_lessens_117 : decode cX11_lessens 117 = .ok (.aload_n 0, 1) := by decide +kernel
theorem dX11_lessens_118 : decode cX11_lessens 118 = .ok (.getfield 71, 3) := by decide +kernel
theorem dX11_lessens_121 : decode cX11_lessens 121 = .ok (.iload 5, 2) := by decide +kernel
theorem dX11_lessens_123 : decode cX11_lessens 123 = .ok (.dup2, 1) := by decide +kernel
theorem dX11_lessens_124 : decode cX11_lessens 124 = .ok (.iaload, 1) := by decide +kernel
theorem dX11_lessens_125 : decode cX11_lessens 125 = .ok (.iload 7, 2) := by decide +kernel
theorem dX11_lessens_127 : decode cX11_lessens 127 = .ok (.isub, 1) := by decide +kernel
theorem dX11_lessens_128 : decode cX11_lessens 128 = .ok (.iastore, 1) := by decide +kernel
theorem dX11_lessens_129 : decode cX11_lessens 129 = .ok (.aload_n 0, 1) := by decide +kernel
theorem dX11_lessens_130 : decode cX11_lessens 130 = .ok (.getfield 71, 3) := by decide +kernel
theorem dX11_lessens_133 : decode cX11_lessens 133 = .ok (.iload 6, 2) := by decide +kernel
theorem dX11_lessens_135 : decode cX11_lessens 135 = .ok (.dup2, 1) := by decide +kernel
theorem dX11_lessens_136 : decode cX11_lessens 136 = .ok (.iaload, 1) := by decide +kernel
theorem dX11_lessens_137 : decode cX11_lessens 137 = .ok (.iload_n 3, 1) := by decide +kernel
theorem dX11_lessens_138 : decode cX11_lessens 138 = .ok (.iload_n 1, 1) := by decide +kernel
theorem dX11_lessens_139 : decode cX11_lessens 139 = .ok (.if_icmp .ne 7, 3) := by decide +kernel
theorem dX11_lessens_142 : decode cX11_lessens 142 = .ok (.iconst 0, 1) := by decide +kernel
theorem dX11_lessens_143 : decode cX11_lessens 143 = .ok (.goto 5, 3) := by decide +kernel
theorem dX11_lessens_146 : decode cX11_lessens 146 = .ok (.iload 7, 2) := by decide +kernel
theorem dX11_lessens_148 : decode cX11_lessens 148 = .ok (.isub, 1) := by decide +kernel
theorem dX11_lessens_149 : decode cX11_lessens 149 = .ok (.iastore, 1) := by decide +kernel
theorem dX11_lessens_150 : decode cX11_lessens 150 = .ok (.iload 7, 2) := by decide +kernel
theorem dX11_lessens_152 : decode cX11_lessens 152 = .ok (.iload_n 3, 1) := by decide +kernel
theorem dX11_lessens_153 : decode cX11_lessens 153 = .ok (.iload_n 1, 1) := by decide +kernel
theorem dX11_lessens_154 : decode cX11_lessens 154 = .ok (.if_icmp .ne 7, 3) := by decide +kernel
theorem dX11_lessens_157 : decode cX11_lessens 157 = .ok (.iconst 2, 1) := by decide +kernel
theorem dX11_lessens_158 : decode cX11_lessens 158 = .ok (.goto 4, 3) := by decide +kernel
theorem dX11_lessens_161 : decode cX11_lessens 161 = .ok (.iconst 3, 1) := by decide +kernel
theorem dX11_lessens_162 : decode cX11_lessens 162 = .ok (.imul, 1) := by decide +kernel
theorem dX11_lessens_163 : decode cX11_lessens 163 = .ok (.ireturn, 1) := by decide +kernel
set_option maxRecDepth 20000 in
theorem ggX11_nets_X11_lessens : GoodIn wsX11_nets wsX11_lessens := goodIn_r _ [6, 7, 8, 9, 10, 11, 12, 13, 14, 15, 16, 17, 18, 19, 20, 21, 22, 23, 24, 25, 26, 27, 28, 29, 30, 31, 32, 33, 34, 35] (by decide +kernel) (by decide +kernel)
set_option maxRecDepth 20000 in
theorem gX11_nets_X11_lessens : GoodIn wsX11_nets (wsV RX11 176 RX11 yX11_lessens wsX11_lessens) := goodIn_app (goodIn_of _ (by decide +kernel)) ggX11_nets_X11_lessens
theorem dX11_nets_0 : decode cX11_nets 0 = .ok (.iconst 0, 1) := by decide +kernel
theorem dX11_nets_1 : decode cX11_nets 1 = .ok (.istore_n 1, 1) := by decide +kernel
theorem dX11_nets_2 : decode cX11_nets 2 = .ok (.iload_n 1, 1) := by decide +kernel
theorem dX11_nets_3 : decode cX11_nets 3 = .ok (.aload_n 0, 1) := by decide +kernel
theorem dX11_nets_4 : decode cX11_nets 4 = .ok (.getfield 78, 3) := by decide +kernel
theorem dX11_nets_7 : decode cX11_nets 7 = .ok (.if_icmp .ge 41, 3) := by decide +kernel
theorem dX11_nets_10 : decode cX11_nets 10 = .ok (.iload_n 1, 1) := by decide +kernel
theorem dX11_nets_11 : decode cX11_nets 11 = .ok (.iconst 1, 1) := by decide +kernel
theorem dX11_nets_12 : decode cX11_nets 12 = .ok (.iadd, 1) := by decide +kernel
theorem dX11_nets_13 : decode cX11_nets 13 = .ok (.istore_n 2, 1) := by decide +kernel
theorem dX11_nets_14 : decode cX11_nets 14 = .ok (.iload_n 2, 1) := by decide +kernel
theorem dX11_nets_15 : decode cX11_nets 15 = .ok (.aload_n 0, 1) := by decide +kernel
theorem dX11_nets_16 : decode cX11_nets 16 = .ok (.getfield 78, 3) := by decide +kernel
theorem dX11_nets_19 : decode cX11_nets 19 = .ok (.if_icmp .ge 23, 3) := by decide +kernel
theorem dX11_nets_22 : decode cX11_nets 22 = .ok (.aload_n 0, 1) := by decide +kernel
theorem dX11_nets_23 : decode cX11_nets 23 = .ok (.iload_n 1, 1) := by decide +kernel
theorem dX11_nets_24 : decode cX11_nets 24 = .ok (.iload_n 2, 1) := by decide +kernel
theorem dX11_nets_25 : decode cX11_nets 25 = .ok (.iload_n 1, 1) := by decide +kernel
theorem dX11_nets_26 : decode cX11_nets 26 = .ok (.invokevirtual 176, 3) := by decide +kernel
theorem dX11_nets_29 : decode cX11_nets 29 = .ok (.istore_n 3, 1) := by decide +kernel
theorem dX11_nets_30 : decode cX11_nets 30 = .ok (.iload_n 3, 1) := by decide +kernel
theorem dX11_nets_31 : decode cX11_nets 31 = .ok (.ifCond .le 5, 3) := by decide +kernel
theorem dX11_nets_34 : decode cX11_nets 34 = .ok (.iload_n 3, 1) := by decide +kernel
theorem dX11_nets_35 : decode cX11_nets 35 = .ok (.ireturn, 1) := by decide +kernel
theorem dX11_nets_36 : decode cX11_nets 36 = .ok (.iinc 2 1, 3) := by decide +kernel
theorem dX11_nets_39 : decode cX11_nets 39 = .ok (.goto (-25), 3) := by decide +kernel
theorem dX11_nets_42 : decode cX11_nets 42 = .ok (.iinc 1 1, 3) := by decide +kernel
theorem dX11_nets_45 : decode cX11_nets 45 = .ok (.goto (-43), 3) := by decide +kernel
theorem dX11_nets_48 : decode cX11_nets 48 = .ok (.iconst 0, 1) := by decide +kernel
theorem dX11_nets_49 : decode cX11_nets 49 = .ok (.istore_n 1, 1) := by decide +kernel
theorem dX11_nets_50 : decode cX11_nets 50 = .ok (.iload_n 1, 1) := by decide +kernel
theorem dX11_nets_51 : decode cX11_nets 51 = .ok (.aload_n 0, 1) := by decide +kernel
theorem dX11_nets_52 : decode cX11_nets 52 = .ok (.getfield 78, 3) := by decide +kernel
theorem dX11_nets_55 : decode cX11_nets 55 = .ok (.if_icmp .ge 71, 3) := by decide +kernel
theorem dX11_nets_58 : decode cX11_nets 58 = .ok (.iload_n 1, 1) := by decide +kernel
theorem dX11_nets_59 : decode cX11_nets 59 = .ok (.iconst 1, 1) := by decide +kernel
theorem dX11_nets_60 : decode cX11_nets 60 = .ok (.iadd, 1) := by decide +kernel
theorem dX11_nets_61 : decode cX11_nets 61 = .ok (.istore_n 2, 1) := by decide +kernel
theorem dX11_nets_62 : decode cX11_nets 62 = .ok (.iload_n 2, 1) := by decide +kernel
theorem dX11_nets_63 : decode cX11_nets 63 = .ok (.aload_n 0, 1) := by decide +kernel
theorem dX11_nets_64 : decode cX11_nets 64 = .ok (.getfield 78, 3) := by decide +kernel
theorem dX11_nets_67 : decode cX11_nets 67 = .ok (.if_icmp .ge 53, 3) := by decide +kernel
theorem dX11_nets_70 : decode cX11_nets 70 = .ok (.iload_n 1, 1) := by decide +kernel
theorem dX11_nets_71 : decode cX11_nets 71 = .ok (.iconst 1, 1) := by decide +kernel
theorem dX11_nets_72 : decode cX11_nets 72 = .ok (.iadd, 1) := by decide +kernel
theorem dX11_nets_73 : decode cX11_nets 73 = .ok (.istore_n 3, 1) := by decide +kernel
theorem dX11_nets_74 : decode cX11_nets 74 = .ok (.iload_n 3, 1) := by decide +kernel
theorem dX11_nets_75 : decode cX11_nets 75 = .ok (.aload_n 0, 1) := by decide +kernel
theorem dX11_nets_76 : decode cX11_nets 76 = .ok (.getfield 78, 3) := by decide +kernel
theorem dX11_nets_79 : decode cX11_nets 79 = .ok (.if_icmp .ge 35, 3) := by decide +kernel
theorem dX11_nets_82 : decode cX11_nets 82 = .ok (.iload_n 3, 1) := by decide +kernel
theorem dX11_nets_83 : decode cX11_nets 83 = .ok (.iload_n 2, 1) := by decide +kernel
theorem dX11_nets_84 : decode cX11_nets 84 = .ok (.if_icmp .ne 7, 3) := by decide +kernel
theorem dX11_nets_87 : decode cX11_nets 87 = .ok (.iconst 0, 1) := by decide +kernel
theorem dX11_nets_88 : decode cX11_nets 88 = .ok (.goto 10, 3) := by decide +kernel
theorem dX11_nets_91 : decode cX11_nets 91 = .ok (.aload_n 0, 1) := by decide +kernel
theorem dX11_nets_92 : decode cX11_nets 92 = .ok (.iload_n 1, 1) := by decide +kernel
theorem dX11_nets_93 : decode cX11_nets 93 = .ok (.iload_n 2, 1) := by decide +kernel
theorem dX11_nets_94 : decode cX11_nets 94 = .ok (.iload_n 3, 1) := by decide +kernel
theorem dX11_nets_95 : decode cX11_nets 95 = .ok (.invokevirtual 176, 3) := by decide +kernel
theorem dX11_nets_98 : decode cX11_nets 98 = .ok (.istore 4, 2) := by decide +kernel
theorem dX11_nets_100 : decode cX11_nets 100 = .ok (.iload 4, 2) := by decide +kernel
theorem dX11_nets_102 : decode cX11_nets 102 = .ok (.ifCond .le 6, 3) := by decide +kernel
theorem dX11_nets_105 : decode cX11_nets 105 = .ok (.iload 4, 2) := by decide +kernel
theorem dX11_nets_107 : decode cX11_nets 107 = .ok (.ireturn, 1) := by decide +kernel
theorem dX11_nets_108 : decode cX11_nets 108 = .ok (.iinc 3 1, 3) := by decide +kernel
theorem dX11_nets_111 : decode cX11_nets 111 = .ok (.goto (-37), 3) := by decide +kernel
theorem dX11_nets_114 : decode cX11_nets 114 = .ok (.iinc 2 1, 3) := by decide +kernel
theorem dX11_nets_117 : decode cX11_nets 117 = .ok (.goto (-55), 3) := by decide +kernel
theorem dX11_nets_120 : decode cX11_nets 120 = .ok (.iinc 1 1, 3) := by decide +kernel
theorem dX11_nets_123 : decode cX11_nets 123 = .ok (.goto (-73), 3) := by decide +kernel
theorem dX11_nets_126 : decode cX11_nets 126 = .ok (.iconst 0, 1) := by decide +kernel
theorem dX11_nets_127 : decode cX11_nets 127 = .ok (.ireturn, 1) := by decide +kernel
set_option maxRecDepth 20000 in
theorem ggX11_net_X11_nets : GoodIn wsX11_net wsX11_nets := goodIn_r _ [6, 7, 8, 9, 10, 5, 11, 12, 13, 14, 15, 16, 17, 18, 19, 20, 21, 22, 23, 24, 25, 26, 27, 28, 29, 30, 31, 32, 33, 34, 35, 36, 37, 38, 39, 40] (by decide +kernel) (by decide +kernel)
set_option maxRecDepth 20000 in
theorem gX11_net_X11_nets : GoodIn wsX11_net (wsV RX11 180 RX11 yX11_nets wsX11_nets) := goodIn_app (goodIn_of _ (by decide +kernel)) ggX11_net_X11_nets
theorem dX11_net_0 : decode cX11_net 0 = .ok (.aload_n 0, 1) := by decide +kernel
theorem dX11_net_1 : decode cX11_net 1 = .ok (.iconst 0, 1) := by decide +kernel
theorem dX11_net_2 : decode cX11_net 2 = .ok (.putfield 74, 3) := by decide +kernel
theorem dX11_net_5 : decode cX11_net 5 = .ok (.iconst 0, 1) := by decide +kernel
theorem dX11_net_6 : decode cX11_net 6 = .ok (.istore_n 1, 1) := by decide +kernel
theorem dX11_net_7 : decode cX11_net 7 = .ok (.aload_n 0, 1) := by decide +kernel
theorem dX11_net_8 : decode cX11_net 8 = .ok (.invokevirtual 180, 3) := by decide +kernel
theorem dX11_net_11 : decode cX11_net 11 = .ok (.istore_n 2, 1) := by decide +kernel
theorem dX11_net_12 : decode cX11_net 12 = .ok (.iload_n 2, 1) := by decide +kernel
theorem dX11_net_13 : decode cX11_net 13 = .ok (.ifCond .le 15, 3) := by decide +kernel
theorem dX11_net_16 : decode cX11_net 16 = .ok (.iload_n 1, 1) := by decide +kernel
theorem dX11_net_17 : decode cX11_net 17 = .ok (.iload_n 2, 1) := by decide +kernel
theorem dX11_net_18 : decode cX11_net 18 = .ok (.iadd, 1) := by decide +kernel
theorem dX11_net_19 : decode cX11_net 19 = .ok (.istore_n 1, 1) := by decide +kernel
theorem dX11_net_20 : decode cX11_net 20 = .ok (.aload_n 0, 1) := by decide +kernel
theorem dX11_net_21 : decode cX11_net 21 = .ok (.invokevirtual 180, 3) := by decide +kernel
theorem dX11_net_24 : decode cX11_net 24 = .ok (.istore_n 2, 1) := by decide +kernel
theorem dX11_net_25 : decode cX11_net 25 = .ok (.goto (-13), 3) := by decide +kernel
theorem dX11_net_28 : decode cX11_net 28 = .ok (.iload_n 1, 1) := by decide +kernel
theorem dX11_net_29 : decode cX11_net 29 = .ok (.ireturn, 1) := by decide +kernel
set_option maxRecDepth 20000 in
theorem ggX11_worth_X11_isPeer : GoodIn wsX11_worth wsX11_isPeer := goodIn_r _ [7, 1, 8, 9, 6, 10, 16, 17, 18, 19, 20, 21, 22, 23, 24, 25, 26, 27, 28, 29, 30, 31, 32, 33, 34, 35, 36, 37, 38, 39, 40, 41, 42, 43] (by decide +kernel) (by decide +kernel)
set_option maxRecDepth 20000 in
theorem gX11_worth_X11_isPeer : GoodIn wsX11_worth (wsV RX11 117 RX11 yX11_isPeer wsX11_isPeer) := goodIn_app (goodIn_of _ (by decide +kernel)) ggX11_worth_X11_isPeer
set_option maxRecDepth 20000 in
theorem ggX11_worth_X11_holds : GoodIn wsX11_worth wsX11_holds := goodIn_r _ [14, 15, 16, 17, 18, 19, 20, 21, 22, 23, 24, 25, 26, 27, 28, 29, 30, 31, 32, 33, 34, 35, 36, 37, 38, 39, 40, 41, 42, 43] (by decide +kernel) (by decide +kernel)
set_option maxRecDepth 20000 in
theorem gX11_worth_X11_holds : GoodIn wsX11_worth (wsV RX11 124 RX11 yX11_holds wsX11_holds) := goodIn_app (goodIn_of _ (by decide +kernel)) ggX11_worth_X11_holds
theorem dX11_worth_0 : decode cX11_worth 0 = .ok (.aload_n 0, 1) := by decide +kernel
theorem dX11_worth_1 : decode cX11_worth 1 = .ok (.aload_n 0, 1) := by decide +kernel
theorem dX11_worth_2 : decode cX11_worth 2 = .ok (.iload_n 1, 1) := by decide +kernel
theorem dX11_worth_3 : decode cX11_worth 3 = .ok (.invokevirtual 117, 3) := by decide +kernel
theorem dX11_worth_6 : decode cX11_worth 6 = .ok (.ifCond .eq 7, 3) := by decide +kernel
theorem dX11_worth_9 : decode cX11_worth 9 = .ok (.iconst 0, 1) := by decide +kernel
theorem dX11_worth_10 : decode cX11_worth 10 = .ok (.goto 4, 3) := by decide +kernel
theorem dX11_worth_13 : decode cX11_worth 13 = .ok (.iconst 1, 1) := by decide +kernel
theorem dX11_worth_14 : decode cX11_worth 14 = .ok (.invokevirtual 124, 3) := by decide +kernel
theorem dX11_worth_17 : decode cX11_worth 17 = .ok (.ifCond .ne 5, 3) := by decide +kernel
theorem dX11_worth_20 : decode cX11_worth 20 = .ok (.iconst 0, 1) := by decide +kernel
theorem dX11_worth_21 : decode cX11_worth 21 = .ok (.ireturn, 1) := by decide +kernel
theorem dX11_worth_22 : decode cX11_worth 22 = .ok (.iconst 0, 1) := by decide +kernel
theorem dX11_worth_23 : decode cX11_worth 23 = .ok (.istore_n 2, 1) := by decide +kernel
theorem dX11_worth_24 : decode cX11_worth 24 = .ok (.iconst 0, 1) := by decide +kernel
theorem dX11_worth_25 : decode cX11_worth 25 = .ok (.istore_n 3, 1) := by decide +kernel
theorem dX11_worth_26 : decode cX11_worth 26 = .ok (.iload_n 3, 1) := by decide +kernel
theorem dX11_worth_27 : decode cX11_worth 27 = .ok (.aload_n 0, 1) := by decide +kernel
theorem dX11_worth_28 : decode cX11_worth 28 = .ok (.getfield 78, 3) := by decide +kernel
theorem dX11_worth_31 : decode cX11_worth 31 = .ok (.if_icmp .ge 35, 3) := by decide +kernel
theorem dX11_worth_34 : decode cX11_worth 34 = .ok (.iload_n 2, 1) := by decide +kernel
theorem dX11_worth_35 : decode cX11_worth 35 = .ok (.aload_n 0, 1) := by decide +kernel
theorem dX11_worth_36 : decode cX11_worth 36 = .ok (.getfield 71, 3) := by decide +kernel
theorem dX11_worth_39 : decode cX11_worth 39 = .ok (.bipush 16, 2) := by decide +kernel
theorem dX11_worth_41 : decode cX11_worth 41 = .ok (.iload_n 3, 1) := by decide +kernel
theorem dX11_worth_42 : decode cX11_worth 42 = .ok (.imul, 1) := by decide +kernel
theorem dX11_worth_43 : decode cX11_worth 43 = .ok (.iload_n 1, 1) := by decide +kernel
theorem dX11_worth_44 : decode cX11_worth 44 = .ok (.iadd, 1) := by decide +kernel
theorem dX11_worth_45 : decode cX11_worth 45 = .ok (.iaload, 1) := by decide +kernel
theorem dX11_worth_46 : decode cX11_worth 46 = .ok (.aload_n 0, 1) := by decide +kernel
theorem dX11_worth_47 : decode cX11_worth 47 = .ok (.getfield 71, 3) := by decide +kernel
theorem dX11_worth_50 : decode cX11_worth 50 = .ok (.bipush 16, 2) := by decide +kernel
theorem dX11_worth_52 : decode cX11_worth 52 = .ok (.iload_n 1, 1) := by decide +kernel
theorem dX11_worth_53 : decode cX11_worth 53 = .ok (.imul, 1) := by decide +kernel
theorem dX11_worth_54 : decode cX11_worth 54 = .ok (.iload_n 3, 1) := by decide +kernel
theorem dX11_worth_55 : decode cX11_worth 55 = .ok (.iadd, 1) := by decide +kernel
theorem dX11_worth_56 : decode cX11_worth 56 = .ok (.iaload, 1) := by decide +kernel
theorem dX11_worth_57 : decode cX11_worth 57 = .ok (.isub, 1) := by decide +kernel
theorem dX11_worth_58 : decode cX11_worth 58 = .ok (.iadd, 1) := by decide +kernel
theorem dX11_worth_59 : decode cX11_worth 59 = .ok (.istore_n 2, 1) := by decide +kernel
theorem dX11_worth_60 : decode cX11_worth 60 = .ok (.iinc 3 1, 3) := by decide +kernel
theorem dX11_worth_63 : decode cX11_worth 63 = .ok (.goto (-37), 3) := by decide +kernel
theorem dX11_worth_66 : decode cX11_worth 66 = .ok (.iload_n 2, 1) := by decide +kernel
theorem dX11_worth_67 : decode cX11_worth 67 = .ok (.ireturn, 1) := by decide +kernel
theorem dJ6_bitCount_0f7a4_0 : decode cJ6_bitCount_0f7a4 0 = .ok (.iload_n 0, 1) := by decide +kernel
theorem dJ6_bitCount_0f7a4_1 : decode cJ6_bitCount_0f7a4 1 = .ok (.iload_n 0, 1) := by decide +kernel
theorem dJ6_bitCount_0f7a4_2 : decode cJ6_bitCount_0f7a4 2 = .ok (.iconst 1, 1) := by decide +kernel
theorem dJ6_bitCount_0f7a4_3 : decode cJ6_bitCount_0f7a4 3 = .ok (.iushr, 1) := by decide +kernel
theorem dJ6_bitCount_0f7a4_4 : decode cJ6_bitCount_0f7a4 4 = .ok (.ldc_w 265, 3) := by decide +kernel
theorem dJ6_bitCount_0f7a4_7 : decode cJ6_bitCount_0f7a4 7 = .ok (.iand, 1) := by decide +kernel
theorem dJ6_bitCount_0f7a4_8 : decode cJ6_bitCount_0f7a4 8 = .ok (.isub, 1) := by decide +kernel
theorem dJ6_bitCount_0f7a4_9 : decode cJ6_bitCount_0f7a4 9 = .ok (.istore_n 0, 1) := by decide +kernel
theorem dJ6_bitCount_0f7a4_10 : decode cJ6_bitCount_0f7a4 10 = .ok (.iload_n 0, 1) := by decide +kernel
theorem dJ6_bitCount_0f7a4_11 : decode cJ6_bitCount_0f7a4 11 = .ok (.ldc_w 266, 3) := by decide +kernel
theorem dJ6_bitCount_0f7a4_14 : decode cJ6_bitCount_0f7a4 14 = .ok (.iand, 1) := by decide +kernel
theorem dJ6_bitCount_0f7a4_15 : decode cJ6_bitCount_0f7a4 15 = .ok (.iload_n 0, 1) := by decide +kernel
theorem dJ6_bitCount_0f7a4_16 : decode cJ6_bitCount_0f7a4 16 = .ok (.iconst 2, 1) := by decide +kernel
theorem dJ6_bitCount_0f7a4_17 : decode cJ6_bitCount_0f7a4 17 = .ok (.iushr, 1) := by decide +kernel
theorem dJ6_bitCount_0f7a4_18 : decode cJ6_bitCount_0f7a4 18 = .ok (.ldc_w 266, 3) := by decide +kernel
theorem dJ6_bitCount_0f7a4_21 : decode cJ6_bitCount_0f7a4 21 = .ok (.iand, 1) := by decide +kernel
theorem dJ6_bitCount_0f7a4_22 : decode cJ6_bitCount_0f7a4 22 = .ok (.iadd, 1) := by decide +kernel
theorem dJ6_bitCount_0f7a4_23 : decode cJ6_bitCount_0f7a4 23 = .ok (.istore_n 0, 1) := by decide +kernel
theorem dJ6_bitCount_0f7a4_24 : decode cJ6_bitCount_0f7a4 24 = .ok (.iload_n 0, 1) := by decide +kernel
theorem dJ6_bitCount_0f7a4_25 : decode cJ6_bitCount_0f7a4 25 = .ok (.iload_n 0, 1) := by decide +kernel
theorem dJ6_bitCount_0f7a4_26 : decode cJ6_bitCount_0f7a4 26 = .ok (.iconst 4, 1) := by decide +kernel
theorem dJ6_bitCount_0f7a4_27 : decode cJ6_bitCount_0f7a4 27 = .ok (.iushr, 1) := by decide +kernel
theorem dJ6_bitCount_0f7a4_28 : decode cJ6_bitCount_0f7a4 28 = .ok (.iadd, 1) := by decide +kernel
theorem dJ6_bitCount_0f7a4_29 : decode cJ6_bitCount_0f7a4 29 = .ok (.ldc_w 267, 3) := by decide +kernel
theorem dJ6_bitCount_0f7a4_32 : decode cJ6_bitCount_0f7a4 32 = .ok (.iand, 1) := by decide +kernel
theorem dJ6_bitCount_0f7a4_33 : decode cJ6_bitCount_0f7a4 33 = .ok (.istore_n 0, 1) := by decide +kernel
theorem dJ6_bitCount_0f7a4_34 : decode cJ6_bitCount_0f7a4 34 = .ok (.iload_n 0, 1) := by decide +kernel
theorem dJ6_bitCount_0f7a4_35 : decode cJ6_bitCount_0f7a4 35 = .ok (.iload_n 0, 1) := by decide +kernel
theorem dJ6_bitCount_0f7a4_36 : decode cJ6_bitCount_0f7a4 36 = .ok (.bipush 8, 2) := by decide +kernel
theorem dJ6_bitCount_0f7a4_38 : decode cJ6_bitCount_0f7a4 38 = .ok (.iushr, 1) := by decide +kernel
theorem dJ6_bitCount_0f7a4_39 : decode cJ6_bitCount_0f7a4 39 = .ok (.iadd, 1) := by decide +kernel
theorem dJ6_bitCount_0f7a4_40 : decode cJ6_bitCount_0f7a4 40 = .ok (.istore_n 0, 1) := by decide +kernel
theorem dJ6_bitCount_0f7a4_41 : decode cJ6_bitCount_0f7a4 41 = .ok (.iload_n 0, 1) := by decide +kernel
theorem dJ6_bitCount_0f7a4_42 : decode cJ6_bitCount_0f7a4 42 = .ok (.iload_n 0, 1) := by decide +kernel
theorem dJ6_bitCount_0f7a4_43 : decode cJ6_bitCount_0f7a4 43 = .ok (.bipush 16, 2) := by decide +kernel
theorem dJ6_bitCount_0f7a4_45 : decode cJ6_bitCount_0f7a4 45 = .ok (.iushr, 1) := by decide +kernel
theorem dJ6_bitCount_0f7a4_46 : decode cJ6_bitCount_0f7a4 46 = .ok (.iadd, 1) := by decide +kernel
theorem dJ6_bitCount_0f7a4_47 : decode cJ6_bitCount_0f7a4 47 = .ok (.istore_n 0, 1) := by decide +kernel
theorem dJ6_bitCount_0f7a4_48 : decode cJ6_bitCount_0f7a4 48 = .ok (.iload_n 0, 1) := by decide +kernel
theorem dJ6_bitCount_0f7a4_49 : decode cJ6_bitCount_0f7a4 49 = .ok (.bipush 63, 2) := by decide +kernel
theorem dJ6_bitCount_0f7a4_51 : decode cJ6_bitCount_0f7a4 51 = .ok (.iand, 1) := by decide +kernel
theorem dJ6_bitCount_0f7a4_52 : decode cJ6_bitCount_0f7a4 52 = .ok (.ireturn, 1) := by decide +kernel
theorem dJ9_min_7cf53_0 : decode cJ9_min_7cf53 0 = .ok (.iload_n 0, 1) := by decide +kernel
theorem dJ9_min_7cf53_1 : decode cJ9_min_7cf53 1 = .ok (.iload_n 1, 1) := by decide +kernel
theorem dJ9_min_7cf53_2 : decode cJ9_min_7cf53 2 = .ok (.if_icmp .gt 7, 3) := by decide +kernel
theorem dJ9_min_7cf53_5 : decode cJ9_min_7cf53 5 = .ok (.iload_n 0, 1) := by decide +kernel
theorem dJ9_min_7cf53_6 : decode cJ9_min_7cf53 6 = .ok (.goto 4, 3) := by decide +kernel
theorem dJ9_min_7cf53_9 : decode cJ9_min_7cf53 9 = .ok (.iload_n 1, 1) := by decide +kernel
theorem dJ9_min_7cf53_10 : decode cJ9_min_7cf53 10 = .ok (.ireturn, 1) := by decide +kernel
end
section
theorem zz_last : True := trivial
end
