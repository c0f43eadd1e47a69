/-! THE POOL: the world of class, reference and answer cell as one list of cells, k the place; the ints that they hold are one function S: place, index -> int -/
abbrev ps_S : Type := Nat → Nat → Int32
abbrev ps_X : Type := Nat × (Nat → Nat) × (Nat → Nat → Bool)
abbrev ps_I : Type := ClassId × ClassId × ClassId × ClassId × ClassId
def ps_up (S : ps_S) (k i : Nat) (v : Int32) : ps_S := fun a b => if a = k ∧ b = i then v else S a b
def ps_tab : List (Nat × Nat) := [(19, 0), (14, 0), (0, 16), (0, 16), (1, 16), (2, 16), (0, 16), (0, 16), (0, 16), (0, 16), (0, 16), (0, 16), (0, 16), (0, 16), (0, 16), (0, 16), (0, 16), (0, 16), (0, 16), (0, 16), (0, 16), (0, 16), (16, 0), (15, 0), (0, 16), (0, 16), (15, 0), (0, 16), (0, 16), (15, 0), (0, 16), (0, 16), (15, 0), (0, 16), (0, 16), (1, 16), (11, 0), (2, 16), (0, 16), (0, 16), (0, 16), (0, 16), (0, 16), (0, 16), (0, 16), (0, 16), (0, 16), (0, 16), (0, 16), (0, 16), (0, 16), (0, 16), (0, 16), (0, 16), (15, 0), (0, 16), (0, 16), (3, 12), (10, 0), (13, 0), (0, 256), (2, 16), (0, 256), (0, 256), (0, 256), (0, 256), (0, 256), (0, 256), (0, 256), (0, 256), (0, 256), (0, 256), (0, 256), (0, 256), (0, 256), (0, 256), (0, 256), (0, 256), (12, 0), (0, 16), (20, 0), (0, 16), (0, 16), (1, 16), (0, 256), (0, 128), (1, 32), (1, 16), (1, 16), (0, 3), (0, 3), (0, 12), (0, 72), (0, 72), (1, 72), (0, 72), (0, 16), (0, 256), (0, 4096), (0, 4096), (0, 16), (0, 256), (4, 1)]
def ps_kd (k : Nat) : Nat := if k < 103 then (ps_tab.getD k (9, 0)).1 else ([17, 0, 1, 0, 0, 18, 0] : List Nat).getD ((k - 103) % 7) 9
def ps_ln (k : Nat) : Nat := if k < 103 then (ps_tab.getD k (9, 0)).2 else ([0, 6, 6, 6, 6, 0, 16] : List Nat).getD ((k - 103) % 7) 0
def ps_rf (w : ps_X) (k j t : Nat) : Value := if w.2.2 k j then .ref (w.2.1 t) else .null
def ps_cel (I : ps_I) (w : ps_X) (r : Nat → Int32) (k : Nat) : va_E := match ps_kd k with
  | 0 => .inl (I.1, ps_ln k, .inl r)
  | 1 => .inl (I.2.1, ps_ln k, .inl r)
  | 2 => .inl (I.2.2.1, ps_ln k, .inr (.inr (.inr (.inr (fun i => if i < ps_ln k then some (w.2.1 (k + 1 + i)) else none)))))
  | 3 => .inl (I.2.2.2.1, ps_ln k, .inr (.inr (.inr (.inr (fun i => if r i = 0 then none else some (w.2.1 (103 + 7 * i)))))))
  | 4 => .inl (I.2.2.2.2, ps_ln k, .inr (.inl (fun i => (r i).toInt64)))
  | 10 => .inr (0, [ps_rf w k 0 1, ps_rf w k 1 22, ps_rf w k 2 36])
  | 11 => .inr (1, [ps_rf w k 0 37])
  | 12 => .inr (2, [ps_rf w k 0 1, ps_rf w k 1 79, .int (r 2)])
  | 13 => .inr (3, [ps_rf w k 0 60, ps_rf w k 1 61])
  | 14 => .inr (4, [ps_rf w k 0 2, ps_rf w k 1 3, ps_rf w k 2 4, ps_rf w k 3 5, .int (r 4)])
  | 15 => .inr (5, [ps_rf w k 0 (k + 1), ps_rf w k 1 (k + 2), .int (r 2)])
  | 16 => .inr (6, [ps_rf w k 0 1, ps_rf w k 1 23, ps_rf w k 2 26, ps_rf w k 3 29, ps_rf w k 4 32, ps_rf w k 5 35, .int (r 6)])
  | 17 => .inr (7, [.int (r 0), ps_rf w k 1 (k + 4), ps_rf w k 2 (k + 5), ps_rf w k 3 (k + 1), ps_rf w k 4 (k + 2), ps_rf w k 5 (k + 3)])
  | 18 => .inr (8, [ps_rf w k 0 (k + 1)])
  | 19 => .inr (9, [ps_rf w k 0 1, ps_rf w k 1 22, ps_rf w k 2 54, ps_rf w k 3 57, ps_rf w k 4 58, ps_rf w k 5 59, ps_rf w k 6 78, ps_rf w k 7 36, .int (r 8), .int (r 9)])
  | 20 => .inr (10, [.int (r 0), .int (r 1), .int (r 2), ps_rf w k 3 81, ps_rf w k 4 82, ps_rf w k 5 83, ps_rf w k 6 84, ps_rf w k 7 85, ps_rf w k 8 86, ps_rf w k 9 87, ps_rf w k 10 88, ps_rf w k 11 89, ps_rf w k 12 90, .int (r 13), .int (r 14), .int (r 15), ps_rf w k 16 91, ps_rf w k 17 92, ps_rf w k 18 93, ps_rf w k 19 94, ps_rf w k 20 95, ps_rf w k 21 96, ps_rf w k 22 97, ps_rf w k 23 98, ps_rf w k 24 99, ps_rf w k 25 100, .int (r 26), ps_rf w k 27 101])
  | _ => .inl (I.1, 0, .inl r)
theorem ps_cel_10 {I : ps_I} {w : ps_X} {k : Nat} (h : ps_kd k = 10) (r : Nat → Int32) : ps_cel I w r k = .inr (0, [ps_rf w k 0 1, ps_rf w k 1 22, ps_rf w k 2 36]) := by simp only [ps_cel, h]
theorem ps_cel_11 {I : ps_I} {w : ps_X} {k : Nat} (h : ps_kd k = 11) (r : Nat → Int32) : ps_cel I w r k = .inr (1, [ps_rf w k 0 37]) := by simp only [ps_cel, h]
theorem ps_cel_12 {I : ps_I} {w : ps_X} {k : Nat} (h : ps_kd k = 12) (r : Nat → Int32) : ps_cel I w r k = .inr (2, [ps_rf w k 0 1, ps_rf w k 1 79, .int (r 2)]) := by simp only [ps_cel, h]
theorem ps_cel_13 {I : ps_I} {w : ps_X} {k : Nat} (h : ps_kd k = 13) (r : Nat → Int32) : ps_cel I w r k = .inr (3, [ps_rf w k 0 60, ps_rf w k 1 61]) := by simp only [ps_cel, h]
theorem ps_cel_14 {I : ps_I} {w : ps_X} {k : Nat} (h : ps_kd k = 14) (r : Nat → Int32) : ps_cel I w r k = .inr (4, [ps_rf w k 0 2, ps_rf w k 1 3, ps_rf w k 2 4, ps_rf w k 3 5, .int (r 4)]) := by simp only [ps_cel, h]
theorem ps_cel_15 {I : ps_I} {w : ps_X} {k : Nat} (h : ps_kd k = 15) (r : Nat → Int32) : ps_cel I w r k = .inr (5, [ps_rf w k 0 (k + 1), ps_rf w k 1 (k + 2), .int (r 2)]) := by simp only [ps_cel, h]
theorem ps_cel_16 {I : ps_I} {w : ps_X} {k : Nat} (h : ps_kd k = 16) (r : Nat → Int32) : ps_cel I w r k = .inr (6, [ps_rf w k 0 1, ps_rf w k 1 23, ps_rf w k 2 26, ps_rf w k 3 29, ps_rf w k 4 32, ps_rf w k 5 35, .int (r 6)]) := by simp only [ps_cel, h]
theorem ps_cel_17 {I : ps_I} {w : ps_X} {k : Nat} (h : ps_kd k = 17) (r : Nat → Int32) : ps_cel I w r k = .inr (7, [.int (r 0), ps_rf w k 1 (k + 4), ps_rf w k 2 (k + 5), ps_rf w k 3 (k + 1), ps_rf w k 4 (k + 2), ps_rf w k 5 (k + 3)]) := by simp only [ps_cel, h]
theorem ps_cel_18 {I : ps_I} {w : ps_X} {k : Nat} (h : ps_kd k = 18) (r : Nat → Int32) : ps_cel I w r k = .inr (8, [ps_rf w k 0 (k + 1)]) := by simp only [ps_cel, h]
theorem ps_cel_19 {I : ps_I} {w : ps_X} {k : Nat} (h : ps_kd k = 19) (r : Nat → Int32) : ps_cel I w r k = .inr (9, [ps_rf w k 0 1, ps_rf w k 1 22, ps_rf w k 2 54, ps_rf w k 3 57, ps_rf w k 4 58, ps_rf w k 5 59, ps_rf w k 6 78, ps_rf w k 7 36, .int (r 8), .int (r 9)]) := by simp only [ps_cel, h]
theorem ps_cel_20 {I : ps_I} {w : ps_X} {k : Nat} (h : ps_kd k = 20) (r : Nat → Int32) : ps_cel I w r k = .inr (10, [.int (r 0), .int (r 1), .int (r 2), ps_rf w k 3 81, ps_rf w k 4 82, ps_rf w k 5 83, ps_rf w k 6 84, ps_rf w k 7 85, ps_rf w k 8 86, ps_rf w k 9 87, ps_rf w k 10 88, ps_rf w k 11 89, ps_rf w k 12 90, .int (r 13), .int (r 14), .int (r 15), ps_rf w k 16 91, ps_rf w k 17 92, ps_rf w k 18 93, ps_rf w k 19 94, ps_rf w k 20 95, ps_rf w k 21 96, ps_rf w k 22 97, ps_rf w k 23 98, ps_rf w k 24 99, ps_rf w k 25 100, .int (r 26), ps_rf w k 27 101]) := by simp only [ps_cel, h]
theorem ps_cel_0 {I : ps_I} {w : ps_X} {k : Nat} (h : ps_kd k = 0) (r : Nat → Int32) : ps_cel I w r k = .inl (I.1, ps_ln k, .inl r) := by simp only [ps_cel, h]
theorem ps_cel_1 {I : ps_I} {w : ps_X} {k : Nat} (h : ps_kd k = 1) (r : Nat → Int32) : ps_cel I w r k = .inl (I.2.1, ps_ln k, .inl r) := by simp only [ps_cel, h]
theorem ps_cel_2 {I : ps_I} {w : ps_X} {k : Nat} (h : ps_kd k = 2) (r : Nat → Int32) : ps_cel I w r k = .inl (I.2.2.1, ps_ln k, .inr (.inr (.inr (.inr (fun i => if i < ps_ln k then some (w.2.1 (k + 1 + i)) else none))))) := by simp only [ps_cel, h]
theorem ps_cel_3 {I : ps_I} {w : ps_X} {k : Nat} (h : ps_kd k = 3) (r : Nat → Int32) : ps_cel I w r k = .inl (I.2.2.2.1, ps_ln k, .inr (.inr (.inr (.inr (fun i => if r i = 0 then none else some (w.2.1 (103 + 7 * i))))))) := by simp only [ps_cel, h]
theorem ps_cel_4 {I : ps_I} {w : ps_X} {k : Nat} (h : ps_kd k = 4) (r : Nat → Int32) : ps_cel I w r k = .inl (I.2.2.2.2, ps_ln k, .inr (.inl (fun i => (r i).toInt64))) := by simp only [ps_cel, h]
def ps_ws (I : ps_I) (w : ps_X) (S : ps_S) : va_W := (List.range w.1).map (fun k => (w.2.1 k, ps_cel I w (S k) k))
theorem ps_ws_at {I : ps_I} {w : ps_X} {S : ps_S} {k : Nat} (hk : k < w.1) : (ps_ws I w S)[k]? = some (w.2.1 k, ps_cel I w (S k) k) := by
  simp [ps_ws, hk]
theorem ps_ws_set {I : ps_I} {w : ps_X} {S S' : ps_S} {k : Nat} {r : Nat → Int32} (h : S' k = r) (ho : ∀ j, j ≠ k → S' j = S j) : (ps_ws I w S).set k (w.2.1 k, ps_cel I w r k) = ps_ws I w S' := by
  subst h
  apply List.ext_getElem?
  intro i
  rw [List.getElem?_set]
  by_cases hi : k = i
  · subst hi
    by_cases hk : k < w.1
    · simp [ps_ws, hk]
    · simp [ps_ws, hk]
  · rw [if_neg hi]
    by_cases hk : i < w.1
    · simp [ps_ws, hk, ho i (fun e => hi e.symm)]
    · simp [ps_ws, hk]
theorem ps_up_row (S : ps_S) (k i : Nat) (v : Int32) : ps_up S k i v k = fun b => if b = i then v else S k b := by
  funext b
  simp [ps_up]
theorem ps_up_off (S : ps_S) (k i : Nat) (v : Int32) (j : Nat) (h : j ≠ k) : ps_up S k i v j = S j := by
  funext b
  simp [ps_up, h]
def ps_Ty (I : ps_I) : List (ClassId × FieldType) := [(I.1, .int), (I.2.1, .boolean), (I.2.2.1, .array .int), (I.2.2.2.1, .object RX8), (I.2.2.2.2, .long)]
/-- a file that the table of files names lies in the pool -/
def ps_inv (w : ps_X) (S : ps_S) : Prop := ∀ i, S 57 i ≠ 0 → 110 + 7 * i ≤ w.1
theorem ps_inv_up {w : ps_X} {S : ps_S} {k i : Nat} {v : Int32} (h : ps_inv w S) (hk : k ≠ 57) : ps_inv w (ps_up S k i v) := fun j hj => h j (by rw [ps_up_off S k i v 57 (Ne.symm hk)] at hj; exact hj)
abbrev ps_G : Type := (Program × Launch × Env × Room × State) × (MethodId × Array Value × List Frame × Method × Code) × (va_G × ps_I) × ((Nat → Prop) × Heap × (State → Prop))
def ps_V (G : ps_G) (nL kc ks : Nat) (w : ps_X) (S : ps_S) (pc : Nat) (lv : List (Nat × Value)) (st : List Value) : Prop :=
  ∀ (H : Heap) (locs : List Loc) (ls : Array Slot), va_P G.2.2.1.1 vwCl (ps_ws G.2.2.1.2 w S) H → va_D G.2.2.2.1 (ps_ws G.2.2.1.2 w S) → va_S G.2.2.2.1 G.2.2.2.2.1 H locs → ps_inv w S → lv_has ls nL lv →
    W G.1.1 G.1.2.1 G.1.2.2.1 G.1.2.2.2.1 G.1.2.2.2.2 G.2.1.1 G.2.1.2.1 G.2.1.2.2.1 G.2.1.2.2.2.1 G.2.1.2.2.2.2 H locs kc ks G.2.2.2.2.2 (F0 G.2.1.1 pc ls st)
def ps_ok (G : ps_G) (cc : ByteArray) (own : String) (nL : Nat) (Ts : List Cond) (R : Room) : Prop :=
  CallFix G.1.1 G.2.1.1 G.2.1.2.2.2.2 cc nL G.1.2.2.2.2 G.2.1.2.1 Ts own ∧ va_K G.2.2.1.1 vwCl (ps_Ty G.2.2.1.2) G.1.2.2.2.2 ∧ (∀ q, G.2.2.2.2.1.size ≤ q → G.2.2.2.1 q) ∧ G.1.2.2.2.1 = R
def ps_rm (f lo : Nat) : Room := { frames := f, cells := 0, slots := 0, locals := lo }
/-- an index within -/
def ps_ib (i : Int32) (n : Nat) : Bool := decide (¬ (i < 0 ∨ n ≤ i.toNatClampNeg))
theorem ps_ib_in {i : Int32} {n : Nat} (h : ps_ib i n = true) : vp_in i n := of_decide_eq_true (p := ¬ (i < 0 ∨ n ≤ i.toNatClampNeg)) h
/-- a loop: a step's answer is the next state, or the end -/
def ps_it {α β : Type} (step : α → Option (α ⊕ β)) : Nat → α → Option β
  | 0, _ => none
  | n + 1, a => (step a).bind (fun r => match r with
    | .inl a' => ps_it step n a'
    | .inr b => some b)
theorem ps_itV {α β : Type} {step : α → Option (α ⊕ β)} (VV : α → Prop) (E : β → Prop) (h : ∀ a r, step a = some r → (∀ a', r = .inl a' → VV a') → (∀ b, r = .inr b → E b) → VV a) : ∀ (n : Nat) (a : α) (b : β), ps_it step n a = some b → E b → VV a
  | 0, _, _, e, _ => by cases e
  | n + 1, a, b, e, hE => by
    have e' : (step a).bind (fun r => match r with
      | .inl a' => ps_it step n a'
      | .inr b => some b) = some b := e
    obtain ⟨r, hr, e2⟩ := Option.bind_eq_some_iff.mp e'
    cases r with
    | inl a' => exact h a _ hr (fun a'' q => by cases q; exact ps_itV VV E h n a' b e2 hE) (fun _ q => by cases q)
    | inr b0 => cases e2; exact h a _ hr (fun _ q => by cases q) (fun b'' q => by cases q; exact hE)
theorem ps_bd {α β : Type} {x : Option α} {f : α → Option β} {z : β} (h : x.bind f = some z) : ∃ a, x = some a ∧ f a = some z := Option.bind_eq_some_iff.mp h
theorem ps_ip {α : Type} {c : Prop} [Decidable c] {a b : Option α} {z : α} (hc : c) (h : (if c then a else b) = some z) : a = some z := by rw [if_pos hc] at h; exact h
theorem ps_in {α : Type} {c : Prop} [Decidable c] {a b : Option α} {z : α} (hc : ¬ c) (h : (if c then a else b) = some z) : b = some z := by rw [if_neg hc] at h; exact h
theorem ps_ig {α : Type} {c : Prop} [Decidable c] {a : Option α} {z : α} (h : (if c then a else none) = some z) : c ∧ a = some z := by
  by_cases hc : c
  · rw [if_pos hc] at h; exact ⟨hc, h⟩
  · rw [if_neg hc] at h; cases h
section PS
variable {G : ps_G} {nL kc ks : Nat} {w : ps_X} {S S' : ps_S} {pc : Nat} {lv lv' : List (Nat × Value)} {rest : List Value} {cc : ByteArray} {own : String} {Ts : List Cond} {R : Room}
theorem ps_sub {st : List Value} (is : List Nat) (h : lv_pick lv is = lv') (kk : ps_V G nL kc ks w S pc lv' st) : ps_V G nL kc ks w S pc lv st := fun H locs ls hP hD hS hi hl => kk H locs ls hP hD hS hi (lv_sub hl is h)
theorem ps_getinv {st : List Value} (kk : ps_inv w S → ps_V G nL kc ks w S pc lv st) : ps_V G nL kc ks w S pc lv st := fun H locs ls hP hD hS hi hl => kk hi H locs ls hP hD hS hi hl
theorem ps_iconst (hG : ps_ok G cc own nL Ts R) {n : Int} {v : Int32} (hdg : decode cc pc = .ok (.iconst n, 1)) (hv : Int32.ofInt n = v) (kk : ps_V G nL kc ks w S (pc + 1) lv (.int v :: rest)) : ps_V G nL kc ks w S pc lv (rest) := fun H locs ls hP hD hS hi hl => lv_iconst hG.1.1 hG.1.2.1 hdg hv (kk H locs ls hP hD hS hi hl)
theorem ps_bipush (hG : ps_ok G cc own nL Ts R) {n : Int} {v : Int32} (hdg : decode cc pc = .ok (.bipush n, 2)) (hv : (Int8.ofInt n).toInt32 = v) (kk : ps_V G nL kc ks w S (pc + 2) lv (.int v :: rest)) : ps_V G nL kc ks w S pc lv (rest) := fun H locs ls hP hD hS hi hl => lv_bipush hG.1.1 hG.1.2.1 hdg hv (kk H locs ls hP hD hS hi hl)
theorem ps_sipush (hG : ps_ok G cc own nL Ts R) {n : Int} {v : Int32} (hdg : decode cc pc = .ok (.sipush n, 3)) (hv : (Int16.ofInt n).toInt32 = v) (kk : ps_V G nL kc ks w S (pc + 3) lv (.int v :: rest)) : ps_V G nL kc ks w S pc lv (rest) := fun H locs ls hP hD hS hi hl => lv_sipush hG.1.1 hG.1.2.1 hdg hv (kk H locs ls hP hD hS hi hl)
theorem ps_iadd (hG : ps_ok G cc own nL Ts R) {x y : Int32} (hdg : decode cc pc = .ok (.iadd, 1))  (kk : ps_V G nL kc ks w S (pc + 1) lv (.int (x + y) :: rest)) : ps_V G nL kc ks w S pc lv (.int y :: .int x :: rest) := fun H locs ls hP hD hS hi hl => lv_iadd hG.1.1 hG.1.2.1 hdg  (kk H locs ls hP hD hS hi hl)
theorem ps_isub (hG : ps_ok G cc own nL Ts R) {x y : Int32} (hdg : decode cc pc = .ok (.isub, 1))  (kk : ps_V G nL kc ks w S (pc + 1) lv (.int (x - y) :: rest)) : ps_V G nL kc ks w S pc lv (.int y :: .int x :: rest) := fun H locs ls hP hD hS hi hl => lv_isub hG.1.1 hG.1.2.1 hdg  (kk H locs ls hP hD hS hi hl)
theorem ps_imul (hG : ps_ok G cc own nL Ts R) {x y : Int32} (hdg : decode cc pc = .ok (.imul, 1))  (kk : ps_V G nL kc ks w S (pc + 1) lv (.int (x * y) :: rest)) : ps_V G nL kc ks w S pc lv (.int y :: .int x :: rest) := fun H locs ls hP hD hS hi hl => lv_imul hG.1.1 hG.1.2.1 hdg  (kk H locs ls hP hD hS hi hl)
theorem ps_iand (hG : ps_ok G cc own nL Ts R) {x y : Int32} (hdg : decode cc pc = .ok (.iand, 1))  (kk : ps_V G nL kc ks w S (pc + 1) lv (.int (x &&& y) :: rest)) : ps_V G nL kc ks w S pc lv (.int y :: .int x :: rest) := fun H locs ls hP hD hS hi hl => lv_iand hG.1.1 hG.1.2.1 hdg  (kk H locs ls hP hD hS hi hl)
theorem ps_ior (hG : ps_ok G cc own nL Ts R) {x y : Int32} (hdg : decode cc pc = .ok (.ior, 1))  (kk : ps_V G nL kc ks w S (pc + 1) lv (.int (x ||| y) :: rest)) : ps_V G nL kc ks w S pc lv (.int y :: .int x :: rest) := fun H locs ls hP hD hS hi hl => lv_ior hG.1.1 hG.1.2.1 hdg  (kk H locs ls hP hD hS hi hl)
theorem ps_ixor (hG : ps_ok G cc own nL Ts R) {x y : Int32} (hdg : decode cc pc = .ok (.ixor, 1))  (kk : ps_V G nL kc ks w S (pc + 1) lv (.int (x ^^^ y) :: rest)) : ps_V G nL kc ks w S pc lv (.int y :: .int x :: rest) := fun H locs ls hP hD hS hi hl => lv_ixor hG.1.1 hG.1.2.1 hdg  (kk H locs ls hP hD hS hi hl)
theorem ps_ishl (hG : ps_ok G cc own nL Ts R) {x y : Int32} (hdg : decode cc pc = .ok (.ishl, 1))  (kk : ps_V G nL kc ks w S (pc + 1) lv (.int (x <<< (y &&& 31)) :: rest)) : ps_V G nL kc ks w S pc lv (.int y :: .int x :: rest) := fun H locs ls hP hD hS hi hl => lv_ishl hG.1.1 hG.1.2.1 hdg  (kk H locs ls hP hD hS hi hl)
theorem ps_ishr (hG : ps_ok G cc own nL Ts R) {x y : Int32} (hdg : decode cc pc = .ok (.ishr, 1))  (kk : ps_V G nL kc ks w S (pc + 1) lv (.int (x >>> (y &&& 31)) :: rest)) : ps_V G nL kc ks w S pc lv (.int y :: .int x :: rest) := fun H locs ls hP hD hS hi hl => lv_ishr hG.1.1 hG.1.2.1 hdg  (kk H locs ls hP hD hS hi hl)
theorem ps_idiv (hG : ps_ok G cc own nL Ts R) {x y : Int32} (hdg : decode cc pc = .ok (.idiv, 1)) (hne : ¬ y = 0) (kk : ps_V G nL kc ks w S (pc + 1) lv (.int (x / y) :: rest)) : ps_V G nL kc ks w S pc lv (.int y :: .int x :: rest) := fun H locs ls hP hD hS hi hl => lv_idiv hG.1.1 hG.1.2.1 hdg hne (kk H locs ls hP hD hS hi hl)
theorem ps_irem (hG : ps_ok G cc own nL Ts R) {x y : Int32} (hdg : decode cc pc = .ok (.irem, 1)) (hne : ¬ y = 0) (kk : ps_V G nL kc ks w S (pc + 1) lv (.int (x - x / y * y) :: rest)) : ps_V G nL kc ks w S pc lv (.int y :: .int x :: rest) := fun H locs ls hP hD hS hi hl => lv_irem hG.1.1 hG.1.2.1 hdg hne (kk H locs ls hP hD hS hi hl)
theorem ps_ineg (hG : ps_ok G cc own nL Ts R) {x : Int32} (hdg : decode cc pc = .ok (.ineg, 1))  (kk : ps_V G nL kc ks w S (pc + 1) lv (.int (-x) :: rest)) : ps_V G nL kc ks w S pc lv (.int x :: rest) := fun H locs ls hP hD hS hi hl => lv_ineg hG.1.1 hG.1.2.1 hdg  (kk H locs ls hP hD hS hi hl)
def ps_ushr (x y : Int32) : Int32 := (x.toUInt32 >>> (y.toUInt32 &&& Int32.toUInt32 31)).toInt32
theorem ps_iushr (hG : ps_ok G cc own nL Ts R) {x y : Int32} (hdg : decode cc pc = .ok (.iushr, 1))  (kk : ps_V G nL kc ks w S (pc + 1) lv (.int (ps_ushr x y) :: rest)) : ps_V G nL kc ks w S pc lv (.int y :: .int x :: rest) := fun H locs ls hP hD hS hi hl => lv_iushr hG.1.1 hG.1.2.1 hdg rfl (kk H locs ls hP hD hS hi hl)
theorem ps_dup (hG : ps_ok G cc own nL Ts R) {v : Value} (hdg : decode cc pc = .ok (.dup, 1)) (hv : v.category = 1) (kk : ps_V G nL kc ks w S (pc + 1) lv (v :: v :: rest)) : ps_V G nL kc ks w S pc lv (v :: rest) := fun H locs ls hP hD hS hi hl => lv_dup hG.1.1 hG.1.2.1 hdg hv (kk H locs ls hP hD hS hi hl)
theorem ps_dup2 (hG : ps_ok G cc own nL Ts R) {va vb : Value} (hdg : decode cc pc = .ok (.dup2, 1)) (hva : va.category = 1) (hvb : vb.category = 1) (kk : ps_V G nL kc ks w S (pc + 1) lv (va :: vb :: va :: vb :: rest)) : ps_V G nL kc ks w S pc lv (va :: vb :: rest) := fun H locs ls hP hD hS hi hl => lv_dup2_11 hG.1.1 hG.1.2.1 hdg hva hvb (kk H locs ls hP hD hS hi hl)
theorem ps_null (hG : ps_ok G cc own nL Ts R)  (hdg : decode cc pc = .ok (.aconst_null, 1))  (kk : ps_V G nL kc ks w S (pc + 1) lv (.null :: rest)) : ps_V G nL kc ks w S pc lv (rest) := fun H locs ls hP hD hS hi hl => lv_null hG.1.1 hG.1.2.1 hdg  (kk H locs ls hP hD hS hi hl)
theorem ps_i2l (hG : ps_ok G cc own nL Ts R) {x : Int32} {v : Int64} (hdg : decode cc pc = .ok (.i2l, 1)) (hv : x.toInt64 = v) (kk : ps_V G nL kc ks w S (pc + 1) lv (.long v :: rest)) : ps_V G nL kc ks w S pc lv (.int x :: rest) := fun H locs ls hP hD hS hi hl => lv_i2l hG.1.1 hG.1.2.1 hdg hv (kk H locs ls hP hD hS hi hl)
theorem ps_lconst (hG : ps_ok G cc own nL Ts R) {n : Fin 2} {v : Int64} (hdg : decode cc pc = .ok (.lconst n, 1)) (hv : Int64.ofNat (n : Nat) = v) (kk : ps_V G nL kc ks w S (pc + 1) lv (.long v :: rest)) : ps_V G nL kc ks w S pc lv (rest) := fun H locs ls hP hD hS hi hl => lv_lconst hG.1.1 hG.1.2.1 hdg hv (kk H locs ls hP hD hS hi hl)
theorem ps_iload_n (hG : ps_ok G cc own nL Ts R) {k : Fin 4} {i : Nat} {x : Int32} (hdg : decode cc pc = .ok (.iload_n k, 1)) (hk : (k : Nat) = i) (j : Nat) (hj : lv[j]? = some (i, .int x)) (kk : ps_V G nL kc ks w S (pc + 1) lv (.int x :: rest)) : ps_V G nL kc ks w S pc lv rest := fun H locs ls hP hD hS hi hl => lv_iload_n hG.1.1 hG.1.2.1 hdg hk (lv_at hl j hj) (kk H locs ls hP hD hS hi hl)
theorem ps_iload (hG : ps_ok G cc own nL Ts R) {i : Nat} {x : Int32} (hdg : decode cc pc = .ok (.iload i, 2)) (j : Nat) (hj : lv[j]? = some (i, .int x)) (kk : ps_V G nL kc ks w S (pc + 2) lv (.int x :: rest)) : ps_V G nL kc ks w S pc lv rest := fun H locs ls hP hD hS hi hl => lv_iload hG.1.1 hG.1.2.1 hdg (lv_at hl j hj) (kk H locs ls hP hD hS hi hl)
theorem ps_istore_n (hG : ps_ok G cc own nL Ts R) {k : Fin 4} {i : Nat} {x : Int32} (hdg : decode cc pc = .ok (.istore_n k, 1)) (hk : (k : Nat) = i) (hn : i < nL) (hl9 : (i, Value.int x) :: lv.filter (fun q => !(q.1 == i) && !(q.1 + 1 == i && q.2.category == 2)) = lv') (kk : ps_V G nL kc ks w S (pc + 1) lv' rest) : ps_V G nL kc ks w S pc lv (.int x :: rest) := fun H locs ls hP hD hS hi hl => lv_istore_n hG.1.1 hG.1.2.1 hdg hk hl hn hl9 (fun ls9 hl => kk H locs ls9 hP hD hS hi hl)
theorem ps_istore (hG : ps_ok G cc own nL Ts R) {i : Nat} {x : Int32} (hdg : decode cc pc = .ok (.istore i, 2)) (hn : i < nL) (hl9 : (i, Value.int x) :: lv.filter (fun q => !(q.1 == i) && !(q.1 + 1 == i && q.2.category == 2)) = lv') (kk : ps_V G nL kc ks w S (pc + 2) lv' rest) : ps_V G nL kc ks w S pc lv (.int x :: rest) := fun H locs ls hP hD hS hi hl => lv_istore hG.1.1 hG.1.2.1 hdg hl hn hl9 (fun ls9 hl => kk H locs ls9 hP hD hS hi hl)
theorem ps_aload_n (hG : ps_ok G cc own nL Ts R) {k : Fin 4} {i : Nat} {x : Nat} (hdg : decode cc pc = .ok (.aload_n k, 1)) (hk : (k : Nat) = i) (j : Nat) (hj : lv[j]? = some (i, .ref x)) (kk : ps_V G nL kc ks w S (pc + 1) lv (.ref x :: rest)) : ps_V G nL kc ks w S pc lv rest := fun H locs ls hP hD hS hi hl => lv_aload_n hG.1.1 hG.1.2.1 hdg hk (lv_at hl j hj) (kk H locs ls hP hD hS hi hl)
theorem ps_aload (hG : ps_ok G cc own nL Ts R) {i : Nat} {x : Nat} (hdg : decode cc pc = .ok (.aload i, 2)) (j : Nat) (hj : lv[j]? = some (i, .ref x)) (kk : ps_V G nL kc ks w S (pc + 2) lv (.ref x :: rest)) : ps_V G nL kc ks w S pc lv rest := fun H locs ls hP hD hS hi hl => lv_aload hG.1.1 hG.1.2.1 hdg (lv_at hl j hj) (kk H locs ls hP hD hS hi hl)
theorem ps_astore_n (hG : ps_ok G cc own nL Ts R) {k : Fin 4} {i : Nat} {x : Nat} (hdg : decode cc pc = .ok (.astore_n k, 1)) (hk : (k : Nat) = i) (hn : i < nL) (hl9 : (i, Value.ref x) :: lv.filter (fun q => !(q.1 == i) && !(q.1 + 1 == i && q.2.category == 2)) = lv') (kk : ps_V G nL kc ks w S (pc + 1) lv' rest) : ps_V G nL kc ks w S pc lv (.ref x :: rest) := fun H locs ls hP hD hS hi hl => lv_astore_n hG.1.1 hG.1.2.1 hdg hk hl hn hl9 (fun ls9 hl => kk H locs ls9 hP hD hS hi hl)
theorem ps_astore (hG : ps_ok G cc own nL Ts R) {i : Nat} {x : Nat} (hdg : decode cc pc = .ok (.astore i, 2)) (hn : i < nL) (hl9 : (i, Value.ref x) :: lv.filter (fun q => !(q.1 == i) && !(q.1 + 1 == i && q.2.category == 2)) = lv') (kk : ps_V G nL kc ks w S (pc + 2) lv' rest) : ps_V G nL kc ks w S pc lv (.ref x :: rest) := fun H locs ls hP hD hS hi hl => lv_astore hG.1.1 hG.1.2.1 hdg hl hn hl9 (fun ls9 hl => kk H locs ls9 hP hD hS hi hl)
theorem ps_aload_nN (hG : ps_ok G cc own nL Ts R) {k : Fin 4} {i : Nat} (hdg : decode cc pc = .ok (.aload_n k, 1)) (hk : (k : Nat) = i) (j : Nat) (hj : lv[j]? = some (i, .null)) (kk : ps_V G nL kc ks w S (pc + 1) lv (.null :: rest)) : ps_V G nL kc ks w S pc lv rest := fun H locs ls hP hD hS hi hl => lv_aload_nN hG.1.1 hG.1.2.1 hdg hk (lv_at hl j hj) (kk H locs ls hP hD hS hi hl)
theorem ps_astore_nN (hG : ps_ok G cc own nL Ts R) {k : Fin 4} {i : Nat} (hdg : decode cc pc = .ok (.astore_n k, 1)) (hk : (k : Nat) = i) (hn : i < nL) (hl9 : (i, Value.null) :: lv.filter (fun q => !(q.1 == i) && !(q.1 + 1 == i && q.2.category == 2)) = lv') (kk : ps_V G nL kc ks w S (pc + 1) lv' rest) : ps_V G nL kc ks w S pc lv (.null :: rest) := fun H locs ls hP hD hS hi hl => lv_astore_nN hG.1.1 hG.1.2.1 hdg hk hl hn hl9 (fun ls9 hl => kk H locs ls9 hP hD hS hi hl)
theorem ps_iinc (hG : ps_ok G cc own nL Ts R) {i : Nat} {n : Int} {x v : Int32} (hdg : decode cc pc = .ok (.iinc i n, 3)) (j : Nat) (hj : lv[j]? = some (i, .int x)) (hv : x + Int32.ofInt n = v) (hn : i < nL) (hl9 : (i, Value.int v) :: lv.filter (fun q => !(q.1 == i) && !(q.1 + 1 == i && q.2.category == 2)) = lv') (kk : ps_V G nL kc ks w S (pc + 3) lv' rest) : ps_V G nL kc ks w S pc lv rest := fun H locs ls hP hD hS hi hl => lv_iinc hG.1.1 hG.1.2.1 hdg hl hj hv hn hl9 (fun ls9 hl => kk H locs ls9 hP hD hS hi hl)
theorem ps_if_eq (hG : ps_ok G cc own nL Ts R) {x : Int32} {off : Int} {tgt : Nat} (hdg : decode cc pc = .ok (.ifCond .eq off, 3)) (ht : (pc : Int) + off = (tgt : Int)) (kt : x = 0 → ps_V G nL kc ks w S tgt lv rest) (kf : ¬ x = 0 → ps_V G nL kc ks w S (pc + 3) lv rest) : ps_V G nL kc ks w S pc lv (.int x :: rest) := fun H locs ls hP hD hS hi hl => lv_if_eq hG.1.1 hG.1.2.1 hdg ht (fun c => kt c H locs ls hP hD hS hi hl) (fun c => kf c H locs ls hP hD hS hi hl)
theorem ps_icmp_eq (hG : ps_ok G cc own nL Ts R) {x y : Int32} {off : Int} {tgt : Nat} (hdg : decode cc pc = .ok (.if_icmp .eq off, 3)) (ht : (pc : Int) + off = (tgt : Int)) (kt : x = y → ps_V G nL kc ks w S tgt lv rest) (kf : ¬ x = y → ps_V G nL kc ks w S (pc + 3) lv rest) : ps_V G nL kc ks w S pc lv (.int y :: .int x :: rest) := fun H locs ls hP hD hS hi hl => lv_icmp_eq hG.1.1 hG.1.2.1 hdg ht (fun c => kt c H locs ls hP hD hS hi hl) (fun c => kf c H locs ls hP hD hS hi hl)
theorem ps_if_ne (hG : ps_ok G cc own nL Ts R) {x : Int32} {off : Int} {tgt : Nat} (hdg : decode cc pc = .ok (.ifCond .ne off, 3)) (ht : (pc : Int) + off = (tgt : Int)) (kt : ¬ x = 0 → ps_V G nL kc ks w S tgt lv rest) (kf : x = 0 → ps_V G nL kc ks w S (pc + 3) lv rest) : ps_V G nL kc ks w S pc lv (.int x :: rest) := fun H locs ls hP hD hS hi hl => lv_if_ne hG.1.1 hG.1.2.1 hdg ht (fun c => kt c H locs ls hP hD hS hi hl) (fun c => kf c H locs ls hP hD hS hi hl)
theorem ps_icmp_ne (hG : ps_ok G cc own nL Ts R) {x y : Int32} {off : Int} {tgt : Nat} (hdg : decode cc pc = .ok (.if_icmp .ne off, 3)) (ht : (pc : Int) + off = (tgt : Int)) (kt : ¬ x = y → ps_V G nL kc ks w S tgt lv rest) (kf : x = y → ps_V G nL kc ks w S (pc + 3) lv rest) : ps_V G nL kc ks w S pc lv (.int y :: .int x :: rest) := fun H locs ls hP hD hS hi hl => lv_icmp_ne hG.1.1 hG.1.2.1 hdg ht (fun c => kt c H locs ls hP hD hS hi hl) (fun c => kf c H locs ls hP hD hS hi hl)
theorem ps_if_lt (hG : ps_ok G cc own nL Ts R) {x : Int32} {off : Int} {tgt : Nat} (hdg : decode cc pc = .ok (.ifCond .lt off, 3)) (ht : (pc : Int) + off = (tgt : Int)) (kt : x < 0 → ps_V G nL kc ks w S tgt lv rest) (kf : ¬ x < 0 → ps_V G nL kc ks w S (pc + 3) lv rest) : ps_V G nL kc ks w S pc lv (.int x :: rest) := fun H locs ls hP hD hS hi hl => lv_if_lt hG.1.1 hG.1.2.1 hdg ht (fun c => kt c H locs ls hP hD hS hi hl) (fun c => kf c H locs ls hP hD hS hi hl)
theorem ps_icmp_lt (hG : ps_ok G cc own nL Ts R) {x y : Int32} {off : Int} {tgt : Nat} (hdg : decode cc pc = .ok (.if_icmp .lt off, 3)) (ht : (pc : Int) + off = (tgt : Int)) (kt : x < y → ps_V G nL kc ks w S tgt lv rest) (kf : ¬ x < y → ps_V G nL kc ks w S (pc + 3) lv rest) : ps_V G nL kc ks w S pc lv (.int y :: .int x :: rest) := fun H locs ls hP hD hS hi hl => lv_icmp_lt hG.1.1 hG.1.2.1 hdg ht (fun c => kt c H locs ls hP hD hS hi hl) (fun c => kf c H locs ls hP hD hS hi hl)
theorem ps_if_ge (hG : ps_ok G cc own nL Ts R) {x : Int32} {off : Int} {tgt : Nat} (hdg : decode cc pc = .ok (.ifCond .ge off, 3)) (ht : (pc : Int) + off = (tgt : Int)) (kt : 0 ≤ x → ps_V G nL kc ks w S tgt lv rest) (kf : ¬ 0 ≤ x → ps_V G nL kc ks w S (pc + 3) lv rest) : ps_V G nL kc ks w S pc lv (.int x :: rest) := fun H locs ls hP hD hS hi hl => lv_if_ge hG.1.1 hG.1.2.1 hdg ht (fun c => kt c H locs ls hP hD hS hi hl) (fun c => kf c H locs ls hP hD hS hi hl)
theorem ps_icmp_ge (hG : ps_ok G cc own nL Ts R) {x y : Int32} {off : Int} {tgt : Nat} (hdg : decode cc pc = .ok (.if_icmp .ge off, 3)) (ht : (pc : Int) + off = (tgt : Int)) (kt : y ≤ x → ps_V G nL kc ks w S tgt lv rest) (kf : ¬ y ≤ x → ps_V G nL kc ks w S (pc + 3) lv rest) : ps_V G nL kc ks w S pc lv (.int y :: .int x :: rest) := fun H locs ls hP hD hS hi hl => lv_icmp_ge hG.1.1 hG.1.2.1 hdg ht (fun c => kt c H locs ls hP hD hS hi hl) (fun c => kf c H locs ls hP hD hS hi hl)
theorem ps_if_gt (hG : ps_ok G cc own nL Ts R) {x : Int32} {off : Int} {tgt : Nat} (hdg : decode cc pc = .ok (.ifCond .gt off, 3)) (ht : (pc : Int) + off = (tgt : Int)) (kt : 0 < x → ps_V G nL kc ks w S tgt lv rest) (kf : ¬ 0 < x → ps_V G nL kc ks w S (pc + 3) lv rest) : ps_V G nL kc ks w S pc lv (.int x :: rest) := fun H locs ls hP hD hS hi hl => lv_if_gt hG.1.1 hG.1.2.1 hdg ht (fun c => kt c H locs ls hP hD hS hi hl) (fun c => kf c H locs ls hP hD hS hi hl)
theorem ps_icmp_gt (hG : ps_ok G cc own nL Ts R) {x y : Int32} {off : Int} {tgt : Nat} (hdg : decode cc pc = .ok (.if_icmp .gt off, 3)) (ht : (pc : Int) + off = (tgt : Int)) (kt : y < x → ps_V G nL kc ks w S tgt lv rest) (kf : ¬ y < x → ps_V G nL kc ks w S (pc + 3) lv rest) : ps_V G nL kc ks w S pc lv (.int y :: .int x :: rest) := fun H locs ls hP hD hS hi hl => lv_icmp_gt hG.1.1 hG.1.2.1 hdg ht (fun c => kt c H locs ls hP hD hS hi hl) (fun c => kf c H locs ls hP hD hS hi hl)
theorem ps_if_le (hG : ps_ok G cc own nL Ts R) {x : Int32} {off : Int} {tgt : Nat} (hdg : decode cc pc = .ok (.ifCond .le off, 3)) (ht : (pc : Int) + off = (tgt : Int)) (kt : x ≤ 0 → ps_V G nL kc ks w S tgt lv rest) (kf : ¬ x ≤ 0 → ps_V G nL kc ks w S (pc + 3) lv rest) : ps_V G nL kc ks w S pc lv (.int x :: rest) := fun H locs ls hP hD hS hi hl => lv_if_le hG.1.1 hG.1.2.1 hdg ht (fun c => kt c H locs ls hP hD hS hi hl) (fun c => kf c H locs ls hP hD hS hi hl)
theorem ps_icmp_le (hG : ps_ok G cc own nL Ts R) {x y : Int32} {off : Int} {tgt : Nat} (hdg : decode cc pc = .ok (.if_icmp .le off, 3)) (ht : (pc : Int) + off = (tgt : Int)) (kt : x ≤ y → ps_V G nL kc ks w S tgt lv rest) (kf : ¬ x ≤ y → ps_V G nL kc ks w S (pc + 3) lv rest) : ps_V G nL kc ks w S pc lv (.int y :: .int x :: rest) := fun H locs ls hP hD hS hi hl => lv_icmp_le hG.1.1 hG.1.2.1 hdg ht (fun c => kt c H locs ls hP hD hS hi hl) (fun c => kf c H locs ls hP hD hS hi hl)
theorem ps_goto (hG : ps_ok G cc own nL Ts R) {off : Int} {tgt : Nat} (hdg : decode cc pc = .ok (.goto off, 3)) (ht : (pc : Int) + off = (tgt : Int)) (kk : ps_V G nL kc ks w S tgt lv rest) : ps_V G nL kc ks w S pc lv rest := fun H locs ls hP hD hS hi hl => lv_goto hG.1.1 hG.1.2.1 hdg ht (kk H locs ls hP hD hS hi hl)
theorem ps_ifnull (hG : ps_ok G cc own nL Ts R) {x : Nat} {off : Int} {tgt : Nat} (hdg : decode cc pc = .ok (.ifnull off, 3)) (ht : (pc : Int) + off = (tgt : Int)) (kk : ps_V G nL kc ks w S (pc + 3) lv rest) : ps_V G nL kc ks w S pc lv (.ref x :: rest) := fun H locs ls hP hD hS hi hl => lv_ifnull hG.1.1 hG.1.2.1 hdg (kk H locs ls hP hD hS hi hl)
theorem ps_ifnullN (hG : ps_ok G cc own nL Ts R) {off : Int} {tgt : Nat} (hdg : decode cc pc = .ok (.ifnull off, 3)) (ht : (pc : Int) + off = (tgt : Int)) (kk : ps_V G nL kc ks w S (tgt) lv rest) : ps_V G nL kc ks w S pc lv (.null :: rest) := fun H locs ls hP hD hS hi hl => lv_ifnullN hG.1.1 hG.1.2.1 hdg ht (kk H locs ls hP hD hS hi hl)
theorem ps_ifnonnull (hG : ps_ok G cc own nL Ts R) {x : Nat} {off : Int} {tgt : Nat} (hdg : decode cc pc = .ok (.ifnonnull off, 3)) (ht : (pc : Int) + off = (tgt : Int)) (kk : ps_V G nL kc ks w S (tgt) lv rest) : ps_V G nL kc ks w S pc lv (.ref x :: rest) := fun H locs ls hP hD hS hi hl => lv_ifnonnull hG.1.1 hG.1.2.1 hdg ht (kk H locs ls hP hD hS hi hl)
theorem ps_ifnonnullN (hG : ps_ok G cc own nL Ts R) {off : Int} {tgt : Nat} (hdg : decode cc pc = .ok (.ifnonnull off, 3)) (ht : (pc : Int) + off = (tgt : Int)) (kk : ps_V G nL kc ks w S (pc + 3) lv rest) : ps_V G nL kc ks w S pc lv (.null :: rest) := fun H locs ls hP hD hS hi hl => lv_ifnonnullN hG.1.1 hG.1.2.1 hdg (kk H locs ls hP hD hS hi hl)
theorem ps_ldc (hG : ps_ok G cc own nL Ts R) {index : Nat} {v : Int32} (hm : Cond.constant own index v ∈ Ts) (hdg : decode cc pc = .ok (.ldc index, 2)) (kk : ps_V G nL kc ks w S (pc + 2) lv (.int v :: rest)) : ps_V G nL kc ks w S pc lv rest := fun H locs ls hP hD hS hi hl => lv_ldc hG.1.1 hG.1.2.1 hG.1.2.2.2.1 (hG.1.2.2.2.2 _ hm) hdg (kk H locs ls hP hD hS hi hl)
theorem ps_ldc_w (hG : ps_ok G cc own nL Ts R) {index : Nat} {v : Int32} (hm : Cond.constant own index v ∈ Ts) (hdg : decode cc pc = .ok (.ldc_w index, 3)) (kk : ps_V G nL kc ks w S (pc + 3) lv (.int v :: rest)) : ps_V G nL kc ks w S pc lv rest := fun H locs ls hP hD hS hi hl => lv_ldcw hG.1.1 hG.1.2.1 hG.1.2.2.2.1 (hG.1.2.2.2.2 _ hm) hdg (kk H locs ls hP hD hS hi hl)
theorem ps_get (hG : ps_ok G cc own nL Ts R) {C : String} {T : u_T} {N ci index k : Nat} {fs : List Value} {v : Value} (hin : ∀ q ∈ u_ws C T N, q ∈ Ts) (hk : k < w.1) (hc : ps_cel G.2.2.1.2 w (S k) k = .inr (ci, fs)) (hcl : vwCl[ci]? = some (C, T, N)) (j : Nat) (hj : j < N) (hm : Cond.fieldLink own index (T j).1 (T j).2.1 (T j).2.2.1 ∈ Ts) (hv : fs[j]? = some v) (hdg : decode cc pc = .ok (.getfield index, 3)) (kk : ps_V G nL kc ks w S (pc + 3) lv (v :: rest)) : ps_V G nL kc ks w S pc lv (.ref (w.2.1 k) :: rest) := fun H locs ls hP hD hS hi hl => by
  have hat := ps_ws_at (I := G.2.2.1.2) (S := S) hk
  rw [hc] at hat
  exact va_get hG.1.1 hG.1.2.1 hG.1.2.2.2.2 hin hG.1.2.2.2.1 hG.2.1 hP k hat hcl j hj (hG.1.2.2.2.2 _ hm) (fun _ h => h) hv hdg (kk H locs ls hP hD hS hi hl)
theorem ps_put (hG : ps_ok G cc own nL Ts R) {C : String} {T : u_T} {N ci index k : Nat} {x : Int32} (g : (Nat → Int32) → List Value) (hin : ∀ q ∈ u_ws C T N, q ∈ Ts) (ty0 : Nat → FieldType) (hty : ∀ k, k < N → parseFieldDescriptor (T k).2.2.1 = some (ty0 k)) (hnm : ∀ a, a < N → ∀ b, b < N → a ≠ b → (T a).2.1 ≠ (T b).2.1) (hk : k < w.1) (h57 : k ≠ 57) (hc : ∀ r, ps_cel G.2.2.1.2 w r k = .inr (ci, g r)) (hcl : vwCl[ci]? = some (C, T, N)) (j : Nat) (hj : j < N) (hm : Cond.fieldLink own index (T j).1 (T j).2.1 (T j).2.2.1 ∈ Ts) (hfin : (T j).2.2.2 = false) (hd : parseFieldDescriptor (T j).2.2.1 = some .int) (hg : ∀ r, (g r).set j (.int x) = g (fun b => if b = j then x else r b)) (hlen : j < (g (S k)).length) (hdg : decode cc pc = .ok (.putfield index, 3)) (kk : ps_V G nL kc ks w (ps_up S k j x) (pc + 3) lv rest) : ps_V G nL kc ks w S pc lv (.int x :: .ref (w.2.1 k) :: rest) := fun H locs ls hP hD hS hi hl => by
  have hat := ps_ws_at (I := G.2.2.1.2) (S := S) hk
  rw [hc] at hat
  refine va_put hG.1.1 hG.1.2.1 hG.1.2.2.2.2 hin ty0 hty hnm hG.1.2.2.2.1 hG.2.1 hP hD hS k hat hcl j hj (hG.1.2.2.2.2 _ hm) (fun _ h => h) hfin hd rfl rfl hlen hdg (fun H1 locs1 hP1 hD1 hS1 => ?_)
  have e : (ps_ws G.2.2.1.2 w S).set k (w.2.1 k, .inr (ci, (g (S k)).set j (.int x))) = ps_ws G.2.2.1.2 w (ps_up S k j x) := by
    rw [hg, ← hc]
    exact ps_ws_set (ps_up_row S k j x) (ps_up_off S k j x)
  rw [e] at hP1 hD1
  exact kk H1 locs1 ls hP1 hD1 hS1 (ps_inv_up hi h57) hl
theorem ps_iald (hG : ps_ok G cc own nL Ts R) {k N : Nat} {i : Int32} (hkd : ps_kd k = 0) (hln : ps_ln k = N) (hk : k < w.1) (hin : ps_ib i N = true) (hdg : decode cc pc = .ok (.iaload, 1)) (kk : ps_V G nL kc ks w S (pc + 1) lv (.int (S k i.toNatClampNeg) :: rest)) : ps_V G nL kc ks w S pc lv (.int i :: .ref (w.2.1 k) :: rest) := fun H locs ls hP hD hS hi hl => by
  have hat := ps_ws_at (I := G.2.2.1.2) (S := S) hk
  rw [ps_cel_0 hkd, hln] at hat
  exact va_iald hG.1.1 hG.1.2.1 hG.2.1 hP k 0 hat rfl (ps_ib_in hin) hdg (kk H locs ls hP hD hS hi hl)
theorem ps_zald (hG : ps_ok G cc own nL Ts R) {k N : Nat} {i : Int32} (hkd : ps_kd k = 1) (hln : ps_ln k = N) (hk : k < w.1) (hin : ps_ib i N = true) (hdg : decode cc pc = .ok (.baload, 1)) (kk : ps_V G nL kc ks w S (pc + 1) lv (.int (S k i.toNatClampNeg) :: rest)) : ps_V G nL kc ks w S pc lv (.int i :: .ref (w.2.1 k) :: rest) := fun H locs ls hP hD hS hi hl => by
  have hat := ps_ws_at (I := G.2.2.1.2) (S := S) hk
  rw [ps_cel_1 hkd, hln] at hat
  exact va_zald hG.1.1 hG.1.2.1 hG.2.1 hP k 1 hat rfl (ps_ib_in hin) hdg (kk H locs ls hP hD hS hi hl)
theorem ps_iast (hG : ps_ok G cc own nL Ts R) {k N : Nat} {i x : Int32} (hkd : ps_kd k = 0) (hln : ps_ln k = N) (hk : k < w.1) (hin : ps_ib i N = true) (hdg : decode cc pc = .ok (.iastore, 1)) (kk : ps_V G nL kc ks w (ps_up S k i.toNatClampNeg x) (pc + 1) lv rest) : ps_V G nL kc ks w S pc lv (.int x :: .int i :: .ref (w.2.1 k) :: rest) := fun H locs ls hP hD hS hi hl => by
  have hat := ps_ws_at (I := G.2.2.1.2) (S := S) hk
  rw [ps_cel_0 hkd, hln] at hat
  refine va_iast hG.1.1 hG.1.2.1 hG.2.1 hP hD hS k 0 hat rfl (ps_ib_in hin) hdg (fun H1 locs1 hP1 hD1 hS1 => ?_)
  have e : (ps_ws G.2.2.1.2 w S).set k (w.2.1 k, .inl (G.2.2.1.2.1, N, .inl (upd (S k) i.toNatClampNeg x))) = ps_ws G.2.2.1.2 w (ps_up S k i.toNatClampNeg x) := by
    rw [← hln, ← ps_cel_0 (I := G.2.2.1.2) (w := w) hkd]
    exact ps_ws_set (by rw [ps_up_row]; funext b; simp [upd]) (ps_up_off S k _ _)
  rw [e] at hP1 hD1
  exact kk H1 locs1 ls hP1 hD1 hS1 (ps_inv_up hi (fun q => by rw [q] at hkd; cases hkd)) hl
theorem ps_zast (hG : ps_ok G cc own nL Ts R) {k N : Nat} {i x : Int32} (hkd : ps_kd k = 1) (hln : ps_ln k = N) (hk : k < w.1) (hin : ps_ib i N = true) (hdg : decode cc pc = .ok (.bastore, 1)) (kk : ps_V G nL kc ks w (ps_up S k i.toNatClampNeg (vp_nar .boolean x)) (pc + 1) lv rest) : ps_V G nL kc ks w S pc lv (.int x :: .int i :: .ref (w.2.1 k) :: rest) := fun H locs ls hP hD hS hi hl => by
  have hat := ps_ws_at (I := G.2.2.1.2) (S := S) hk
  rw [ps_cel_1 hkd, hln] at hat
  refine va_zast hG.1.1 hG.1.2.1 hG.2.1 hP hD hS k 1 hat rfl (ps_ib_in hin) hdg (fun H1 locs1 hP1 hD1 hS1 => ?_)
  have e : (ps_ws G.2.2.1.2 w S).set k (w.2.1 k, .inl (G.2.2.1.2.2.1, N, .inl (upd (S k) i.toNatClampNeg (vp_nar .boolean x)))) = ps_ws G.2.2.1.2 w (ps_up S k i.toNatClampNeg (vp_nar .boolean x)) := by
    rw [← hln, ← ps_cel_1 (I := G.2.2.1.2) (w := w) hkd]
    exact ps_ws_set (by rw [ps_up_row]; funext b; simp [upd]) (ps_up_off S k _ _)
  rw [e] at hP1 hD1
  exact kk H1 locs1 ls hP1 hD1 hS1 (ps_inv_up hi (fun q => by rw [q] at hkd; cases hkd)) hl
theorem ps_aald (hG : ps_ok G cc own nL Ts R) {k N b : Nat} {i : Int32} (hkd : ps_kd k = 2) (hln : ps_ln k = N) (hk : k < w.1) (hb : k + 1 = b) (hin : ps_ib i N = true) (hdg : decode cc pc = .ok (.aaload, 1)) (kk : ps_V G nL kc ks w S (pc + 1) lv (.ref (w.2.1 (b + i.toNatClampNeg)) :: rest)) : ps_V G nL kc ks w S pc lv (.int i :: .ref (w.2.1 k) :: rest) := fun H locs ls hP hD hS hi hl => by
  subst hb
  have hat := ps_ws_at (I := G.2.2.1.2) (S := S) hk
  rw [ps_cel_2 hkd, hln] at hat
  have hvi := ps_ib_in hin
  have hlt : i.toNatClampNeg < N := Nat.not_le.mp fun q => hvi (Or.inr q)
  refine W.aald (v := .ref (w.2.1 (k + 1 + i.toNatClampNeg))) (ty := .array .int) hG.1.1 hG.1.2.1 (hP k _ hat) ((hG.2.1.2 2 _ rfl).1 N (fun j => va_rf (if j < N then some (w.2.1 (k + 1 + j)) else none))) rfl (fun q => by cases q) (by show ¬ (i < 0 ∨ (arrV _ _ _).slots.size ≤ _); rw [arrV_size]; exact hvi) (by show (arrV _ _ _).slots[_]? = _; rw [arrV_read _ _ hlt]; show some (va_rf (if i.toNatClampNeg < N then some (w.2.1 (k + 1 + i.toNatClampNeg)) else none)) = _; rw [if_pos hlt]; rfl) rfl rfl hdg (kk H locs ls hP hD hS hi hl)
theorem ps_aaldF (hG : ps_ok G cc own nL Ts R) {i : Int32} (hk : 57 < w.1) (hin : ps_ib i 12 = true) (hdg : decode cc pc = .ok (.aaload, 1)) (k0 : S 57 i.toNatClampNeg = 0 → ps_V G nL kc ks w S (pc + 1) lv (.null :: rest)) (k1 : ¬ S 57 i.toNatClampNeg = 0 → ps_V G nL kc ks w S (pc + 1) lv (.ref (w.2.1 (103 + 7 * i.toNatClampNeg)) :: rest)) : ps_V G nL kc ks w S pc lv (.int i :: .ref (w.2.1 57) :: rest) := fun H locs ls hP hD hS hi hl => by
  have hat := ps_ws_at (I := G.2.2.1.2) (S := S) hk
  rw [ps_cel_3 (by rfl)] at hat
  refine va_aldq hG.1.1 hG.1.2.1 hG.2.1 hP 57 3 (C := RX8) hat rfl (ps_ib_in hin) hdg ?_
  by_cases h : S 57 i.toNatClampNeg = 0
  · rw [if_pos h]; exact k0 h H locs ls hP hD hS hi hl
  · rw [if_neg h]; exact k1 h H locs ls hP hD hS hi hl
theorem ps_alen (hG : ps_ok G cc own nL Ts R) {k N : Nat} {v : Int32} (hkd : ps_kd k = 0) (hln : ps_ln k = N) (hk : k < w.1) (hv : Int32.ofNat N = v) (hdg : decode cc pc = .ok (.arraylength, 1)) (kk : ps_V G nL kc ks w S (pc + 1) lv (.int v :: rest)) : ps_V G nL kc ks w S pc lv (.ref (w.2.1 k) :: rest) := fun H locs ls hP hD hS hi hl => by
  have hat := ps_ws_at (I := G.2.2.1.2) (S := S) hk
  rw [ps_cel_0 hkd, hln] at hat
  exact va_alen hG.1.1 hG.1.2.1 hG.2.1 hP k 0 hat rfl hv hdg (kk H locs ls hP hD hS hi hl)
theorem ps_alenF (hG : ps_ok G cc own nL Ts R) {v : Int32} (hk : 57 < w.1) (hv : Int32.ofNat 12 = v) (hdg : decode cc pc = .ok (.arraylength, 1)) (kk : ps_V G nL kc ks w S (pc + 1) lv (.int v :: rest)) : ps_V G nL kc ks w S pc lv (.ref (w.2.1 57) :: rest) := fun H locs ls hP hD hS hi hl => by
  have hat := ps_ws_at (I := G.2.2.1.2) (S := S) hk
  rw [ps_cel_3 (by rfl)] at hat
  exact va_alen hG.1.1 hG.1.2.1 hG.2.1 hP 57 3 hat rfl hv hdg (kk H locs ls hP hD hS hi hl)
end PS
def ps_min (x y : Int32) : Int32 := if y < x then y else x
theorem ps_mmin {G : ps_G} {nL kc ks : Nat} {w : ps_X} {S : ps_S} {pc : Nat} {lv : List (Nat × Value)} {rest : List Value} {cc : ByteArray} {own : String} {Ts : List Cond} {R : Room} (hG : ps_ok G cc own nL Ts R) {index : Nat} (h1 : Cond.methodLink own index Lib.Math.min.name ∈ Ts) (h2 : Cond.static Lib.Math.min.name ∈ Ts) (h3 : Cond.initialized "java/lang/Math" ∈ Ts) (h4 : Cond.code Lib.Math.min.name Lib.Math.min.code 2 (some .int) ∈ Ts) (hf : 1 ≤ R.frames) (hl9 : (rest.map fun v => v.category).sum + 13 ≤ R.locals) (hc : kc ≤ R.cells ∧ ks ≤ R.slots) {x y : Int32} (hdg : decode cc pc = .ok (.invokestatic index, 3)) (kk : ps_V G nL kc ks w S (pc + 3) lv (.int (ps_min x y) :: rest)) : ps_V G nL kc ks w S pc lv (.int y :: .int x :: rest) := fun H locs ls hP hD hS hi hl => by
  obtain ⟨⟨hx, hb, hml, hown, hts⟩, hK, hA, hRR⟩ := id hG
  subst hRR
  exact va_mmin hx hb (hml.trans hl.1.symm) hown (hts _ h1) (hts _ h2) (hts _ h3) (hts _ h4) hf hl9 hc.1 hc.2 hdg (kk H locs ls hP hD hS hi hl)
/-! contracts over the pool -/
def ps_pre (D : va_G) (I : ps_I) (w : ps_X) (S : ps_S) (sz : Nat) : State → Prop := fun U => U.heap.size = sz ∧ va_P D vwCl (ps_ws I w S) U.heap ∧ va_K D vwCl (ps_Ty I) U ∧ va_D (fun _ => True) (ps_ws I w S) ∧ ps_inv w S
def ps_pst (D : va_G) (I : ps_I) (A : Nat → Prop) (w : ps_X) (S : ps_S) : State → Prop := fun t => va_P D vwCl (ps_ws I w S) t.heap ∧ va_K D vwCl (ps_Ty I) t ∧ va_D A (ps_ws I w S) ∧ ps_inv w S
def ps_MetI (l : Launch) (y : MethodName) (ws : List Cond) (rm : Room) (w : ps_X) (av : List Value) (S S' : ps_S) (r : Int32) : Prop := ∀ (D : va_G) (I : ps_I) (sz : Nat), Met l y ws rm (va_Pc av (ps_pre D I w S sz)) (va_Qi (fun r' (_ : Unit) => r' = r) (fun _ => ps_pst D I (va_A (ps_ws I w S) sz) w S') (va_A (ps_ws I w S) sz)) 0 0 (va_A (ps_ws I w S) sz)
def ps_MetV (l : Launch) (y : MethodName) (ws : List Cond) (rm : Room) (w : ps_X) (av : List Value) (S S' : ps_S) : Prop := ∀ (D : va_G) (I : ps_I) (sz : Nat), Met l y ws rm (va_Pc av (ps_pre D I w S sz)) (va_Qv (fun (_ : Unit) => True) (fun _ => ps_pst D I (va_A (ps_ws I w S) sz) w S') (va_A (ps_ws I w S) sz)) 0 0 (va_A (ps_ws I w S) sz)
def ps_MetR (l : Launch) (y : MethodName) (ws : List Cond) (rm : Room) (w : ps_X) (av : List Value) (S S' : ps_S) (k : Nat) : Prop := ∀ (D : va_G) (I : ps_I) (sz : Nat), Met l y ws rm (va_Pc av (ps_pre D I w S sz)) (va_Qr (fun (_ : Unit) => True) (fun _ a t => a = w.2.1 k ∧ ps_pst D I (va_A (ps_ws I w S) sz) w S' t) (va_A (ps_ws I w S) sz)) 0 0 (va_A (ps_ws I w S) sz)
theorem ps_blind {D : va_G} {I : ps_I} {w : ps_X} {S : ps_S} {sz : Nat} {av : List Value} : FrameBlind (va_Pc av (ps_pre D I w S sz)) := fun a U g mk q => by
  obtain ⟨q0, q1, qP, qK, qD⟩ := q
  exact ⟨q0, q1, qP, va_K.moved (u := U) (U := U.calling g mk a) (Vm.Alike.refl U.vm) qK, qD⟩
section PC
variable {G : ps_G} {nL kc ks : Nat} {w : ps_X} {S S' : ps_S} {pc : Nat} {lv lv' : List (Nat × Value)} {rest : List Value} {cc : ByteArray} {own : String} {Ts : List Cond} {R : Room}
variable {y : MethodName} {C : String} {T : u_T} {N ci index k maxL : Nat} {fs As : List Value} {bytes : ByteArray} {ret : Option FieldType} {ws ws' : List Cond} {rm : Room}
theorem ps_fr (hG : ps_ok G cc own nL Ts R) {H : Heap} {locs : List Loc} (hD : va_D G.2.2.2.1 (ps_ws G.2.2.1.2 w S)) (hS : va_S G.2.2.2.1 G.2.2.2.2.1 H locs) : ∀ q, va_A (ps_ws G.2.2.1.2 w S) H.size q → G.2.2.2.1 q := fun q h => by
  rcases h with ⟨k, e, h⟩ | h
  · exact hD.2 k (q, e) h
  · exact hG.2.2.1 q (Nat.le_trans hS.1 h)
theorem ps_callVI (hG : ps_ok G cc own nL Ts R) {r : Int32} {st : List Value} {nA : Nat} (hM : ps_MetI G.1.2.1 y ws rm w (.ref (w.2.1 k) :: As) S S' r) (hg : GoodIn Ts (wsV own index C y ws)) (hw : ws = Cond.code y bytes maxL ret :: ws') (hd : y.cls = C ∧ y.cls ≠ "java/lang/invoke/MethodHandle" ∧ y.cls ≠ "java/lang/invoke/VarHandle" ∧ (parseMethodDescriptor y.desc).map (fun d => d.parameters.length) = some nA) (hnA : As.length = nA) (hR : rm.frames + 1 ≤ R.frames ∧ 8 + (maxL + 11) + rm.locals ≤ R.locals) (hz : rm.cells = 0 ∧ rm.slots = 0) (hz2 : kc ≤ R.cells ∧ ks ≤ R.slots) (hk : k < w.1) (hc : ps_cel G.2.2.1.2 w (S k) k = .inr (ci, fs)) (hcl : vwCl[ci]? = some (C, T, N)) (hst : st = As.reverse ++ .ref (w.2.1 k) :: rest) (hrm : (rest.map fun v => v.category).sum ≤ 8) (hdg : decode cc pc = .ok (.invokevirtual index, 3)) (kk : ps_V G nL kc ks w S' (pc + 3) lv (.int r :: rest)) : ps_V G nL kc ks w S pc lv st := fun H locs ls hP hD hS hi hl => by
  subst hst
  have hFc := ps_fr hG hD hS
  obtain ⟨⟨hx, hb, hml, hown, hts⟩, hK, hA, hRR⟩ := id hG
  subst hRR
  have hat := ps_ws_at (I := G.2.2.1.2) (S := S) hk
  rw [hc] at hat
  refine va_calli (va_runV (As := As) (rest := rest) ⟨hx, hb, hml, hown, hts⟩ (hM G.2.2.1.1 G.2.2.1.2 H.size) (cwV nA hts hg hw hz.1 hz.2 hd hR) ⟨ps_blind, va_recv hK hP hcl hat, fun U hU hW => ⟨rfl, by rw [hU], by rw [hU]; exact hP, va_K.moved hW.alike hK, hD.weaken (fun _ _ _ _ => trivial), hi⟩⟩ rfl hnA hl.1 rfl (lv_room hrm) hdg ⟨hz2.1, hz2.2⟩) hS (fun q _ h => hFc q h) hFc (fun r2 u t H1 locs1 ht hvm hw2 hB hz1 hk1 hS1 => ?_)
  have hw3 : r2 = r := hw2
  subst hw3
  obtain ⟨hP1, hK1, hD1, hi1⟩ := hB
  rw [ht] at hP1
  exact kk H1 locs1 ls hP1 (hD1.weaken (fun k q _ h => hFc q.1 h)) hS1 hi1 hl
theorem ps_callVV (hG : ps_ok G cc own nL Ts R) {st : List Value} {nA : Nat} (hM : ps_MetV G.1.2.1 y ws rm w (.ref (w.2.1 k) :: As) S S') (hg : GoodIn Ts (wsV own index C y ws)) (hw : ws = Cond.code y bytes maxL ret :: ws') (hd : y.cls = C ∧ y.cls ≠ "java/lang/invoke/MethodHandle" ∧ y.cls ≠ "java/lang/invoke/VarHandle" ∧ (parseMethodDescriptor y.desc).map (fun d => d.parameters.length) = some nA) (hnA : As.length = nA) (hR : rm.frames + 1 ≤ R.frames ∧ 8 + (maxL + 11) + rm.locals ≤ R.locals) (hz : rm.cells = 0 ∧ rm.slots = 0) (hz2 : kc ≤ R.cells ∧ ks ≤ R.slots) (hk : k < w.1) (hc : ps_cel G.2.2.1.2 w (S k) k = .inr (ci, fs)) (hcl : vwCl[ci]? = some (C, T, N)) (hst : st = As.reverse ++ .ref (w.2.1 k) :: rest) (hrm : (rest.map fun v => v.category).sum ≤ 8) (hdg : decode cc pc = .ok (.invokevirtual index, 3)) (kk : ps_V G nL kc ks w S' (pc + 3) lv (rest)) : ps_V G nL kc ks w S pc lv st := fun H locs ls hP hD hS hi hl => by
  subst hst
  have hFc := ps_fr hG hD hS
  obtain ⟨⟨hx, hb, hml, hown, hts⟩, hK, hA, hRR⟩ := id hG
  subst hRR
  have hat := ps_ws_at (I := G.2.2.1.2) (S := S) hk
  rw [hc] at hat
  refine va_callv (va_runV (As := As) (rest := rest) ⟨hx, hb, hml, hown, hts⟩ (hM G.2.2.1.1 G.2.2.1.2 H.size) (cwV nA hts hg hw hz.1 hz.2 hd hR) ⟨ps_blind, va_recv hK hP hcl hat, fun U hU hW => ⟨rfl, by rw [hU], by rw [hU]; exact hP, va_K.moved hW.alike hK, hD.weaken (fun _ _ _ _ => trivial), hi⟩⟩ rfl hnA hl.1 rfl (lv_room hrm) hdg ⟨hz2.1, hz2.2⟩) hS (fun q _ h => hFc q h) hFc (fun u t H1 locs1 ht hvm hw2 hB hz1 hk1 hS1 => ?_)
  obtain ⟨hP1, hK1, hD1, hi1⟩ := hB
  rw [ht] at hP1
  exact kk H1 locs1 ls hP1 (hD1.weaken (fun k q _ h => hFc q.1 h)) hS1 hi1 hl
theorem ps_callVR (hG : ps_ok G cc own nL Ts R) {kr : Nat} {st : List Value} {nA : Nat} (hM : ps_MetR G.1.2.1 y ws rm w (.ref (w.2.1 k) :: As) S S' kr) (hg : GoodIn Ts (wsV own index C y ws)) (hw : ws = Cond.code y bytes maxL ret :: ws') (hd : y.cls = C ∧ y.cls ≠ "java/lang/invoke/MethodHandle" ∧ y.cls ≠ "java/lang/invoke/VarHandle" ∧ (parseMethodDescriptor y.desc).map (fun d => d.parameters.length) = some nA) (hnA : As.length = nA) (hR : rm.frames + 1 ≤ R.frames ∧ 8 + (maxL + 11) + rm.locals ≤ R.locals) (hz : rm.cells = 0 ∧ rm.slots = 0) (hz2 : kc ≤ R.cells ∧ ks ≤ R.slots) (hk : k < w.1) (hc : ps_cel G.2.2.1.2 w (S k) k = .inr (ci, fs)) (hcl : vwCl[ci]? = some (C, T, N)) (hst : st = As.reverse ++ .ref (w.2.1 k) :: rest) (hrm : (rest.map fun v => v.category).sum ≤ 8) (hdg : decode cc pc = .ok (.invokevirtual index, 3)) (kk : ps_V G nL kc ks w S' (pc + 3) lv (.ref (w.2.1 kr) :: rest)) : ps_V G nL kc ks w S pc lv st := fun H locs ls hP hD hS hi hl => by
  subst hst
  have hFc := ps_fr hG hD hS
  obtain ⟨⟨hx, hb, hml, hown, hts⟩, hK, hA, hRR⟩ := id hG
  subst hRR
  have hat := ps_ws_at (I := G.2.2.1.2) (S := S) hk
  rw [hc] at hat
  refine va_callr (va_runV (As := As) (rest := rest) ⟨hx, hb, hml, hown, hts⟩ (hM G.2.2.1.1 G.2.2.1.2 H.size) (cwV nA hts hg hw hz.1 hz.2 hd hR) ⟨ps_blind, va_recv hK hP hcl hat, fun U hU hW => ⟨rfl, by rw [hU], by rw [hU]; exact hP, va_K.moved hW.alike hK, hD.weaken (fun _ _ _ _ => trivial), hi⟩⟩ rfl hnA hl.1 rfl (lv_room hrm) hdg ⟨hz2.1, hz2.2⟩) hS (fun q _ h => hFc q h) hFc (fun u ra t H1 locs1 ht hvm hw2 hB hz1 hk1 hS1 => ?_)
  obtain ⟨hra, hB⟩ := hB
  subst hra
  obtain ⟨hP1, hK1, hD1, hi1⟩ := hB
  rw [ht] at hP1
  exact kk H1 locs1 ls hP1 (hD1.weaken (fun k q _ h => hFc q.1 h)) hS1 hi1 hl
theorem ps_callSI (hG : ps_ok G cc own nL Ts R) {r : Int32} {st : List Value} {nA : Nat} (hM : ps_MetI G.1.2.1 y ws rm w As S S' r) (hg : GoodIn Ts (va_wsS own index y ws)) (hw : ws = Cond.code y bytes maxL ret :: ws') (hd : y.cls ≠ "java/lang/invoke/MethodHandle" ∧ y.cls ≠ "java/lang/invoke/VarHandle" ∧ (parseMethodDescriptor y.desc).map (fun d => d.parameters.length) = some nA) (hnA : As.length = nA) (hR : rm.frames + 1 ≤ R.frames ∧ 8 + (maxL + 11) + rm.locals ≤ R.locals) (hz : rm.cells = 0 ∧ rm.slots = 0) (hz2 : kc ≤ R.cells ∧ ks ≤ R.slots) (hst : st = As.reverse ++ rest) (hrm : (rest.map fun v => v.category).sum ≤ 8) (hdg : decode cc pc = .ok (.invokestatic index, 3)) (kk : ps_V G nL kc ks w S' (pc + 3) lv (.int r :: rest)) : ps_V G nL kc ks w S pc lv st := fun H locs ls hP hD hS hi hl => by
  subst hst
  have hFc := ps_fr hG hD hS
  obtain ⟨⟨hx, hb, hml, hown, hts⟩, hK, hA, hRR⟩ := id hG
  subst hRR
  refine va_calli (va_runS (As := As) (rest := rest) ⟨hx, hb, hml, hown, hts⟩ (hM G.2.2.1.1 G.2.2.1.2 H.size) (va_cwS nA hts hg hw hz.1 hz.2 hd hR) ⟨ps_blind, fun U hU hW => ⟨rfl, by rw [hU], by rw [hU]; exact hP, va_K.moved hW.alike hK, hD.weaken (fun _ _ _ _ => trivial), hi⟩⟩ rfl hnA hl.1 rfl (lv_room hrm) hdg ⟨hz2.1, hz2.2⟩) hS (fun q _ h => hFc q h) hFc (fun r2 u t H1 locs1 ht hvm hw2 hB hz1 hk1 hS1 => ?_)
  have hw3 : r2 = r := hw2
  subst hw3
  obtain ⟨hP1, hK1, hD1, hi1⟩ := hB
  rw [ht] at hP1
  exact kk H1 locs1 ls hP1 (hD1.weaken (fun k q _ h => hFc q.1 h)) hS1 hi1 hl
theorem ps_callSV (hG : ps_ok G cc own nL Ts R) {st : List Value} {nA : Nat} (hM : ps_MetV G.1.2.1 y ws rm w As S S') (hg : GoodIn Ts (va_wsS own index y ws)) (hw : ws = Cond.code y bytes maxL ret :: ws') (hd : y.cls ≠ "java/lang/invoke/MethodHandle" ∧ y.cls ≠ "java/lang/invoke/VarHandle" ∧ (parseMethodDescriptor y.desc).map (fun d => d.parameters.length) = some nA) (hnA : As.length = nA) (hR : rm.frames + 1 ≤ R.frames ∧ 8 + (maxL + 11) + rm.locals ≤ R.locals) (hz : rm.cells = 0 ∧ rm.slots = 0) (hz2 : kc ≤ R.cells ∧ ks ≤ R.slots) (hst : st = As.reverse ++ rest) (hrm : (rest.map fun v => v.category).sum ≤ 8) (hdg : decode cc pc = .ok (.invokestatic index, 3)) (kk : ps_V G nL kc ks w S' (pc + 3) lv (rest)) : ps_V G nL kc ks w S pc lv st := fun H locs ls hP hD hS hi hl => by
  subst hst
  have hFc := ps_fr hG hD hS
  obtain ⟨⟨hx, hb, hml, hown, hts⟩, hK, hA, hRR⟩ := id hG
  subst hRR
  refine va_callv (va_runS (As := As) (rest := rest) ⟨hx, hb, hml, hown, hts⟩ (hM G.2.2.1.1 G.2.2.1.2 H.size) (va_cwS nA hts hg hw hz.1 hz.2 hd hR) ⟨ps_blind, fun U hU hW => ⟨rfl, by rw [hU], by rw [hU]; exact hP, va_K.moved hW.alike hK, hD.weaken (fun _ _ _ _ => trivial), hi⟩⟩ rfl hnA hl.1 rfl (lv_room hrm) hdg ⟨hz2.1, hz2.2⟩) hS (fun q _ h => hFc q h) hFc (fun u t H1 locs1 ht hvm hw2 hB hz1 hk1 hS1 => ?_)
  obtain ⟨hP1, hK1, hD1, hi1⟩ := hB
  rw [ht] at hP1
  exact kk H1 locs1 ls hP1 (hD1.weaken (fun k q _ h => hFc q.1 h)) hS1 hi1 hl
theorem ps_callSR (hG : ps_ok G cc own nL Ts R) {kr : Nat} {st : List Value} {nA : Nat} (hM : ps_MetR G.1.2.1 y ws rm w As S S' kr) (hg : GoodIn Ts (va_wsS own index y ws)) (hw : ws = Cond.code y bytes maxL ret :: ws') (hd : y.cls ≠ "java/lang/invoke/MethodHandle" ∧ y.cls ≠ "java/lang/invoke/VarHandle" ∧ (parseMethodDescriptor y.desc).map (fun d => d.parameters.length) = some nA) (hnA : As.length = nA) (hR : rm.frames + 1 ≤ R.frames ∧ 8 + (maxL + 11) + rm.locals ≤ R.locals) (hz : rm.cells = 0 ∧ rm.slots = 0) (hz2 : kc ≤ R.cells ∧ ks ≤ R.slots) (hst : st = As.reverse ++ rest) (hrm : (rest.map fun v => v.category).sum ≤ 8) (hdg : decode cc pc = .ok (.invokestatic index, 3)) (kk : ps_V G nL kc ks w S' (pc + 3) lv (.ref (w.2.1 kr) :: rest)) : ps_V G nL kc ks w S pc lv st := fun H locs ls hP hD hS hi hl => by
  subst hst
  have hFc := ps_fr hG hD hS
  obtain ⟨⟨hx, hb, hml, hown, hts⟩, hK, hA, hRR⟩ := id hG
  subst hRR
  refine va_callr (va_runS (As := As) (rest := rest) ⟨hx, hb, hml, hown, hts⟩ (hM G.2.2.1.1 G.2.2.1.2 H.size) (va_cwS nA hts hg hw hz.1 hz.2 hd hR) ⟨ps_blind, fun U hU hW => ⟨rfl, by rw [hU], by rw [hU]; exact hP, va_K.moved hW.alike hK, hD.weaken (fun _ _ _ _ => trivial), hi⟩⟩ rfl hnA hl.1 rfl (lv_room hrm) hdg ⟨hz2.1, hz2.2⟩) hS (fun q _ h => hFc q h) hFc (fun u ra t H1 locs1 ht hvm hw2 hB hz1 hk1 hS1 => ?_)
  obtain ⟨hra, hB⟩ := hB
  subst hra
  obtain ⟨hP1, hK1, hD1, hi1⟩ := hB
  rw [ht] at hP1
  exact kk H1 locs1 ls hP1 (hD1.weaken (fun k q _ h => hFc q.1 h)) hS1 hi1 hl
end PC
theorem ps_mkI {l : Launch} {y : MethodName} {cc : ByteArray} {maxL : Nat} {ret : Option FieldType} {ws ws' : List Cond} {rm : Room} {own : String} {w : ps_X} {av : List Value} {lv0 : List (Nat × Value)} {S S' : ps_S} {r : Int32} (hy : plainName y.cls = true) (hw : ws = Cond.code y cc maxL ret :: ws') (hret : ret = some .int ∨ ∃ ty, ret = some ty ∧ narrow ty (.int r) = .int r) (hyc : y.cls = own) (hlen : (lg_sl av).length ≤ maxL) (hlv : lv_args 0 av = lv0)
    (walk : ∀ G : ps_G, G.1.2.1 = l → ps_ok G cc own maxL ws rm → (∀ pc lv, decode cc pc = .ok (.ireturn, 1) → ps_V G maxL 0 0 w S' pc lv [.int r]) → ps_V G maxL 0 0 w S 0 lv0 []) : ps_MetI l y ws rm w av S S' r := by
  intro D I sz
  refine Met.ofW (cc := cc) (maxL := maxL) (ret := ret) hy hw ?_
  intro p e s m args below meth c s₁ B hml hv
  obtain ⟨rfl, hsz, hP, hK, hD0, hi⟩ := hv
  have hx := B.exec
  have hb := B.bytes
  have hr := B.returns
  have hts := atoms_spec (ws := ws) B.pre
  have hown : s.vm.findClass own = some m.cls := hyc ▸ findClass_of_methodNamed B.named
  have hlocks := B.notSynchronized
  subst hsz
  have hD := hD0.self (sz := s.heap.size)
  have hl := lv_entry av (n := maxL) hlen
  rw [lg_entry_eq]
  generalize (lg_sl av ++ List.replicate (maxL - (lg_sl av).length) Slot.unset).toArray = ls at hl ⊢
  rw [hlv] at hl
  refine walk ((p, l, e, rm, s), (m, av.toArray, below, meth, c), (D, I), (va_A (ps_ws I w S) s.heap.size, s.heap, _)) rfl ⟨⟨hx, hb, hml, hown, hts⟩, hK, fun q h => Or.inr h, rfl⟩ (fun pc lv hd H locs ls hP9 hD9 hS9 hi9 hl9 => ?_) s.heap [] ls hP hD va_S.rf hi hl
  rcases hret with hret | ⟨ty, hret, hn⟩
  · exact W.iret (v := r) hx hb (hr.trans hret) (fun t ht hW => ⟨⟨r, (), rfl, rfl, by rw [ht]; exact hP9, va_K.moved hW.alike hK, hD9, hi9⟩, hS9.F ht⟩) hS9.2.2 hd
  · exact W.zret (v := r) hx hb (hr.trans hret) hn (fun t ht hW => ⟨⟨r, (), rfl, rfl, by rw [ht]; exact hP9, va_K.moved hW.alike hK, hD9, hi9⟩, hS9.F ht⟩) hS9.2.2 hd
theorem ps_mkV {l : Launch} {y : MethodName} {cc : ByteArray} {maxL : Nat} {ret : Option FieldType} {ws ws' : List Cond} {rm : Room} {own : String} {w : ps_X} {av : List Value} {lv0 : List (Nat × Value)} {S S' : ps_S} (hy : plainName y.cls = true) (hw : ws = Cond.code y cc maxL ret :: ws') (hret : ret = none) (hyc : y.cls = own) (hlen : (lg_sl av).length ≤ maxL) (hlv : lv_args 0 av = lv0)
    (walk : ∀ G : ps_G, G.1.2.1 = l → ps_ok G cc own maxL ws rm → (∀ pc lv, decode cc pc = .ok (.return_, 1) → ps_V G maxL 0 0 w S' pc lv []) → ps_V G maxL 0 0 w S 0 lv0 []) : ps_MetV l y ws rm w av S S' := by
  intro D I sz
  refine Met.ofW (cc := cc) (maxL := maxL) (ret := ret) hy hw ?_
  intro p e s m args below meth c s₁ B hml hv
  obtain ⟨rfl, hsz, hP, hK, hD0, hi⟩ := hv
  have hx := B.exec
  have hb := B.bytes
  have hr := B.returns
  have hts := atoms_spec (ws := ws) B.pre
  have hown : s.vm.findClass own = some m.cls := hyc ▸ findClass_of_methodNamed B.named
  have hlocks := B.notSynchronized
  subst hsz
  have hD := hD0.self (sz := s.heap.size)
  have hl := lv_entry av (n := maxL) hlen
  rw [lg_entry_eq]
  generalize (lg_sl av ++ List.replicate (maxL - (lg_sl av).length) Slot.unset).toArray = ls at hl ⊢
  rw [hlv] at hl
  refine walk ((p, l, e, rm, s), (m, av.toArray, below, meth, c), (D, I), (va_A (ps_ws I w S) s.heap.size, s.heap, _)) rfl ⟨⟨hx, hb, hml, hown, hts⟩, hK, fun q h => Or.inr h, rfl⟩ (fun pc lv hd H locs ls hP9 hD9 hS9 hi9 hl9 => ?_) s.heap [] ls hP hD va_S.rf hi hl
  exact W.vret hx hb (hr.trans hret) (fun t ht hW => ⟨⟨(), rfl, trivial, by rw [ht]; exact hP9, va_K.moved hW.alike hK, hD9, hi9⟩, hS9.F ht⟩) hS9.2.2 hd
theorem ps_mkR {l : Launch} {y : MethodName} {cc : ByteArray} {maxL : Nat} {ret : Option FieldType} {ws ws' : List Cond} {rm : Room} {own : String} {w : ps_X} {av : List Value} {lv0 : List (Nat × Value)} {S S' : ps_S} {kr : Nat} (hy : plainName y.cls = true) (hw : ws = Cond.code y cc maxL ret :: ws') (hret : (∃ n, ret = some (.object n)) ∨ ∃ t, ret = some (.array t)) (hyc : y.cls = own) (hlen : (lg_sl av).length ≤ maxL) (hlv : lv_args 0 av = lv0)
    (walk : ∀ G : ps_G, G.1.2.1 = l → ps_ok G cc own maxL ws rm → (∀ pc lv, decode cc pc = .ok (.areturn, 1) → ps_V G maxL 0 0 w S' pc lv [.ref (w.2.1 kr)]) → ps_V G maxL 0 0 w S 0 lv0 []) : ps_MetR l y ws rm w av S S' kr := by
  intro D I sz
  refine Met.ofW (cc := cc) (maxL := maxL) (ret := ret) hy hw ?_
  intro p e s m args below meth c s₁ B hml hv
  obtain ⟨rfl, hsz, hP, hK, hD0, hi⟩ := hv
  have hx := B.exec
  have hb := B.bytes
  have hr := B.returns
  have hts := atoms_spec (ws := ws) B.pre
  have hown : s.vm.findClass own = some m.cls := hyc ▸ findClass_of_methodNamed B.named
  have hlocks := B.notSynchronized
  subst hsz
  have hD := hD0.self (sz := s.heap.size)
  have hl := lv_entry av (n := maxL) hlen
  rw [lg_entry_eq]
  generalize (lg_sl av ++ List.replicate (maxL - (lg_sl av).length) Slot.unset).toArray = ls at hl ⊢
  rw [hlv] at hl
  refine walk ((p, l, e, rm, s), (m, av.toArray, below, meth, c), (D, I), (va_A (ps_ws I w S) s.heap.size, s.heap, _)) rfl ⟨⟨hx, hb, hml, hown, hts⟩, hK, fun q h => Or.inr h, rfl⟩ (fun pc lv hd H locs ls hP9 hD9 hS9 hi9 hl9 => ?_) s.heap [] ls hP hD va_S.rf hi hl
  rcases hret with ⟨n, hret⟩ | ⟨t9, hret⟩
  · exact W.aret (v := .ref (w.2.1 kr)) hx hb (hr.trans hret) (Or.inl ⟨n, rfl⟩) (Or.inr ⟨_, rfl⟩) (fun t ht hW => ⟨⟨(), w.2.1 kr, rfl, trivial, rfl, by rw [ht]; exact hP9, va_K.moved hW.alike hK, hD9, hi9⟩, hS9.F ht⟩) hS9.2.2 hd
  · exact W.aret (v := .ref (w.2.1 kr)) hx hb (hr.trans hret) (Or.inr ⟨t9, rfl⟩) (Or.inr ⟨_, rfl⟩) (fun t ht hW => ⟨⟨(), w.2.1 kr, rfl, trivial, rfl, by rw [ht]; exact hP9, va_K.moved hW.alike hK, hD9, hi9⟩, hS9.F ht⟩) hS9.2.2 hd
theorem ps_mkZ {l : Launch} {y : MethodName} {cc : ByteArray} {maxL : Nat} {ret : Option FieldType} {ws ws' : List Cond} {rm : Room} {own : String} {w : ps_X} {av : List Value} {lv0 : List (Nat × Value)} {S S' : ps_S} {r : Int32} (hy : plainName y.cls = true) (hw : ws = Cond.code y cc maxL ret :: ws') (hret : ret = some .boolean) (hyc : y.cls = own) (hlen : (lg_sl av).length ≤ maxL) (hlv : lv_args 0 av = lv0)
    (walk : ∀ G : ps_G, G.1.2.1 = l → ps_ok G cc own maxL ws rm → (∀ pc lv, decode cc pc = .ok (.ireturn, 1) → narrow .boolean (.int r) = .int r → ps_V G maxL 0 0 w S' pc lv [.int r]) → ps_V G maxL 0 0 w S 0 lv0 []) : ps_MetI l y ws rm w av S S' r := by
  intro D I sz
  refine Met.ofW (cc := cc) (maxL := maxL) (ret := ret) hy hw ?_
  intro p e s m args below meth c s₁ B hml hv
  obtain ⟨rfl, hsz, hP, hK, hD0, hi⟩ := hv
  have hx := B.exec
  have hb := B.bytes
  have hr := B.returns
  have hts := atoms_spec (ws := ws) B.pre
  have hown : s.vm.findClass own = some m.cls := hyc ▸ findClass_of_methodNamed B.named
  have hlocks := B.notSynchronized
  subst hsz
  have hD := hD0.self (sz := s.heap.size)
  have hl := lv_entry av (n := maxL) hlen
  rw [lg_entry_eq]
  generalize (lg_sl av ++ List.replicate (maxL - (lg_sl av).length) Slot.unset).toArray = ls at hl ⊢
  rw [hlv] at hl
  refine walk ((p, l, e, rm, s), (m, av.toArray, below, meth, c), (D, I), (va_A (ps_ws I w S) s.heap.size, s.heap, _)) rfl ⟨⟨hx, hb, hml, hown, hts⟩, hK, fun q h => Or.inr h, rfl⟩ (fun pc lv hd hn H locs ls hP9 hD9 hS9 hi9 hl9 => ?_) s.heap [] ls hP hD va_S.rf hi hl
  exact W.zret (v := r) hx hb (hr.trans hret) hn (fun t ht hW => ⟨⟨r, (), rfl, rfl, by rw [ht]; exact hP9, va_K.moved hW.alike hK, hD9, hi9⟩, hS9.F ht⟩) hS9.2.2 hd
def ps_ww (w : ps_X) : Prop := 103 ≤ w.1 ∧ ∀ k j, w.2.2 k j = true
theorem ps_rfT {w : ps_X} (hw : ps_ww w) (k j t : Nat) : ps_rf w k j t = .ref (w.2.1 t) := by simp [ps_rf, hw.2]
theorem ps_lt {w : ps_X} (hw : ps_ww w) {k : Nat} (h : k < 103) : k < w.1 := Nat.lt_of_lt_of_le h hw.1
theorem ps_q0 : ps_kd 0 = 19 ∧ ps_ln 0 = 0 ∧ 0 < 103 ∧ 0 ≠ 57 := by decide
theorem ps_q1 : ps_kd 1 = 14 ∧ ps_ln 1 = 0 ∧ 1 < 103 ∧ 1 ≠ 57 := by decide
theorem ps_q2 : ps_kd 2 = 0 ∧ ps_ln 2 = 16 ∧ 2 < 103 ∧ 2 ≠ 57 := by decide
theorem ps_q3 : ps_kd 3 = 0 ∧ ps_ln 3 = 16 ∧ 3 < 103 ∧ 3 ≠ 57 := by decide
theorem ps_q4 : ps_kd 4 = 1 ∧ ps_ln 4 = 16 ∧ 4 < 103 ∧ 4 ≠ 57 := by decide
theorem ps_q5 : ps_kd 5 = 2 ∧ ps_ln 5 = 16 ∧ 5 < 103 ∧ 5 ≠ 57 := by decide
theorem ps_q6 : ps_kd 6 = 0 ∧ ps_ln 6 = 16 ∧ 6 < 103 ∧ 6 ≠ 57 := by decide
theorem ps_q7 : ps_kd 7 = 0 ∧ ps_ln 7 = 16 ∧ 7 < 103 ∧ 7 ≠ 57 := by decide
theorem ps_q8 : ps_kd 8 = 0 ∧ ps_ln 8 = 16 ∧ 8 < 103 ∧ 8 ≠ 57 := by decide
theorem ps_q9 : ps_kd 9 = 0 ∧ ps_ln 9 = 16 ∧ 9 < 103 ∧ 9 ≠ 57 := by decide
theorem ps_q10 : ps_kd 10 = 0 ∧ ps_ln 10 = 16 ∧ 10 < 103 ∧ 10 ≠ 57 := by decide
theorem ps_q11 : ps_kd 11 = 0 ∧ ps_ln 11 = 16 ∧ 11 < 103 ∧ 11 ≠ 57 := by decide
theorem ps_q12 : ps_kd 12 = 0 ∧ ps_ln 12 = 16 ∧ 12 < 103 ∧ 12 ≠ 57 := by decide
theorem ps_q13 : ps_kd 13 = 0 ∧ ps_ln 13 = 16 ∧ 13 < 103 ∧ 13 ≠ 57 := by decide
theorem ps_q14 : ps_kd 14 = 0 ∧ ps_ln 14 = 16 ∧ 14 < 103 ∧ 14 ≠ 57 := by decide
theorem ps_q15 : ps_kd 15 = 0 ∧ ps_ln 15 = 16 ∧ 15 < 103 ∧ 15 ≠ 57 := by decide
theorem ps_q16 : ps_kd 16 = 0 ∧ ps_ln 16 = 16 ∧ 16 < 103 ∧ 16 ≠ 57 := by decide
theorem ps_q17 : ps_kd 17 = 0 ∧ ps_ln 17 = 16 ∧ 17 < 103 ∧ 17 ≠ 57 := by decide
theorem ps_q18 : ps_kd 18 = 0 ∧ ps_ln 18 = 16 ∧ 18 < 103 ∧ 18 ≠ 57 := by decide
theorem ps_q19 : ps_kd 19 = 0 ∧ ps_ln 19 = 16 ∧ 19 < 103 ∧ 19 ≠ 57 := by decide
theorem ps_q20 : ps_kd 20 = 0 ∧ ps_ln 20 = 16 ∧ 20 < 103 ∧ 20 ≠ 57 := by decide
theorem ps_q21 : ps_kd 21 = 0 ∧ ps_ln 21 = 16 ∧ 21 < 103 ∧ 21 ≠ 57 := by decide
theorem ps_q22 : ps_kd 22 = 16 ∧ ps_ln 22 = 0 ∧ 22 < 103 ∧ 22 ≠ 57 := by decide
theorem ps_q23 : ps_kd 23 = 15 ∧ ps_ln 23 = 0 ∧ 23 < 103 ∧ 23 ≠ 57 := by decide
theorem ps_q24 : ps_kd 24 = 0 ∧ ps_ln 24 = 16 ∧ 24 < 103 ∧ 24 ≠ 57 := by decide
theorem ps_q25 : ps_kd 25 = 0 ∧ ps_ln 25 = 16 ∧ 25 < 103 ∧ 25 ≠ 57 := by decide
theorem ps_q26 : ps_kd 26 = 15 ∧ ps_ln 26 = 0 ∧ 26 < 103 ∧ 26 ≠ 57 := by decide
theorem ps_q27 : ps_kd 27 = 0 ∧ ps_ln 27 = 16 ∧ 27 < 103 ∧ 27 ≠ 57 := by decide
theorem ps_q28 : ps_kd 28 = 0 ∧ ps_ln 28 = 16 ∧ 28 < 103 ∧ 28 ≠ 57 := by decide
theorem ps_q29 : ps_kd 29 = 15 ∧ ps_ln 29 = 0 ∧ 29 < 103 ∧ 29 ≠ 57 := by decide
theorem ps_q30 : ps_kd 30 = 0 ∧ ps_ln 30 = 16 ∧ 30 < 103 ∧ 30 ≠ 57 := by decide
theorem ps_q31 : ps_kd 31 = 0 ∧ ps_ln 31 = 16 ∧ 31 < 103 ∧ 31 ≠ 57 := by decide
theorem ps_q32 : ps_kd 32 = 15 ∧ ps_ln 32 = 0 ∧ 32 < 103 ∧ 32 ≠ 57 := by decide
theorem ps_q33 : ps_kd 33 = 0 ∧ ps_ln 33 = 16 ∧ 33 < 103 ∧ 33 ≠ 57 := by decide
theorem ps_q34 : ps_kd 34 = 0 ∧ ps_ln 34 = 16 ∧ 34 < 103 ∧ 34 ≠ 57 := by decide
theorem ps_q35 : ps_kd 35 = 1 ∧ ps_ln 35 = 16 ∧ 35 < 103 ∧ 35 ≠ 57 := by decide
theorem ps_q36 : ps_kd 36 = 11 ∧ ps_ln 36 = 0 ∧ 36 < 103 ∧ 36 ≠ 57 := by decide
theorem ps_q37 : ps_kd 37 = 2 ∧ ps_ln 37 = 16 ∧ 37 < 103 ∧ 37 ≠ 57 := by decide
theorem ps_q38 : ps_kd 38 = 0 ∧ ps_ln 38 = 16 ∧ 38 < 103 ∧ 38 ≠ 57 := by decide
theorem ps_q39 : ps_kd 39 = 0 ∧ ps_ln 39 = 16 ∧ 39 < 103 ∧ 39 ≠ 57 := by decide
theorem ps_q40 : ps_kd 40 = 0 ∧ ps_ln 40 = 16 ∧ 40 < 103 ∧ 40 ≠ 57 := by decide
theorem ps_q41 : ps_kd 41 = 0 ∧ ps_ln 41 = 16 ∧ 41 < 103 ∧ 41 ≠ 57 := by decide
theorem ps_q42 : ps_kd 42 = 0 ∧ ps_ln 42 = 16 ∧ 42 < 103 ∧ 42 ≠ 57 := by decide
theorem ps_q43 : ps_kd 43 = 0 ∧ ps_ln 43 = 16 ∧ 43 < 103 ∧ 43 ≠ 57 := by decide
theorem ps_q44 : ps_kd 44 = 0 ∧ ps_ln 44 = 16 ∧ 44 < 103 ∧ 44 ≠ 57 := by decide
theorem ps_q45 : ps_kd 45 = 0 ∧ ps_ln 45 = 16 ∧ 45 < 103 ∧ 45 ≠ 57 := by decide
theorem ps_q46 : ps_kd 46 = 0 ∧ ps_ln 46 = 16 ∧ 46 < 103 ∧ 46 ≠ 57 := by decide
theorem ps_q47 : ps_kd 47 = 0 ∧ ps_ln 47 = 16 ∧ 47 < 103 ∧ 47 ≠ 57 := by decide
theorem ps_q48 : ps_kd 48 = 0 ∧ ps_ln 48 = 16 ∧ 48 < 103 ∧ 48 ≠ 57 := by decide
theorem ps_q49 : ps_kd 49 = 0 ∧ ps_ln 49 = 16 ∧ 49 < 103 ∧ 49 ≠ 57 := by decide
theorem ps_q50 : ps_kd 50 = 0 ∧ ps_ln 50 = 16 ∧ 50 < 103 ∧ 50 ≠ 57 := by decide
theorem ps_q51 : ps_kd 51 = 0 ∧ ps_ln 51 = 16 ∧ 51 < 103 ∧ 51 ≠ 57 := by decide
theorem ps_q52 : ps_kd 52 = 0 ∧ ps_ln 52 = 16 ∧ 52 < 103 ∧ 52 ≠ 57 := by decide
theorem ps_q53 : ps_kd 53 = 0 ∧ ps_ln 53 = 16 ∧ 53 < 103 ∧ 53 ≠ 57 := by decide
theorem ps_q54 : ps_kd 54 = 15 ∧ ps_ln 54 = 0 ∧ 54 < 103 ∧ 54 ≠ 57 := by decide
theorem ps_q55 : ps_kd 55 = 0 ∧ ps_ln 55 = 16 ∧ 55 < 103 ∧ 55 ≠ 57 := by decide
theorem ps_q56 : ps_kd 56 = 0 ∧ ps_ln 56 = 16 ∧ 56 < 103 ∧ 56 ≠ 57 := by decide
theorem ps_q57 : ps_kd 57 = 3 ∧ ps_ln 57 = 12 ∧ 57 < 103 := by decide
theorem ps_q58 : ps_kd 58 = 10 ∧ ps_ln 58 = 0 ∧ 58 < 103 ∧ 58 ≠ 57 := by decide
theorem ps_q59 : ps_kd 59 = 13 ∧ ps_ln 59 = 0 ∧ 59 < 103 ∧ 59 ≠ 57 := by decide
theorem ps_q60 : ps_kd 60 = 0 ∧ ps_ln 60 = 256 ∧ 60 < 103 ∧ 60 ≠ 57 := by decide
theorem ps_q61 : ps_kd 61 = 2 ∧ ps_ln 61 = 16 ∧ 61 < 103 ∧ 61 ≠ 57 := by decide
theorem ps_q62 : ps_kd 62 = 0 ∧ ps_ln 62 = 256 ∧ 62 < 103 ∧ 62 ≠ 57 := by decide
theorem ps_q63 : ps_kd 63 = 0 ∧ ps_ln 63 = 256 ∧ 63 < 103 ∧ 63 ≠ 57 := by decide
theorem ps_q64 : ps_kd 64 = 0 ∧ ps_ln 64 = 256 ∧ 64 < 103 ∧ 64 ≠ 57 := by decide
theorem ps_q65 : ps_kd 65 = 0 ∧ ps_ln 65 = 256 ∧ 65 < 103 ∧ 65 ≠ 57 := by decide
theorem ps_q66 : ps_kd 66 = 0 ∧ ps_ln 66 = 256 ∧ 66 < 103 ∧ 66 ≠ 57 := by decide
theorem ps_q67 : ps_kd 67 = 0 ∧ ps_ln 67 = 256 ∧ 67 < 103 ∧ 67 ≠ 57 := by decide
theorem ps_q68 : ps_kd 68 = 0 ∧ ps_ln 68 = 256 ∧ 68 < 103 ∧ 68 ≠ 57 := by decide
theorem ps_q69 : ps_kd 69 = 0 ∧ ps_ln 69 = 256 ∧ 69 < 103 ∧ 69 ≠ 57 := by decide
theorem ps_q70 : ps_kd 70 = 0 ∧ ps_ln 70 = 256 ∧ 70 < 103 ∧ 70 ≠ 57 := by decide
theorem ps_q71 : ps_kd 71 = 0 ∧ ps_ln 71 = 256 ∧ 71 < 103 ∧ 71 ≠ 57 := by decide
theorem ps_q72 : ps_kd 72 = 0 ∧ ps_ln 72 = 256 ∧ 72 < 103 ∧ 72 ≠ 57 := by decide
theorem ps_q73 : ps_kd 73 = 0 ∧ ps_ln 73 = 256 ∧ 73 < 103 ∧ 73 ≠ 57 := by decide
theorem ps_q74 : ps_kd 74 = 0 ∧ ps_ln 74 = 256 ∧ 74 < 103 ∧ 74 ≠ 57 := by decide
theorem ps_q75 : ps_kd 75 = 0 ∧ ps_ln 75 = 256 ∧ 75 < 103 ∧ 75 ≠ 57 := by decide
theorem ps_q76 : ps_kd 76 = 0 ∧ ps_ln 76 = 256 ∧ 76 < 103 ∧ 76 ≠ 57 := by decide
theorem ps_q77 : ps_kd 77 = 0 ∧ ps_ln 77 = 256 ∧ 77 < 103 ∧ 77 ≠ 57 := by decide
theorem ps_q78 : ps_kd 78 = 12 ∧ ps_ln 78 = 0 ∧ 78 < 103 ∧ 78 ≠ 57 := by decide
theorem ps_q79 : ps_kd 79 = 0 ∧ ps_ln 79 = 16 ∧ 79 < 103 ∧ 79 ≠ 57 := by decide
theorem ps_q80 : ps_kd 80 = 20 ∧ ps_ln 80 = 0 ∧ 80 < 103 ∧ 80 ≠ 57 := by decide
theorem ps_q81 : ps_kd 81 = 0 ∧ ps_ln 81 = 16 ∧ 81 < 103 ∧ 81 ≠ 57 := by decide
theorem ps_q82 : ps_kd 82 = 0 ∧ ps_ln 82 = 16 ∧ 82 < 103 ∧ 82 ≠ 57 := by decide
theorem ps_q83 : ps_kd 83 = 1 ∧ ps_ln 83 = 16 ∧ 83 < 103 ∧ 83 ≠ 57 := by decide
theorem ps_q84 : ps_kd 84 = 0 ∧ ps_ln 84 = 256 ∧ 84 < 103 ∧ 84 ≠ 57 := by decide
theorem ps_q85 : ps_kd 85 = 0 ∧ ps_ln 85 = 128 ∧ 85 < 103 ∧ 85 ≠ 57 := by decide
theorem ps_q86 : ps_kd 86 = 1 ∧ ps_ln 86 = 32 ∧ 86 < 103 ∧ 86 ≠ 57 := by decide
theorem ps_q87 : ps_kd 87 = 1 ∧ ps_ln 87 = 16 ∧ 87 < 103 ∧ 87 ≠ 57 := by decide
theorem ps_q88 : ps_kd 88 = 1 ∧ ps_ln 88 = 16 ∧ 88 < 103 ∧ 88 ≠ 57 := by decide
theorem ps_q89 : ps_kd 89 = 0 ∧ ps_ln 89 = 3 ∧ 89 < 103 ∧ 89 ≠ 57 := by decide
theorem ps_q90 : ps_kd 90 = 0 ∧ ps_ln 90 = 3 ∧ 90 < 103 ∧ 90 ≠ 57 := by decide
theorem ps_q91 : ps_kd 91 = 0 ∧ ps_ln 91 = 12 ∧ 91 < 103 ∧ 91 ≠ 57 := by decide
theorem ps_q92 : ps_kd 92 = 0 ∧ ps_ln 92 = 72 ∧ 92 < 103 ∧ 92 ≠ 57 := by decide
theorem ps_q93 : ps_kd 93 = 0 ∧ ps_ln 93 = 72 ∧ 93 < 103 ∧ 93 ≠ 57 := by decide
theorem ps_q94 : ps_kd 94 = 1 ∧ ps_ln 94 = 72 ∧ 94 < 103 ∧ 94 ≠ 57 := by decide
theorem ps_q95 : ps_kd 95 = 0 ∧ ps_ln 95 = 72 ∧ 95 < 103 ∧ 95 ≠ 57 := by decide
theorem ps_q96 : ps_kd 96 = 0 ∧ ps_ln 96 = 16 ∧ 96 < 103 ∧ 96 ≠ 57 := by decide
theorem ps_q97 : ps_kd 97 = 0 ∧ ps_ln 97 = 256 ∧ 97 < 103 ∧ 97 ≠ 57 := by decide
theorem ps_q98 : ps_kd 98 = 0 ∧ ps_ln 98 = 4096 ∧ 98 < 103 ∧ 98 ≠ 57 := by decide
theorem ps_q99 : ps_kd 99 = 0 ∧ ps_ln 99 = 4096 ∧ 99 < 103 ∧ 99 ≠ 57 := by decide
theorem ps_q100 : ps_kd 100 = 0 ∧ ps_ln 100 = 16 ∧ 100 < 103 ∧ 100 ≠ 57 := by decide
theorem ps_q101 : ps_kd 101 = 0 ∧ ps_ln 101 = 256 ∧ 101 < 103 ∧ 101 ≠ 57 := by decide
theorem ps_q102 : ps_kd 102 = 4 ∧ ps_ln 102 = 1 ∧ 102 < 103 ∧ 102 ≠ 57 := by decide
def ps_isR (k : Nat) : Prop := k = 23 ∨ k = 26 ∨ k = 29 ∨ k = 32 ∨ k = 54
theorem ps_isR_23 : ps_isR 23 := Or.inl rfl
theorem ps_isR_26 : ps_isR 26 := Or.inr (Or.inl rfl)
theorem ps_isR_29 : ps_isR 29 := Or.inr (Or.inr (Or.inl rfl))
theorem ps_isR_32 : ps_isR 32 := Or.inr (Or.inr (Or.inr (Or.inl rfl)))
theorem ps_isR_54 : ps_isR 54 := Or.inr (Or.inr (Or.inr (Or.inr rfl)))
theorem ps_isR_0 {k : Nat} (h : ps_isR k) : ps_kd k = 15 ∧ ps_ln k = 0 ∧ k < 103 ∧ k ≠ 57 := by
  rcases h with rfl | rfl | rfl | rfl | rfl <;> decide
theorem ps_isR_1 {k : Nat} (h : ps_isR k) : ps_kd (k + 1) = 0 ∧ ps_ln (k + 1) = 16 ∧ k + 1 < 103 ∧ k + 1 ≠ 57 := by
  rcases h with rfl | rfl | rfl | rfl | rfl <;> decide
theorem ps_isR_2 {k : Nat} (h : ps_isR k) : ps_kd (k + 2) = 0 ∧ ps_ln (k + 2) = 16 ∧ k + 2 < 103 ∧ k + 2 ≠ 57 := by
  rcases h with rfl | rfl | rfl | rfl | rfl <;> decide
theorem ps_k2a (b L : Nat) (h : ∀ i, i < 16 → ps_kd (b + i) = 0 ∧ ps_ln (b + i) = L ∧ b + i < 103 ∧ b + i ≠ 57) {i : Int32} (hi : ps_ib i 16 = true) : ps_kd (b + i.toNatClampNeg) = 0 ∧ ps_ln (b + i.toNatClampNeg) = L ∧ b + i.toNatClampNeg < 103 ∧ b + i.toNatClampNeg ≠ 57 := h _ (Nat.not_le.mp fun q => ps_ib_in hi (Or.inr q))
theorem ps_k6 {i : Int32} (hi : ps_ib i 16 = true) : ps_kd (6 + i.toNatClampNeg) = 0 ∧ ps_ln (6 + i.toNatClampNeg) = 16 ∧ 6 + i.toNatClampNeg < 103 ∧ 6 + i.toNatClampNeg ≠ 57 := ps_k2a 6 16 (by decide) hi
theorem ps_k38 {i : Int32} (hi : ps_ib i 16 = true) : ps_kd (38 + i.toNatClampNeg) = 0 ∧ ps_ln (38 + i.toNatClampNeg) = 16 ∧ 38 + i.toNatClampNeg < 103 ∧ 38 + i.toNatClampNeg ≠ 57 := ps_k2a 38 16 (by decide) hi
theorem ps_k62 {i : Int32} (hi : ps_ib i 16 = true) : ps_kd (62 + i.toNatClampNeg) = 0 ∧ ps_ln (62 + i.toNatClampNeg) = 256 ∧ 62 + i.toNatClampNeg < 103 ∧ 62 + i.toNatClampNeg ≠ 57 := ps_k2a 62 256 (by decide) hi
/-- a file's object lies at k, its cells behind it -/
def ps_isF (w : ps_X) (k : Nat) : Prop := ∃ i, k = 103 + 7 * i ∧ k + 7 ≤ w.1
theorem ps_isF_q {w : ps_X} {k : Nat} (h : ps_isF w k) (d : Nat) (hd : d < 7) : ps_kd (k + d) = ([17, 0, 1, 0, 0, 18, 0] : List Nat).getD d 9 ∧ ps_ln (k + d) = ([0, 6, 6, 6, 6, 0, 16] : List Nat).getD d 0 ∧ k + d < w.1 ∧ k + d ≠ 57 := by
  obtain ⟨i, rfl, hw⟩ := h
  have h1 : ¬ 103 + 7 * i + d < 103 := by omega
  have h2 : (103 + 7 * i + d - 103) % 7 = d := by omega
  refine ⟨?_, ?_, by omega, by omega⟩
  · rw [ps_kd, if_neg h1, h2]
  · rw [ps_ln, if_neg h1, h2]
theorem ps_isF_0 {w : ps_X} {k : Nat} (h : ps_isF w k) : ps_kd k = 17 ∧ ps_ln k = 0 ∧ k < w.1 ∧ k ≠ 57 := ps_isF_q h 0 (by decide)
theorem ps_isF_1 {w : ps_X} {k : Nat} (h : ps_isF w k) : ps_kd (k + 1) = 0 ∧ ps_ln (k + 1) = 6 ∧ k + 1 < w.1 ∧ k + 1 ≠ 57 := ps_isF_q h 1 (by decide)
theorem ps_isF_2 {w : ps_X} {k : Nat} (h : ps_isF w k) : ps_kd (k + 2) = 1 ∧ ps_ln (k + 2) = 6 ∧ k + 2 < w.1 ∧ k + 2 ≠ 57 := ps_isF_q h 2 (by decide)
theorem ps_isF_3 {w : ps_X} {k : Nat} (h : ps_isF w k) : ps_kd (k + 3) = 0 ∧ ps_ln (k + 3) = 6 ∧ k + 3 < w.1 ∧ k + 3 ≠ 57 := ps_isF_q h 3 (by decide)
theorem ps_isF_4 {w : ps_X} {k : Nat} (h : ps_isF w k) : ps_kd (k + 4) = 0 ∧ ps_ln (k + 4) = 6 ∧ k + 4 < w.1 ∧ k + 4 ≠ 57 := ps_isF_q h 4 (by decide)
/-- a file's tree lies at k -/
def ps_isT (w : ps_X) (k : Nat) : Prop := ∃ k0, k = k0 + 5 ∧ ps_isF w k0
theorem ps_isF_5 {w : ps_X} {k : Nat} (h : ps_isF w k) : ps_isT w (k + 5) := ⟨k, rfl, h⟩
theorem ps_isT_0 {w : ps_X} {k : Nat} (h : ps_isT w k) : ps_kd k = 18 ∧ ps_ln k = 0 ∧ k < w.1 ∧ k ≠ 57 := by
  obtain ⟨k0, rfl, h⟩ := h
  exact ps_isF_q h 5 (by decide)
theorem ps_isT_1 {w : ps_X} {k : Nat} (h : ps_isT w k) : ps_kd (k + 1) = 0 ∧ ps_ln (k + 1) = 16 ∧ k + 1 < w.1 ∧ k + 1 ≠ 57 := by
  obtain ⟨k0, rfl, h⟩ := h
  exact ps_isF_q h 6 (by decide)
/-- an int row of six lies at k -/
def ps_isA (w : ps_X) (k : Nat) : Prop := ps_kd k = 0 ∧ ps_ln k = 6 ∧ k < w.1 ∧ k ≠ 57
theorem ps_invF {w : ps_X} {S : ps_S} (h : ps_inv w S) {i : Nat} (hi : ¬ S 57 i = 0) : ps_isF w (103 + 7 * i) := ⟨i, rfl, by have := h i hi; omega⟩
section PG
variable {G : ps_G} {nL kc ks : Nat} {w : ps_X} {S S' : ps_S} {pc : Nat} {lv lv' : List (Nat × Value)} {rest : List Value} {cc : ByteArray} {own : String} {Ts : List Cond} {R : Room}
theorem ps_get10_0 (hG : ps_ok G cc own nL Ts R) (hw : ps_ww w) {index k : Nat} (hin : ∀ q ∈ wsX10, q ∈ Ts) (hkd : ps_kd k = 10) (hk : k < w.1) (hm : Cond.fieldLink own index (TX1 0).1 (TX1 0).2.1 (TX1 0).2.2.1 ∈ Ts) (hdg : decode cc pc = .ok (.getfield index, 3)) (kk : ps_V G nL kc ks w S (pc + 3) lv (.ref (w.2.1 1) :: rest)) : ps_V G nL kc ks w S pc lv (.ref (w.2.1 k) :: rest) := ps_get (C := RX1) (T := TX1) (N := 3) (ci := 0) hG hin hk (ps_cel_10 hkd _) rfl 0 (by decide) hm (by rw [← ps_rfT hw k 0 1]; rfl) hdg kk
theorem ps_get10_1 (hG : ps_ok G cc own nL Ts R) (hw : ps_ww w) {index k : Nat} (hin : ∀ q ∈ wsX10, q ∈ Ts) (hkd : ps_kd k = 10) (hk : k < w.1) (hm : Cond.fieldLink own index (TX1 1).1 (TX1 1).2.1 (TX1 1).2.2.1 ∈ Ts) (hdg : decode cc pc = .ok (.getfield index, 3)) (kk : ps_V G nL kc ks w S (pc + 3) lv (.ref (w.2.1 22) :: rest)) : ps_V G nL kc ks w S pc lv (.ref (w.2.1 k) :: rest) := ps_get (C := RX1) (T := TX1) (N := 3) (ci := 0) hG hin hk (ps_cel_10 hkd _) rfl 1 (by decide) hm (by rw [← ps_rfT hw k 1 22]; rfl) hdg kk
theorem ps_get10_2 (hG : ps_ok G cc own nL Ts R) (hw : ps_ww w) {index k : Nat} (hin : ∀ q ∈ wsX10, q ∈ Ts) (hkd : ps_kd k = 10) (hk : k < w.1) (hm : Cond.fieldLink own index (TX1 2).1 (TX1 2).2.1 (TX1 2).2.2.1 ∈ Ts) (hdg : decode cc pc = .ok (.getfield index, 3)) (kk : ps_V G nL kc ks w S (pc + 3) lv (.ref (w.2.1 36) :: rest)) : ps_V G nL kc ks w S pc lv (.ref (w.2.1 k) :: rest) := ps_get (C := RX1) (T := TX1) (N := 3) (ci := 0) hG hin hk (ps_cel_10 hkd _) rfl 2 (by decide) hm (by rw [← ps_rfT hw k 2 36]; rfl) hdg kk
theorem ps_get11_0 (hG : ps_ok G cc own nL Ts R) (hw : ps_ww w) {index k : Nat} (hin : ∀ q ∈ wsX20, q ∈ Ts) (hkd : ps_kd k = 11) (hk : k < w.1) (hm : Cond.fieldLink own index (TX2 0).1 (TX2 0).2.1 (TX2 0).2.2.1 ∈ Ts) (hdg : decode cc pc = .ok (.getfield index, 3)) (kk : ps_V G nL kc ks w S (pc + 3) lv (.ref (w.2.1 37) :: rest)) : ps_V G nL kc ks w S pc lv (.ref (w.2.1 k) :: rest) := ps_get (C := RX2) (T := TX2) (N := 1) (ci := 1) hG hin hk (ps_cel_11 hkd _) rfl 0 (by decide) hm (by rw [← ps_rfT hw k 0 37]; rfl) hdg kk
theorem ps_get12_0 (hG : ps_ok G cc own nL Ts R) (hw : ps_ww w) {index k : Nat} (hin : ∀ q ∈ wsX30, q ∈ Ts) (hkd : ps_kd k = 12) (hk : k < w.1) (hm : Cond.fieldLink own index (TX3 0).1 (TX3 0).2.1 (TX3 0).2.2.1 ∈ Ts) (hdg : decode cc pc = .ok (.getfield index, 3)) (kk : ps_V G nL kc ks w S (pc + 3) lv (.ref (w.2.1 1) :: rest)) : ps_V G nL kc ks w S pc lv (.ref (w.2.1 k) :: rest) := ps_get (C := RX3) (T := TX3) (N := 3) (ci := 2) hG hin hk (ps_cel_12 hkd _) rfl 0 (by decide) hm (by rw [← ps_rfT hw k 0 1]; rfl) hdg kk
theorem ps_get12_1 (hG : ps_ok G cc own nL Ts R) (hw : ps_ww w) {index k : Nat} (hin : ∀ q ∈ wsX30, q ∈ Ts) (hkd : ps_kd k = 12) (hk : k < w.1) (hm : Cond.fieldLink own index (TX3 1).1 (TX3 1).2.1 (TX3 1).2.2.1 ∈ Ts) (hdg : decode cc pc = .ok (.getfield index, 3)) (kk : ps_V G nL kc ks w S (pc + 3) lv (.ref (w.2.1 79) :: rest)) : ps_V G nL kc ks w S pc lv (.ref (w.2.1 k) :: rest) := ps_get (C := RX3) (T := TX3) (N := 3) (ci := 2) hG hin hk (ps_cel_12 hkd _) rfl 1 (by decide) hm (by rw [← ps_rfT hw k 1 79]; rfl) hdg kk
theorem ps_get12_2 (hG : ps_ok G cc own nL Ts R) {index k : Nat} (hin : ∀ q ∈ wsX30, q ∈ Ts) (hkd : ps_kd k = 12) (hk : k < w.1) (hm : Cond.fieldLink own index (TX3 2).1 (TX3 2).2.1 (TX3 2).2.2.1 ∈ Ts) (hdg : decode cc pc = .ok (.getfield index, 3)) (kk : ps_V G nL kc ks w S (pc + 3) lv (.int (S k 2) :: rest)) : ps_V G nL kc ks w S pc lv (.ref (w.2.1 k) :: rest) := ps_get (C := RX3) (T := TX3) (N := 3) (ci := 2) hG hin hk (ps_cel_12 hkd _) rfl 2 (by decide) hm rfl hdg kk
theorem ps_put12_2 (hG : ps_ok G cc own nL Ts R) {index k : Nat} {x : Int32} (hin : ∀ q ∈ wsX30, q ∈ Ts) (hkd : ps_kd k = 12) (hk : k < w.1) (h57 : k ≠ 57) (hm : Cond.fieldLink own index (TX3 2).1 (TX3 2).2.1 (TX3 2).2.2.1 ∈ Ts) (hdg : decode cc pc = .ok (.putfield index, 3)) (kk : ps_V G nL kc ks w (ps_up S k 2 x) (pc + 3) lv rest) : ps_V G nL kc ks w S pc lv (.int x :: .ref (w.2.1 k) :: rest) := ps_put (C := RX3) (T := TX3) (N := 3) (ci := 2) hG (fun r => [ps_rf w k 0 1, ps_rf w k 1 79, .int (r 2)]) hin tyX3 tyX3_ok nmX3 hk h57 (ps_cel_12 hkd) rfl 2 (by decide) hm rfl (by decide +kernel) (fun _ => rfl) (Nat.le_of_ble_eq_true rfl) hdg kk
theorem ps_get13_0 (hG : ps_ok G cc own nL Ts R) (hw : ps_ww w) {index k : Nat} (hin : ∀ q ∈ wsX40, q ∈ Ts) (hkd : ps_kd k = 13) (hk : k < w.1) (hm : Cond.fieldLink own index (TX4 0).1 (TX4 0).2.1 (TX4 0).2.2.1 ∈ Ts) (hdg : decode cc pc = .ok (.getfield index, 3)) (kk : ps_V G nL kc ks w S (pc + 3) lv (.ref (w.2.1 60) :: rest)) : ps_V G nL kc ks w S pc lv (.ref (w.2.1 k) :: rest) := ps_get (C := RX4) (T := TX4) (N := 2) (ci := 3) hG hin hk (ps_cel_13 hkd _) rfl 0 (by decide) hm (by rw [← ps_rfT hw k 0 60]; rfl) hdg kk
theorem ps_get13_1 (hG : ps_ok G cc own nL Ts R) (hw : ps_ww w) {index k : Nat} (hin : ∀ q ∈ wsX40, q ∈ Ts) (hkd : ps_kd k = 13) (hk : k < w.1) (hm : Cond.fieldLink own index (TX4 1).1 (TX4 1).2.1 (TX4 1).2.2.1 ∈ Ts) (hdg : decode cc pc = .ok (.getfield index, 3)) (kk : ps_V G nL kc ks w S (pc + 3) lv (.ref (w.2.1 61) :: rest)) : ps_V G nL kc ks w S pc lv (.ref (w.2.1 k) :: rest) := ps_get (C := RX4) (T := TX4) (N := 2) (ci := 3) hG hin hk (ps_cel_13 hkd _) rfl 1 (by decide) hm (by rw [← ps_rfT hw k 1 61]; rfl) hdg kk
theorem ps_get14_0 (hG : ps_ok G cc own nL Ts R) (hw : ps_ww w) {index k : Nat} (hin : ∀ q ∈ wsX50, q ∈ Ts) (hkd : ps_kd k = 14) (hk : k < w.1) (hm : Cond.fieldLink own index (TX5 0).1 (TX5 0).2.1 (TX5 0).2.2.1 ∈ Ts) (hdg : decode cc pc = .ok (.getfield index, 3)) (kk : ps_V G nL kc ks w S (pc + 3) lv (.ref (w.2.1 2) :: rest)) : ps_V G nL kc ks w S pc lv (.ref (w.2.1 k) :: rest) := ps_get (C := RX5) (T := TX5) (N := 5) (ci := 4) hG hin hk (ps_cel_14 hkd _) rfl 0 (by decide) hm (by rw [← ps_rfT hw k 0 2]; rfl) hdg kk
theorem ps_get14_1 (hG : ps_ok G cc own nL Ts R) (hw : ps_ww w) {index k : Nat} (hin : ∀ q ∈ wsX50, q ∈ Ts) (hkd : ps_kd k = 14) (hk : k < w.1) (hm : Cond.fieldLink own index (TX5 1).1 (TX5 1).2.1 (TX5 1).2.2.1 ∈ Ts) (hdg : decode cc pc = .ok (.getfield index, 3)) (kk : ps_V G nL kc ks w S (pc + 3) lv (.ref (w.2.1 3) :: rest)) : ps_V G nL kc ks w S pc lv (.ref (w.2.1 k) :: rest) := ps_get (C := RX5) (T := TX5) (N := 5) (ci := 4) hG hin hk (ps_cel_14 hkd _) rfl 1 (by decide) hm (by rw [← ps_rfT hw k 1 3]; rfl) hdg kk
theorem ps_get14_2 (hG : ps_ok G cc own nL Ts R) (hw : ps_ww w) {index k : Nat} (hin : ∀ q ∈ wsX50, q ∈ Ts) (hkd : ps_kd k = 14) (hk : k < w.1) (hm : Cond.fieldLink own index (TX5 2).1 (TX5 2).2.1 (TX5 2).2.2.1 ∈ Ts) (hdg : decode cc pc = .ok (.getfield index, 3)) (kk : ps_V G nL kc ks w S (pc + 3) lv (.ref (w.2.1 4) :: rest)) : ps_V G nL kc ks w S pc lv (.ref (w.2.1 k) :: rest) := ps_get (C := RX5) (T := TX5) (N := 5) (ci := 4) hG hin hk (ps_cel_14 hkd _) rfl 2 (by decide) hm (by rw [← ps_rfT hw k 2 4]; rfl) hdg kk
theorem ps_get14_3 (hG : ps_ok G cc own nL Ts R) (hw : ps_ww w) {index k : Nat} (hin : ∀ q ∈ wsX50, q ∈ Ts) (hkd : ps_kd k = 14) (hk : k < w.1) (hm : Cond.fieldLink own index (TX5 3).1 (TX5 3).2.1 (TX5 3).2.2.1 ∈ Ts) (hdg : decode cc pc = .ok (.getfield index, 3)) (kk : ps_V G nL kc ks w S (pc + 3) lv (.ref (w.2.1 5) :: rest)) : ps_V G nL kc ks w S pc lv (.ref (w.2.1 k) :: rest) := ps_get (C := RX5) (T := TX5) (N := 5) (ci := 4) hG hin hk (ps_cel_14 hkd _) rfl 3 (by decide) hm (by rw [← ps_rfT hw k 3 5]; rfl) hdg kk
theorem ps_get14_4 (hG : ps_ok G cc own nL Ts R) {index k : Nat} (hin : ∀ q ∈ wsX50, q ∈ Ts) (hkd : ps_kd k = 14) (hk : k < w.1) (hm : Cond.fieldLink own index (TX5 4).1 (TX5 4).2.1 (TX5 4).2.2.1 ∈ Ts) (hdg : decode cc pc = .ok (.getfield index, 3)) (kk : ps_V G nL kc ks w S (pc + 3) lv (.int (S k 4) :: rest)) : ps_V G nL kc ks w S pc lv (.ref (w.2.1 k) :: rest) := ps_get (C := RX5) (T := TX5) (N := 5) (ci := 4) hG hin hk (ps_cel_14 hkd _) rfl 4 (by decide) hm rfl hdg kk
theorem ps_put14_4 (hG : ps_ok G cc own nL Ts R) {index k : Nat} {x : Int32} (hin : ∀ q ∈ wsX50, q ∈ Ts) (hkd : ps_kd k = 14) (hk : k < w.1) (h57 : k ≠ 57) (hm : Cond.fieldLink own index (TX5 4).1 (TX5 4).2.1 (TX5 4).2.2.1 ∈ Ts) (hdg : decode cc pc = .ok (.putfield index, 3)) (kk : ps_V G nL kc ks w (ps_up S k 4 x) (pc + 3) lv rest) : ps_V G nL kc ks w S pc lv (.int x :: .ref (w.2.1 k) :: rest) := ps_put (C := RX5) (T := TX5) (N := 5) (ci := 4) hG (fun r => [ps_rf w k 0 2, ps_rf w k 1 3, ps_rf w k 2 4, ps_rf w k 3 5, .int (r 4)]) hin tyX5 tyX5_ok nmX5 hk h57 (ps_cel_14 hkd) rfl 4 (by decide) hm rfl (by decide +kernel) (fun _ => rfl) (Nat.le_of_ble_eq_true rfl) hdg kk
theorem ps_get15_0 (hG : ps_ok G cc own nL Ts R) (hw : ps_ww w) {index k : Nat} (hin : ∀ q ∈ wsX60, q ∈ Ts) (hkd : ps_kd k = 15) (hk : k < w.1) (hm : Cond.fieldLink own index (TX6 0).1 (TX6 0).2.1 (TX6 0).2.2.1 ∈ Ts) (hdg : decode cc pc = .ok (.getfield index, 3)) (kk : ps_V G nL kc ks w S (pc + 3) lv (.ref (w.2.1 (k + 1)) :: rest)) : ps_V G nL kc ks w S pc lv (.ref (w.2.1 k) :: rest) := ps_get (C := RX6) (T := TX6) (N := 3) (ci := 5) hG hin hk (ps_cel_15 hkd _) rfl 0 (by decide) hm (by rw [← ps_rfT hw k 0 (k + 1)]; rfl) hdg kk
theorem ps_get15_1 (hG : ps_ok G cc own nL Ts R) (hw : ps_ww w) {index k : Nat} (hin : ∀ q ∈ wsX60, q ∈ Ts) (hkd : ps_kd k = 15) (hk : k < w.1) (hm : Cond.fieldLink own index (TX6 1).1 (TX6 1).2.1 (TX6 1).2.2.1 ∈ Ts) (hdg : decode cc pc = .ok (.getfield index, 3)) (kk : ps_V G nL kc ks w S (pc + 3) lv (.ref (w.2.1 (k + 2)) :: rest)) : ps_V G nL kc ks w S pc lv (.ref (w.2.1 k) :: rest) := ps_get (C := RX6) (T := TX6) (N := 3) (ci := 5) hG hin hk (ps_cel_15 hkd _) rfl 1 (by decide) hm (by rw [← ps_rfT hw k 1 (k + 2)]; rfl) hdg kk
theorem ps_get15_2 (hG : ps_ok G cc own nL Ts R) {index k : Nat} (hin : ∀ q ∈ wsX60, q ∈ Ts) (hkd : ps_kd k = 15) (hk : k < w.1) (hm : Cond.fieldLink own index (TX6 2).1 (TX6 2).2.1 (TX6 2).2.2.1 ∈ Ts) (hdg : decode cc pc = .ok (.getfield index, 3)) (kk : ps_V G nL kc ks w S (pc + 3) lv (.int (S k 2) :: rest)) : ps_V G nL kc ks w S pc lv (.ref (w.2.1 k) :: rest) := ps_get (C := RX6) (T := TX6) (N := 3) (ci := 5) hG hin hk (ps_cel_15 hkd _) rfl 2 (by decide) hm rfl hdg kk
theorem ps_put15_2 (hG : ps_ok G cc own nL Ts R) {index k : Nat} {x : Int32} (hin : ∀ q ∈ wsX60, q ∈ Ts) (hkd : ps_kd k = 15) (hk : k < w.1) (h57 : k ≠ 57) (hm : Cond.fieldLink own index (TX6 2).1 (TX6 2).2.1 (TX6 2).2.2.1 ∈ Ts) (hdg : decode cc pc = .ok (.putfield index, 3)) (kk : ps_V G nL kc ks w (ps_up S k 2 x) (pc + 3) lv rest) : ps_V G nL kc ks w S pc lv (.int x :: .ref (w.2.1 k) :: rest) := ps_put (C := RX6) (T := TX6) (N := 3) (ci := 5) hG (fun r => [ps_rf w k 0 (k + 1), ps_rf w k 1 (k + 2), .int (r 2)]) hin tyX6 tyX6_ok nmX6 hk h57 (ps_cel_15 hkd) rfl 2 (by decide) hm rfl (by decide +kernel) (fun _ => rfl) (Nat.le_of_ble_eq_true rfl) hdg kk
theorem ps_get16_0 (hG : ps_ok G cc own nL Ts R) (hw : ps_ww w) {index k : Nat} (hin : ∀ q ∈ wsX70, q ∈ Ts) (hkd : ps_kd k = 16) (hk : k < w.1) (hm : Cond.fieldLink own index (TX7 0).1 (TX7 0).2.1 (TX7 0).2.2.1 ∈ Ts) (hdg : decode cc pc = .ok (.getfield index, 3)) (kk : ps_V G nL kc ks w S (pc + 3) lv (.ref (w.2.1 1) :: rest)) : ps_V G nL kc ks w S pc lv (.ref (w.2.1 k) :: rest) := ps_get (C := RX7) (T := TX7) (N := 7) (ci := 6) hG hin hk (ps_cel_16 hkd _) rfl 0 (by decide) hm (by rw [← ps_rfT hw k 0 1]; rfl) hdg kk
theorem ps_get16_1 (hG : ps_ok G cc own nL Ts R) (hw : ps_ww w) {index k : Nat} (hin : ∀ q ∈ wsX70, q ∈ Ts) (hkd : ps_kd k = 16) (hk : k < w.1) (hm : Cond.fieldLink own index (TX7 1).1 (TX7 1).2.1 (TX7 1).2.2.1 ∈ Ts) (hdg : decode cc pc = .ok (.getfield index, 3)) (kk : ps_V G nL kc ks w S (pc + 3) lv (.ref (w.2.1 23) :: rest)) : ps_V G nL kc ks w S pc lv (.ref (w.2.1 k) :: rest) := ps_get (C := RX7) (T := TX7) (N := 7) (ci := 6) hG hin hk (ps_cel_16 hkd _) rfl 1 (by decide) hm (by rw [← ps_rfT hw k 1 23]; rfl) hdg kk
theorem ps_get16_2 (hG : ps_ok G cc own nL Ts R) (hw : ps_ww w) {index k : Nat} (hin : ∀ q ∈ wsX70, q ∈ Ts) (hkd : ps_kd k = 16) (hk : k < w.1) (hm : Cond.fieldLink own index (TX7 2).1 (TX7 2).2.1 (TX7 2).2.2.1 ∈ Ts) (hdg : decode cc pc = .ok (.getfield index, 3)) (kk : ps_V G nL kc ks w S (pc + 3) lv (.ref (w.2.1 26) :: rest)) : ps_V G nL kc ks w S pc lv (.ref (w.2.1 k) :: rest) := ps_get (C := RX7) (T := TX7) (N := 7) (ci := 6) hG hin hk (ps_cel_16 hkd _) rfl 2 (by decide) hm (by rw [← ps_rfT hw k 2 26]; rfl) hdg kk
theorem ps_get16_3 (hG : ps_ok G cc own nL Ts R) (hw : ps_ww w) {index k : Nat} (hin : ∀ q ∈ wsX70, q ∈ Ts) (hkd : ps_kd k = 16) (hk : k < w.1) (hm : Cond.fieldLink own index (TX7 3).1 (TX7 3).2.1 (TX7 3).2.2.1 ∈ Ts) (hdg : decode cc pc = .ok (.getfield index, 3)) (kk : ps_V G nL kc ks w S (pc + 3) lv (.ref (w.2.1 29) :: rest)) : ps_V G nL kc ks w S pc lv (.ref (w.2.1 k) :: rest) := ps_get (C := RX7) (T := TX7) (N := 7) (ci := 6) hG hin hk (ps_cel_16 hkd _) rfl 3 (by decide) hm (by rw [← ps_rfT hw k 3 29]; rfl) hdg kk
theorem ps_get16_4 (hG : ps_ok G cc own nL Ts R) (hw : ps_ww w) {index k : Nat} (hin : ∀ q ∈ wsX70, q ∈ Ts) (hkd : ps_kd k = 16) (hk : k < w.1) (hm : Cond.fieldLink own index (TX7 4).1 (TX7 4).2.1 (TX7 4).2.2.1 ∈ Ts) (hdg : decode cc pc = .ok (.getfield index, 3)) (kk : ps_V G nL kc ks w S (pc + 3) lv (.ref (w.2.1 32) :: rest)) : ps_V G nL kc ks w S pc lv (.ref (w.2.1 k) :: rest) := ps_get (C := RX7) (T := TX7) (N := 7) (ci := 6) hG hin hk (ps_cel_16 hkd _) rfl 4 (by decide) hm (by rw [← ps_rfT hw k 4 32]; rfl) hdg kk
theorem ps_get16_5 (hG : ps_ok G cc own nL Ts R) (hw : ps_ww w) {index k : Nat} (hin : ∀ q ∈ wsX70, q ∈ Ts) (hkd : ps_kd k = 16) (hk : k < w.1) (hm : Cond.fieldLink own index (TX7 5).1 (TX7 5).2.1 (TX7 5).2.2.1 ∈ Ts) (hdg : decode cc pc = .ok (.getfield index, 3)) (kk : ps_V G nL kc ks w S (pc + 3) lv (.ref (w.2.1 35) :: rest)) : ps_V G nL kc ks w S pc lv (.ref (w.2.1 k) :: rest) := ps_get (C := RX7) (T := TX7) (N := 7) (ci := 6) hG hin hk (ps_cel_16 hkd _) rfl 5 (by decide) hm (by rw [← ps_rfT hw k 5 35]; rfl) hdg kk
theorem ps_get16_6 (hG : ps_ok G cc own nL Ts R) {index k : Nat} (hin : ∀ q ∈ wsX70, q ∈ Ts) (hkd : ps_kd k = 16) (hk : k < w.1) (hm : Cond.fieldLink own index (TX7 6).1 (TX7 6).2.1 (TX7 6).2.2.1 ∈ Ts) (hdg : decode cc pc = .ok (.getfield index, 3)) (kk : ps_V G nL kc ks w S (pc + 3) lv (.int (S k 6) :: rest)) : ps_V G nL kc ks w S pc lv (.ref (w.2.1 k) :: rest) := ps_get (C := RX7) (T := TX7) (N := 7) (ci := 6) hG hin hk (ps_cel_16 hkd _) rfl 6 (by decide) hm rfl hdg kk
theorem ps_put16_6 (hG : ps_ok G cc own nL Ts R) {index k : Nat} {x : Int32} (hin : ∀ q ∈ wsX70, q ∈ Ts) (hkd : ps_kd k = 16) (hk : k < w.1) (h57 : k ≠ 57) (hm : Cond.fieldLink own index (TX7 6).1 (TX7 6).2.1 (TX7 6).2.2.1 ∈ Ts) (hdg : decode cc pc = .ok (.putfield index, 3)) (kk : ps_V G nL kc ks w (ps_up S k 6 x) (pc + 3) lv rest) : ps_V G nL kc ks w S pc lv (.int x :: .ref (w.2.1 k) :: rest) := ps_put (C := RX7) (T := TX7) (N := 7) (ci := 6) hG (fun r => [ps_rf w k 0 1, ps_rf w k 1 23, ps_rf w k 2 26, ps_rf w k 3 29, ps_rf w k 4 32, ps_rf w k 5 35, .int (r 6)]) hin tyX7 tyX7_ok nmX7 hk h57 (ps_cel_16 hkd) rfl 6 (by decide) hm rfl (by decide +kernel) (fun _ => rfl) (Nat.le_of_ble_eq_true rfl) hdg kk
theorem ps_get17_0 (hG : ps_ok G cc own nL Ts R) {index k : Nat} (hin : ∀ q ∈ wsX80, q ∈ Ts) (hkd : ps_kd k = 17) (hk : k < w.1) (hm : Cond.fieldLink own index (TX8 0).1 (TX8 0).2.1 (TX8 0).2.2.1 ∈ Ts) (hdg : decode cc pc = .ok (.getfield index, 3)) (kk : ps_V G nL kc ks w S (pc + 3) lv (.int (S k 0) :: rest)) : ps_V G nL kc ks w S pc lv (.ref (w.2.1 k) :: rest) := ps_get (C := RX8) (T := TX8) (N := 6) (ci := 7) hG hin hk (ps_cel_17 hkd _) rfl 0 (by decide) hm rfl hdg kk
theorem ps_get17_1 (hG : ps_ok G cc own nL Ts R) (hw : ps_ww w) {index k : Nat} (hin : ∀ q ∈ wsX80, q ∈ Ts) (hkd : ps_kd k = 17) (hk : k < w.1) (hm : Cond.fieldLink own index (TX8 1).1 (TX8 1).2.1 (TX8 1).2.2.1 ∈ Ts) (hdg : decode cc pc = .ok (.getfield index, 3)) (kk : ps_V G nL kc ks w S (pc + 3) lv (.ref (w.2.1 (k + 4)) :: rest)) : ps_V G nL kc ks w S pc lv (.ref (w.2.1 k) :: rest) := ps_get (C := RX8) (T := TX8) (N := 6) (ci := 7) hG hin hk (ps_cel_17 hkd _) rfl 1 (by decide) hm (by rw [← ps_rfT hw k 1 (k + 4)]; rfl) hdg kk
theorem ps_get17_2 (hG : ps_ok G cc own nL Ts R) (hw : ps_ww w) {index k : Nat} (hin : ∀ q ∈ wsX80, q ∈ Ts) (hkd : ps_kd k = 17) (hk : k < w.1) (hm : Cond.fieldLink own index (TX8 2).1 (TX8 2).2.1 (TX8 2).2.2.1 ∈ Ts) (hdg : decode cc pc = .ok (.getfield index, 3)) (kk : ps_V G nL kc ks w S (pc + 3) lv (.ref (w.2.1 (k + 5)) :: rest)) : ps_V G nL kc ks w S pc lv (.ref (w.2.1 k) :: rest) := ps_get (C := RX8) (T := TX8) (N := 6) (ci := 7) hG hin hk (ps_cel_17 hkd _) rfl 2 (by decide) hm (by rw [← ps_rfT hw k 2 (k + 5)]; rfl) hdg kk
theorem ps_get17_3 (hG : ps_ok G cc own nL Ts R) (hw : ps_ww w) {index k : Nat} (hin : ∀ q ∈ wsX80, q ∈ Ts) (hkd : ps_kd k = 17) (hk : k < w.1) (hm : Cond.fieldLink own index (TX8 3).1 (TX8 3).2.1 (TX8 3).2.2.1 ∈ Ts) (hdg : decode cc pc = .ok (.getfield index, 3)) (kk : ps_V G nL kc ks w S (pc + 3) lv (.ref (w.2.1 (k + 1)) :: rest)) : ps_V G nL kc ks w S pc lv (.ref (w.2.1 k) :: rest) := ps_get (C := RX8) (T := TX8) (N := 6) (ci := 7) hG hin hk (ps_cel_17 hkd _) rfl 3 (by decide) hm (by rw [← ps_rfT hw k 3 (k + 1)]; rfl) hdg kk
theorem ps_get17_4 (hG : ps_ok G cc own nL Ts R) (hw : ps_ww w) {index k : Nat} (hin : ∀ q ∈ wsX80, q ∈ Ts) (hkd : ps_kd k = 17) (hk : k < w.1) (hm : Cond.fieldLink own index (TX8 4).1 (TX8 4).2.1 (TX8 4).2.2.1 ∈ Ts) (hdg : decode cc pc = .ok (.getfield index, 3)) (kk : ps_V G nL kc ks w S (pc + 3) lv (.ref (w.2.1 (k + 2)) :: rest)) : ps_V G nL kc ks w S pc lv (.ref (w.2.1 k) :: rest) := ps_get (C := RX8) (T := TX8) (N := 6) (ci := 7) hG hin hk (ps_cel_17 hkd _) rfl 4 (by decide) hm (by rw [← ps_rfT hw k 4 (k + 2)]; rfl) hdg kk
theorem ps_get17_5 (hG : ps_ok G cc own nL Ts R) (hw : ps_ww w) {index k : Nat} (hin : ∀ q ∈ wsX80, q ∈ Ts) (hkd : ps_kd k = 17) (hk : k < w.1) (hm : Cond.fieldLink own index (TX8 5).1 (TX8 5).2.1 (TX8 5).2.2.1 ∈ Ts) (hdg : decode cc pc = .ok (.getfield index, 3)) (kk : ps_V G nL kc ks w S (pc + 3) lv (.ref (w.2.1 (k + 3)) :: rest)) : ps_V G nL kc ks w S pc lv (.ref (w.2.1 k) :: rest) := ps_get (C := RX8) (T := TX8) (N := 6) (ci := 7) hG hin hk (ps_cel_17 hkd _) rfl 5 (by decide) hm (by rw [← ps_rfT hw k 5 (k + 3)]; rfl) hdg kk
theorem ps_get18_0 (hG : ps_ok G cc own nL Ts R) (hw : ps_ww w) {index k : Nat} (hin : ∀ q ∈ wsX90, q ∈ Ts) (hkd : ps_kd k = 18) (hk : k < w.1) (hm : Cond.fieldLink own index (TX9 0).1 (TX9 0).2.1 (TX9 0).2.2.1 ∈ Ts) (hdg : decode cc pc = .ok (.getfield index, 3)) (kk : ps_V G nL kc ks w S (pc + 3) lv (.ref (w.2.1 (k + 1)) :: rest)) : ps_V G nL kc ks w S pc lv (.ref (w.2.1 k) :: rest) := ps_get (C := RX9) (T := TX9) (N := 1) (ci := 8) hG hin hk (ps_cel_18 hkd _) rfl 0 (by decide) hm (by rw [← ps_rfT hw k 0 (k + 1)]; rfl) hdg kk
theorem ps_get19_0 (hG : ps_ok G cc own nL Ts R) (hw : ps_ww w) {index k : Nat} (hin : ∀ q ∈ wsX100, q ∈ Ts) (hkd : ps_kd k = 19) (hk : k < w.1) (hm : Cond.fieldLink own index (TX10 0).1 (TX10 0).2.1 (TX10 0).2.2.1 ∈ Ts) (hdg : decode cc pc = .ok (.getfield index, 3)) (kk : ps_V G nL kc ks w S (pc + 3) lv (.ref (w.2.1 1) :: rest)) : ps_V G nL kc ks w S pc lv (.ref (w.2.1 k) :: rest) := ps_get (C := RX10) (T := TX10) (N := 10) (ci := 9) hG hin hk (ps_cel_19 hkd _) rfl 0 (by decide) hm (by rw [← ps_rfT hw k 0 1]; rfl) hdg kk
theorem ps_get19_1 (hG : ps_ok G cc own nL Ts R) (hw : ps_ww w) {index k : Nat} (hin : ∀ q ∈ wsX100, q ∈ Ts) (hkd : ps_kd k = 19) (hk : k < w.1) (hm : Cond.fieldLink own index (TX10 1).1 (TX10 1).2.1 (TX10 1).2.2.1 ∈ Ts) (hdg : decode cc pc = .ok (.getfield index, 3)) (kk : ps_V G nL kc ks w S (pc + 3) lv (.ref (w.2.1 22) :: rest)) : ps_V G nL kc ks w S pc lv (.ref (w.2.1 k) :: rest) := ps_get (C := RX10) (T := TX10) (N := 10) (ci := 9) hG hin hk (ps_cel_19 hkd _) rfl 1 (by decide) hm (by rw [← ps_rfT hw k 1 22]; rfl) hdg kk
theorem ps_get19_2 (hG : ps_ok G cc own nL Ts R) (hw : ps_ww w) {index k : Nat} (hin : ∀ q ∈ wsX100, q ∈ Ts) (hkd : ps_kd k = 19) (hk : k < w.1) (hm : Cond.fieldLink own index (TX10 2).1 (TX10 2).2.1 (TX10 2).2.2.1 ∈ Ts) (hdg : decode cc pc = .ok (.getfield index, 3)) (kk : ps_V G nL kc ks w S (pc + 3) lv (.ref (w.2.1 54) :: rest)) : ps_V G nL kc ks w S pc lv (.ref (w.2.1 k) :: rest) := ps_get (C := RX10) (T := TX10) (N := 10) (ci := 9) hG hin hk (ps_cel_19 hkd _) rfl 2 (by decide) hm (by rw [← ps_rfT hw k 2 54]; rfl) hdg kk
theorem ps_get19_3 (hG : ps_ok G cc own nL Ts R) (hw : ps_ww w) {index k : Nat} (hin : ∀ q ∈ wsX100, q ∈ Ts) (hkd : ps_kd k = 19) (hk : k < w.1) (hm : Cond.fieldLink own index (TX10 3).1 (TX10 3).2.1 (TX10 3).2.2.1 ∈ Ts) (hdg : decode cc pc = .ok (.getfield index, 3)) (kk : ps_V G nL kc ks w S (pc + 3) lv (.ref (w.2.1 57) :: rest)) : ps_V G nL kc ks w S pc lv (.ref (w.2.1 k) :: rest) := ps_get (C := RX10) (T := TX10) (N := 10) (ci := 9) hG hin hk (ps_cel_19 hkd _) rfl 3 (by decide) hm (by rw [← ps_rfT hw k 3 57]; rfl) hdg kk
theorem ps_get19_4 (hG : ps_ok G cc own nL Ts R) (hw : ps_ww w) {index k : Nat} (hin : ∀ q ∈ wsX100, q ∈ Ts) (hkd : ps_kd k = 19) (hk : k < w.1) (hm : Cond.fieldLink own index (TX10 4).1 (TX10 4).2.1 (TX10 4).2.2.1 ∈ Ts) (hdg : decode cc pc = .ok (.getfield index, 3)) (kk : ps_V G nL kc ks w S (pc + 3) lv (.ref (w.2.1 58) :: rest)) : ps_V G nL kc ks w S pc lv (.ref (w.2.1 k) :: rest) := ps_get (C := RX10) (T := TX10) (N := 10) (ci := 9) hG hin hk (ps_cel_19 hkd _) rfl 4 (by decide) hm (by rw [← ps_rfT hw k 4 58]; rfl) hdg kk
theorem ps_get19_5 (hG : ps_ok G cc own nL Ts R) (hw : ps_ww w) {index k : Nat} (hin : ∀ q ∈ wsX100, q ∈ Ts) (hkd : ps_kd k = 19) (hk : k < w.1) (hm : Cond.fieldLink own index (TX10 5).1 (TX10 5).2.1 (TX10 5).2.2.1 ∈ Ts) (hdg : decode cc pc = .ok (.getfield index, 3)) (kk : ps_V G nL kc ks w S (pc + 3) lv (.ref (w.2.1 59) :: rest)) : ps_V G nL kc ks w S pc lv (.ref (w.2.1 k) :: rest) := ps_get (C := RX10) (T := TX10) (N := 10) (ci := 9) hG hin hk (ps_cel_19 hkd _) rfl 5 (by decide) hm (by rw [← ps_rfT hw k 5 59]; rfl) hdg kk
theorem ps_get19_6 (hG : ps_ok G cc own nL Ts R) (hw : ps_ww w) {index k : Nat} (hin : ∀ q ∈ wsX100, q ∈ Ts) (hkd : ps_kd k = 19) (hk : k < w.1) (hm : Cond.fieldLink own index (TX10 6).1 (TX10 6).2.1 (TX10 6).2.2.1 ∈ Ts) (hdg : decode cc pc = .ok (.getfield index, 3)) (kk : ps_V G nL kc ks w S (pc + 3) lv (.ref (w.2.1 78) :: rest)) : ps_V G nL kc ks w S pc lv (.ref (w.2.1 k) :: rest) := ps_get (C := RX10) (T := TX10) (N := 10) (ci := 9) hG hin hk (ps_cel_19 hkd _) rfl 6 (by decide) hm (by rw [← ps_rfT hw k 6 78]; rfl) hdg kk
theorem ps_get19_7 (hG : ps_ok G cc own nL Ts R) (hw : ps_ww w) {index k : Nat} (hin : ∀ q ∈ wsX100, q ∈ Ts) (hkd : ps_kd k = 19) (hk : k < w.1) (hm : Cond.fieldLink own index (TX10 7).1 (TX10 7).2.1 (TX10 7).2.2.1 ∈ Ts) (hdg : decode cc pc = .ok (.getfield index, 3)) (kk : ps_V G nL kc ks w S (pc + 3) lv (.ref (w.2.1 36) :: rest)) : ps_V G nL kc ks w S pc lv (.ref (w.2.1 k) :: rest) := ps_get (C := RX10) (T := TX10) (N := 10) (ci := 9) hG hin hk (ps_cel_19 hkd _) rfl 7 (by decide) hm (by rw [← ps_rfT hw k 7 36]; rfl) hdg kk
theorem ps_get19_8 (hG : ps_ok G cc own nL Ts R) {index k : Nat} (hin : ∀ q ∈ wsX100, q ∈ Ts) (hkd : ps_kd k = 19) (hk : k < w.1) (hm : Cond.fieldLink own index (TX10 8).1 (TX10 8).2.1 (TX10 8).2.2.1 ∈ Ts) (hdg : decode cc pc = .ok (.getfield index, 3)) (kk : ps_V G nL kc ks w S (pc + 3) lv (.int (S k 8) :: rest)) : ps_V G nL kc ks w S pc lv (.ref (w.2.1 k) :: rest) := ps_get (C := RX10) (T := TX10) (N := 10) (ci := 9) hG hin hk (ps_cel_19 hkd _) rfl 8 (by decide) hm rfl hdg kk
theorem ps_get19_9 (hG : ps_ok G cc own nL Ts R) {index k : Nat} (hin : ∀ q ∈ wsX100, q ∈ Ts) (hkd : ps_kd k = 19) (hk : k < w.1) (hm : Cond.fieldLink own index (TX10 9).1 (TX10 9).2.1 (TX10 9).2.2.1 ∈ Ts) (hdg : decode cc pc = .ok (.getfield index, 3)) (kk : ps_V G nL kc ks w S (pc + 3) lv (.int (S k 9) :: rest)) : ps_V G nL kc ks w S pc lv (.ref (w.2.1 k) :: rest) := ps_get (C := RX10) (T := TX10) (N := 10) (ci := 9) hG hin hk (ps_cel_19 hkd _) rfl 9 (by decide) hm rfl hdg kk
theorem ps_put19_8 (hG : ps_ok G cc own nL Ts R) {index k : Nat} {x : Int32} (hin : ∀ q ∈ wsX100, q ∈ Ts) (hkd : ps_kd k = 19) (hk : k < w.1) (h57 : k ≠ 57) (hm : Cond.fieldLink own index (TX10 8).1 (TX10 8).2.1 (TX10 8).2.2.1 ∈ Ts) (hdg : decode cc pc = .ok (.putfield index, 3)) (kk : ps_V G nL kc ks w (ps_up S k 8 x) (pc + 3) lv rest) : ps_V G nL kc ks w S pc lv (.int x :: .ref (w.2.1 k) :: rest) := ps_put (C := RX10) (T := TX10) (N := 10) (ci := 9) hG (fun r => [ps_rf w k 0 1, ps_rf w k 1 22, ps_rf w k 2 54, ps_rf w k 3 57, ps_rf w k 4 58, ps_rf w k 5 59, ps_rf w k 6 78, ps_rf w k 7 36, .int (r 8), .int (r 9)]) hin tyX10 tyX10_ok nmX10 hk h57 (ps_cel_19 hkd) rfl 8 (by decide) hm rfl (by decide +kernel) (fun _ => rfl) (Nat.le_of_ble_eq_true rfl) hdg kk
theorem ps_put19_9 (hG : ps_ok G cc own nL Ts R) {index k : Nat} {x : Int32} (hin : ∀ q ∈ wsX100, q ∈ Ts) (hkd : ps_kd k = 19) (hk : k < w.1) (h57 : k ≠ 57) (hm : Cond.fieldLink own index (TX10 9).1 (TX10 9).2.1 (TX10 9).2.2.1 ∈ Ts) (hdg : decode cc pc = .ok (.putfield index, 3)) (kk : ps_V G nL kc ks w (ps_up S k 9 x) (pc + 3) lv rest) : ps_V G nL kc ks w S pc lv (.int x :: .ref (w.2.1 k) :: rest) := ps_put (C := RX10) (T := TX10) (N := 10) (ci := 9) hG (fun r => [ps_rf w k 0 1, ps_rf w k 1 22, ps_rf w k 2 54, ps_rf w k 3 57, ps_rf w k 4 58, ps_rf w k 5 59, ps_rf w k 6 78, ps_rf w k 7 36, .int (r 8), .int (r 9)]) hin tyX10 tyX10_ok nmX10 hk h57 (ps_cel_19 hkd) rfl 9 (by decide) hm rfl (by decide +kernel) (fun _ => rfl) (Nat.le_of_ble_eq_true rfl) hdg kk
theorem ps_get20_0 (hG : ps_ok G cc own nL Ts R) {index k : Nat} (hin : ∀ q ∈ wsX110, q ∈ Ts) (hkd : ps_kd k = 20) (hk : k < w.1) (hm : Cond.fieldLink own index (TX11 0).1 (TX11 0).2.1 (TX11 0).2.2.1 ∈ Ts) (hdg : decode cc pc = .ok (.getfield index, 3)) (kk : ps_V G nL kc ks w S (pc + 3) lv (.int (S k 0) :: rest)) : ps_V G nL kc ks w S pc lv (.ref (w.2.1 k) :: rest) := ps_get (C := RX11) (T := TX11) (N := 28) (ci := 10) hG hin hk (ps_cel_20 hkd _) rfl 0 (by decide) hm rfl hdg kk
theorem ps_get20_1 (hG : ps_ok G cc own nL Ts R) {index k : Nat} (hin : ∀ q ∈ wsX110, q ∈ Ts) (hkd : ps_kd k = 20) (hk : k < w.1) (hm : Cond.fieldLink own index (TX11 1).1 (TX11 1).2.1 (TX11 1).2.2.1 ∈ Ts) (hdg : decode cc pc = .ok (.getfield index, 3)) (kk : ps_V G nL kc ks w S (pc + 3) lv (.int (S k 1) :: rest)) : ps_V G nL kc ks w S pc lv (.ref (w.2.1 k) :: rest) := ps_get (C := RX11) (T := TX11) (N := 28) (ci := 10) hG hin hk (ps_cel_20 hkd _) rfl 1 (by decide) hm rfl hdg kk
theorem ps_get20_2 (hG : ps_ok G cc own nL Ts R) {index k : Nat} (hin : ∀ q ∈ wsX110, q ∈ Ts) (hkd : ps_kd k = 20) (hk : k < w.1) (hm : Cond.fieldLink own index (TX11 2).1 (TX11 2).2.1 (TX11 2).2.2.1 ∈ Ts) (hdg : decode cc pc = .ok (.getfield index, 3)) (kk : ps_V G nL kc ks w S (pc + 3) lv (.int (S k 2) :: rest)) : ps_V G nL kc ks w S pc lv (.ref (w.2.1 k) :: rest) := ps_get (C := RX11) (T := TX11) (N := 28) (ci := 10) hG hin hk (ps_cel_20 hkd _) rfl 2 (by decide) hm rfl hdg kk
theorem ps_get20_3 (hG : ps_ok G cc own nL Ts R) (hw : ps_ww w) {index k : Nat} (hin : ∀ q ∈ wsX110, q ∈ Ts) (hkd : ps_kd k = 20) (hk : k < w.1) (hm : Cond.fieldLink own index (TX11 3).1 (TX11 3).2.1 (TX11 3).2.2.1 ∈ Ts) (hdg : decode cc pc = .ok (.getfield index, 3)) (kk : ps_V G nL kc ks w S (pc + 3) lv (.ref (w.2.1 81) :: rest)) : ps_V G nL kc ks w S pc lv (.ref (w.2.1 k) :: rest) := ps_get (C := RX11) (T := TX11) (N := 28) (ci := 10) hG hin hk (ps_cel_20 hkd _) rfl 3 (by decide) hm (by rw [← ps_rfT hw k 3 81]; rfl) hdg kk
theorem ps_get20_4 (hG : ps_ok G cc own nL Ts R) (hw : ps_ww w) {index k : Nat} (hin : ∀ q ∈ wsX110, q ∈ Ts) (hkd : ps_kd k = 20) (hk : k < w.1) (hm : Cond.fieldLink own index (TX11 4).1 (TX11 4).2.1 (TX11 4).2.2.1 ∈ Ts) (hdg : decode cc pc = .ok (.getfield index, 3)) (kk : ps_V G nL kc ks w S (pc + 3) lv (.ref (w.2.1 82) :: rest)) : ps_V G nL kc ks w S pc lv (.ref (w.2.1 k) :: rest) := ps_get (C := RX11) (T := TX11) (N := 28) (ci := 10) hG hin hk (ps_cel_20 hkd _) rfl 4 (by decide) hm (by rw [← ps_rfT hw k 4 82]; rfl) hdg kk
theorem ps_get20_5 (hG : ps_ok G cc own nL Ts R) (hw : ps_ww w) {index k : Nat} (hin : ∀ q ∈ wsX110, q ∈ Ts) (hkd : ps_kd k = 20) (hk : k < w.1) (hm : Cond.fieldLink own index (TX11 5).1 (TX11 5).2.1 (TX11 5).2.2.1 ∈ Ts) (hdg : decode cc pc = .ok (.getfield index, 3)) (kk : ps_V G nL kc ks w S (pc + 3) lv (.ref (w.2.1 83) :: rest)) : ps_V G nL kc ks w S pc lv (.ref (w.2.1 k) :: rest) := ps_get (C := RX11) (T := TX11) (N := 28) (ci := 10) hG hin hk (ps_cel_20 hkd _) rfl 5 (by decide) hm (by rw [← ps_rfT hw k 5 83]; rfl) hdg kk
theorem ps_get20_6 (hG : ps_ok G cc own nL Ts R) (hw : ps_ww w) {index k : Nat} (hin : ∀ q ∈ wsX110, q ∈ Ts) (hkd : ps_kd k = 20) (hk : k < w.1) (hm : Cond.fieldLink own index (TX11 6).1 (TX11 6).2.1 (TX11 6).2.2.1 ∈ Ts) (hdg : decode cc pc = .ok (.getfield index, 3)) (kk : ps_V G nL kc ks w S (pc + 3) lv (.ref (w.2.1 84) :: rest)) : ps_V G nL kc ks w S pc lv (.ref (w.2.1 k) :: rest) := ps_get (C := RX11) (T := TX11) (N := 28) (ci := 10) hG hin hk (ps_cel_20 hkd _) rfl 6 (by decide) hm (by rw [← ps_rfT hw k 6 84]; rfl) hdg kk
theorem ps_get20_7 (hG : ps_ok G cc own nL Ts R) (hw : ps_ww w) {index k : Nat} (hin : ∀ q ∈ wsX110, q ∈ Ts) (hkd : ps_kd k = 20) (hk : k < w.1) (hm : Cond.fieldLink own index (TX11 7).1 (TX11 7).2.1 (TX11 7).2.2.1 ∈ Ts) (hdg : decode cc pc = .ok (.getfield index, 3)) (kk : ps_V G nL kc ks w S (pc + 3) lv (.ref (w.2.1 85) :: rest)) : ps_V G nL kc ks w S pc lv (.ref (w.2.1 k) :: rest) := ps_get (C := RX11) (T := TX11) (N := 28) (ci := 10) hG hin hk (ps_cel_20 hkd _) rfl 7 (by decide) hm (by rw [← ps_rfT hw k 7 85]; rfl) hdg kk
theorem ps_get20_8 (hG : ps_ok G cc own nL Ts R) (hw : ps_ww w) {index k : Nat} (hin : ∀ q ∈ wsX110, q ∈ Ts) (hkd : ps_kd k = 20) (hk : k < w.1) (hm : Cond.fieldLink own index (TX11 8).1 (TX11 8).2.1 (TX11 8).2.2.1 ∈ Ts) (hdg : decode cc pc = .ok (.getfield index, 3)) (kk : ps_V G nL kc ks w S (pc + 3) lv (.ref (w.2.1 86) :: rest)) : ps_V G nL kc ks w S pc lv (.ref (w.2.1 k) :: rest) := ps_get (C := RX11) (T := TX11) (N := 28) (ci := 10) hG hin hk (ps_cel_20 hkd _) rfl 8 (by decide) hm (by rw [← ps_rfT hw k 8 86]; rfl) hdg kk
theorem ps_get20_9 (hG : ps_ok G cc own nL Ts R) (hw : ps_ww w) {index k : Nat} (hin : ∀ q ∈ wsX110, q ∈ Ts) (hkd : ps_kd k = 20) (hk : k < w.1) (hm : Cond.fieldLink own index (TX11 9).1 (TX11 9).2.1 (TX11 9).2.2.1 ∈ Ts) (hdg : decode cc pc = .ok (.getfield index, 3)) (kk : ps_V G nL kc ks w S (pc + 3) lv (.ref (w.2.1 87) :: rest)) : ps_V G nL kc ks w S pc lv (.ref (w.2.1 k) :: rest) := ps_get (C := RX11) (T := TX11) (N := 28) (ci := 10) hG hin hk (ps_cel_20 hkd _) rfl 9 (by decide) hm (by rw [← ps_rfT hw k 9 87]; rfl) hdg kk
theorem ps_get20_10 (hG : ps_ok G cc own nL Ts R) (hw : ps_ww w) {index k : Nat} (hin : ∀ q ∈ wsX110, q ∈ Ts) (hkd : ps_kd k = 20) (hk : k < w.1) (hm : Cond.fieldLink own index (TX11 10).1 (TX11 10).2.1 (TX11 10).2.2.1 ∈ Ts) (hdg : decode cc pc = .ok (.getfield index, 3)) (kk : ps_V G nL kc ks w S (pc + 3) lv (.ref (w.2.1 88) :: rest)) : ps_V G nL kc ks w S pc lv (.ref (w.2.1 k) :: rest) := ps_get (C := RX11) (T := TX11) (N := 28) (ci := 10) hG hin hk (ps_cel_20 hkd _) rfl 10 (by decide) hm (by rw [← ps_rfT hw k 10 88]; rfl) hdg kk
theorem ps_get20_11 (hG : ps_ok G cc own nL Ts R) (hw : ps_ww w) {index k : Nat} (hin : ∀ q ∈ wsX110, q ∈ Ts) (hkd : ps_kd k = 20) (hk : k < w.1) (hm : Cond.fieldLink own index (TX11 11).1 (TX11 11).2.1 (TX11 11).2.2.1 ∈ Ts) (hdg : decode cc pc = .ok (.getfield index, 3)) (kk : ps_V G nL kc ks w S (pc + 3) lv (.ref (w.2.1 89) :: rest)) : ps_V G nL kc ks w S pc lv (.ref (w.2.1 k) :: rest) := ps_get (C := RX11) (T := TX11) (N := 28) (ci := 10) hG hin hk (ps_cel_20 hkd _) rfl 11 (by decide) hm (by rw [← ps_rfT hw k 11 89]; rfl) hdg kk
theorem ps_get20_12 (hG : ps_ok G cc own nL Ts R) (hw : ps_ww w) {index k : Nat} (hin : ∀ q ∈ wsX110, q ∈ Ts) (hkd : ps_kd k = 20) (hk : k < w.1) (hm : Cond.fieldLink own index (TX11 12).1 (TX11 12).2.1 (TX11 12).2.2.1 ∈ Ts) (hdg : decode cc pc = .ok (.getfield index, 3)) (kk : ps_V G nL kc ks w S (pc + 3) lv (.ref (w.2.1 90) :: rest)) : ps_V G nL kc ks w S pc lv (.ref (w.2.1 k) :: rest) := ps_get (C := RX11) (T := TX11) (N := 28) (ci := 10) hG hin hk (ps_cel_20 hkd _) rfl 12 (by decide) hm (by rw [← ps_rfT hw k 12 90]; rfl) hdg kk
theorem ps_get20_13 (hG : ps_ok G cc own nL Ts R) {index k : Nat} (hin : ∀ q ∈ wsX110, q ∈ Ts) (hkd : ps_kd k = 20) (hk : k < w.1) (hm : Cond.fieldLink own index (TX11 13).1 (TX11 13).2.1 (TX11 13).2.2.1 ∈ Ts) (hdg : decode cc pc = .ok (.getfield index, 3)) (kk : ps_V G nL kc ks w S (pc + 3) lv (.int (S k 13) :: rest)) : ps_V G nL kc ks w S pc lv (.ref (w.2.1 k) :: rest) := ps_get (C := RX11) (T := TX11) (N := 28) (ci := 10) hG hin hk (ps_cel_20 hkd _) rfl 13 (by decide) hm rfl hdg kk
theorem ps_get20_14 (hG : ps_ok G cc own nL Ts R) {index k : Nat} (hin : ∀ q ∈ wsX110, q ∈ Ts) (hkd : ps_kd k = 20) (hk : k < w.1) (hm : Cond.fieldLink own index (TX11 14).1 (TX11 14).2.1 (TX11 14).2.2.1 ∈ Ts) (hdg : decode cc pc = .ok (.getfield index, 3)) (kk : ps_V G nL kc ks w S (pc + 3) lv (.int (S k 14) :: rest)) : ps_V G nL kc ks w S pc lv (.ref (w.2.1 k) :: rest) := ps_get (C := RX11) (T := TX11) (N := 28) (ci := 10) hG hin hk (ps_cel_20 hkd _) rfl 14 (by decide) hm rfl hdg kk
theorem ps_get20_15 (hG : ps_ok G cc own nL Ts R) {index k : Nat} (hin : ∀ q ∈ wsX110, q ∈ Ts) (hkd : ps_kd k = 20) (hk : k < w.1) (hm : Cond.fieldLink own index (TX11 15).1 (TX11 15).2.1 (TX11 15).2.2.1 ∈ Ts) (hdg : decode cc pc = .ok (.getfield index, 3)) (kk : ps_V G nL kc ks w S (pc + 3) lv (.int (S k 15) :: rest)) : ps_V G nL kc ks w S pc lv (.ref (w.2.1 k) :: rest) := ps_get (C := RX11) (T := TX11) (N := 28) (ci := 10) hG hin hk (ps_cel_20 hkd _) rfl 15 (by decide) hm rfl hdg kk
theorem ps_get20_16 (hG : ps_ok G cc own nL Ts R) (hw : ps_ww w) {index k : Nat} (hin : ∀ q ∈ wsX110, q ∈ Ts) (hkd : ps_kd k = 20) (hk : k < w.1) (hm : Cond.fieldLink own index (TX11 16).1 (TX11 16).2.1 (TX11 16).2.2.1 ∈ Ts) (hdg : decode cc pc = .ok (.getfield index, 3)) (kk : ps_V G nL kc ks w S (pc + 3) lv (.ref (w.2.1 91) :: rest)) : ps_V G nL kc ks w S pc lv (.ref (w.2.1 k) :: rest) := ps_get (C := RX11) (T := TX11) (N := 28) (ci := 10) hG hin hk (ps_cel_20 hkd _) rfl 16 (by decide) hm (by rw [← ps_rfT hw k 16 91]; rfl) hdg kk
theorem ps_get20_17 (hG : ps_ok G cc own nL Ts R) (hw : ps_ww w) {index k : Nat} (hin : ∀ q ∈ wsX110, q ∈ Ts) (hkd : ps_kd k = 20) (hk : k < w.1) (hm : Cond.fieldLink own index (TX11 17).1 (TX11 17).2.1 (TX11 17).2.2.1 ∈ Ts) (hdg : decode cc pc = .ok (.getfield index, 3)) (kk : ps_V G nL kc ks w S (pc + 3) lv (.ref (w.2.1 92) :: rest)) : ps_V G nL kc ks w S pc lv (.ref (w.2.1 k) :: rest) := ps_get (C := RX11) (T := TX11) (N := 28) (ci := 10) hG hin hk (ps_cel_20 hkd _) rfl 17 (by decide) hm (by rw [← ps_rfT hw k 17 92]; rfl) hdg kk
theorem ps_get20_18 (hG : ps_ok G cc own nL Ts R) (hw : ps_ww w) {index k : Nat} (hin : ∀ q ∈ wsX110, q ∈ Ts) (hkd : ps_kd k = 20) (hk : k < w.1) (hm : Cond.fieldLink own index (TX11 18).1 (TX11 18).2.1 (TX11 18).2.2.1 ∈ Ts) (hdg : decode cc pc = .ok (.getfield index, 3)) (kk : ps_V G nL kc ks w S (pc + 3) lv (.ref (w.2.1 93) :: rest)) : ps_V G nL kc ks w S pc lv (.ref (w.2.1 k) :: rest) := ps_get (C := RX11) (T := TX11) (N := 28) (ci := 10) hG hin hk (ps_cel_20 hkd _) rfl 18 (by decide) hm (by rw [← ps_rfT hw k 18 93]; rfl) hdg kk
theorem ps_get20_19 (hG : ps_ok G cc own nL Ts R) (hw : ps_ww w) {index k : Nat} (hin : ∀ q ∈ wsX110, q ∈ Ts) (hkd : ps_kd k = 20) (hk : k < w.1) (hm : Cond.fieldLink own index (TX11 19).1 (TX11 19).2.1 (TX11 19).2.2.1 ∈ Ts) (hdg : decode cc pc = .ok (.getfield index, 3)) (kk : ps_V G nL kc ks w S (pc + 3) lv (.ref (w.2.1 94) :: rest)) : ps_V G nL kc ks w S pc lv (.ref (w.2.1 k) :: rest) := ps_get (C := RX11) (T := TX11) (N := 28) (ci := 10) hG hin hk (ps_cel_20 hkd _) rfl 19 (by decide) hm (by rw [← ps_rfT hw k 19 94]; rfl) hdg kk
theorem ps_get20_20 (hG : ps_ok G cc own nL Ts R) (hw : ps_ww w) {index k : Nat} (hin : ∀ q ∈ wsX110, q ∈ Ts) (hkd : ps_kd k = 20) (hk : k < w.1) (hm : Cond.fieldLink own index (TX11 20).1 (TX11 20).2.1 (TX11 20).2.2.1 ∈ Ts) (hdg : decode cc pc = .ok (.getfield index, 3)) (kk : ps_V G nL kc ks w S (pc + 3) lv (.ref (w.2.1 95) :: rest)) : ps_V G nL kc ks w S pc lv (.ref (w.2.1 k) :: rest) := ps_get (C := RX11) (T := TX11) (N := 28) (ci := 10) hG hin hk (ps_cel_20 hkd _) rfl 20 (by decide) hm (by rw [← ps_rfT hw k 20 95]; rfl) hdg kk
theorem ps_get20_21 (hG : ps_ok G cc own nL Ts R) (hw : ps_ww w) {index k : Nat} (hin : ∀ q ∈ wsX110, q ∈ Ts) (hkd : ps_kd k = 20) (hk : k < w.1) (hm : Cond.fieldLink own index (TX11 21).1 (TX11 21).2.1 (TX11 21).2.2.1 ∈ Ts) (hdg : decode cc pc = .ok (.getfield index, 3)) (kk : ps_V G nL kc ks w S (pc + 3) lv (.ref (w.2.1 96) :: rest)) : ps_V G nL kc ks w S pc lv (.ref (w.2.1 k) :: rest) := ps_get (C := RX11) (T := TX11) (N := 28) (ci := 10) hG hin hk (ps_cel_20 hkd _) rfl 21 (by decide) hm (by rw [← ps_rfT hw k 21 96]; rfl) hdg kk
theorem ps_get20_22 (hG : ps_ok G cc own nL Ts R) (hw : ps_ww w) {index k : Nat} (hin : ∀ q ∈ wsX110, q ∈ Ts) (hkd : ps_kd k = 20) (hk : k < w.1) (hm : Cond.fieldLink own index (TX11 22).1 (TX11 22).2.1 (TX11 22).2.2.1 ∈ Ts) (hdg : decode cc pc = .ok (.getfield index, 3)) (kk : ps_V G nL kc ks w S (pc + 3) lv (.ref (w.2.1 97) :: rest)) : ps_V G nL kc ks w S pc lv (.ref (w.2.1 k) :: rest) := ps_get (C := RX11) (T := TX11) (N := 28) (ci := 10) hG hin hk (ps_cel_20 hkd _) rfl 22 (by decide) hm (by rw [← ps_rfT hw k 22 97]; rfl) hdg kk
theorem ps_get20_23 (hG : ps_ok G cc own nL Ts R) (hw : ps_ww w) {index k : Nat} (hin : ∀ q ∈ wsX110, q ∈ Ts) (hkd : ps_kd k = 20) (hk : k < w.1) (hm : Cond.fieldLink own index (TX11 23).1 (TX11 23).2.1 (TX11 23).2.2.1 ∈ Ts) (hdg : decode cc pc = .ok (.getfield index, 3)) (kk : ps_V G nL kc ks w S (pc + 3) lv (.ref (w.2.1 98) :: rest)) : ps_V G nL kc ks w S pc lv (.ref (w.2.1 k) :: rest) := ps_get (C := RX11) (T := TX11) (N := 28) (ci := 10) hG hin hk (ps_cel_20 hkd _) rfl 23 (by decide) hm (by rw [← ps_rfT hw k 23 98]; rfl) hdg kk
theorem ps_get20_24 (hG : ps_ok G cc own nL Ts R) (hw : ps_ww w) {index k : Nat} (hin : ∀ q ∈ wsX110, q ∈ Ts) (hkd : ps_kd k = 20) (hk : k < w.1) (hm : Cond.fieldLink own index (TX11 24).1 (TX11 24).2.1 (TX11 24).2.2.1 ∈ Ts) (hdg : decode cc pc = .ok (.getfield index, 3)) (kk : ps_V G nL kc ks w S (pc + 3) lv (.ref (w.2.1 99) :: rest)) : ps_V G nL kc ks w S pc lv (.ref (w.2.1 k) :: rest) := ps_get (C := RX11) (T := TX11) (N := 28) (ci := 10) hG hin hk (ps_cel_20 hkd _) rfl 24 (by decide) hm (by rw [← ps_rfT hw k 24 99]; rfl) hdg kk
theorem ps_get20_25 (hG : ps_ok G cc own nL Ts R) (hw : ps_ww w) {index k : Nat} (hin : ∀ q ∈ wsX110, q ∈ Ts) (hkd : ps_kd k = 20) (hk : k < w.1) (hm : Cond.fieldLink own index (TX11 25).1 (TX11 25).2.1 (TX11 25).2.2.1 ∈ Ts) (hdg : decode cc pc = .ok (.getfield index, 3)) (kk : ps_V G nL kc ks w S (pc + 3) lv (.ref (w.2.1 100) :: rest)) : ps_V G nL kc ks w S pc lv (.ref (w.2.1 k) :: rest) := ps_get (C := RX11) (T := TX11) (N := 28) (ci := 10) hG hin hk (ps_cel_20 hkd _) rfl 25 (by decide) hm (by rw [← ps_rfT hw k 25 100]; rfl) hdg kk
theorem ps_get20_26 (hG : ps_ok G cc own nL Ts R) {index k : Nat} (hin : ∀ q ∈ wsX110, q ∈ Ts) (hkd : ps_kd k = 20) (hk : k < w.1) (hm : Cond.fieldLink own index (TX11 26).1 (TX11 26).2.1 (TX11 26).2.2.1 ∈ Ts) (hdg : decode cc pc = .ok (.getfield index, 3)) (kk : ps_V G nL kc ks w S (pc + 3) lv (.int (S k 26) :: rest)) : ps_V G nL kc ks w S pc lv (.ref (w.2.1 k) :: rest) := ps_get (C := RX11) (T := TX11) (N := 28) (ci := 10) hG hin hk (ps_cel_20 hkd _) rfl 26 (by decide) hm rfl hdg kk
theorem ps_get20_27 (hG : ps_ok G cc own nL Ts R) (hw : ps_ww w) {index k : Nat} (hin : ∀ q ∈ wsX110, q ∈ Ts) (hkd : ps_kd k = 20) (hk : k < w.1) (hm : Cond.fieldLink own index (TX11 27).1 (TX11 27).2.1 (TX11 27).2.2.1 ∈ Ts) (hdg : decode cc pc = .ok (.getfield index, 3)) (kk : ps_V G nL kc ks w S (pc + 3) lv (.ref (w.2.1 101) :: rest)) : ps_V G nL kc ks w S pc lv (.ref (w.2.1 k) :: rest) := ps_get (C := RX11) (T := TX11) (N := 28) (ci := 10) hG hin hk (ps_cel_20 hkd _) rfl 27 (by decide) hm (by rw [← ps_rfT hw k 27 101]; rfl) hdg kk
theorem ps_put20_0 (hG : ps_ok G cc own nL Ts R) {index k : Nat} {x : Int32} (hin : ∀ q ∈ wsX110, q ∈ Ts) (hkd : ps_kd k = 20) (hk : k < w.1) (h57 : k ≠ 57) (hm : Cond.fieldLink own index (TX11 0).1 (TX11 0).2.1 (TX11 0).2.2.1 ∈ Ts) (hdg : decode cc pc = .ok (.putfield index, 3)) (kk : ps_V G nL kc ks w (ps_up S k 0 x) (pc + 3) lv rest) : ps_V G nL kc ks w S pc lv (.int x :: .ref (w.2.1 k) :: rest) := ps_put (C := RX11) (T := TX11) (N := 28) (ci := 10) hG (fun r => [.int (r 0), .int (r 1), .int (r 2), ps_rf w k 3 81, ps_rf w k 4 82, ps_rf w k 5 83, ps_rf w k 6 84, ps_rf w k 7 85, ps_rf w k 8 86, ps_rf w k 9 87, ps_rf w k 10 88, ps_rf w k 11 89, ps_rf w k 12 90, .int (r 13), .int (r 14), .int (r 15), ps_rf w k 16 91, ps_rf w k 17 92, ps_rf w k 18 93, ps_rf w k 19 94, ps_rf w k 20 95, ps_rf w k 21 96, ps_rf w k 22 97, ps_rf w k 23 98, ps_rf w k 24 99, ps_rf w k 25 100, .int (r 26), ps_rf w k 27 101]) hin tyX11 tyX11_ok nmX11 hk h57 (ps_cel_20 hkd) rfl 0 (by decide) hm rfl (by decide +kernel) (fun _ => rfl) (Nat.le_of_ble_eq_true rfl) hdg kk
theorem ps_put20_1 (hG : ps_ok G cc own nL Ts R) {index k : Nat} {x : Int32} (hin : ∀ q ∈ wsX110, q ∈ Ts) (hkd : ps_kd k = 20) (hk : k < w.1) (h57 : k ≠ 57) (hm : Cond.fieldLink own index (TX11 1).1 (TX11 1).2.1 (TX11 1).2.2.1 ∈ Ts) (hdg : decode cc pc = .ok (.putfield index, 3)) (kk : ps_V G nL kc ks w (ps_up S k 1 x) (pc + 3) lv rest) : ps_V G nL kc ks w S pc lv (.int x :: .ref (w.2.1 k) :: rest) := ps_put (C := RX11) (T := TX11) (N := 28) (ci := 10) hG (fun r => [.int (r 0), .int (r 1), .int (r 2), ps_rf w k 3 81, ps_rf w k 4 82, ps_rf w k 5 83, ps_rf w k 6 84, ps_rf w k 7 85, ps_rf w k 8 86, ps_rf w k 9 87, ps_rf w k 10 88, ps_rf w k 11 89, ps_rf w k 12 90, .int (r 13), .int (r 14), .int (r 15), ps_rf w k 16 91, ps_rf w k 17 92, ps_rf w k 18 93, ps_rf w k 19 94, ps_rf w k 20 95, ps_rf w k 21 96, ps_rf w k 22 97, ps_rf w k 23 98, ps_rf w k 24 99, ps_rf w k 25 100, .int (r 26), ps_rf w k 27 101]) hin tyX11 tyX11_ok nmX11 hk h57 (ps_cel_20 hkd) rfl 1 (by decide) hm rfl (by decide +kernel) (fun _ => rfl) (Nat.le_of_ble_eq_true rfl) hdg kk
theorem ps_put20_2 (hG : ps_ok G cc own nL Ts R) {index k : Nat} {x : Int32} (hin : ∀ q ∈ wsX110, q ∈ Ts) (hkd : ps_kd k = 20) (hk : k < w.1) (h57 : k ≠ 57) (hm : Cond.fieldLink own index (TX11 2).1 (TX11 2).2.1 (TX11 2).2.2.1 ∈ Ts) (hdg : decode cc pc = .ok (.putfield index, 3)) (kk : ps_V G nL kc ks w (ps_up S k 2 x) (pc + 3) lv rest) : ps_V G nL kc ks w S pc lv (.int x :: .ref (w.2.1 k) :: rest) := ps_put (C := RX11) (T := TX11) (N := 28) (ci := 10) hG (fun r => [.int (r 0), .int (r 1), .int (r 2), ps_rf w k 3 81, ps_rf w k 4 82, ps_rf w k 5 83, ps_rf w k 6 84, ps_rf w k 7 85, ps_rf w k 8 86, ps_rf w k 9 87, ps_rf w k 10 88, ps_rf w k 11 89, ps_rf w k 12 90, .int (r 13), .int (r 14), .int (r 15), ps_rf w k 16 91, ps_rf w k 17 92, ps_rf w k 18 93, ps_rf w k 19 94, ps_rf w k 20 95, ps_rf w k 21 96, ps_rf w k 22 97, ps_rf w k 23 98, ps_rf w k 24 99, ps_rf w k 25 100, .int (r 26), ps_rf w k 27 101]) hin tyX11 tyX11_ok nmX11 hk h57 (ps_cel_20 hkd) rfl 2 (by decide) hm rfl (by decide +kernel) (fun _ => rfl) (Nat.le_of_ble_eq_true rfl) hdg kk
theorem ps_put20_13 (hG : ps_ok G cc own nL Ts R) {index k : Nat} {x : Int32} (hin : ∀ q ∈ wsX110, q ∈ Ts) (hkd : ps_kd k = 20) (hk : k < w.1) (h57 : k ≠ 57) (hm : Cond.fieldLink own index (TX11 13).1 (TX11 13).2.1 (TX11 13).2.2.1 ∈ Ts) (hdg : decode cc pc = .ok (.putfield index, 3)) (kk : ps_V G nL kc ks w (ps_up S k 13 x) (pc + 3) lv rest) : ps_V G nL kc ks w S pc lv (.int x :: .ref (w.2.1 k) :: rest) := ps_put (C := RX11) (T := TX11) (N := 28) (ci := 10) hG (fun r => [.int (r 0), .int (r 1), .int (r 2), ps_rf w k 3 81, ps_rf w k 4 82, ps_rf w k 5 83, ps_rf w k 6 84, ps_rf w k 7 85, ps_rf w k 8 86, ps_rf w k 9 87, ps_rf w k 10 88, ps_rf w k 11 89, ps_rf w k 12 90, .int (r 13), .int (r 14), .int (r 15), ps_rf w k 16 91, ps_rf w k 17 92, ps_rf w k 18 93, ps_rf w k 19 94, ps_rf w k 20 95, ps_rf w k 21 96, ps_rf w k 22 97, ps_rf w k 23 98, ps_rf w k 24 99, ps_rf w k 25 100, .int (r 26), ps_rf w k 27 101]) hin tyX11 tyX11_ok nmX11 hk h57 (ps_cel_20 hkd) rfl 13 (by decide) hm rfl (by decide +kernel) (fun _ => rfl) (Nat.le_of_ble_eq_true rfl) hdg kk
theorem ps_put20_14 (hG : ps_ok G cc own nL Ts R) {index k : Nat} {x : Int32} (hin : ∀ q ∈ wsX110, q ∈ Ts) (hkd : ps_kd k = 20) (hk : k < w.1) (h57 : k ≠ 57) (hm : Cond.fieldLink own index (TX11 14).1 (TX11 14).2.1 (TX11 14).2.2.1 ∈ Ts) (hdg : decode cc pc = .ok (.putfield index, 3)) (kk : ps_V G nL kc ks w (ps_up S k 14 x) (pc + 3) lv rest) : ps_V G nL kc ks w S pc lv (.int x :: .ref (w.2.1 k) :: rest) := ps_put (C := RX11) (T := TX11) (N := 28) (ci := 10) hG (fun r => [.int (r 0), .int (r 1), .int (r 2), ps_rf w k 3 81, ps_rf w k 4 82, ps_rf w k 5 83, ps_rf w k 6 84, ps_rf w k 7 85, ps_rf w k 8 86, ps_rf w k 9 87, ps_rf w k 10 88, ps_rf w k 11 89, ps_rf w k 12 90, .int (r 13), .int (r 14), .int (r 15), ps_rf w k 16 91, ps_rf w k 17 92, ps_rf w k 18 93, ps_rf w k 19 94, ps_rf w k 20 95, ps_rf w k 21 96, ps_rf w k 22 97, ps_rf w k 23 98, ps_rf w k 24 99, ps_rf w k 25 100, .int (r 26), ps_rf w k 27 101]) hin tyX11 tyX11_ok nmX11 hk h57 (ps_cel_20 hkd) rfl 14 (by decide) hm rfl (by decide +kernel) (fun _ => rfl) (Nat.le_of_ble_eq_true rfl) hdg kk
theorem ps_put20_15 (hG : ps_ok G cc own nL Ts R) {index k : Nat} {x : Int32} (hin : ∀ q ∈ wsX110, q ∈ Ts) (hkd : ps_kd k = 20) (hk : k < w.1) (h57 : k ≠ 57) (hm : Cond.fieldLink own index (TX11 15).1 (TX11 15).2.1 (TX11 15).2.2.1 ∈ Ts) (hdg : decode cc pc = .ok (.putfield index, 3)) (kk : ps_V G nL kc ks w (ps_up S k 15 x) (pc + 3) lv rest) : ps_V G nL kc ks w S pc lv (.int x :: .ref (w.2.1 k) :: rest) := ps_put (C := RX11) (T := TX11) (N := 28) (ci := 10) hG (fun r => [.int (r 0), .int (r 1), .int (r 2), ps_rf w k 3 81, ps_rf w k 4 82, ps_rf w k 5 83, ps_rf w k 6 84, ps_rf w k 7 85, ps_rf w k 8 86, ps_rf w k 9 87, ps_rf w k 10 88, ps_rf w k 11 89, ps_rf w k 12 90, .int (r 13), .int (r 14), .int (r 15), ps_rf w k 16 91, ps_rf w k 17 92, ps_rf w k 18 93, ps_rf w k 19 94, ps_rf w k 20 95, ps_rf w k 21 96, ps_rf w k 22 97, ps_rf w k 23 98, ps_rf w k 24 99, ps_rf w k 25 100, .int (r 26), ps_rf w k 27 101]) hin tyX11 tyX11_ok nmX11 hk h57 (ps_cel_20 hkd) rfl 15 (by decide) hm rfl (by decide +kernel) (fun _ => rfl) (Nat.le_of_ble_eq_true rfl) hdg kk
theorem ps_put20_26 (hG : ps_ok G cc own nL Ts R) {index k : Nat} {x : Int32} (hin : ∀ q ∈ wsX110, q ∈ Ts) (hkd : ps_kd k = 20) (hk : k < w.1) (h57 : k ≠ 57) (hm : Cond.fieldLink own index (TX11 26).1 (TX11 26).2.1 (TX11 26).2.2.1 ∈ Ts) (hdg : decode cc pc = .ok (.putfield index, 3)) (kk : ps_V G nL kc ks w (ps_up S k 26 x) (pc + 3) lv rest) : ps_V G nL kc ks w S pc lv (.int x :: .ref (w.2.1 k) :: rest) := ps_put (C := RX11) (T := TX11) (N := 28) (ci := 10) hG (fun r => [.int (r 0), .int (r 1), .int (r 2), ps_rf w k 3 81, ps_rf w k 4 82, ps_rf w k 5 83, ps_rf w k 6 84, ps_rf w k 7 85, ps_rf w k 8 86, ps_rf w k 9 87, ps_rf w k 10 88, ps_rf w k 11 89, ps_rf w k 12 90, .int (r 13), .int (r 14), .int (r 15), ps_rf w k 16 91, ps_rf w k 17 92, ps_rf w k 18 93, ps_rf w k 19 94, ps_rf w k 20 95, ps_rf w k 21 96, ps_rf w k 22 97, ps_rf w k 23 98, ps_rf w k 24 99, ps_rf w k 25 100, .int (r 26), ps_rf w k 27 101]) hin tyX11 tyX11_ok nmX11 hk h57 (ps_cel_20 hkd) rfl 26 (by decide) hm rfl (by decide +kernel) (fun _ => rfl) (Nat.le_of_ble_eq_true rfl) hdg kk
end PG
def ps_lts {β : Type} (a : Int32) (f : Int32 → Option β) : Option β := f a
section PL
variable {G : ps_G} {nL kc ks : Nat} {w : ps_X} {S S' : ps_S} {pc : Nat} {lv lv' : List (Nat × Value)} {rest : List Value} {cc : ByteArray} {own : String} {Ts : List Cond} {R : Room}
theorem ps_let {β : Type} {x : Int32} {f : Int32 → Option β} {z : β} (h : ps_lts x f = some z) (kk : ∀ y : Int32, f y = some z → ps_V G nL kc ks w S pc lv (.int y :: rest)) : ps_V G nL kc ks w S pc lv (.int x :: rest) := kk x h
end PL
theorem ps_z01 {x : Int32} (h : x = 0 ∨ x = 1) : narrow .boolean (.int x) = .int x := by
  rcases h with rfl | rfl <;> rfl
def ps_b2 {A B Z : Type} (x : Option (A × B)) (f : A → B → Option Z) : Option Z := x.bind fun q => f q.1 q.2
theorem ps_d2 {A B Z : Type} {x : Option (A × B)} {f : A → B → Option Z} {z : Z} (h : ps_b2 x f = some z) : ∃ a1 a2, x = some (a1, a2) ∧ f a1 a2 = some z := by
  obtain ⟨q, hq, h2⟩ := ps_bd h
  exact ⟨q.1, q.2, hq, h2⟩
def ps_b3 {A B C Z : Type} (x : Option (A × B × C)) (f : A → B → C → Option Z) : Option Z := x.bind fun q => f q.1 q.2.1 q.2.2
theorem ps_d3 {A B C Z : Type} {x : Option (A × B × C)} {f : A → B → C → Option Z} {z : Z} (h : ps_b3 x f = some z) : ∃ a1 a2 a3, x = some (a1, a2, a3) ∧ f a1 a2 a3 = some z := by
  obtain ⟨q, hq, h2⟩ := ps_bd h
  exact ⟨q.1, q.2.1, q.2.2, hq, h2⟩
def ps_b4 {A B C D Z : Type} (x : Option (A × B × C × D)) (f : A → B → C → D → Option Z) : Option Z := x.bind fun q => f q.1 q.2.1 q.2.2.1 q.2.2.2
theorem ps_d4 {A B C D Z : Type} {x : Option (A × B × C × D)} {f : A → B → C → D → Option Z} {z : Z} (h : ps_b4 x f = some z) : ∃ a1 a2 a3 a4, x = some (a1, a2, a3, a4) ∧ f a1 a2 a3 a4 = some z := by
  obtain ⟨q, hq, h2⟩ := ps_bd h
  exact ⟨q.1, q.2.1, q.2.2.1, q.2.2.2, hq, h2⟩
def ps_b5 {A B C D E Z : Type} (x : Option (A × B × C × D × E)) (f : A → B → C → D → E → Option Z) : Option Z := x.bind fun q => f q.1 q.2.1 q.2.2.1 q.2.2.2.1 q.2.2.2.2
theorem ps_d5 {A B C D E Z : Type} {x : Option (A × B × C × D × E)} {f : A → B → C → D → E → Option Z} {z : Z} (h : ps_b5 x f = some z) : ∃ a1 a2 a3 a4 a5, x = some (a1, a2, a3, a4, a5) ∧ f a1 a2 a3 a4 a5 = some z := by
  obtain ⟨q, hq, h2⟩ := ps_bd h
  exact ⟨q.1, q.2.1, q.2.2.1, q.2.2.2.1, q.2.2.2.2, hq, h2⟩
def ps_b6 {A B C D E F Z : Type} (x : Option (A × B × C × D × E × F)) (f : A → B → C → D → E → F → Option Z) : Option Z := x.bind fun q => f q.1 q.2.1 q.2.2.1 q.2.2.2.1 q.2.2.2.2.1 q.2.2.2.2.2
theorem ps_d6 {A B C D E F Z : Type} {x : Option (A × B × C × D × E × F)} {f : A → B → C → D → E → F → Option Z} {z : Z} (h : ps_b6 x f = some z) : ∃ a1 a2 a3 a4 a5 a6, x = some (a1, a2, a3, a4, a5, a6) ∧ f a1 a2 a3 a4 a5 a6 = some z := by
  obtain ⟨q, hq, h2⟩ := ps_bd h
  exact ⟨q.1, q.2.1, q.2.2.1, q.2.2.2.1, q.2.2.2.2.1, q.2.2.2.2.2, hq, h2⟩
def ps_b7 {A B C D E F H Z : Type} (x : Option (A × B × C × D × E × F × H)) (f : A → B → C → D → E → F → H → Option Z) : Option Z := x.bind fun q => f q.1 q.2.1 q.2.2.1 q.2.2.2.1 q.2.2.2.2.1 q.2.2.2.2.2.1 q.2.2.2.2.2.2
theorem ps_d7 {A B C D E F H Z : Type} {x : Option (A × B × C × D × E × F × H)} {f : A → B → C → D → E → F → H → Option Z} {z : Z} (h : ps_b7 x f = some z) : ∃ a1 a2 a3 a4 a5 a6 a7, x = some (a1, a2, a3, a4, a5, a6, a7) ∧ f a1 a2 a3 a4 a5 a6 a7 = some z := by
  obtain ⟨q, hq, h2⟩ := ps_bd h
  exact ⟨q.1, q.2.1, q.2.2.1, q.2.2.2.1, q.2.2.2.2.1, q.2.2.2.2.2.1, q.2.2.2.2.2.2, hq, h2⟩
def ps_b8 {A B C D E F H J Z : Type} (x : Option (A × B × C × D × E × F × H × J)) (f : A → B → C → D → E → F → H → J → Option Z) : Option Z := x.bind fun q => f q.1 q.2.1 q.2.2.1 q.2.2.2.1 q.2.2.2.2.1 q.2.2.2.2.2.1 q.2.2.2.2.2.2.1 q.2.2.2.2.2.2.2
theorem ps_d8 {A B C D E F H J Z : Type} {x : Option (A × B × C × D × E × F × H × J)} {f : A → B → C → D → E → F → H → J → Option Z} {z : Z} (h : ps_b8 x f = some z) : ∃ a1 a2 a3 a4 a5 a6 a7 a8, x = some (a1, a2, a3, a4, a5, a6, a7, a8) ∧ f a1 a2 a3 a4 a5 a6 a7 a8 = some z := by
  obtain ⟨q, hq, h2⟩ := ps_bd h
  exact ⟨q.1, q.2.1, q.2.2.1, q.2.2.2.1, q.2.2.2.2.1, q.2.2.2.2.2.1, q.2.2.2.2.2.2.1, q.2.2.2.2.2.2.2, hq, h2⟩
def ps_bs {A B Z : Type} (x : Option (A ⊕ B)) (f : A → Option Z) (g : B → Option Z) : Option Z := x.bind (Sum.elim f g)
theorem ps_ds {A B Z : Type} {x : Option (A ⊕ B)} {f : A → Option Z} {g : B → Option Z} {z : Z} (h : ps_bs x f g = some z) : (∃ a, x = some (.inl a) ∧ f a = some z) ∨ ∃ b, x = some (.inr b) ∧ g b = some z := by
  obtain ⟨q, hq, h2⟩ := ps_bd h
  cases q with
  | inl a => exact Or.inl ⟨a, hq, h2⟩
  | inr b => exact Or.inr ⟨b, hq, h2⟩
def ps_fu : Nat := 20000
def ps_Dummy : Unit := ()
