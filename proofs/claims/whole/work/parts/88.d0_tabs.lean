/-! bytes as polynomials: the pieces found again -/
theorem pu_ifx (x y : Bool) (c : Nat) : (if (x ^^ y) = true then c else 0) = (if x = true then c else 0) ^^^ (if y = true then c else 0) := by
  cases x <;> cases y <;> simp
theorem pu_Wx (i a b : Nat) : pu_W i (a ^^^ b) = pu_W i a ^^^ pu_W i b := by
  unfold pu_W
  simp only [show List.range 8 = [0, 1, 2, 3, 4, 5, 6, 7] from rfl, List.foldl, Nat.testBit_xor, pu_ifx, Nat.zero_xor]
  ac_rfl
theorem tm_C : ∀ (i : Fin 4) (v : Fin 256), f_X0_times (nI (2 ^ i.val)) (nI v.val) = some (nI (pu_W i.val v.val)) := by decide +kernel
theorem tm_M : ∀ (i : Fin 4) (v : Fin 256), f_X11_times (nI v.val) (nI (2 ^ i.val)) = some (nI (pu_W i.val v.val)) := by decide +kernel
def pu_i1 (i : Nat) : Nat := ([1, 142, 71, 173] : List Nat).getD i 0
def pu_i2 (i j : Nat) : Nat := ([0, 244, 167, 157, 0, 0, 122, 221, 0, 0, 0, 61] : List Nat).getD (4 * i + j) 0
theorem iv_1 : ∀ i : Fin 4, f_X0_inverse (nI (2 ^ i.val)) = some (nI (pu_i1 i.val)) := by decide +kernel
theorem iv_2 : ∀ i j : Fin 4, i.val < j.val → f_X0_inverse (nI (2 ^ i.val) ^^^ nI (2 ^ j.val)) = some (nI (pu_i2 i.val j.val)) := by decide +kernel
theorem tm_1 : ∀ (i : Fin 4) (v : Fin 256), f_X0_times (nI (pu_W i.val v.val)) (nI (pu_i1 i.val)) = some (nI v.val) := by decide +kernel
theorem tm_2 : ∀ (i j : Fin 4), i.val < j.val → ∀ v : Fin 256, f_X0_times (nI (pu_W j.val v.val ^^^ pu_W i.val v.val)) (nI (pu_i2 i.val j.val)) = some (nI v.val) := by decide +kernel
theorem pw_C : ∀ i : Fin 4, (1 : Int32) <<< (nI i.val &&& 31) = nI (2 ^ i.val) := by decide +kernel
def pu_bc (s : Nat) : Nat := (List.range 6).foldl (fun a k => a + if s.testBit k then 1 else 0) 0
theorem bc_J : ∀ s : Fin 64, f_J6_bitCount_0f7a4 (nI s.val) = some (nI (pu_bc s.val)) := by decide +kernel
theorem bc_M : ∀ s : Fin 64, f_X11_count (nI s.val) = some (nI (pu_bc s.val)) := by decide +kernel
theorem isin_C : ∀ (s : Fin 64) (k : Fin 6), f_X0_isIn (nI s.val) (nI k.val) = some (if s.val.testBit k.val = true then 1 else 0) := by decide +kernel
theorem bc_le (s : Nat) : pu_bc s ≤ 6 := by
  unfold pu_bc
  simp only [show List.range 6 = [0, 1, 2, 3, 4, 5] from rfl, List.foldl]
  split <;> split <;> split <;> split <;> split <;> split <;> omega
