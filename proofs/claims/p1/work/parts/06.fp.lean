/-! the grade by one sample: what the doubles come to; the methods that reckon with them -/
def mdn (r : UInt64) : Bool := decide (r &&& 0x7fffffffffffffff ≤ 0x7ff0000000000000)
theorem mdn_ok {r : UInt64} (h : mdn r = true) : vf_n64 r := by
  unfold vf_n64
  exact of_decide_eq_true h
def mdB0 (g : Int32) : Bool := mdn (FP.dadd FP.dconst0 (FP.i2d g)) && (mdn (FP.ddiv (FP.dadd FP.dconst0 (FP.i2d g)) (FP.i2d 1)) && mdn (md_r (FP.ddiv (FP.dadd FP.dconst0 (FP.i2d g)) (FP.i2d 1))))
def mdB1 (w : UInt64) (g : Int32) : Bool := mdn (FP.dmul w (FP.i2d g)) && (mdn (FP.dadd FP.dconst0 (FP.dmul w (FP.i2d g))) && (mdn (FP.ddiv (FP.dadd FP.dconst0 (FP.dmul w (FP.i2d g))) (FP.dadd FP.dconst0 w)) && mdn (md_r (FP.ddiv (FP.dadd FP.dconst0 (FP.dmul w (FP.i2d g))) (FP.dadd FP.dconst0 w)))))
def mdB2 (w : UInt64) : Bool := mdn w && (mdn (FP.dadd FP.dconst0 w) && decide (0 < Op.cmpValue (FP.dcmp (FP.dadd FP.dconst0 w) FP.dconst0) .l))
def md_sqn (i b : Nat) : Nat := (i % 10 - b % 10 + (b % 10 - i % 10)) * (i % 10 - b % 10 + (b % 10 - i % 10)) + 4 * ((i / 10 - b / 10 + (b / 10 - i / 10)) * (i / 10 - b / 10 + (b / 10 - i / 10)))
def md_L : List Nat := [1, 4, 5, 8, 9, 13, 16, 17, 20, 25, 29, 32, 36, 37, 40, 41, 45, 49, 52, 53, 61, 64, 65, 68, 72, 73, 80, 81, 85, 89, 97, 100, 101, 104, 109, 113, 116, 117, 125, 128, 136, 145, 149, 164, 181]
theorem md_sq_eq : ∀ i, i < 60 → ∀ b, b < 60 → md_sq (nI i) (nI b) = nI (md_sqn i b) := by decide +kernel
theorem md_sq_in : ∀ i, i < 60 → ∀ b, b < 60 → (Nat.beq i b || decide (md_sqn i b ∈ md_L)) = true := by decide +kernel
theorem md_L_pos : ∀ n ∈ md_L, (decide (0 < nI n) && mdB2 (FP.ddiv FP.dconst1 (FP.i2d (nI n)))) = true := by decide +kernel
theorem md_own : ∀ g, g < 100 → mdB0 (nI g) = true := by decide +kernel
theorem md_far0 : ∀ n ∈ [1, 4, 5, 8, 9, 13, 16, 17, 20, 25, 29, 32, 36, 37, 40], ∀ g, g < 100 → mdB1 (FP.ddiv FP.dconst1 (FP.i2d (nI n))) (nI g) = true := by decide +kernel
theorem md_far1 : ∀ n ∈ [41, 45, 49, 52, 53, 61, 64, 65, 68, 72, 73, 80, 81, 85, 89], ∀ g, g < 100 → mdB1 (FP.ddiv FP.dconst1 (FP.i2d (nI n))) (nI g) = true := by decide +kernel
theorem md_far2 : ∀ n ∈ [97, 100, 101, 104, 109, 113, 116, 117, 125, 128, 136, 145, 149, 164, 181], ∀ g, g < 100 → mdB1 (FP.ddiv FP.dconst1 (FP.i2d (nI n))) (nI g) = true := by decide +kernel
theorem md_far : ∀ n ∈ md_L, ∀ g, g < 100 → mdB1 (FP.ddiv FP.dconst1 (FP.i2d (nI n))) (nI g) = true := fun n hn => by
  have hn : n ∈ ([1, 4, 5, 8, 9, 13, 16, 17, 20, 25, 29, 32, 36, 37, 40] : List Nat) ++ ([41, 45, 49, 52, 53, 61, 64, 65, 68, 72, 73, 80, 81, 85, 89] : List Nat) ++ ([97, 100, 101, 104, 109, 113, 116, 117, 125, 128, 136, 145, 149, 164, 181] : List Nat) := hn
  simp only [List.mem_append] at hn
  rcases hn with hn | hn
  · rcases hn with hn | hn
    · exact md_far0 n hn
    · exact md_far1 n hn
  · exact md_far2 n hn
