/-! what the abstract values mean -/
/-- the given things' addresses, the unknown ints -/
abbrev eX : Type := (Nat → Nat) × (Nat → Int32)
def c_I (X : eX) (v : eV) : Int32 := match v with
  | (0, n) => nI n
  | (4, k) => X.2 k
  | _ => 0
def c_v (X : eX) (ρ : Nat → Nat) (v : eV) : Value := match v with
  | (0, n) => .int (nI n)
  | (1, _) => .null
  | (2, k) => .ref (ρ k)
  | (3, k) => .ref (X.1 k)
  | (4, k) => .int (X.2 k)
  | (5, n) => .long (lN n)
  | (6, n) => .double (UInt64.ofNat n)
  | (7, n) => .float (UInt32.ofNat n)
  | _ => .null
theorem e_tl_eq {α : Type} (l : List α) : e_tl l = l.drop 1 := by cases l <;> rfl
theorem e_hd_eq {α : Type} (l : List α) : e_hd l = l[0]? := by cases l <;> rfl
theorem e_dr_eq {α : Type} : ∀ (k : Nat) (l : List α), e_dr k l = l.drop k
  | 0, _ => rfl
  | k + 1, l => by
    show e_dr k (e_tl l) = _
    rw [e_dr_eq k, e_tl_eq, List.drop_drop, show 1 + k = k + 1 by omega]
theorem e_tl8_eq {α : Type} (l : List α) : e_tl8 l = l.drop 8 := by
  unfold e_tl8
  simp only [e_tl_eq, List.drop_drop]
theorem e_sk_eq {α : Type} : ∀ (k : Nat) (l : List α), e_sk k l = l.drop (8 * k)
  | 0, _ => rfl
  | k + 1, l => by
    show e_sk k (e_tl8 l) = _
    rw [e_sk_eq k, e_tl8_eq, List.drop_drop, show 8 + 8 * k = 8 * (k + 1) by omega]
theorem e_get_eq {α : Type} (l : List α) (n : Nat) : e_get l n = l[n]? := by
  show e_hd (e_dr (n % 8) (e_sk (n / 8) l)) = _
  rw [e_hd_eq, e_dr_eq, e_sk_eq, List.getElem?_drop, List.getElem?_drop]
  congr 1
  omega
theorem e_set_eq {α : Type} : ∀ (l : List α) (n : Nat) (x : α), e_set l n x = l.set n x
  | [], _, _ => rfl
  | _ :: _, 0, _ => rfl
  | a :: t, n + 1, x => by
    show a :: e_set t n x = a :: t.set n x
    rw [e_set_eq t n x]
def e_bx (x : Int32) : Nat := (x.toBitVec.toNat + 2147483648) % 4294967296
theorem nI_nat (n : Nat) : (nI n).toBitVec.toNat = n % 4294967296 := by
  show (Int32.ofNat n).toBitVec.toNat = _
  simp
theorem nI_mod (n : Nat) : nI (n % 4294967296) = nI n := by
  apply Int32.toBitVec_inj.mp
  apply BitVec.eq_of_toNat_eq
  rw [nI_nat, nI_nat, Nat.mod_mod]
theorem e_bx_nI (n : Nat) : e_bx (nI n) = e_b n := by
  unfold e_bx e_b
  rw [nI_nat]
  omega
theorem e_bx_toInt (x : Int32) : (e_bx x : Int) = x.toInt + 2147483648 := by
  have h : x.toInt = if 2 * x.toBitVec.toNat < 4294967296 then (x.toBitVec.toNat : Int) else (x.toBitVec.toNat : Int) - 4294967296 := by
    show x.toBitVec.toInt = _
    rw [BitVec.toInt_eq_toNat_cond]
    rfl
  have h2 : x.toBitVec.toNat < 4294967296 := x.toBitVec.isLt
  unfold e_bx
  rw [h]
  split <;> omega
theorem e_bx_lt {x y : Int32} : x < y ↔ e_bx x < e_bx y := by
  rw [Int32.lt_iff_toInt_lt]
  have h1 := e_bx_toInt x
  have h2 := e_bx_toInt y
  omega
theorem e_bx_le {x y : Int32} : x ≤ y ↔ e_bx x ≤ e_bx y := by
  rw [Int32.le_iff_toInt_le]
  have h1 := e_bx_toInt x
  have h2 := e_bx_toInt y
  omega
theorem e_bx_eq {x y : Int32} : x = y ↔ e_bx x = e_bx y := by
  rw [← Int32.toInt_inj]
  have h1 := e_bx_toInt x
  have h2 := e_bx_toInt y
  omega
/-- what an operation of two ints answers -/
def e_binR (i : Nat) (x y r : Int32) : Prop := match i with
  | 0 => r = x + y
  | 1 => r = x - y
  | 2 => r = x * y
  | 3 => ¬ y = 0 ∧ r = x / y
  | 4 => ¬ y = 0 ∧ r = x - x / y * y
  | 5 => r = x &&& y
  | 6 => r = x >>> (y &&& 31)
  | _ => False
def e_unR (i : Nat) (x r : Int32) : Prop := match i with
  | 7 => r = (x.toUInt32 % 65536).toInt32
  | 8 => r = x.toInt8.toInt32
  | 9 => r = -x
  | _ => False
def e_ok0 (X : eX) (G : eG) : Prop := (∀ (k lo hi : Nat), e_get G.1 k = some (lo, hi) → lo ≤ e_bx (X.2 k) ∧ e_bx (X.2 k) ≤ hi) ∧ (∀ (o k c r : Nat), (o, k, c, r) ∈ G.2 → (o ≤ 6 → e_binR o (X.2 k) (nI c) (X.2 r)) ∧ (7 ≤ o → e_unR o (X.2 k) (X.2 r))) ∧ ∀ j, j < 60 → X.2 (200 + j) = md_val (X.2 1) (X.2 2) (nI j)
theorem c_isI {v : eV} (X : eX) (ρ : Nat → Nat) (h : e_isI v = true) : c_v X ρ v = .int (c_I X v) := by
  obtain ⟨t, n⟩ := v
  unfold e_isI at h
  simp only [Bool.or_eq_true] at h
  rcases h with h | h <;> (have := Nat.eq_of_beq_eq_true h; subst this; rfl)
theorem e_rng_ok {X : eX} {G : eG} (hG : e_ok0 X G) {v : eV} {lo hi : Nat} (h : e_rng G v = some (lo, hi)) : e_isI v = true ∧ lo ≤ e_bx (c_I X v) ∧ e_bx (c_I X v) ≤ hi := by
  obtain ⟨t, n⟩ := v
  unfold e_rng at h
  split at h
  · rename_i m heq
    cases heq
    obtain ⟨rfl, rfl⟩ := Prod.mk.inj (Option.some.inj h)
    exact ⟨rfl, Nat.le_of_eq (e_bx_nI n).symm, Nat.le_of_eq (e_bx_nI n)⟩
  · rename_i m heq
    cases heq
    exact ⟨rfl, hG.1 _ _ _ h⟩
  · cases h
theorem e_lt_ok {X : eX} {G : eG} (hG : e_ok0 X G) {a b : eV} {r : Bool} (h : e_lt G a b = some r) : e_isI a = true ∧ e_isI b = true ∧ (r = true ↔ c_I X a < c_I X b) := by
  unfold e_lt at h
  split at h
  · rename_i la ha lb hb h1 h2
    obtain ⟨i1, l1, u1⟩ := e_rng_ok hG h1
    obtain ⟨i2, l2, u2⟩ := e_rng_ok hG h2
    refine ⟨i1, i2, ?_⟩
    rw [e_bx_lt]
    cases hc : Nat.blt ha lb
    · rw [hc] at h
      cases hd : Nat.ble hb la
      · rw [hd] at h; cases h
      · rw [hd] at h
        cases h
        have := Nat.le_of_ble_eq_true hd
        constructor
        · intro q; cases q
        · intro q; omega
    · rw [hc] at h
      cases h
      have : ha < lb := Nat.le_of_ble_eq_true hc
      constructor
      · intro _; omega
      · intro _; rfl
  · cases h
theorem e_eq_ok {X : eX} {G : eG} (hG : e_ok0 X G) {a b : eV} {r : Bool} (h : e_eq G a b = some r) : e_isI a = true ∧ e_isI b = true ∧ (r = true ↔ c_I X a = c_I X b) := by
  unfold e_eq at h
  split at h
  · rename_i la ha lb hb h1 h2
    obtain ⟨i1, l1, u1⟩ := e_rng_ok hG h1
    obtain ⟨i2, l2, u2⟩ := e_rng_ok hG h2
    refine ⟨i1, i2, ?_⟩
    rw [e_bx_eq]
    cases hc : (Nat.blt ha lb || Nat.blt hb la)
    · rw [hc] at h
      cases hd : (Nat.beq la ha && (Nat.beq lb hb && Nat.beq la lb))
      · rw [hd] at h; cases h
      · rw [hd] at h
        cases h
        simp only [Bool.and_eq_true] at hd
        have q1 := Nat.eq_of_beq_eq_true hd.1
        have q2 := Nat.eq_of_beq_eq_true hd.2.1
        have q3 := Nat.eq_of_beq_eq_true hd.2.2
        constructor
        · intro _; omega
        · intro _; rfl
    · rw [hc] at h
      cases h
      simp only [Bool.or_eq_true] at hc
      have hc : ha < lb ∨ hb < la := hc.imp (fun q => Nat.le_of_ble_eq_true q) (fun q => Nat.le_of_ble_eq_true q)
      constructor
      · intro q; cases q
      · intro q; omega
  · cases h
/-- what a condition says -/
def e_condR (i : Nat) (x y : Int32) : Prop := match i with
  | 0 => x = y
  | 1 => ¬ x = y
  | 2 => x < y
  | 3 => y ≤ x
  | 4 => y < x
  | 5 => x ≤ y
  | _ => False
theorem e_not_ok {o : Option Bool} {r : Bool} (h : e_not o = some r) : ∃ b, o = some b ∧ (r = true ↔ ¬ b = true) := by
  cases o with
  | none => cases h
  | some b => exact ⟨b, rfl, by cases h; cases b <;> simp⟩
theorem i32_nlt {x y : Int32} : ¬ x < y ↔ y ≤ x := by
  rw [e_bx_lt, e_bx_le]; omega
theorem e_cond_ok {X : eX} {G : eG} (hG : e_ok0 X G) {i : Nat} {a b : eV} {r : Bool} (h : e_cond G i a b = some r) : i ≤ 5 ∧ e_isI a = true ∧ e_isI b = true ∧ (r = true ↔ e_condR i (c_I X a) (c_I X b)) := by
  match i, h with
  | 0, h => exact ⟨by omega, e_eq_ok hG h⟩
  | 1, h =>
    obtain ⟨b1, h1, h2⟩ := e_not_ok h
    obtain ⟨i1, i2, h3⟩ := e_eq_ok hG h1
    exact ⟨by omega, i1, i2, h2.trans (not_congr h3)⟩
  | 2, h => exact ⟨by omega, e_lt_ok hG h⟩
  | 3, h =>
    obtain ⟨b1, h1, h2⟩ := e_not_ok h
    obtain ⟨i1, i2, h3⟩ := e_lt_ok hG h1
    exact ⟨by omega, i1, i2, (h2.trans (not_congr h3)).trans i32_nlt⟩
  | 4, h =>
    obtain ⟨i1, i2, h3⟩ := e_lt_ok hG h
    exact ⟨by omega, i2, i1, h3⟩
  | 5, h =>
    obtain ⟨b1, h1, h2⟩ := e_not_ok h
    obtain ⟨i1, i2, h3⟩ := e_lt_ok hG h1
    exact ⟨by omega, i2, i1, (h2.trans (not_congr h3)).trans i32_nlt⟩
  | i + 6, h => cases h
theorem e_fact_ok {l : List (Nat × Nat × Nat × Nat)} {o k c r : Nat} (h : e_fact l o k c = some r) : (o, k, c, r) ∈ l := by
  induction l with
  | nil => cases h
  | cons a t ih =>
    obtain ⟨o', k', c', r'⟩ := a
    unfold e_fact at h
    cases hc : (Nat.beq o o' && (Nat.beq k k' && Nat.beq c c'))
    · rw [hc] at h
      exact List.mem_cons_of_mem _ (ih h)
    · rw [hc] at h
      cases h
      simp only [Bool.and_eq_true] at hc
      have q1 := Nat.eq_of_beq_eq_true hc.1
      have q2 := Nat.eq_of_beq_eq_true hc.2.1
      have q3 := Nat.eq_of_beq_eq_true hc.2.2
      subst q1; subst q2; subst q3
      exact List.mem_cons_self
theorem nI_subm (a b : Nat) : nI ((a + (4294967296 - b % 4294967296)) % 4294967296) = nI a - nI b := by
  apply Int32.toBitVec_inj.mp
  apply BitVec.eq_of_toNat_eq
  rw [nI_nat]
  show _ = (nI a - nI b).toBitVec.toNat
  rw [Int32.toBitVec_sub, BitVec.toNat_sub, nI_nat, nI_nat]
  omega
theorem nI_negm (a : Nat) : nI ((4294967296 - a % 4294967296) % 4294967296) = - nI a := by
  apply Int32.toBitVec_inj.mp
  apply BitVec.eq_of_toNat_eq
  rw [nI_nat, Int32.toBitVec_neg, BitVec.toNat_neg, nI_nat]
  omega
theorem nI_land (a b : Nat) : nI (Nat.land a b) = nI a &&& nI b := by
  apply Int32.toBitVec_inj.mp
  apply BitVec.eq_of_toNat_eq
  rw [nI_nat, Int32.toBitVec_and, BitVec.toNat_and, nI_nat, nI_nat]
  exact Nat.and_mod_two_pow (n := 32)
theorem nI_sm : ∀ b, b < 31 → ((nI b &&& 31).toBitVec.smod 32).toNat = b := by decide +kernel
theorem nI_i8a : ∀ c, c < 256 → (nI c).toInt8.toInt32 = nI (bif Nat.blt c 128 then c else 4294967040 + c) := by decide +kernel
theorem nI_i8 (a : Nat) : (nI a).toInt8 = (nI (a % 256)).toInt8 := by
  apply Int8.toBitVec_inj.mp
  apply BitVec.eq_of_toNat_eq
  show ((nI a).toBitVec.signExtend 8).toNat = ((nI (a % 256)).toBitVec.signExtend 8).toNat
  rw [BitVec.signExtend_eq_setWidth_of_le _ (by decide), BitVec.signExtend_eq_setWidth_of_le _ (by decide), BitVec.toNat_setWidth, BitVec.toNat_setWidth, nI_nat, nI_nat]
  omega
theorem e_bin_ok {X : eX} {G : eG} (hG : e_ok0 X G) {i : Nat} {x y v : eV} (h : e_bin G i x y = some v) : e_isI x = true ∧ e_isI y = true ∧ e_isI v = true ∧ e_binR i (c_I X x) (c_I X y) (c_I X v) := by
  unfold e_bin at h
  split at h
  · rename_i a b
    refine ⟨rfl, rfl, ?_⟩
    match i, h with
    | 0, h => cases h; exact ⟨rfl, by show nI _ = _; rw [nI_mod]; exact (nI_add a b).symm⟩
    | 1, h => cases h; exact ⟨rfl, nI_subm a b⟩
    | 2, h => cases h; exact ⟨rfl, by show nI _ = _; rw [nI_mod]; exact (pk_mul a b).symm⟩
    | 3, h =>
      cases hc : (Nat.blt a 2147483648 && (Nat.blt 0 b && Nat.blt b 2147483648))
      · rw [hc] at h; cases h
      · rw [hc] at h
        cases h
        simp only [Bool.and_eq_true] at hc
        have q1 : a < 2 ^ 31 := Nat.le_of_ble_eq_true hc.1
        have q2 : 0 < b := Nat.le_of_ble_eq_true hc.2.1
        have q3 : b < 2 ^ 31 := Nat.le_of_ble_eq_true hc.2.2
        exact ⟨rfl, nI_ne0 q2 q3, (pk_div q1 q2 q3).symm⟩
    | 4, h =>
      cases hc : (Nat.blt a 2147483648 && (Nat.blt 0 b && Nat.blt b 2147483648))
      · rw [hc] at h; cases h
      · rw [hc] at h
        cases h
        simp only [Bool.and_eq_true] at hc
        have q1 : a < 2 ^ 31 := Nat.le_of_ble_eq_true hc.1
        have q2 : 0 < b := Nat.le_of_ble_eq_true hc.2.1
        have q3 : b < 2 ^ 31 := Nat.le_of_ble_eq_true hc.2.2
        exact ⟨rfl, nI_ne0 q2 q3, (pk_rem q1 q2 q3).symm⟩
    | 5, h => cases h; exact ⟨rfl, nI_land a b⟩
    | 6, h =>
      cases hc : (Nat.blt a 2147483648 && Nat.blt b 31)
      · rw [hc] at h; cases h
      · rw [hc] at h
        cases h
        simp only [Bool.and_eq_true] at hc
        have q1 : a < 2 ^ 31 := Nat.le_of_ble_eq_true hc.1
        have q2 : b < 31 := Nat.le_of_ble_eq_true hc.2
        exact ⟨rfl, (pk_shrN q1 (nI b &&& 31) b (nI_sm b q2)).symm⟩
    | i + 7, h => cases h
  · rename_i k
    match i, h with
    | 0, h => cases h
    | 1, h => cases h
    | 2, h =>
      cases h
      refine ⟨rfl, rfl, rfl, ?_⟩
      show nI 0 = nI 0 * _
      rw [nI_0]
      simp
    | i + 3, h => cases h
  · rename_i k b
    cases hc : Nat.ble i 6
    · rw [hc] at h; cases h
    · rw [hc] at h
      have h : (match e_fact G.2 i k b with | some r => some (4, r) | none => none) = some v := h
      split at h
      · rename_i r hr
        cases h
        exact ⟨rfl, rfl, rfl, (hG.2.1 i k b r (e_fact_ok hr)).1 (Nat.le_of_ble_eq_true hc)⟩
      · cases h
  · cases h
theorem e_un_ok {X : eX} {G : eG} (hG : e_ok0 X G) {i : Nat} {x v : eV} (h : e_un G i x = some v) : e_isI x = true ∧ e_isI v = true ∧ e_unR i (c_I X x) (c_I X v) := by
  unfold e_un at h
  split at h
  · rename_i a
    refine ⟨rfl, ?_⟩
    match i, h with
    | 0, h => cases h
    | 1, h => cases h
    | 2, h => cases h
    | 3, h => cases h
    | 4, h => cases h
    | 5, h => cases h
    | 6, h => cases h
    | 7, h =>
      cases h
      refine ⟨rfl, ?_⟩
      show nI (a % 65536) = ((nI a).toUInt32 % 65536).toInt32
      rw [pk_char, nI_nat]
      exact congrArg nI (by omega)
    | 8, h =>
      have h : (bif Nat.blt (a % 256) 128 then some ((0 : Nat), a % 256) else some (0, 4294967040 + a % 256)) = some v := h
      have h2 := nI_i8a (a % 256) (Nat.mod_lt _ (by decide))
      have h3 : (nI a).toInt8.toInt32 = nI (bif Nat.blt (a % 256) 128 then a % 256 else 4294967040 + a % 256) := by rw [nI_i8]; exact h2
      cases hc : Nat.blt (a % 256) 128
      · rw [hc] at h h3
        cases h
        exact ⟨rfl, h3.symm⟩
      · rw [hc] at h h3
        cases h
        exact ⟨rfl, h3.symm⟩
    | 9, h => cases h; exact ⟨rfl, nI_negm a⟩
    | i + 10, h => cases h
  · rename_i k
    cases hc : Nat.ble 7 i
    · rw [hc] at h; cases h
    · rw [hc] at h
      have h : (match e_fact G.2 i k 0 with | some r => some (4, r) | none => none) = some v := h
      split at h
      · rename_i r hr
        cases h
        exact ⟨rfl, rfl, (hG.2.1 i k 0 r (e_fact_ok hr)).2 (Nat.le_of_ble_eq_true hc)⟩
      · cases h
  · cases h
theorem lN_nat (n : Nat) : (lN n).toBitVec.toNat = n % 18446744073709551616 := by
  show (Int64.ofNat n).toBitVec.toNat = _
  simp
theorem lN_mod (n : Nat) : lN (n % 18446744073709551616) = lN n := by
  apply Int64.toBitVec_inj.mp
  apply BitVec.eq_of_toNat_eq
  rw [lN_nat, lN_nat, Nat.mod_mod]
theorem lN_subm (a b : Nat) : lN ((a + (18446744073709551616 - b % 18446744073709551616)) % 18446744073709551616) = lN a - lN b := by
  apply Int64.toBitVec_inj.mp
  apply BitVec.eq_of_toNat_eq
  rw [lN_nat]
  show _ = (lN a - lN b).toBitVec.toNat
  rw [Int64.toBitVec_sub, BitVec.toNat_sub, lN_nat, lN_nat]
  omega
theorem e_i2l_ok (a : Nat) : (nI a).toInt64 = lN (e_i2l a) := by
  apply Int64.toInt_inj.mp
  rw [Int32.toInt_toInt64]
  have h1 := e_bx_toInt (nI a)
  rw [e_bx_nI] at h1
  have h2 : (lN (e_i2l a)).toInt = if 2 * (e_i2l a % 18446744073709551616) < 18446744073709551616 then ((e_i2l a % 18446744073709551616 : Nat) : Int) else ((e_i2l a % 18446744073709551616 : Nat) : Int) - 18446744073709551616 := by
    show (lN (e_i2l a)).toBitVec.toInt = _
    rw [BitVec.toInt_eq_toNat_cond, lN_nat]
    rfl
  rw [h2]
  unfold e_i2l e_b at *
  cases hc : Nat.blt (a % 4294967296) 2147483648
  · have : ¬ a % 4294967296 < 2147483648 := fun q => by rw [show Nat.blt (a % 4294967296) 2147483648 = true from Nat.ble_eq_true_of_le q] at hc; cases hc
    simp only [cond_false]
    split <;> omega
  · have : a % 4294967296 < 2147483648 := Nat.le_of_ble_eq_true hc
    simp only [cond_true]
    split <;> omega
def e_Bx (x : Int64) : Nat := (x.toBitVec.toNat + 9223372036854775808) % 18446744073709551616
theorem e_Bx_lN (n : Nat) : e_Bx (lN n) = e_B n := by
  unfold e_Bx e_B
  rw [lN_nat]
  omega
theorem e_Bx_toInt (x : Int64) : (e_Bx x : Int) = x.toInt + 9223372036854775808 := by
  have h : x.toInt = if 2 * x.toBitVec.toNat < 18446744073709551616 then (x.toBitVec.toNat : Int) else (x.toBitVec.toNat : Int) - 18446744073709551616 := by
    show x.toBitVec.toInt = _
    rw [BitVec.toInt_eq_toNat_cond]
    rfl
  have h2 : x.toBitVec.toNat < 18446744073709551616 := x.toBitVec.isLt
  unfold e_Bx
  rw [h]
  split <;> omega
theorem e_Bx_lt {x y : Int64} : x < y ↔ e_Bx x < e_Bx y := by
  rw [Int64.lt_iff_toInt_lt]
  have h1 := e_Bx_toInt x
  have h2 := e_Bx_toInt y
  omega
theorem e_Bx_eq {x y : Int64} : x = y ↔ e_Bx x = e_Bx y := by
  rw [← Int64.toInt_inj]
  have h1 := e_Bx_toInt x
  have h2 := e_Bx_toInt y
  omega
/-- what an operation of two longs answers -/
def e_lbinR (i : Nat) (x y : Int64) (v : Value) : Prop := match i with
  | 0 => v = .long (x + y)
  | 1 => v = .long (x - y)
  | 2 => v = .long (x * y)
  | 3 => ¬ y = 0 ∧ v = .long (x / y)
  | 4 => v = .int (lg_cmp x y)
  | _ => False
theorem e_lbin_ok (X : eX) (ρ : Nat → Nat) {i a b : Nat} {v : eV} (h : e_lbin i a b = some v) : (v.1 = 5 ∨ v.1 = 0) ∧ e_lbinR i (lN a) (lN b) (c_v X ρ v) := by
  match i, h with
  | 0, h => cases h; exact ⟨Or.inl rfl, by show Value.long (lN _) = _; rw [lN_mod]; exact congrArg Value.long (lN_add a b).symm⟩
  | 1, h => cases h; exact ⟨Or.inl rfl, congrArg Value.long (lN_subm a b)⟩
  | 2, h => cases h; exact ⟨Or.inl rfl, by show Value.long (lN _) = _; rw [lN_mod]; exact congrArg Value.long (lN_mul a b).symm⟩
  | 3, h =>
    have h : (bif Nat.blt a 9223372036854775808 && (Nat.blt 0 b && Nat.blt b 9223372036854775808) then some ((5 : Nat), a / b) else none) = some v := h
    cases hc : (Nat.blt a 9223372036854775808 && (Nat.blt 0 b && Nat.blt b 9223372036854775808))
    · rw [hc] at h; cases h
    · rw [hc] at h
      cases h
      simp only [Bool.and_eq_true] at hc
      have q1 : a < 2 ^ 63 := Nat.le_of_ble_eq_true hc.1
      have q2 : 0 < b := Nat.le_of_ble_eq_true hc.2.1
      have q3 : b < 2 ^ 63 := Nat.le_of_ble_eq_true hc.2.2
      refine ⟨Or.inl rfl, ?_, congrArg Value.long (pk_lDiv q1 q2 q3).symm⟩
      intro q
      have h3 := (pk_lEQ q3 (show 0 < 2 ^ 63 by decide)).mp (show lN b = lN 0 from q)
      omega
  | 4, h =>
    cases h
    refine ⟨Or.inr rfl, ?_⟩
    show Value.int (nI (bif Nat.blt (e_B a) (e_B b) then 4294967295 else bif Nat.blt (e_B b) (e_B a) then 1 else 0)) = Value.int (lg_cmp (lN a) (lN b))
    refine congrArg Value.int ?_
    rw [← e_Bx_lN a, ← e_Bx_lN b]
    unfold lg_cmp
    cases h1 : Nat.blt (e_Bx (lN a)) (e_Bx (lN b))
    · have n1 : ¬ lN a < lN b := fun q => by rw [show Nat.blt (e_Bx (lN a)) (e_Bx (lN b)) = true from Nat.ble_eq_true_of_le (e_Bx_lt.mp q)] at h1; cases h1
      cases h2 : Nat.blt (e_Bx (lN b)) (e_Bx (lN a))
      · have n2 : ¬ lN b < lN a := fun q => by rw [show Nat.blt (e_Bx (lN b)) (e_Bx (lN a)) = true from Nat.ble_eq_true_of_le (e_Bx_lt.mp q)] at h2; cases h2
        have n3 : lN a = lN b := e_Bx_eq.mpr (by have := mt e_Bx_lt.mpr n1; have := mt e_Bx_lt.mpr n2; omega)
        rw [if_neg n2, if_pos n3]
        exact nI_0
      · have n2 : lN b < lN a := e_Bx_lt.mpr (Nat.le_of_ble_eq_true h2)
        rw [if_pos n2]
        rfl
    · have n1 : lN a < lN b := e_Bx_lt.mpr (Nat.le_of_ble_eq_true h1)
      have n2 : ¬ lN b < lN a := fun q => by have := e_Bx_lt.mp q; have := e_Bx_lt.mp n1; omega
      have n3 : ¬ lN a = lN b := fun q => by have := e_Bx_eq.mp q; have := e_Bx_lt.mp n1; omega
      rw [if_neg n2, if_neg n3]
      rfl
  | i + 5, h => cases h
