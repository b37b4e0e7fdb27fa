/-! every script of three numbers is one of the cases -/
abbrev inb (v : Int32) (q : Nat × Nat) : Prop := q.1 ≤ e_bx v ∧ e_bx v ≤ q.2
theorem ib {v : Int32} {a b : Nat} (h1 : a ≤ e_bx v) (h2 : e_bx v ≤ b) : inb v (a, b) := ⟨h1, h2⟩
theorem ibF (v : Int32) : inb v (0, 4294967295) := by
  have := bx_lt v
  exact ib (Nat.zero_le _) (by omega)
def lw_X2 (x : Nat → Int32) (a4 a5 : Int32) (j : Nat) : Int32 := if 200 ≤ j then md_val (x 1) (x 2) (nI (j - 200)) else match j with
  | 0 => x 0
  | 1 => x 1
  | 2 => x 2
  | 3 => x 0 &&& nI 31
  | 4 => a4
  | _ => a5
abbrev l_ft (x : Nat → Int32) (a4 a5 : Int32) (f : Nat × Nat × Nat × Nat) : Prop := (f.1 ≤ 6 → e_binR f.1 (lw_X2 x a4 a5 f.2.1) (nI f.2.2.1) (lw_X2 x a4 a5 f.2.2.2)) ∧ (7 ≤ f.1 → e_unR f.1 (lw_X2 x a4 a5 f.2.1) (lw_X2 x a4 a5 f.2.2.2))
theorem gC_ok {x : Nat → Int32} {a4 a5 : Int32} {k : Nat} {b1 b2 : Nat × Nat} {more : List (Nat × Nat)} {facts : List (Nat × Nat × Nat × Nat)} (h0 : x 0 &&& nI 31 = nI k) (hk : k < 32) (h1 : inb (x 1) b1) (h2 : inb (x 2) b2) (hm : ∀ (j : Nat) (q : Nat × Nat), more[j]? = some q → inb (lw_X2 x a4 a5 (j + 4)) q) (hf : ∀ f ∈ facts, l_ft x a4 a5 f) (X1 : Nat → Nat) : e_ok0 (X1, lw_X2 x a4 a5) (gC k b1 b2 more facts) := by
  refine ⟨fun j lo hi hg => ?_, fun o i c r hm9 => ?_, fun j hj => ?_⟩
  · rw [e_get_eq] at hg
    match j, hg with
    | 0, hg =>
      cases hg
      have := bx_lt (x 0)
      exact ⟨Nat.zero_le _, (by omega : e_bx (x 0) ≤ 4294967295)⟩
    | 1, hg => cases hg; exact h1
    | 2, hg => cases hg; exact h2
    | 3, hg =>
      cases hg
      have e9 : e_bx (x 0 &&& nI 31) = 2147483648 + k := by
        rw [h0, e_bx_nI]
        unfold e_b
        omega
      exact ⟨Nat.le_of_eq e9.symm, Nat.le_of_eq e9⟩
    | j + 4, hg => exact hm j (lo, hi) hg
  · rcases List.mem_cons.mp hm9 with h | h
    · cases h
      exact ⟨fun _ => rfl, fun h => absurd h (by decide)⟩
    · exact hf (o, i, c, r) h
  · show (if 200 ≤ 200 + j then md_val (x 1) (x 2) (nI (200 + j - 200)) else _) = _
    rw [if_pos (by omega), show 200 + j - 200 = j by omega]
    rfl
theorem m0 {x : Nat → Int32} {a4 a5 : Int32} : ∀ (j : Nat) (q : Nat × Nat), ([] : List (Nat × Nat))[j]? = some q → inb (lw_X2 x a4 a5 (j + 4)) q := fun j q h => by cases h
theorem m1 {x : Nat → Int32} {a4 a5 : Int32} {q4 : Nat × Nat} (h : inb a4 q4) : ∀ (j : Nat) (q : Nat × Nat), [q4][j]? = some q → inb (lw_X2 x a4 a5 (j + 4)) q := fun j q hq => by
  match j, hq with
  | 0, hq => cases hq; exact h
  | j + 1, hq => cases hq
theorem m2 {x : Nat → Int32} {a4 a5 : Int32} {q4 q5 : Nat × Nat} (h : inb a4 q4) (h5 : inb a5 q5) : ∀ (j : Nat) (q : Nat × Nat), [q4, q5][j]? = some q → inb (lw_X2 x a4 a5 (j + 4)) q := fun j q hq => by
  match j, hq with
  | 0, hq => cases hq; exact h
  | 1, hq => cases hq; exact h5
  | j + 2, hq => cases hq
theorem f0 {x : Nat → Int32} {a4 a5 : Int32} : ∀ f ∈ ([] : List (Nat × Nat × Nat × Nat)), l_ft x a4 a5 f := fun f h => absurd h List.not_mem_nil
theorem f1 {x : Nat → Int32} {a4 a5 : Int32} {q : Nat × Nat × Nat × Nat} (h : l_ft x a4 a5 q) : ∀ f ∈ [q], l_ft x a4 a5 f := List.forall_mem_cons.mpr ⟨h, f0⟩
theorem f2 {x : Nat → Int32} {a4 a5 : Int32} {q q2 : Nat × Nat × Nat × Nat} (h : l_ft x a4 a5 q) (h2 : l_ft x a4 a5 q2) : ∀ f ∈ [q, q2], l_ft x a4 a5 f := List.forall_mem_cons.mpr ⟨h, f1 h2⟩
def caseOk (x : Nat → Int32) : Prop := ∃ (a4 a5 : Int32) (G : eG) (K : List eK), (∀ X1 : Nat → Nat, e_ok0 (X1, lw_X2 x a4 a5) G) ∧ kWf K ∧ (∀ (l : Launch) (X : eX), l.stackTraces = false → e_ok0 X G → ∀ k ∈ K, kOk l X k) ∧ l_go G K 3 = true
theorem co {x : Nat → Int32} {a4 a5 : Int32} {G : eG} (hl : l_go G [] 3 = true) (h : ∀ X1 : Nat → Nat, e_ok0 (X1, lw_X2 x a4 a5) G) : caseOk x := ⟨a4, a5, G, [], h, fun k hk => absurd hk List.not_mem_nil, fun _ _ _ _ k hk => absurd hk List.not_mem_nil, hl⟩
theorem ck {x : Nat → Int32} {a4 a5 : Int32} {G : eG} {K : List eK} (hl : l_go G K 3 = true) (hK : kAll K) (h : ∀ X1 : Nat → Nat, e_ok0 (X1, lw_X2 x a4 a5) G) : caseOk x := ⟨a4, a5, G, K, h, hK.1 _ G (h (fun _ => 0)), fun l X hl' hG => hK.2 l X G hl' hG, hl⟩
/-- a char out of an int -/
def l_ch (v : Int32) : Nat := v.toBitVec.toNat % 65536
theorem ch_lt (v : Int32) : l_ch v < 65536 := Nat.mod_lt _ (by decide)
theorem ch_bx (v : Int32) : e_bx (nI (l_ch v)) = 2147483648 + l_ch v := by
  have := ch_lt v
  rw [e_bx_nI]
  unfold e_b
  omega
theorem ch_f {x : Nat → Int32} {a5 : Int32} {j : Nat} (hj : j = 1 ∨ j = 2) : l_ft x (nI (l_ch (x j))) a5 (7, j, 0, 4) := by
  refine ⟨fun h => absurd (show (7 : Nat) ≤ 6 from h) (by decide), fun _ => ?_⟩
  rcases hj with rfl | rfl
  · exact (pk_char (x 1)).symm
  · exact (pk_char (x 2)).symm
/-- its byte -/
def l_by (n : Nat) : Int32 := nI (bif Nat.blt (n % 256) 128 then n % 256 else 4294967040 + n % 256)
theorem by_f {x : Nat → Int32} {n : Nat} : l_ft x (nI n) (l_by n) (8, 4, 0, 5) := by
  refine ⟨fun h => absurd h (by decide), fun _ => ?_⟩
  show l_by n = (nI n).toInt8.toInt32
  rw [nI_i8]
  exact (nI_i8a (n % 256) (Nat.mod_lt _ (by decide))).symm
theorem by_lo {n : Nat} (h : n < 128) : e_bx (l_by n) = 2147483648 + n := by
  unfold l_by
  rw [show n % 256 = n by omega, show Nat.blt n 128 = true from Nat.ble_eq_true_of_le h, cond_true, e_bx_nI]
  unfold e_b
  omega
theorem by_hi {n : Nat} (h1 : 128 ≤ n) (h2 : n < 256) : e_bx (l_by n) = 2147483392 + n := by
  have hc : Nat.blt n 128 = false := by
    cases hq : Nat.blt n 128
    · rfl
    · have : n < 128 := Nat.le_of_ble_eq_true hq
      omega
  unfold l_by
  rw [show n % 256 = n by omega, hc, cond_false, e_bx_nI]
  unfold e_b
  omega
theorem by_any (n : Nat) : 2147483520 ≤ e_bx (l_by n) ∧ e_bx (l_by n) ≤ 2147483775 := by
  have hm : n % 256 < 256 := Nat.mod_lt _ (by decide)
  unfold l_by
  cases hq : Nat.blt (n % 256) 128
  · have : ¬ n % 256 < 128 := fun q => by rw [show Nat.blt (n % 256) 128 = true from Nat.ble_eq_true_of_le q] at hq; cases hq
    rw [cond_false, e_bx_nI]
    unfold e_b
    omega
  · have : n % 256 < 128 := Nat.le_of_ble_eq_true hq
    rw [cond_true, e_bx_nI]
    unfold e_b
    omega
theorem in_pos {v : Int32} {n : Nat} (h1 : 2147483648 ≤ e_bx v) (h2 : e_bx v < 2147483648 + n) : ∃ b, b < n ∧ e_bx v = 2147483648 + b := ⟨e_bx v - 2147483648, by omega, by omega⟩
theorem bx_pos {v : Int32} {b : Nat} (h : e_bx v = 2147483648 + b) : v = nI b := by
  have := bx_lt v
  rw [e_bx_eq, h, e_bx_nI]
  unfold e_b
  omega
theorem ca_12 {x : Nat → Int32} (h0 : x 0 &&& nI 31 = nI 12) : caseOk x := by
  have q1 := bx_lt (x 1)
  have q2 := bx_lt (x 2)
  exact co (a4 := 0) (a5 := 0) lc_12 (gC_ok h0 (by decide) (ibF (x 1)) (ibF (x 2)) m0 f0)
theorem ca_17 {x : Nat → Int32} (h0 : x 0 &&& nI 31 = nI 17) : caseOk x := by
  have q1 := bx_lt (x 1)
  have q2 := bx_lt (x 2)
  exact co (a4 := 0) (a5 := 0) lc_17 (gC_ok h0 (by decide) (ibF (x 1)) (ibF (x 2)) m0 f0)
theorem ca_20 {x : Nat → Int32} (h0 : x 0 &&& nI 31 = nI 20) : caseOk x := by
  have q1 := bx_lt (x 1)
  have q2 := bx_lt (x 2)
  exact co (a4 := 0) (a5 := 0) lc_20 (gC_ok h0 (by decide) (ibF (x 1)) (ibF (x 2)) m0 f0)
theorem ca_21 {x : Nat → Int32} (h0 : x 0 &&& nI 31 = nI 21) : caseOk x := by
  have q1 := bx_lt (x 1)
  have q2 := bx_lt (x 2)
  exact co (a4 := 0) (a5 := 0) lc_21 (gC_ok h0 (by decide) (ibF (x 1)) (ibF (x 2)) m0 f0)
theorem ca_22 {x : Nat → Int32} (h0 : x 0 &&& nI 31 = nI 22) : caseOk x := by
  have q1 := bx_lt (x 1)
  have q2 := bx_lt (x 2)
  exact co (a4 := 0) (a5 := 0) lc_22 (gC_ok h0 (by decide) (ibF (x 1)) (ibF (x 2)) m0 f0)
theorem ca_23 {x : Nat → Int32} (h0 : x 0 &&& nI 31 = nI 23) : caseOk x := by
  have q1 := bx_lt (x 1)
  have q2 := bx_lt (x 2)
  exact co (a4 := 0) (a5 := 0) lc_23 (gC_ok h0 (by decide) (ibF (x 1)) (ibF (x 2)) m0 f0)
theorem ca_24 {x : Nat → Int32} (h0 : x 0 &&& nI 31 = nI 24) : caseOk x := by
  have q1 := bx_lt (x 1)
  have q2 := bx_lt (x 2)
  exact co (a4 := 0) (a5 := 0) lc_24 (gC_ok h0 (by decide) (ibF (x 1)) (ibF (x 2)) m0 f0)
theorem ca_25 {x : Nat → Int32} (h0 : x 0 &&& nI 31 = nI 25) : caseOk x := by
  have q1 := bx_lt (x 1)
  have q2 := bx_lt (x 2)
  exact co (a4 := 0) (a5 := 0) lc_25 (gC_ok h0 (by decide) (ibF (x 1)) (ibF (x 2)) m0 f0)
theorem ca_27 {x : Nat → Int32} (h0 : x 0 &&& nI 31 = nI 27) : caseOk x := by
  have q1 := bx_lt (x 1)
  have q2 := bx_lt (x 2)
  exact co (a4 := 0) (a5 := 0) lc_27 (gC_ok h0 (by decide) (ibF (x 1)) (ibF (x 2)) m0 f0)
theorem ca_28 {x : Nat → Int32} (h0 : x 0 &&& nI 31 = nI 28) : caseOk x := by
  have q1 := bx_lt (x 1)
  have q2 := bx_lt (x 2)
  exact co (a4 := 0) (a5 := 0) lc_28 (gC_ok h0 (by decide) (ibF (x 1)) (ibF (x 2)) m0 f0)
theorem ca_29 {x : Nat → Int32} (h0 : x 0 &&& nI 31 = nI 29) : caseOk x := by
  have q1 := bx_lt (x 1)
  have q2 := bx_lt (x 2)
  exact co (a4 := 0) (a5 := 0) lc_29 (gC_ok h0 (by decide) (ibF (x 1)) (ibF (x 2)) m0 f0)
theorem ca_30 {x : Nat → Int32} (h0 : x 0 &&& nI 31 = nI 30) : caseOk x := by
  have q1 := bx_lt (x 1)
  have q2 := bx_lt (x 2)
  exact co (a4 := 0) (a5 := 0) lc_30 (gC_ok h0 (by decide) (ibF (x 1)) (ibF (x 2)) m0 f0)
theorem ca_31 {x : Nat → Int32} (h0 : x 0 &&& nI 31 = nI 31) : caseOk x := by
  have q1 := bx_lt (x 1)
  have q2 := bx_lt (x 2)
  exact co (a4 := 0) (a5 := 0) lc_31 (gC_ok h0 (by decide) (ibF (x 1)) (ibF (x 2)) m0 f0)
theorem ca_3 {x : Nat → Int32} (h0 : x 0 &&& nI 31 = nI 3) : caseOk x := by
  have q1 := bx_lt (x 1)
  have q2 := bx_lt (x 2)
  by_cases c1 : e_bx (x 1) < 2147483648
  · exact co (a4 := 0) (a5 := 0) lc_3_lo (gC_ok h0 (by decide) (ib (by omega) (by omega)) (ibF (x 2)) m0 f0)
  · by_cases d1 : 2147483648 + 60 ≤ e_bx (x 1)
    · exact co (a4 := 0) (a5 := 0) lc_3_hi (gC_ok h0 (by decide) (ib (by omega) (by omega)) (ibF (x 2)) m0 f0)
    · exact co (a4 := 0) (a5 := 0) lc_3_m (gC_ok h0 (by decide) (ib (by omega) (by omega)) (ibF (x 2)) m0 f0)
theorem ca_13 {x : Nat → Int32} (h0 : x 0 &&& nI 31 = nI 13) : caseOk x := by
  have q1 := bx_lt (x 1)
  have q2 := bx_lt (x 2)
  by_cases c1 : e_bx (x 1) < 2147483648
  · exact co (a4 := 0) (a5 := 0) lc_13_lo (gC_ok h0 (by decide) (ib (by omega) (by omega)) (ibF (x 2)) m0 f0)
  · by_cases d1 : 2147483648 + 60 ≤ e_bx (x 1)
    · exact co (a4 := 0) (a5 := 0) lc_13_hi (gC_ok h0 (by decide) (ib (by omega) (by omega)) (ibF (x 2)) m0 f0)
    · exact co (a4 := 0) (a5 := 0) lc_13_m (gC_ok h0 (by decide) (ib (by omega) (by omega)) (ibF (x 2)) m0 f0)
theorem ca_5 {x : Nat → Int32} (h0 : x 0 &&& nI 31 = nI 5) : caseOk x := by
  have q1 := bx_lt (x 1)
  have q2 := bx_lt (x 2)
  by_cases c1 : e_bx (x 1) < 2147483648
  · exact co (a4 := 0) (a5 := 0) lc_5_lo (gC_ok h0 (by decide) (ib (by omega) (by omega)) (ibF (x 2)) m0 f0)
  · by_cases d1 : 2147483648 + 60 ≤ e_bx (x 1)
    · exact co (a4 := 0) (a5 := 0) lc_5_hi (gC_ok h0 (by decide) (ib (by omega) (by omega)) (ibF (x 2)) m0 f0)
    · obtain ⟨b, hb, e1⟩ : ∃ b, b < 60 ∧ e_bx (x 1) = 2147483648 + b := in_pos (by omega) (by omega)
      exact co (a4 := 0) (a5 := 0) (lc_5_b b hb) (gC_ok h0 (by decide) (ib (by omega) (by omega)) (ibF (x 2)) m0 f0)
theorem ca_6 {x : Nat → Int32} (h0 : x 0 &&& nI 31 = nI 6) : caseOk x := by
  have q1 := bx_lt (x 1)
  have q2 := bx_lt (x 2)
  by_cases c1 : e_bx (x 1) < 2147483648
  · exact co (a4 := 0) (a5 := 0) lc_6_lo (gC_ok h0 (by decide) (ib (by omega) (by omega)) (ibF (x 2)) m0 f0)
  · by_cases d1 : 2147483648 + 60 ≤ e_bx (x 1)
    · exact co (a4 := 0) (a5 := 0) lc_6_hi (gC_ok h0 (by decide) (ib (by omega) (by omega)) (ibF (x 2)) m0 f0)
    · obtain ⟨b, hb, e1⟩ : ∃ b, b < 60 ∧ e_bx (x 1) = 2147483648 + b := in_pos (by omega) (by omega)
      exact co (a4 := 0) (a5 := 0) (lc_6_b b hb) (gC_ok h0 (by decide) (ib (by omega) (by omega)) (ibF (x 2)) m0 f0)
theorem ca_18 {x : Nat → Int32} (h0 : x 0 &&& nI 31 = nI 18) : caseOk x := by
  have q1 := bx_lt (x 1)
  have q2 := bx_lt (x 2)
  by_cases c1 : e_bx (x 1) < 2147483648
  · exact co (a4 := 0) (a5 := 0) lc_18_lo (gC_ok h0 (by decide) (ib (by omega) (by omega)) (ibF (x 2)) m0 f0)
  · by_cases d1 : 2147483648 + 60 ≤ e_bx (x 1)
    · exact co (a4 := 0) (a5 := 0) lc_18_hi (gC_ok h0 (by decide) (ib (by omega) (by omega)) (ibF (x 2)) m0 f0)
    · obtain ⟨b, hb, e1⟩ : ∃ b, b < 60 ∧ e_bx (x 1) = 2147483648 + b := in_pos (by omega) (by omega)
      exact co (a4 := 0) (a5 := 0) (lc_18_b b hb) (gC_ok h0 (by decide) (ib (by omega) (by omega)) (ibF (x 2)) m0 f0)
theorem ca_19 {x : Nat → Int32} (h0 : x 0 &&& nI 31 = nI 19) : caseOk x := by
  have q1 := bx_lt (x 1)
  have q2 := bx_lt (x 2)
  by_cases c1 : e_bx (x 1) < 2147483648
  · exact co (a4 := 0) (a5 := 0) lc_19_lo (gC_ok h0 (by decide) (ib (by omega) (by omega)) (ibF (x 2)) m0 f0)
  · by_cases d1 : 2147483648 + 60 ≤ e_bx (x 1)
    · exact co (a4 := 0) (a5 := 0) lc_19_hi (gC_ok h0 (by decide) (ib (by omega) (by omega)) (ibF (x 2)) m0 f0)
    · obtain ⟨b, hb, e1⟩ : ∃ b, b < 60 ∧ e_bx (x 1) = 2147483648 + b := in_pos (by omega) (by omega)
      exact co (a4 := 0) (a5 := 0) (lc_19_b b hb) (gC_ok h0 (by decide) (ib (by omega) (by omega)) (ibF (x 2)) m0 f0)
theorem ca_7 {x : Nat → Int32} (h0 : x 0 &&& nI 31 = nI 7) : caseOk x := by
  have q1 := bx_lt (x 1)
  have q2 := bx_lt (x 2)
  by_cases c1 : e_bx (x 1) < 2147483648
  · exact co (a4 := 0) (a5 := 0) lc_7_lo (gC_ok h0 (by decide) (ib (by omega) (by omega)) (ibF (x 2)) m0 f0)
  · by_cases d1 : 2147483648 + 100 ≤ e_bx (x 1)
    · exact co (a4 := 0) (a5 := 0) lc_7_hi (gC_ok h0 (by decide) (ib (by omega) (by omega)) (ibF (x 2)) m0 f0)
    · exact ck (a4 := 0) (a5 := 0) lc_7_m kp_A7 (gC_ok h0 (by decide) (ib (by omega) (by omega)) (ibF (x 2)) m0 f0)
theorem ca_8 {x : Nat → Int32} (h0 : x 0 &&& nI 31 = nI 8) : caseOk x := by
  have q1 := bx_lt (x 1)
  have q2 := bx_lt (x 2)
  by_cases c1 : e_bx (x 1) < 2147483648
  · exact co (a4 := 0) (a5 := 0) lc_8_lo (gC_ok h0 (by decide) (ib (by omega) (by omega)) (ibF (x 2)) m0 f0)
  · by_cases d1 : 2147483648 + 100 ≤ e_bx (x 1)
    · exact co (a4 := 0) (a5 := 0) lc_8_hi (gC_ok h0 (by decide) (ib (by omega) (by omega)) (ibF (x 2)) m0 f0)
    · exact ck (a4 := 0) (a5 := 0) lc_8_m kp_A8 (gC_ok h0 (by decide) (ib (by omega) (by omega)) (ibF (x 2)) m0 f0)
theorem ca_9 {x : Nat → Int32} (h0 : x 0 &&& nI 31 = nI 9) : caseOk x := by
  have q1 := bx_lt (x 1)
  have q2 := bx_lt (x 2)
  by_cases c1 : e_bx (x 1) < 2147483648
  · exact co (a4 := 0) (a5 := 0) lc_9_lo (gC_ok h0 (by decide) (ib (by omega) (by omega)) (ibF (x 2)) m0 f0)
  · by_cases d1 : 2147483648 + 100 ≤ e_bx (x 1)
    · exact co (a4 := 0) (a5 := 0) lc_9_hi (gC_ok h0 (by decide) (ib (by omega) (by omega)) (ibF (x 2)) m0 f0)
    · by_cases c2 : e_bx (x 2) < 2147483648
      · exact co (a4 := 0) (a5 := 0) lc_9_mlo (gC_ok h0 (by decide) (ib (by omega) (by omega)) (ib (by omega) (by omega)) m0 f0)
      · by_cases d2 : 2147483648 + 60 ≤ e_bx (x 2)
        · exact co (a4 := 0) (a5 := 0) lc_9_mhi (gC_ok h0 (by decide) (ib (by omega) (by omega)) (ib (by omega) (by omega)) m0 f0)
        · obtain ⟨b, hb, e2⟩ : ∃ b, b < 60 ∧ e_bx (x 2) = 2147483648 + b := in_pos (by omega) (by omega)
          have e3 := bx_pos e2
          have r1 : e_bx (x 2 / nI 10) = 2147483648 + b / 10 := by
            rw [e3, pk_div (by omega) (by decide) (by decide), e_bx_nI]
            unfold e_b
            omega
          have r2 : e_bx (x 2 - x 2 / nI 10 * nI 10) = 2147483648 + b % 10 := by
            rw [e3, pk_rem (by omega) (by decide) (by decide), e_bx_nI]
            unfold e_b
            omega
          exact ck (a4 := x 2 / nI 10) (a5 := x 2 - x 2 / nI 10 * nI 10) lc_9_m kp_A9 (gC_ok h0 (by decide) (ib (by omega) (by omega)) (ib (by omega) (by omega)) (m2 (ib (by omega) (by omega)) (ib (by omega) (by omega))) (f2 ⟨fun _ => ⟨by decide +kernel, rfl⟩, fun h => absurd h (by decide)⟩ ⟨fun _ => ⟨by decide +kernel, rfl⟩, fun h => absurd h (by decide)⟩))
theorem ca_10 {x : Nat → Int32} (h0 : x 0 &&& nI 31 = nI 10) : caseOk x := by
  have q1 := bx_lt (x 1)
  have q2 := bx_lt (x 2)
  by_cases c1 : e_bx (x 1) < 2147483648
  · exact co (a4 := 0) (a5 := 0) lc_10_lo (gC_ok h0 (by decide) (ib (by omega) (by omega)) (ibF (x 2)) m0 f0)
  · by_cases d1 : 2147483648 + 100 ≤ e_bx (x 1)
    · exact co (a4 := 0) (a5 := 0) lc_10_hi (gC_ok h0 (by decide) (ib (by omega) (by omega)) (ibF (x 2)) m0 f0)
    · by_cases c2 : e_bx (x 2) < 2147483648
      · exact co (a4 := 0) (a5 := 0) lc_10_mlo (gC_ok h0 (by decide) (ib (by omega) (by omega)) (ib (by omega) (by omega)) m0 f0)
      · by_cases d2 : 2147483648 + 60 ≤ e_bx (x 2)
        · exact co (a4 := 0) (a5 := 0) lc_10_mhi (gC_ok h0 (by decide) (ib (by omega) (by omega)) (ib (by omega) (by omega)) m0 f0)
        · obtain ⟨b, hb, e2⟩ : ∃ b, b < 60 ∧ e_bx (x 2) = 2147483648 + b := in_pos (by omega) (by omega)
          exact co (a4 := 0) (a5 := 0) (lc_10_b b hb) (gC_ok h0 (by decide) (ib (by omega) (by omega)) (ib (by omega) (by omega)) m0 f0)
theorem ca_1 {x : Nat → Int32} (h0 : x 0 &&& nI 31 = nI 1) : caseOk x := by
  have q1 := bx_lt (x 1)
  have q2 := bx_lt (x 2)
  by_cases c1 : e_bx (x 1) < 2147483648
  · exact co (a4 := 0) (a5 := 0) lc_1_lo (gC_ok h0 (by decide) (ib (by omega) (by omega)) (ibF (x 2)) m0 f0)
  · by_cases d1 : 2147483648 + 60 ≤ e_bx (x 1)
    · exact co (a4 := 0) (a5 := 0) lc_1_hi (gC_ok h0 (by decide) (ib (by omega) (by omega)) (ibF (x 2)) m0 f0)
    · by_cases c2 : e_bx (x 2) < 2147483648
      · exact co (a4 := 0) (a5 := 0) lc_1_mlo (gC_ok h0 (by decide) (ib (by omega) (by omega)) (ib (by omega) (by omega)) m0 f0)
      · by_cases d2 : 2147483648 + 100 ≤ e_bx (x 2)
        · exact co (a4 := 0) (a5 := 0) lc_1_mhi (gC_ok h0 (by decide) (ib (by omega) (by omega)) (ib (by omega) (by omega)) m0 f0)
        · exact co (a4 := 0) (a5 := 0) lc_1_m (gC_ok h0 (by decide) (ib (by omega) (by omega)) (ib (by omega) (by omega)) m0 f0)
theorem ca_2 {x : Nat → Int32} (h0 : x 0 &&& nI 31 = nI 2) : caseOk x := by
  have q1 := bx_lt (x 1)
  have q2 := bx_lt (x 2)
  by_cases c1 : e_bx (x 1) < 2147483648
  · exact co (a4 := 0) (a5 := 0) lc_2_lo (gC_ok h0 (by decide) (ib (by omega) (by omega)) (ibF (x 2)) m0 f0)
  · by_cases d1 : 2147483648 + 60 ≤ e_bx (x 1)
    · exact co (a4 := 0) (a5 := 0) lc_2_hi (gC_ok h0 (by decide) (ib (by omega) (by omega)) (ibF (x 2)) m0 f0)
    · by_cases c2 : e_bx (x 2) < 2147483648
      · exact co (a4 := 0) (a5 := 0) lc_2_mlo (gC_ok h0 (by decide) (ib (by omega) (by omega)) (ib (by omega) (by omega)) m0 f0)
      · by_cases d2 : 2147483648 + 100 ≤ e_bx (x 2)
        · exact co (a4 := 0) (a5 := 0) lc_2_mhi (gC_ok h0 (by decide) (ib (by omega) (by omega)) (ib (by omega) (by omega)) m0 f0)
        · obtain ⟨b, hb, e1⟩ : ∃ b, b < 60 ∧ e_bx (x 1) = 2147483648 + b := in_pos (by omega) (by omega)
          exact co (a4 := x 2 + nI 1) (a5 := 0) (lc_2_b b hb) (gC_ok h0 (by decide) (ib (by omega) (by omega)) (ib (by omega) (by omega)) (m1 (ibF _)) (f1 ⟨fun _ => rfl, fun h => absurd h (by decide)⟩))
theorem ca_4 {x : Nat → Int32} (h0 : x 0 &&& nI 31 = nI 4) : caseOk x := by
  have q1 := bx_lt (x 1)
  have q2 := bx_lt (x 2)
  by_cases c1 : e_bx (x 1) < 2147483648
  · exact co (a4 := 0) (a5 := 0) lc_4_lo (gC_ok h0 (by decide) (ib (by omega) (by omega)) (ibF (x 2)) m0 f0)
  · by_cases d1 : 2147483648 + 60 ≤ e_bx (x 1)
    · exact co (a4 := 0) (a5 := 0) lc_4_hi (gC_ok h0 (by decide) (ib (by omega) (by omega)) (ibF (x 2)) m0 f0)
    · by_cases c2 : e_bx (x 2) < 2147483648
      · exact co (a4 := 0) (a5 := 0) lc_4_mlo (gC_ok h0 (by decide) (ib (by omega) (by omega)) (ib (by omega) (by omega)) m0 f0)
      · by_cases d2 : 2147483648 + 100 ≤ e_bx (x 2)
        · exact co (a4 := 0) (a5 := 0) lc_4_mhi (gC_ok h0 (by decide) (ib (by omega) (by omega)) (ib (by omega) (by omega)) m0 f0)
        · obtain ⟨b, hb, e1⟩ : ∃ b, b < 60 ∧ e_bx (x 1) = 2147483648 + b := in_pos (by omega) (by omega)
          exact co (a4 := 0) (a5 := 0) (lc_4_b b hb) (gC_ok h0 (by decide) (ib (by omega) (by omega)) (ib (by omega) (by omega)) m0 f0)
theorem ca_11 {x : Nat → Int32} (h0 : x 0 &&& nI 31 = nI 11) : caseOk x := by
  have q1 := bx_lt (x 1)
  have q2 := bx_lt (x 2)
  by_cases c1 : e_bx (x 1) < 2147483648
  · exact co (a4 := 0) (a5 := 0) lc_11_lo (gC_ok h0 (by decide) (ib (by omega) (by omega)) (ibF (x 2)) m0 f0)
  · by_cases d1 : 2147483648 + 100 ≤ e_bx (x 1)
    · exact co (a4 := 0) (a5 := 0) lc_11_hi (gC_ok h0 (by decide) (ib (by omega) (by omega)) (ibF (x 2)) m0 f0)
    · obtain ⟨b, hb, e1⟩ : ∃ b, b < 100 ∧ e_bx (x 1) = 2147483648 + b := in_pos (by omega) (by omega)
      exact co (a4 := 0) (a5 := 0) (lc_11_b b hb) (gC_ok h0 (by decide) (ib (by omega) (by omega)) (ibF (x 2)) m0 f0)
theorem ca_0 {x : Nat → Int32} (h0 : x 0 &&& nI 31 = nI 0) : caseOk x := by
  have q1 := bx_lt (x 1)
  have q2 := ch_lt (x 2)
  have q3 := ch_bx (x 2)
  by_cases c1 : e_bx (x 1) < 2147483648
  · exact co (a4 := nI (l_ch (x 2))) (a5 := 0) lc_0_lo (gC_ok h0 (by decide) (ib (by omega) (by omega)) (ibF (x 2)) (m1 (ib (by omega) (by omega))) (f1 (ch_f (Or.inr rfl))))
  · by_cases d1 : 2147483648 + 60 ≤ e_bx (x 1)
    · exact co (a4 := nI (l_ch (x 2))) (a5 := 0) lc_0_hi (gC_ok h0 (by decide) (ib (by omega) (by omega)) (ibF (x 2)) (m1 (ib (by omega) (by omega))) (f1 (ch_f (Or.inr rfl))))
    · by_cases z0 : l_ch (x 2) < 104
      · exact co (a4 := nI (l_ch (x 2))) (a5 := 0) lc_0_c0 (gC_ok h0 (by decide) (ib (by omega) (by omega)) (ibF (x 2)) (m1 (ib (by omega) (by omega))) (f1 (ch_f (Or.inr rfl))))
      · by_cases z1 : l_ch (x 2) = 104
        · obtain ⟨b, hb, e1⟩ : ∃ b, b < 60 ∧ e_bx (x 1) = 2147483648 + b := in_pos (by omega) (by omega)
          exact co (a4 := nI (l_ch (x 2))) (a5 := 0) (lc_0_h b hb) (gC_ok h0 (by decide) (ib (by omega) (by omega)) (ibF (x 2)) (m1 (ib (by omega) (by omega))) (f1 (ch_f (Or.inr rfl))))
        · by_cases z2 : l_ch (x 2) < 115
          · exact co (a4 := nI (l_ch (x 2))) (a5 := 0) lc_0_c1 (gC_ok h0 (by decide) (ib (by omega) (by omega)) (ibF (x 2)) (m1 (ib (by omega) (by omega))) (f1 (ch_f (Or.inr rfl))))
          · by_cases z3 : l_ch (x 2) = 115
            · obtain ⟨b, hb, e1⟩ : ∃ b, b < 60 ∧ e_bx (x 1) = 2147483648 + b := in_pos (by omega) (by omega)
              exact co (a4 := nI (l_ch (x 2))) (a5 := 0) (lc_0_s b hb) (gC_ok h0 (by decide) (ib (by omega) (by omega)) (ibF (x 2)) (m1 (ib (by omega) (by omega))) (f1 (ch_f (Or.inr rfl))))
            · exact co (a4 := nI (l_ch (x 2))) (a5 := 0) lc_0_c2 (gC_ok h0 (by decide) (ib (by omega) (by omega)) (ibF (x 2)) (m1 (ib (by omega) (by omega))) (f1 (ch_f (Or.inr rfl))))
theorem ca_15 {x : Nat → Int32} (h0 : x 0 &&& nI 31 = nI 15) : caseOk x := by
  have q1 := bx_lt (x 1)
  have q2 := bx_lt (x 2)
  by_cases c1 : e_bx (x 1) < 2147483648
  · exact co (a4 := 0) (a5 := 0) lc_15_lo (gC_ok h0 (by decide) (ib (by omega) (by omega)) (ibF (x 2)) m0 f0)
  · by_cases c2 : e_bx (x 1) = 2147483648
    · exact co (a4 := 0) (a5 := 0) lc_15_0 (gC_ok h0 (by decide) (ib (by omega) (by omega)) (ibF (x 2)) m0 f0)
    · exact co (a4 := 0) (a5 := 0) lc_15_hi (gC_ok h0 (by decide) (ib (by omega) (by omega)) (ibF (x 2)) m0 f0)
theorem ca_26 {x : Nat → Int32} (h0 : x 0 &&& nI 31 = nI 26) : caseOk x := by
  have q2 := ch_lt (x 1)
  have q3 := ch_bx (x 1)
  by_cases z0 : l_ch (x 1) ≤ 99
  · exact co (a4 := nI (l_ch (x 1))) (a5 := 0) lc_26_0 (gC_ok h0 (by decide) (ibF (x 1)) (ibF (x 2)) (m1 (ib (by omega) (by omega))) (f1 (ch_f (Or.inl rfl))))
  · by_cases z1 : l_ch (x 1) ≤ 100
    · exact co (a4 := nI (l_ch (x 1))) (a5 := 0) lc_26_1 (gC_ok h0 (by decide) (ibF (x 1)) (ibF (x 2)) (m1 (ib (by omega) (by omega))) (f1 (ch_f (Or.inl rfl))))
    · by_cases z2 : l_ch (x 1) ≤ 111
      · exact co (a4 := nI (l_ch (x 1))) (a5 := 0) lc_26_2 (gC_ok h0 (by decide) (ibF (x 1)) (ibF (x 2)) (m1 (ib (by omega) (by omega))) (f1 (ch_f (Or.inl rfl))))
      · by_cases z3 : l_ch (x 1) ≤ 112
        · exact co (a4 := nI (l_ch (x 1))) (a5 := 0) lc_26_3 (gC_ok h0 (by decide) (ibF (x 1)) (ibF (x 2)) (m1 (ib (by omega) (by omega))) (f1 (ch_f (Or.inl rfl))))
        · by_cases z4 : l_ch (x 1) ≤ 114
          · exact co (a4 := nI (l_ch (x 1))) (a5 := 0) lc_26_4 (gC_ok h0 (by decide) (ibF (x 1)) (ibF (x 2)) (m1 (ib (by omega) (by omega))) (f1 (ch_f (Or.inl rfl))))
          · by_cases z5 : l_ch (x 1) ≤ 115
            · exact co (a4 := nI (l_ch (x 1))) (a5 := 0) lc_26_5 (gC_ok h0 (by decide) (ibF (x 1)) (ibF (x 2)) (m1 (ib (by omega) (by omega))) (f1 (ch_f (Or.inl rfl))))
            · exact co (a4 := nI (l_ch (x 1))) (a5 := 0) lc_26_6 (gC_ok h0 (by decide) (ibF (x 1)) (ibF (x 2)) (m1 (ib (by omega) (by omega))) (f1 (ch_f (Or.inl rfl))))
theorem ca_14 {x : Nat → Int32} (h0 : x 0 &&& nI 31 = nI 14) : caseOk x := by
  have q1 := bx_lt (x 2)
  have q2 := ch_lt (x 1)
  have q3 := ch_bx (x 1)
  have q4 := by_any (l_ch (x 1))
  by_cases z0 : l_ch (x 1) ≤ 98
  · have q5 : e_bx (l_by (l_ch (x 1))) = 2147483648 + l_ch (x 1) := by_lo (by omega)
    exact co (a4 := nI (l_ch (x 1))) (a5 := l_by (l_ch (x 1))) lc_14_0 (gC_ok h0 (by decide) (ibF (x 1)) (ibF (x 2)) (m2 (ib (by omega) (by omega)) (ib (by omega) (by omega))) (f2 (ch_f (Or.inl rfl)) by_f))
  · by_cases z1 : l_ch (x 1) ≤ 99
    · have q5 : e_bx (l_by (l_ch (x 1))) = 2147483648 + l_ch (x 1) := by_lo (by omega)
      by_cases c2 : e_bx (x 2) < 2147483648
      · exact co (a4 := nI (l_ch (x 1))) (a5 := l_by (l_ch (x 1))) lc_14_1_lo (gC_ok h0 (by decide) (ibF (x 1)) (ib (by omega) (by omega)) (m2 (ib (by omega) (by omega)) (ib (by omega) (by omega))) (f2 (ch_f (Or.inl rfl)) by_f))
      · by_cases d2 : 2147483648 + 100 ≤ e_bx (x 2)
        · exact co (a4 := nI (l_ch (x 1))) (a5 := l_by (l_ch (x 1))) lc_14_1_hi (gC_ok h0 (by decide) (ibF (x 1)) (ib (by omega) (by omega)) (m2 (ib (by omega) (by omega)) (ib (by omega) (by omega))) (f2 (ch_f (Or.inl rfl)) by_f))
        · exact co (a4 := nI (l_ch (x 1))) (a5 := l_by (l_ch (x 1))) lc_14_1_m (gC_ok h0 (by decide) (ibF (x 1)) (ib (by omega) (by omega)) (m2 (ib (by omega) (by omega)) (ib (by omega) (by omega))) (f2 (ch_f (Or.inl rfl)) by_f))
    · by_cases z2 : l_ch (x 1) ≤ 107
      · have q5 : e_bx (l_by (l_ch (x 1))) = 2147483648 + l_ch (x 1) := by_lo (by omega)
        exact co (a4 := nI (l_ch (x 1))) (a5 := l_by (l_ch (x 1))) lc_14_2 (gC_ok h0 (by decide) (ibF (x 1)) (ibF (x 2)) (m2 (ib (by omega) (by omega)) (ib (by omega) (by omega))) (f2 (ch_f (Or.inl rfl)) by_f))
      · by_cases z3 : l_ch (x 1) ≤ 108
        · have q5 : e_bx (l_by (l_ch (x 1))) = 2147483648 + l_ch (x 1) := by_lo (by omega)
          by_cases c2 : e_bx (x 2) < 2147483648
          · exact co (a4 := nI (l_ch (x 1))) (a5 := l_by (l_ch (x 1))) lc_14_3_lo (gC_ok h0 (by decide) (ibF (x 1)) (ib (by omega) (by omega)) (m2 (ib (by omega) (by omega)) (ib (by omega) (by omega))) (f2 (ch_f (Or.inl rfl)) by_f))
          · by_cases d2 : 2147483648 + 100 ≤ e_bx (x 2)
            · exact co (a4 := nI (l_ch (x 1))) (a5 := l_by (l_ch (x 1))) lc_14_3_hi (gC_ok h0 (by decide) (ibF (x 1)) (ib (by omega) (by omega)) (m2 (ib (by omega) (by omega)) (ib (by omega) (by omega))) (f2 (ch_f (Or.inl rfl)) by_f))
            · exact co (a4 := nI (l_ch (x 1))) (a5 := l_by (l_ch (x 1))) lc_14_3_m (gC_ok h0 (by decide) (ibF (x 1)) (ib (by omega) (by omega)) (m2 (ib (by omega) (by omega)) (ib (by omega) (by omega))) (f2 (ch_f (Or.inl rfl)) by_f))
        · by_cases z4 : l_ch (x 1) ≤ 109
          · have q5 : e_bx (l_by (l_ch (x 1))) = 2147483648 + l_ch (x 1) := by_lo (by omega)
            by_cases c2 : e_bx (x 2) < 2147483648
            · exact co (a4 := nI (l_ch (x 1))) (a5 := l_by (l_ch (x 1))) lc_14_4_lo (gC_ok h0 (by decide) (ibF (x 1)) (ib (by omega) (by omega)) (m2 (ib (by omega) (by omega)) (ib (by omega) (by omega))) (f2 (ch_f (Or.inl rfl)) by_f))
            · by_cases d2 : 2147483648 + 100 ≤ e_bx (x 2)
              · exact co (a4 := nI (l_ch (x 1))) (a5 := l_by (l_ch (x 1))) lc_14_4_hi (gC_ok h0 (by decide) (ibF (x 1)) (ib (by omega) (by omega)) (m2 (ib (by omega) (by omega)) (ib (by omega) (by omega))) (f2 (ch_f (Or.inl rfl)) by_f))
              · exact co (a4 := nI (l_ch (x 1))) (a5 := l_by (l_ch (x 1))) lc_14_4_m (gC_ok h0 (by decide) (ibF (x 1)) (ib (by omega) (by omega)) (m2 (ib (by omega) (by omega)) (ib (by omega) (by omega))) (f2 (ch_f (Or.inl rfl)) by_f))
          · by_cases z5 : l_ch (x 1) ≤ 111
            · have q5 : e_bx (l_by (l_ch (x 1))) = 2147483648 + l_ch (x 1) := by_lo (by omega)
              exact co (a4 := nI (l_ch (x 1))) (a5 := l_by (l_ch (x 1))) lc_14_5 (gC_ok h0 (by decide) (ibF (x 1)) (ibF (x 2)) (m2 (ib (by omega) (by omega)) (ib (by omega) (by omega))) (f2 (ch_f (Or.inl rfl)) by_f))
            · by_cases z6 : l_ch (x 1) ≤ 112
              · have q5 : e_bx (l_by (l_ch (x 1))) = 2147483648 + l_ch (x 1) := by_lo (by omega)
                by_cases c2 : e_bx (x 2) < 2147483648
                · exact co (a4 := nI (l_ch (x 1))) (a5 := l_by (l_ch (x 1))) lc_14_6_lo (gC_ok h0 (by decide) (ibF (x 1)) (ib (by omega) (by omega)) (m2 (ib (by omega) (by omega)) (ib (by omega) (by omega))) (f2 (ch_f (Or.inl rfl)) by_f))
                · by_cases d2 : 2147483648 + 11 ≤ e_bx (x 2)
                  · exact co (a4 := nI (l_ch (x 1))) (a5 := l_by (l_ch (x 1))) lc_14_6_hi (gC_ok h0 (by decide) (ibF (x 1)) (ib (by omega) (by omega)) (m2 (ib (by omega) (by omega)) (ib (by omega) (by omega))) (f2 (ch_f (Or.inl rfl)) by_f))
                  · exact co (a4 := nI (l_ch (x 1))) (a5 := l_by (l_ch (x 1))) lc_14_6_m (gC_ok h0 (by decide) (ibF (x 1)) (ib (by omega) (by omega)) (m2 (ib (by omega) (by omega)) (ib (by omega) (by omega))) (f2 (ch_f (Or.inl rfl)) by_f))
              · by_cases z7 : l_ch (x 1) ≤ 113
                · have q5 : e_bx (l_by (l_ch (x 1))) = 2147483648 + l_ch (x 1) := by_lo (by omega)
                  exact co (a4 := nI (l_ch (x 1))) (a5 := l_by (l_ch (x 1))) lc_14_7 (gC_ok h0 (by decide) (ibF (x 1)) (ibF (x 2)) (m2 (ib (by omega) (by omega)) (ib (by omega) (by omega))) (f2 (ch_f (Or.inl rfl)) by_f))
                · by_cases z8 : l_ch (x 1) ≤ 114
                  · have q5 : e_bx (l_by (l_ch (x 1))) = 2147483648 + l_ch (x 1) := by_lo (by omega)
                    by_cases c2 : e_bx (x 2) < 2147483648
                    · exact co (a4 := nI (l_ch (x 1))) (a5 := l_by (l_ch (x 1))) lc_14_8_lo (gC_ok h0 (by decide) (ibF (x 1)) (ib (by omega) (by omega)) (m2 (ib (by omega) (by omega)) (ib (by omega) (by omega))) (f2 (ch_f (Or.inl rfl)) by_f))
                    · by_cases d2 : 2147483648 + 100 ≤ e_bx (x 2)
                      · exact co (a4 := nI (l_ch (x 1))) (a5 := l_by (l_ch (x 1))) lc_14_8_hi (gC_ok h0 (by decide) (ibF (x 1)) (ib (by omega) (by omega)) (m2 (ib (by omega) (by omega)) (ib (by omega) (by omega))) (f2 (ch_f (Or.inl rfl)) by_f))
                      · exact co (a4 := nI (l_ch (x 1))) (a5 := l_by (l_ch (x 1))) lc_14_8_m (gC_ok h0 (by decide) (ibF (x 1)) (ib (by omega) (by omega)) (m2 (ib (by omega) (by omega)) (ib (by omega) (by omega))) (f2 (ch_f (Or.inl rfl)) by_f))
                  · by_cases z9 : l_ch (x 1) ≤ 115
                    · have q5 : e_bx (l_by (l_ch (x 1))) = 2147483648 + l_ch (x 1) := by_lo (by omega)
                      by_cases c2 : e_bx (x 2) < 2147483648
                      · exact co (a4 := nI (l_ch (x 1))) (a5 := l_by (l_ch (x 1))) lc_14_9_lo (gC_ok h0 (by decide) (ibF (x 1)) (ib (by omega) (by omega)) (m2 (ib (by omega) (by omega)) (ib (by omega) (by omega))) (f2 (ch_f (Or.inl rfl)) by_f))
                      · by_cases d2 : 2147483648 + 11 ≤ e_bx (x 2)
                        · exact co (a4 := nI (l_ch (x 1))) (a5 := l_by (l_ch (x 1))) lc_14_9_hi (gC_ok h0 (by decide) (ibF (x 1)) (ib (by omega) (by omega)) (m2 (ib (by omega) (by omega)) (ib (by omega) (by omega))) (f2 (ch_f (Or.inl rfl)) by_f))
                        · exact co (a4 := nI (l_ch (x 1))) (a5 := l_by (l_ch (x 1))) lc_14_9_m (gC_ok h0 (by decide) (ibF (x 1)) (ib (by omega) (by omega)) (m2 (ib (by omega) (by omega)) (ib (by omega) (by omega))) (f2 (ch_f (Or.inl rfl)) by_f))
                    · by_cases z10 : l_ch (x 1) ≤ 118
                      · have q5 : e_bx (l_by (l_ch (x 1))) = 2147483648 + l_ch (x 1) := by_lo (by omega)
                        exact co (a4 := nI (l_ch (x 1))) (a5 := l_by (l_ch (x 1))) lc_14_10 (gC_ok h0 (by decide) (ibF (x 1)) (ibF (x 2)) (m2 (ib (by omega) (by omega)) (ib (by omega) (by omega))) (f2 (ch_f (Or.inl rfl)) by_f))
                      · by_cases z11 : l_ch (x 1) ≤ 119
                        · have q5 : e_bx (l_by (l_ch (x 1))) = 2147483648 + l_ch (x 1) := by_lo (by omega)
                          by_cases c2 : e_bx (x 2) < 2147483648
                          · exact co (a4 := nI (l_ch (x 1))) (a5 := l_by (l_ch (x 1))) lc_14_11_lo (gC_ok h0 (by decide) (ibF (x 1)) (ib (by omega) (by omega)) (m2 (ib (by omega) (by omega)) (ib (by omega) (by omega))) (f2 (ch_f (Or.inl rfl)) by_f))
                          · by_cases d2 : 2147483648 + 100 ≤ e_bx (x 2)
                            · exact co (a4 := nI (l_ch (x 1))) (a5 := l_by (l_ch (x 1))) lc_14_11_hi (gC_ok h0 (by decide) (ibF (x 1)) (ib (by omega) (by omega)) (m2 (ib (by omega) (by omega)) (ib (by omega) (by omega))) (f2 (ch_f (Or.inl rfl)) by_f))
                            · exact co (a4 := nI (l_ch (x 1))) (a5 := l_by (l_ch (x 1))) lc_14_11_m (gC_ok h0 (by decide) (ibF (x 1)) (ib (by omega) (by omega)) (m2 (ib (by omega) (by omega)) (ib (by omega) (by omega))) (f2 (ch_f (Or.inl rfl)) by_f))
                        · by_cases z12 : l_ch (x 1) ≤ 127
                          · have q5 : e_bx (l_by (l_ch (x 1))) = 2147483648 + l_ch (x 1) := by_lo (by omega)
                            exact co (a4 := nI (l_ch (x 1))) (a5 := l_by (l_ch (x 1))) lc_14_12 (gC_ok h0 (by decide) (ibF (x 1)) (ibF (x 2)) (m2 (ib (by omega) (by omega)) (ib (by omega) (by omega))) (f2 (ch_f (Or.inl rfl)) by_f))
                          · by_cases z13 : l_ch (x 1) ≤ 255
                            · have q5 : e_bx (l_by (l_ch (x 1))) = 2147483392 + l_ch (x 1) := by_hi (by omega) (by omega)
                              exact co (a4 := nI (l_ch (x 1))) (a5 := l_by (l_ch (x 1))) lc_14_13 (gC_ok h0 (by decide) (ibF (x 1)) (ibF (x 2)) (m2 (ib (by omega) (by omega)) (ib (by omega) (by omega))) (f2 (ch_f (Or.inl rfl)) by_f))
                            · exact co (a4 := nI (l_ch (x 1))) (a5 := l_by (l_ch (x 1))) lc_14_14 (gC_ok h0 (by decide) (ibF (x 1)) (ibF (x 2)) (m2 (ib (by omega) (by omega)) (ib (by omega) (by omega))) (f2 (ch_f (Or.inl rfl)) by_f))
theorem ca_16 {x : Nat → Int32} (h0 : x 0 &&& nI 31 = nI 16) : caseOk x := by
  have q1 := bx_lt (x 1)
  have q2 := bx_lt (x 2)
  by_cases c1 : e_bx (x 1) ≤ 2147483648
  · exact co (a4 := 0) (a5 := 0) lc_16_lo (gC_ok h0 (by decide) (ib (by omega) (by omega)) (ibF (x 2)) m0 f0)
  · by_cases c2 : 2147483669 ≤ e_bx (x 1)
    · exact co (a4 := 0) (a5 := 0) lc_16_hi (gC_ok h0 (by decide) (ib (by omega) (by omega)) (ibF (x 2)) m0 f0)
    · obtain ⟨b, hb, e1⟩ : ∃ b, b < 21 ∧ e_bx (x 1) = 2147483648 + b := in_pos (by omega) (by omega)
      match b, hb, e1 with
      | 0, _, e1 => omega
      | 1, _, e1 => exact ck (a4 := 0) (a5 := 0) lc_16_1 lm_A1 (gC_ok h0 (by decide) (ib (by omega) (by omega)) (ibF (x 2)) m0 f0)
      | 2, _, e1 => exact ck (a4 := 0) (a5 := 0) lc_16_2 lm_A2 (gC_ok h0 (by decide) (ib (by omega) (by omega)) (ibF (x 2)) m0 f0)
      | 3, _, e1 => exact ck (a4 := 0) (a5 := 0) lc_16_3 lm_A3 (gC_ok h0 (by decide) (ib (by omega) (by omega)) (ibF (x 2)) m0 f0)
      | 4, _, e1 => exact ck (a4 := 0) (a5 := 0) lc_16_4 lm_A4 (gC_ok h0 (by decide) (ib (by omega) (by omega)) (ibF (x 2)) m0 f0)
      | 5, _, e1 => exact ck (a4 := 0) (a5 := 0) lc_16_5 lm_A5 (gC_ok h0 (by decide) (ib (by omega) (by omega)) (ibF (x 2)) m0 f0)
      | 6, _, e1 => exact ck (a4 := 0) (a5 := 0) lc_16_6 lm_A6 (gC_ok h0 (by decide) (ib (by omega) (by omega)) (ibF (x 2)) m0 f0)
      | 7, _, e1 => exact ck (a4 := 0) (a5 := 0) lc_16_7 lm_A7 (gC_ok h0 (by decide) (ib (by omega) (by omega)) (ibF (x 2)) m0 f0)
      | 8, _, e1 => exact ck (a4 := 0) (a5 := 0) lc_16_8 lm_A8 (gC_ok h0 (by decide) (ib (by omega) (by omega)) (ibF (x 2)) m0 f0)
      | 9, _, e1 => exact ck (a4 := 0) (a5 := 0) lc_16_9 lm_A9 (gC_ok h0 (by decide) (ib (by omega) (by omega)) (ibF (x 2)) m0 f0)
      | 10, _, e1 => exact ck (a4 := 0) (a5 := 0) lc_16_10 lm_A10 (gC_ok h0 (by decide) (ib (by omega) (by omega)) (ibF (x 2)) m0 f0)
      | 11, _, e1 => exact ck (a4 := 0) (a5 := 0) lc_16_11 lm_A11 (gC_ok h0 (by decide) (ib (by omega) (by omega)) (ibF (x 2)) m0 f0)
      | 12, _, e1 => exact ck (a4 := 0) (a5 := 0) lc_16_12 lm_A12 (gC_ok h0 (by decide) (ib (by omega) (by omega)) (ibF (x 2)) m0 f0)
      | 13, _, e1 => exact ck (a4 := 0) (a5 := 0) lc_16_13 lm_A13 (gC_ok h0 (by decide) (ib (by omega) (by omega)) (ibF (x 2)) m0 f0)
      | 14, _, e1 => exact ck (a4 := 0) (a5 := 0) lc_16_14 lm_A14 (gC_ok h0 (by decide) (ib (by omega) (by omega)) (ibF (x 2)) m0 f0)
      | 15, _, e1 => exact ck (a4 := 0) (a5 := 0) lc_16_15 lm_A15 (gC_ok h0 (by decide) (ib (by omega) (by omega)) (ibF (x 2)) m0 f0)
      | 16, _, e1 => exact ck (a4 := 0) (a5 := 0) lc_16_16 lm_A16 (gC_ok h0 (by decide) (ib (by omega) (by omega)) (ibF (x 2)) m0 f0)
      | 17, _, e1 => exact ck (a4 := 0) (a5 := 0) lc_16_17 lm_A17 (gC_ok h0 (by decide) (ib (by omega) (by omega)) (ibF (x 2)) m0 f0)
      | 18, _, e1 => exact ck (a4 := 0) (a5 := 0) lc_16_18 lm_A18 (gC_ok h0 (by decide) (ib (by omega) (by omega)) (ibF (x 2)) m0 f0)
      | 19, _, e1 => exact ck (a4 := 0) (a5 := 0) lc_16_19 lm_A19 (gC_ok h0 (by decide) (ib (by omega) (by omega)) (ibF (x 2)) m0 f0)
      | 20, _, e1 => exact ck (a4 := 0) (a5 := 0) lc_16_20 lm_A20 (gC_ok h0 (by decide) (ib (by omega) (by omega)) (ibF (x 2)) m0 f0)
      | b + 21, hb, _ => omega
theorem and31 (v : Int32) : ∃ k, k < 32 ∧ v &&& nI 31 = nI k := by
  have h : (v &&& nI 31).toBitVec.toNat ≤ 31 := by
    rw [Int32.toBitVec_and, BitVec.toNat_and, nI_nat]
    exact Nat.and_le_right
  refine ⟨(v &&& nI 31).toBitVec.toNat, by omega, ?_⟩
  apply Int32.toBitVec_inj.mp
  apply BitVec.eq_of_toNat_eq
  rw [nI_nat]
  omega
theorem ca_all (x : Nat → Int32) : caseOk x := by
  obtain ⟨k, hk, h0⟩ := and31 (x 0)
  match k, hk, h0 with
  | 0, _, h0 => exact ca_0 h0
  | 1, _, h0 => exact ca_1 h0
  | 2, _, h0 => exact ca_2 h0
  | 3, _, h0 => exact ca_3 h0
  | 4, _, h0 => exact ca_4 h0
  | 5, _, h0 => exact ca_5 h0
  | 6, _, h0 => exact ca_6 h0
  | 7, _, h0 => exact ca_7 h0
  | 8, _, h0 => exact ca_8 h0
  | 9, _, h0 => exact ca_9 h0
  | 10, _, h0 => exact ca_10 h0
  | 11, _, h0 => exact ca_11 h0
  | 12, _, h0 => exact ca_12 h0
  | 13, _, h0 => exact ca_13 h0
  | 14, _, h0 => exact ca_14 h0
  | 15, _, h0 => exact ca_15 h0
  | 16, _, h0 => exact ca_16 h0
  | 17, _, h0 => exact ca_17 h0
  | 18, _, h0 => exact ca_18 h0
  | 19, _, h0 => exact ca_19 h0
  | 20, _, h0 => exact ca_20 h0
  | 21, _, h0 => exact ca_21 h0
  | 22, _, h0 => exact ca_22 h0
  | 23, _, h0 => exact ca_23 h0
  | 24, _, h0 => exact ca_24 h0
  | 25, _, h0 => exact ca_25 h0
  | 26, _, h0 => exact ca_26 h0
  | 27, _, h0 => exact ca_27 h0
  | 28, _, h0 => exact ca_28 h0
  | 29, _, h0 => exact ca_29 h0
  | 30, _, h0 => exact ca_30 h0
  | 31, _, h0 => exact ca_31 h0
  | k + 32, hk, _ => omega
