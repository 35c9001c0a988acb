-- ===== the class's state and the reference's, side by side =====
def sNu (N : gNm) (M : gMd) : Prop := M 6 0 = nI (N 0 7) ∧ M 13 0 = nI (N 0 8) ∧ N 0 7 ≤ 8 ∧ N 0 8 ≤ 80 ∧ (∀ j, j < N 0 7 → N 5 j < 4) ∧ (∀ i, i < N 0 8 → N 6 i < N 0 7)
def sPl (I M : gMd) : Prop := ∀ j, j < 4 → (I 2 j = M 1 j ∧ I 3 j = M 2 j ∧ I 4 j = M 3 j) ∧ pI (M 1 j) 101 ∧ pI (M 2 j) 101 ∧ pI (M 3 j) 101
def sRo (I M : gMd) : Prop := ∀ j, j < 6 → (I 5 j = M 4 j ∧ I 6 j = M 5 j) ∧ pI (M 4 j) 1001 ∧ pI (M 5 j) 21
/-- one key -/
def sKy (N : gNm) (I M : gMd) (T j : Nat) : Prop := (M 7 j = nI (N 5 j) ∧ I 7 j = M 11 j ∧ I 8 j = M 9 j ∧ I 9 j = M 8 j ∧ I 10 j = M 10 j ∧ I 14 j = M 12 j) ∧ (I 11 j = sL (wH M (nI j)) (N 0 8) ∧ I 12 j = sL (wO M (nI j)) (N 0 8) ∧ I 13 j = sL (wS M (nI j)) (N 0 8)) ∧ pI (M 8 j) (100000 * T + 1) ∧ pI (M 10 j) (9000 * T + 1) ∧ pI (M 11 j) (20 * T + 101) ∧ pI (M 9 j) 10001
def sKe (N : gNm) (I M : gMd) (T : Nat) : Prop := ∀ j, j < N 0 7 → sKy N I M T j
/-- one call -/
def sCl (N : gNm) (I M : gMd) (tk i : Nat) : Prop := (M 14 i = nI (N 6 i) ∧ I 15 i = M 15 i ∧ I 16 i = M 16 i ∧ I 20 i = M 21 i) ∧ (∃ b, b ≤ tk ∧ M 17 i = nI b ∧ I 17 i = nI (b + 20)) ∧ pI (M 15 i) 9001 ∧ pI (M 16 i) 21 ∧ ((M 20 i = 0 ∧ I 18 i = -1 ∧ M 18 i = 0) ∨ (M 20 i = 1 ∧ I 18 i = M 18 i ∧ I 19 i = M 19 i ∧ pI (M 18 i) 9001 ∧ pI (M 19 i) (tk + 1)))
def sCa (N : gNm) (I M : gMd) (tk : Nat) : Prop := ∀ i, i < N 0 8 → sCl N I M tk i
/-- what is not there yet is as at the start -/
def sFr (N : gNm) (M : gMd) : Prop := (∀ i, N 0 8 ≤ i → i < 80 → M 18 i = 0 ∧ M 20 i = 0 ∧ M 21 i = 0) ∧ (∀ j, N 0 7 ≤ j → j < 8 → M 8 j = 0 ∧ M 9 j = 0 ∧ M 10 j = 0 ∧ M 12 j = 0)
/-- time: calls begin in their order, holds run out in it -/
def sTi (N : gNm) (I M : gMd) (tk T B : Nat) : Prop := (tk ≤ 100 * T ∧ I 0 0 = nI tk ∧ M 22 0 = nI tk) ∧ (∀ i j, i ≤ j → j < N 0 8 → ix (M 17 i) ≤ ix (M 17 j)) ∧ ∃ t, t ≤ N 0 8 ∧ I 1 0 = nI t ∧ (∀ i, i < t → M 20 i = 1) ∧ (∀ i, t ≤ i → i < N 0 8 → B < ix (M 17 i) + 20)
/-- B: every hold from the next on is due after it -/
def SimG (N : gNm) (I M : gMd) (tk T B : Nat) : Prop := T ≤ 520 ∧ sNu N M ∧ sPl I M ∧ sRo I M ∧ sKe N I M T ∧ sCa N I M tk ∧ sFr N M ∧ sTi N I M tk T B
def Sim (N : gNm) (I M : gMd) (tk T : Nat) : Prop := SimG N I M tk T tk
theorem pI_mono {v : Int32} {n k : Nat} (h : pI v n) (hk : n ≤ k) : pI v k := by
  obtain ⟨j, hj, e⟩ := h
  exact ⟨j, by omega, e⟩
/-- a step more -/
theorem Sim_T {N : gNm} {I M : gMd} {tk T : Nat} (h : Sim N I M tk T) (hT : T < 520) : Sim N I M tk (T + 1) := by
  obtain ⟨h0, h1, h2, h3, h4, h5, h6, ⟨h7, h8⟩, h9⟩ := h
  exact ⟨by omega, h1, h2, h3, fun j hj => ⟨(h4 j hj).1, (h4 j hj).2.1, pI_mono (h4 j hj).2.2.1 (by omega), pI_mono (h4 j hj).2.2.2.1 (by omega), pI_mono (h4 j hj).2.2.2.2.1 (by omega), (h4 j hj).2.2.2.2.2⟩, h5, h6, ⟨by omega, h8⟩, h9⟩
theorem Sim_well {N : gNm} {I M : gMd} {tk T : Nat} (t : Int32) (h : Sim N I M tk T) : Sim N I (mWell M t) tk T := h
theorem Sim_nx {N : gNm} {I M : gMd} {tk T : Nat} (h : Sim N I M tk T) : gNx N I := by
  obtain ⟨-, h1, -, -, -, -, -, -, -, t, ht, e, -⟩ := h
  exact gNx_of ht h1.2.2.2.1 e
theorem Sim_ok {N : gNm} {I M : gMd} {tk T : Nat} (h : Sim N I M tk T) : mOK (N 0 7) (N 0 8) M := by
  obtain ⟨-, ⟨a, b, c, d, x, y⟩, -, -, h4, h5, -⟩ := h
  refine ⟨c, d, a, b, fun i hi => ?_, fun i hi => ?_⟩
  · rw [(h4 i hi).1.1]
    exact vp_in_nI (x i hi) (by decide)
  · rw [(h5 i hi).1.1]
    exact vp_in_nI (by have := y i hi; omega) (by decide)
/-- an index below n, as the reference tests it -/
theorem mIn_pI {v b : Int32} {n : Nat} (hn : n < 1000) (hb : b = nI n - 1) : mIn v 0 b = true ↔ pI v n := by
  constructor
  · intro h
    obtain ⟨j, hj, e⟩ := mIn_of hb hn h
    exact ⟨j, hj, e⟩
  · rintro ⟨j, hj, rfl⟩
    refine mIn_t (nI_pos (by omega)) ?_
    rw [hb]
    cases n with
    | zero => omega
    | succ n => rw [nI_pred]; exact nI_nlt (by omega) (by omega)
theorem Sim_key {N : gNm} {I M : gMd} {tk T : Nat} (h : Sim N I M tk T) {v : Int32} : mKey M v = true ↔ pI v (N 0 7) := mIn_pI (by have := h.2.1.2.2.1; omega) (by rw [h.2.1.1])
theorem Sim_call {N : gNm} {I M : gMd} {tk T : Nat} (h : Sim N I M tk T) {v : Int32} : mCal M v = true ↔ pI v (N 0 8) := mIn_pI (by have := h.2.1.2.2.2.1; omega) (by rw [h.2.1.2.1])
theorem mIn_p4 {v : Int32} : mIn v 0 3 = true ↔ pI v 4 := mIn_pI (by decide) (by decide)
theorem mIn_p6 {v : Int32} : mIn v 0 5 = true ↔ pI v 6 := mIn_pI (by decide) (by decide)
theorem ix_nI {n : Nat} (h : n < 2 ^ 31) : ix (nI n) = n := nI_clamp h
/-- a number between two bounds is one of the naturals up to the upper -/
theorem mIn_up {v : Int32} {a n : Nat} (hn : n < 2 ^ 30) (ha : a ≤ n) (h : mIn v (nI a) (nI n) = true) : ∃ j, a ≤ j ∧ j ≤ n ∧ v = nI j := by
  simp only [mIn, Bool.and_eq_true, Bool.not_eq_true', decide_eq_false_iff_not] at h
  obtain ⟨h1, h2⟩ := h
  have h3 : ¬ v < 0 := fun z => h1 (Int32.lt_of_lt_of_le z (nI_pos' (by omega)))
  obtain ⟨j, hj, rfl⟩ := nI_of h3
  refine ⟨j, ?_, ?_, rfl⟩
  · rcases Nat.lt_or_ge j a with q | q
    · exact absurd (nI_lt q (by omega)) h1
    · exact q
  · rcases Nat.lt_or_ge n j with q | q
    · exact absurd (nI_lt q hj) h2
    · exact q
