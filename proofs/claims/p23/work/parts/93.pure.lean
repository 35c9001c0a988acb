-- ===== what the readings show =====
theorem gJ_rt {f g : gFm} (hd : gDj f g) {a : Nat} {e : va_E} (h : g a = some e) : gJ f g a = some e := (gJ_r (gDj_r hd (by rw [h]; exact Option.some_ne_none e))).trans h
theorem pI_ge {v : Int32} {n : Nat} (h : pI v n) (hn : n ≤ 2 ^ 31) : ¬ v < 0 := by
  obtain ⟨j, hj, rfl⟩ := h
  exact nI_pos (by omega)
/-- a sum of small numbers is one -/
theorem sL_pI {w : Nat → Int32} {B : Nat} : ∀ n, (∀ i, i < n → pI (w i) (B + 1)) → pI (sL w n) (B * n + 1)
  | 0, _ => ⟨0, by omega, nI_0.symm⟩
  | n + 1, h => by
    obtain ⟨a, h1, h2⟩ := sL_pI n (fun i hi => h i (by omega))
    obtain ⟨b, h3, h4⟩ := h n (by omega)
    refine ⟨a + b, ?_, ?_⟩
    · rw [Nat.mul_succ]; omega
    · show sL w n + w n = _
      rw [h2, h4, nI_add]
section TWO
variable {N : gNm} {I M : gMd} {tk T : Nat}
theorem Sim_wH (h : Sim N I M tk T) (key : Int32) : pI (sL (wH M key) (N 0 8)) (9000 * N 0 8 + 1) := sL_pI _ (fun i hi => by
  show pI (if M 14 i = key then (if M 20 i = 0 then M 15 i else 0) else 0) 9001
  obtain ⟨-, -, d, -, -⟩ := h.2.2.2.2.2.1 i hi
  split
  · split
    · exact d
    · exact ⟨0, by decide, nI_0.symm⟩
  · exact ⟨0, by decide, nI_0.symm⟩)
theorem Sim_18 (h : Sim N I M tk T) {i : Nat} (hi : i < N 0 8) : pI (M 18 i) 9001 := by
  rcases (h.2.2.2.2.2.1 i hi).2.2.2.2 with d | d
  · rw [d.2.2]; exact ⟨0, by decide, nI_0.symm⟩
  · exact d.2.2.2.1
theorem Sim_wS (h : Sim N I M tk T) (key : Int32) : pI (sL (wS M key) (N 0 8)) (9000 * N 0 8 + 1) := sL_pI _ (fun i hi => by
  show pI (if M 14 i = key then M 18 i else 0) 9001
  split
  · exact Sim_18 h hi
  · exact ⟨0, by decide, nI_0.symm⟩)
theorem Sim_ge (h : Sim N I M tk T) {k : Nat} (hk : k < N 0 7) : ¬ I 9 k < 0 ∧ ¬ I 10 k < 0 ∧ ¬ I 11 k < 0 ∧ ¬ I 7 k < 0 ∧ ¬ I 13 k < 0 := by
  obtain ⟨⟨-, a2, -, a4, a5, -⟩, ⟨b1, -, b3⟩, c1, c2, c3, -⟩ := h.2.2.2.2.1 k hk
  have hT := h.1
  have h80 := h.2.1.2.2.2.1
  refine ⟨?_, ?_, ?_, ?_, ?_⟩
  · rw [a4]; exact pI_ge c1 (by omega)
  · rw [a5]; exact pI_ge c2 (by omega)
  · rw [b1]; exact pI_ge (Sim_wH h _) (by omega)
  · rw [a2]; exact pI_ge c3 (by omega)
  · rw [b3]; exact pI_ge (Sim_wS h _) (by omega)
/-- a slowed key holds nothing -/
theorem Sim_slow0 (h : Sim N I M tk T) {k : Nat} (hk : k < N 0 7) (hs : (decide (I 9 k = 0) && decide (I 12 k = 0)) = true) : I 9 k = 0 ∧ I 11 k = 0 := by
  obtain ⟨-, ⟨b1, b2, -⟩, -⟩ := h.2.2.2.2.1 k hk
  have h80 := h.2.1.2.2.2.1
  rw [Bool.and_eq_true] at hs
  refine ⟨of_decide_eq_true hs.1, ?_⟩
  have e := of_decide_eq_true hs.2
  rw [b2, oN_eq, show (0 : Int32) = nI 0 from nI_0.symm, nI_eq (by have := oN_le M (nI k) (N 0 8); omega) (by decide), oN_0] at e
  rw [b1]
  refine sL_zero _ (fun i hi => ?_)
  show (if M 14 i = nI k then (if M 20 i = 0 then M 15 i else 0) else 0) = 0
  have := e i hi
  split
  · split
    · rename_i x y
      exact absurd ⟨x, y⟩ this
    · rfl
  · rfl
/-- a call's cost, as the law adds it -/
theorem Sim_costP (h : Sim N I M tk T) {i : Nat} (hi : i < N 0 8) (hc : 0 < I 18 i) : I 18 i = M 18 i := by
  rcases (h.2.2.2.2.2.1 i hi).2.2.2.2 with d | d
  · rw [d.2.1] at hc; exact absurd hc (by decide)
  · exact d.2.1
theorem Sim_costN (h : Sim N I M tk T) {i : Nat} (hi : i < N 0 8) (hc : ¬ 0 < I 18 i) : M 18 i = 0 := by
  rcases (h.2.2.2.2.2.1 i hi).2.2.2.2 with d | d
  · exact d.2.2
  · obtain ⟨j, hj, e⟩ := d.2.2.2.1
    rw [d.2.1, e] at hc
    rw [e]
    by_cases z : j = 0
    · rw [z]; exact nI_0
    · exact absurd (by rw [show (0 : Int32) = nI 0 from nI_0.symm]; exact nI_lt (by omega) (by omega)) hc
theorem sL_add (u v : Nat → Int32) : ∀ n, sL (fun i => u i + v i) n = sL u n + sL v n
  | 0 => rfl
  | n + 1 => by
    show sL (fun i => u i + v i) n + (u n + v n) = (sL u n + u n) + (sL v n + v n)
    rw [sL_add u v n]
    simp only [Int32.add_assoc, i_alc]
    try (congr 1)
    try (simp only [Int32.add_comm, i_alc])
/-- the keys' sums are the calls' sum -/
theorem sum_swap (M : gMd) (K : Nat) (hK : K ≤ 8) : ∀ n, (∀ i, i < n → ∃ q, q < K ∧ M 14 i = nI q) → sL (fun j => sL (wS M (nI j)) n) K = sL (M 18) n
  | 0, _ => sL_zero K (fun _ _ => rfl)
  | n + 1, h => by
    show sL (fun j => sL (wS M (nI j)) n + wS M (nI j) n) K = sL (M 18) n + M 18 n
    rw [sL_add (fun j => sL (wS M (nI j)) n) (fun j => wS M (nI j) n) K, sum_swap M K hK n (fun i hi => h i (by omega))]
    obtain ⟨q, hq, e⟩ := h n (by omega)
    congr 1
    have hz : ∀ j, j < K → j ≠ q → (fun j => wS M (nI j) n) j = 0 := fun j hj hjq => by
      show (if M 14 n = nI j then M 18 n else 0) = 0
      rw [e, if_neg (fun z => hjq ((nI_eq (by omega) (by omega)).mp z).symm)]
    have hu := sL_upd (w := fun _ => 0) (v := fun j => wS M (nI j) n) (c := q) K hq (fun j hj hjq => hz j hj hjq)
    rw [hu, sL_zero K (fun _ _ => rfl)]
    show 0 - 0 + (if M 14 n = nI q then M 18 n else 0) = M 18 n
    rw [if_pos e, show (0 : Int32) - 0 = 0 by decide, Int32.zero_add]
theorem Sim_sum (h : Sim N I M tk T) : sL (M 18) (N 0 8) = sL (I 13) (N 0 7) := by
  have h8 := h.2.1.2.2.1
  rw [← sum_swap M (N 0 7) h8 (N 0 8) (fun i hi => ⟨N 6 i, h.2.1.2.2.2.2.2 i hi, (h.2.2.2.2.2.1 i hi).1.1⟩)]
  exact sL_congr _ (fun j hj => ((h.2.2.2.2.1 j hj).2.1.2.2).symm)
/-- two gateways with one reference's state beside them show the same -/
theorem Sim_two {N2 : gNm} {I2 : gMd} {tk2 T2 : Nat} (h : Sim N I M tk T) (h2 : Sim N2 I2 M tk2 T2) : N 0 7 = N2 0 7 ∧ N 0 8 = N2 0 8 ∧ I 0 0 = I2 0 0 ∧ ∀ k, k < N 0 7 → I 9 k = I2 9 k ∧ I 10 k = I2 10 k ∧ I 11 k = I2 11 k ∧ I 7 k = I2 7 k ∧ I 13 k = I2 13 k ∧ I 12 k = I2 12 k := by
  have e7 : N 0 7 = N2 0 7 := (Sim_nk h).symm.trans (Sim_nk h2)
  have e8 : N 0 8 = N2 0 8 := (Sim_nc h).symm.trans (Sim_nc h2)
  refine ⟨e7, e8, ?_, fun k hk => ?_⟩
  · obtain ⟨⟨-, a, b⟩, -⟩ := h.2.2.2.2.2.2.2
    obtain ⟨⟨-, a2, b2⟩, -⟩ := h2.2.2.2.2.2.2.2
    rw [a, a2, ← b, ← b2]
  · obtain ⟨⟨-, a2, -, a4, a5, -⟩, ⟨b1, b2, b3⟩, -⟩ := h.2.2.2.2.1 k hk
    obtain ⟨⟨-, z2, -, z4, z5, -⟩, ⟨y1, y2, y3⟩, -⟩ := h2.2.2.2.2.1 k (by rw [← e7]; exact hk)
    rw [e8] at b1 b2 b3
    exact ⟨a4.trans z4.symm, a5.trans z5.symm, b1.trans y1.symm, a2.trans z2.symm, b3.trans y3.symm, b2.trans y2.symm⟩
end TWO
-- ===== the last pass =====
theorem mPassL_17 (nk nc : Nat) : ∀ (n : Nat) (a : Int32) (M : gMd), (mPassL nk nc n a M).2 17 = M 17
  | 0, _, _ => rfl
  | n + 1, a, M => by
    unfold mPassL
    rw [mPassL_17 nk nc n, mOne_row nk nc M (by decide) (by decide) (by decide) (by decide) (by decide) (by decide) (by decide)]
theorem mwell_row17 (M : gMd) (t : Int32) : mWell M t 17 = M 17 := mw_ne M (by decide)
/-- behind 20 ticks nothing is open -/
theorem Sim_last {N : gNm} {I M : gMd} {tk T : Nat} (h : Sim N I M tk T) (hT : T < 520) : ∃ M1, Sim N (iPassL N (ix 20) 0 I).2 M1 (tk + 20) (T + 1) ∧ (∀ i, i < N 0 8 → M1 20 i = 1) := by
  have e20 : ix 20 = 20 := by decide
  have hs := (Sim_passL 20 0 I (mWell M 0) tk (T + 1) (Sim_well 0 (Sim_T h hT)) (by have := h.2.2.2.2.2.2.2.1.1; omega)).2
  rw [e20]
  refine ⟨_, hs, fun i hi => ?_⟩
  obtain ⟨t, ht, -, hd, hb⟩ := hs.2.2.2.2.2.2.2.2.2
  rcases Nat.lt_or_ge i t with z | z
  · exact hd i z
  · have hbi := hb i z hi
    rw [mPassL_17, mwell_row17] at hbi
    obtain ⟨b, y1, y2, -⟩ := (h.2.2.2.2.2.1 i hi).2.1
    have h1 := h.2.2.2.2.2.2.2.1.1
    have h0 := h.1
    rw [y2, ix_nI (by omega)] at hbi
    omega
