theorem sKy_congr {N : gNm} {I I1 M M1 : gMd} {T T1 j : Nat} (h : sKy N I M T j) (hT : T ≤ T1) (hI : ∀ c, 7 ≤ c → c ≤ 14 → I1 c j = I c j) (hM : ∀ c, 7 ≤ c → c ≤ 12 → M1 c j = M c j) (h14 : M1 14 = M 14) (h15 : M1 15 = M 15) (h18 : M1 18 = M 18) (h20 : M1 20 = M 20) : sKy N I1 M1 T1 j := by
  obtain ⟨⟨a1, a2, a3, a4, a5, a6⟩, ⟨b1, b2, b3⟩, c1, c2, c3, c4⟩ := h
  have e1 : wH M1 (nI j) = wH M (nI j) := by unfold wH; rw [h14, h15, h20]
  have e2 : wO M1 (nI j) = wO M (nI j) := by unfold wO; rw [h14, h20]
  have e3 : wS M1 (nI j) = wS M (nI j) := by unfold wS; rw [h14, h18]
  unfold sKy
  rw [e1, e2, e3, hI 7 (by decide) (by decide), hI 8 (by decide) (by decide), hI 9 (by decide) (by decide), hI 10 (by decide) (by decide), hI 11 (by decide) (by decide), hI 12 (by decide) (by decide), hI 13 (by decide) (by decide), hI 14 (by decide) (by decide), hM 7 (by decide) (by decide), hM 8 (by decide) (by decide), hM 9 (by decide) (by decide), hM 10 (by decide) (by decide), hM 11 (by decide) (by decide), hM 12 (by decide) (by decide)]
  exact ⟨⟨a1, a2, a3, a4, a5, a6⟩, ⟨b1, b2, b3⟩, pI_mono c1 (by omega), pI_mono c2 (by omega), pI_mono c3 (by omega), c4⟩
theorem sCl_congr {N : gNm} {I I1 M M1 : gMd} {tk i : Nat} (h : sCl N I M tk i) (hI : ∀ c, 15 ≤ c → c ≤ 20 → I1 c i = I c i) (hM : ∀ c, 14 ≤ c → c ≤ 21 → M1 c i = M c i) : sCl N I1 M1 tk i := by
  unfold sCl
  rw [hI 15 (by decide) (by decide), hI 16 (by decide) (by decide), hI 17 (by decide) (by decide), hI 18 (by decide) (by decide), hI 19 (by decide) (by decide), hI 20 (by decide) (by decide), hM 14 (by decide) (by decide), hM 15 (by decide) (by decide), hM 16 (by decide) (by decide), hM 17 (by decide) (by decide), hM 18 (by decide) (by decide), hM 19 (by decide) (by decide), hM 20 (by decide) (by decide), hM 21 (by decide) (by decide)]
  exact h
/-- the rows of one key's money, line and tokens change -/
theorem Sim_row {N : gNm} {I I1 M M1 : gMd} {tk T T1 j : Nat} (h : Sim N I M tk T) (hj : j < N 0 7) (hT : T ≤ T1) (hT1 : T1 ≤ 520) (hI : ∀ c i, (i ≠ j ∨ c < 7 ∨ 14 < c) → I1 c i = I c i) (hM : ∀ c i, c ≠ 0 → (i ≠ j ∨ c < 8 ∨ 12 < c) → M1 c i = M c i) (hk : sKy N I1 M1 T1 j) : Sim N I1 M1 tk T1 := by
  obtain ⟨h0, h1, h2, h3, h4, h5, h6, h7, h8, h9⟩ := h
  have row : ∀ c, c ≠ 0 → (c < 8 ∨ 12 < c) → M1 c = M c := fun c hc hh => funext fun i => hM c i hc (Or.inr hh)
  have rowI : ∀ c, (c < 7 ∨ 14 < c) → I1 c = I c := fun c hh => funext fun i => hI c i (Or.inr hh)
  refine ⟨hT1, ?_, fun p hp => ?_, fun p hp => ?_, fun p hp => ?_, fun p hp => ?_, ⟨fun p hp hp2 => ?_, fun p hp hp2 => ?_⟩, ⟨?_, ?_, ?_⟩, ?_, ?_⟩
  · unfold sNu
    rw [row 6 (by decide) (by decide), row 13 (by decide) (by decide)]
    exact h1
  · rw [rowI 2 (by decide), rowI 3 (by decide), rowI 4 (by decide), row 1 (by decide) (by decide), row 2 (by decide) (by decide), row 3 (by decide) (by decide)]
    exact h2 p hp
  · rw [rowI 5 (by decide), rowI 6 (by decide), row 4 (by decide) (by decide), row 5 (by decide) (by decide)]
    exact h3 p hp
  · by_cases e : p = j
    · subst e; exact hk
    · exact sKy_congr (h4 p hp) hT (fun c _ _ => hI c p (Or.inl e)) (fun c h1 _ => hM c p (by omega) (Or.inl e)) (row 14 (by decide) (by decide)) (row 15 (by decide) (by decide)) (row 18 (by decide) (by decide)) (row 20 (by decide) (by decide))
  · exact sCl_congr (h5 p hp) (fun c h1 _ => hI c p (Or.inr (Or.inr (by omega)))) (fun c h1 _ => hM c p (by omega) (Or.inr (Or.inr (by omega))))
  · rw [row 18 (by decide) (by decide), row 20 (by decide) (by decide), row 21 (by decide) (by decide)]
    exact h6.1 p hp hp2
  · have e : p ≠ j := by omega
    rw [hM 8 p (by decide) (Or.inl e), hM 9 p (by decide) (Or.inl e), hM 10 p (by decide) (Or.inl e), hM 12 p (by decide) (Or.inl e)]
    exact h6.2 p hp hp2
  · exact Nat.le_trans h7.1 (by omega)
  · rw [rowI 0 (by decide)]; exact h7.2.1
  · rw [row 22 (by decide) (by decide)]; exact h7.2.2
  · rw [row 17 (by decide) (by decide)]
    exact h8
  · rw [rowI 1 (by decide), row 20 (by decide) (by decide), row 17 (by decide) (by decide)]
    exact h9
