section PRJ
variable {N : gNm} {I M : gMd} {tk T : Nat}
theorem nI_half {w : Nat} (hw : w < 2 ^ 20) : (nI w + 1) / 2 = nI ((w + 1) / 2) := by
  rw [nI_1]
  apply Int32.toInt_inj.mp
  rw [Int32.toInt_div, nI_toInt (by omega), nI_toInt (by omega), show (2 : Int32).toInt = 2 by decide]
  have h1 : (((w + 1 : Nat) : Int)).tdiv 2 = (((w + 1) / 2 : Nat) : Int) := by
    rw [Int.tdiv_eq_ediv_of_nonneg (by omega)]
    omega
  rw [h1]
  exact Int.bmod_eq_of_le (by omega) (by omega)
/-- what a call costs is at most its worth -/
theorem cost_le {w : Int32} {w0 : Nat} (hw : w = nI w0) (h9 : w0 ≤ 9000) (oc : Int32) : ∃ c0, c0 ≤ w0 ∧ (if oc = 0 then w else if oc = 1 then (w + 1) / 2 else 0) = nI c0 := by
  by_cases h0 : oc = 0
  · exact ⟨w0, Nat.le_refl _, by rw [if_pos h0, hw]⟩
  · by_cases h1 : oc = 1
    · exact ⟨(w0 + 1) / 2, by omega, by rw [if_neg h0, if_pos h1, hw, nI_half (by omega)]⟩
    · exact ⟨0, by omega, by rw [if_neg h0, if_neg h1, nI_0]⟩
theorem Sim_open (h : Sim N I M tk T) {i : Nat} (hi : i < N 0 8) : (!decide (I 18 i = -1)) = false ↔ M 20 i = 0 := by
  obtain ⟨-, -, -, -, d8⟩ := h.2.2.2.2.2.1 i hi
  rcases d8 with ⟨e1, e2, -⟩ | ⟨e1, e2, -, ⟨c, hc, e3⟩, -⟩
  · simp [e1, e2]
  · have hne : ¬ I 18 i = -1 := by
      rw [e2, e3]
      intro z
      have := congrArg Int32.toInt z
      rw [nI_toInt (by omega), show (-1 : Int32).toInt = -1 by decide] at this
      omega
    simp [e1, hne]
theorem P_end (h : Sim N I M tk T) (hT : T < 520) {call oc : Int32} {i : Nat} (hi : i < N 0 8) (hk : call = nI i) (h1 : mIn oc 0 2 = true) (h2 : (!decide (I 18 i = -1)) = false) : ∃ M1, mEnd M call oc = (iCost I i oc, M1) ∧ M1 0 0 = 0 ∧ Sim N (iSettle N I i oc) M1 tk (T + 1) := by
  have hcal : mCal M call = true := (Sim_call h).mpr ⟨i, hi, hk⟩
  have ho : M 20 i = 0 := (Sim_open h hi).mp h2
  obtain ⟨⟨d1, d2, d3, d4⟩, d5, ⟨w0, d6, d6'⟩, d7, d8⟩ := h.2.2.2.2.2.1 i hi
  have ei : ix call = i := Sim_ix (by have := h.2.1.2.2.2.1; omega) hi hk
  obtain ⟨c0, hc0, ec0⟩ := cost_le d6' (by omega) oc
  have hco : iCost I i oc = (if oc = 0 then M 15 i else if oc = 1 then (M 15 i + 1) / 2 else 0) := by unfold iCost; rw [d2]
  obtain ⟨k1, k2, k3, -⟩ := Sim_settle (T1 := T + 1) (Sim_well 0 h) (by omega) (by omega) hi (by rw [mwell_o _ (by decide)]; exact ho) (w0 := w0) (c0 := c0) (by rw [mwell_o _ (by decide)]; exact d6') hc0 (by omega) (by omega) (cost := iCost I i oc) (by rw [hco]; exact ec0)
  unfold mEnd
  rw [if_neg (by rw [hcal]; decide), if_neg (by rw [h1]; decide), ei, if_neg (by rw [ho]; decide)]
  have e15 : mWell M 0 15 i = M 15 i := mwell_o _ (by decide)
  rw [hk]
  show ∃ M1, ((mSettle (mWell M 0) (nI i) (if oc = 0 then mWell M 0 15 i else if oc = 1 then (mWell M 0 15 i + 1) / 2 else 0)) 18 i, mSettle (mWell M 0) (nI i) (if oc = 0 then mWell M 0 15 i else if oc = 1 then (mWell M 0 15 i + 1) / 2 else 0)) = (iCost I i oc, M1) ∧ _
  rw [e15, ← hco]
  refine ⟨_, by rw [k2], ?_, ?_⟩
  · rw [k3]; exact mwell_s _ _
  · rw [iSettle_iSet]; exact k1
end PRJ
