section PRL
variable {N : gNm} {I M : gMd} {tk T : Nat}
/-- the reference's two tests say what canCover says -/
theorem cover_iff {cr db ln : Int32} {A B w : Nat} (hc : pI cr (A + 1)) (hd : pI db (B + 1)) (hl : pI ln 10001) (hA : A < 2 ^ 29) (hB : B < 2 ^ 29) (hw : w ≤ 9000) : (!decide (cr + (if 0 < ln - db then ln - db else 0) < nI w)) = true ↔ ¬ (cr < nI w ∧ cr + (if db < ln then ln - db else 0) < nI w) := by
  obtain ⟨a, ha, rfl⟩ := hc
  obtain ⟨d, hd, rfl⟩ := hd
  obtain ⟨n, hn, rfl⟩ := hl
  have e : (if 0 < nI n - nI d then nI n - nI d else 0) = nI (n - d) := by
    by_cases h : d < n
    · rw [pk_sub (by omega), if_pos (by rw [← nI_0]; exact nI_lt (by omega) (by omega))]
    · have h0 : n - d = 0 := by omega
      rw [if_neg, h0, nI_0]
      rw [Int32.lt_iff_toInt_lt, Int32.toInt_sub, nI_toInt (by omega), nI_toInt (by omega), show (0 : Int32).toInt = 0 by decide, Int.bmod_eq_of_le (by omega) (by omega)]
      omega
  have e2 : (if nI d < nI n then nI n - nI d else 0) = nI (n - d) := by
    by_cases h : d < n
    · rw [if_pos (nI_lt h (by omega)), pk_sub (by omega)]
    · rw [if_neg (nI_nlt (by omega) (by omega)), show n - d = 0 by omega, nI_0]
  rw [e, e2, nI_add]
  simp only [Bool.not_eq_true', decide_eq_false_iff_not]
  rw [nI_ltI (by omega) (by omega), nI_ltI (by omega) (by omega)]
  omega
end PRL
