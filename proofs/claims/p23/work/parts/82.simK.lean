section PRO
variable {N : gNm} {I M : gMd} {tk T : Nat}
theorem key_f (h : Sim N I M tk T) {key : Int32} (hk : ¬ pI key (N 0 7)) : mKey M key = false := by
  cases e : mKey M key with
  | false => rfl
  | true => exact absurd ((Sim_key h).mp e) hk
theorem cal_f (h : Sim N I M tk T) {call : Int32} (hk : ¬ pI call (N 0 8)) : mCal M call = false := by
  cases e : mCal M call with
  | false => rfl
  | true => exact absurd ((Sim_call h).mp e) hk
theorem P_rd (h : Sim N I M tk T) {key : Int32} {k : Nat} (hk : k < N 0 7) (hkey : key = nI k) (v : gMd → Int32) : mRd M key v = (v (mWell M 0), mWell M 0) := by
  have hkt : mKey M key = true := (Sim_key h).mpr ⟨k, hk, hkey⟩
  unfold mRd
  rw [if_neg (by rw [hkt]; decide)]
theorem P_rdX (h : Sim N I M tk T) {key : Int32} (hk : ¬ pI key (N 0 7)) (v : gMd → Int32) : mRd M key v = (0, mWell M 1) := by
  unfold mRd
  rw [if_pos (key_f h hk)]
theorem P_held (h : Sim N I M tk T) {key : Int32} {k : Nat} (hk : k < N 0 7) (hkey : key = nI k) : mHeldL (mWell M 0) key (N 0 8) 0 0 = I 11 k := by
  rw [mHeld_eq, hkey]
  exact (h.2.2.2.2.1 k hk).2.1.1.symm
theorem P_spent (h : Sim N I M tk T) {key : Int32} {k : Nat} (hk : k < N 0 7) (hkey : key = nI k) : mSpentL (mWell M 0) key (N 0 8) 0 0 = I 13 k := by
  rw [mSpent_eq, hkey]
  exact (h.2.2.2.2.1 k hk).2.1.2.2.symm
theorem P_slow (h : Sim N I M tk T) {key : Int32} {k : Nat} (hk : k < N 0 7) (hkey : key = nI k) : mSlow (mWell M 0) (N 0 8) key = (decide (I 9 k = 0) && decide (I 12 k = 0)) := by
  have ek : ix key = k := by rw [hkey]; exact ix_nI (by have := h.2.1.2.2.1; omega)
  obtain ⟨⟨-, -, -, a4, -⟩, ⟨-, b2, -⟩, -⟩ := h.2.2.2.2.1 k hk
  rw [mSlow_eq _ _ h.2.1.2.2.2.1, ek, a4, b2, hkey]
  rfl
theorem P_cost (h : Sim N I M tk T) {call : Int32} {i : Nat} (hi : i < N 0 8) (hcl : call = nI i) : mCost M call = (I 18 i, mWell M 0) := by
  have hct : mCal M call = true := (Sim_call h).mpr ⟨i, hi, hcl⟩
  have ei : ix call = i := by rw [hcl]; exact ix_nI (by have := h.2.1.2.2.2.1; omega)
  obtain ⟨-, -, -, -, d8⟩ := h.2.2.2.2.2.1 i hi
  unfold mCost
  rw [if_neg (by rw [hct]; decide), ei, mwell_o _ (by decide), mwell_o _ (by decide)]
  rcases d8 with ⟨e1, e2, -⟩ | ⟨e1, e2, -⟩
  · rw [if_pos e1, e2]
  · rw [if_neg (by rw [e1]; decide), e2]
end PRO
