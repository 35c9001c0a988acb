theorem mRunL_none : ∀ (n j : Nat) (a : Int32) (M : gMd), (∀ i, j ≤ i → i < j + n → ¬ (M 20 i = 0 ∧ M 22 0 - M 17 i = 20)) → mRunL n j a M = (a, M)
  | 0, _, _, _, _ => rfl
  | n + 1, j, a, M, h => by
    unfold mRunL
    rw [if_neg (h j (Nat.le_refl _) (by omega))]
    exact mRunL_none n (j + 1) a M (fun i h1 h2 => h i (by omega) (by omega))
theorem mRunL_skip (n : Nat) (a : Int32) (M : gMd) : ∀ (k j : Nat), (∀ i, j ≤ i → i < j + k → ¬ (M 20 i = 0 ∧ M 22 0 - M 17 i = 20)) → mRunL (k + n) j a M = mRunL n (j + k) a M
  | 0, j, _ => by rw [Nat.zero_add, Nat.add_zero]
  | k + 1, j, h => by
    rw [show k + 1 + n = (k + n) + 1 by omega]
    show (if M 20 j = 0 ∧ M 22 0 - M 17 j = 20 then _ else mRunL (k + n) (j + 1) a M) = _
    rw [if_neg (h j (Nat.le_refl _) (by omega)), mRunL_skip n a M k (j + 1) (fun i h1 h2 => h i (by omega) (by omega))]
    congr 1
    omega
theorem SimG_nx {N : gNm} {I M : gMd} {tk T B t : Nat} (h : SimG N I M tk T B) (ht : t < N 0 8) (hd : ∀ i, i < t + 1 → M 20 i = 1) (hb : ∀ i, t + 1 ≤ i → i < N 0 8 → B < ix (M 17 i) + 20) : SimG N (iT I (I 0 0) (nI t + 1)) M tk T B := by
  obtain ⟨h0, h1, h2, h3, h4, h5, h6, h7, h8, h9⟩ := h
  exact ⟨h0, h1, h2, h3, h4, h5, h6, h7, h8, t + 1, ht, nI_1 t, hd, hb⟩
