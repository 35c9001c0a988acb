section PRQ
variable {N : gNm} {I M : gMd} {tk T : Nat}
theorem fill_eq {t mo sz : Nat} (ht : t < 2 ^ 29) (hm : mo ≤ 100) (hs : sz ≤ 100) : (if nI sz ≤ nI t then nI t else if nI t + nI mo < nI sz then nI t + nI mo else nI sz) = (if nI t + nI mo < (if nI sz < nI t then nI t else nI sz) then nI t + nI mo else (if nI sz < nI t then nI t else nI sz)) ∧ ∃ v, v ≤ max t 100 ∧ (if nI sz ≤ nI t then nI t else if nI t + nI mo < nI sz then nI t + nI mo else nI sz) = nI v := by
  rw [nI_add]
  by_cases h1 : sz ≤ t
  · rw [if_pos ((nI_leI (by omega) (by omega)).mpr h1)]
    refine ⟨?_, t, by omega, rfl⟩
    by_cases h2 : sz < t
    · rw [if_pos (nI_lt h2 (by omega)), if_neg (nI_nlt (by omega) (by omega))]
    · have e : sz = t := by omega
      rw [if_neg (nI_nlt (by omega) (by omega)), if_neg (nI_nlt (by omega) (by omega)), e]
  · rw [if_neg (fun z => h1 ((nI_leI (by omega) (by omega)).mp z)), if_neg (nI_nlt (show t ≤ sz by omega) (by omega))]
    refine ⟨rfl, ?_⟩
    by_cases h3 : t + mo < sz
    · exact ⟨t + mo, by omega, if_pos (nI_lt h3 (by omega))⟩
    · exact ⟨sz, by omega, if_neg (nI_nlt (by omega) (by omega))⟩
theorem Sim_fill1 (h : Sim N I M tk T) {j : Nat} (hj : j < N 0 7) : Sim N (iFill1 N I j) (mFill1 (N 0 8) M j) tk T := by
  have hT := h.1
  obtain ⟨⟨a1, a2, a3, a4, a5, a6⟩, ⟨b1, b2, b3⟩, c1, c2, ⟨tn, c3, c3'⟩, c4⟩ := h.2.2.2.2.1 j hj
  have hsl : mSlow M (N 0 8) (nI j) = (decide (I 9 j = 0) && decide (I 12 j = 0)) := by
    rw [mSlow_eq _ _ h.2.1.2.2.2.1, ix_nI (by have := h.2.1.2.2.1; omega), a4, b2]
  have h5 := h.2.1.2.2.2.2.1 j hj
  obtain ⟨⟨p1, p2, p3⟩, ⟨sz, q1, q1'⟩, ⟨rf, q2, q2'⟩, ⟨sl, q3, q3'⟩⟩ := h.2.2.1 (N 5 j) h5
  have ep : ix (M 7 j) = N 5 j := by rw [a1]; exact ix_nI (by omega)
  obtain ⟨mo, hmo, emo⟩ : ∃ mo, mo ≤ 100 ∧ (cond (decide (I 9 j = 0) && decide (I 12 j = 0)) (I 4 (N 5 j)) (I 3 (N 5 j))) = nI mo := by
    cases (decide (I 9 j = 0) && decide (I 12 j = 0)) with
    | true => exact ⟨sl, by omega, p3.trans q3'⟩
    | false => exact ⟨rf, by omega, p2.trans q2'⟩
  have emo2 : (if mSlow M (N 0 8) (nI j) = true then M 3 (N 5 j) else M 2 (N 5 j)) = nI mo := by
    rw [← emo, hsl]
    cases (decide (I 9 j = 0) && decide (I 12 j = 0)) with
    | true => rw [if_pos rfl]; exact p3.symm
    | false => rw [if_neg (by decide)]; exact p2.symm
  obtain ⟨hf, v, hv, ev⟩ := fill_eq (t := tn) (mo := mo) (sz := sz) (by omega) hmo (by omega)
  have eI : iFill1 N I j = iK I j (nI v) (I 8 j) (I 9 j) (I 10 j) (I 11 j) (I 12 j) (I 13 j) (I 14 j) := by
    unfold iFill1
    rw [emo, p1, q1', a2, c3', ev]
  have eM : mFill1 (N 0 8) M j = mw M 11 j (nI v) := by
    unfold mFill1
    simp only [ep, emo2, q1', c3']
    rw [← hf, ev]
  rw [eI, eM]
  obtain ⟨k7, k8, k9, k10, k11, k12, k13, k14⟩ := iK_s I j (nI v) (I 8 j) (I 9 j) (I 10 j) (I 11 j) (I 12 j) (I 13 j) (I 14 j)
  refine Sim_row h hj (Nat.le_refl _) hT (fun c i hh => iK_o _ _ _ _ _ _ _ _ _ _ hh) (fun c i hc hh => mw_o _ (show c ≠ 11 ∨ i ≠ j by omega)) ?_
  exact ⟨⟨a1, k7.trans (mw_s _ _ _ _).symm, k8.trans a3, k9.trans a4, k10.trans a5, k14.trans a6⟩, ⟨k11.trans b1, k12.trans b2, k13.trans b3⟩, c1, c2, ⟨v, by omega, mw_s _ _ _ _⟩, c4⟩
theorem Sim_fillL : ∀ (n j : Nat) (I M : gMd), Sim N I M tk T → j + n ≤ N 0 7 → Sim N (iFillL N n j I) (mFillL (N 0 8) n j M) tk T
  | 0, _, _, _, h, _ => h
  | n + 1, j, I, M, h, hn => Sim_fillL n (j + 1) _ _ (Sim_fill1 h (by omega)) (by omega)
end PRQ
