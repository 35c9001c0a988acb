section PRR
variable {N : gNm}
theorem SimG_tick {I M : gMd} {tk T : Nat} (h : Sim N I M tk T) (hb : tk + 1 ≤ 100 * T) : SimG N (iT I (I 0 0 + 1) (I 1 0)) (mw M 22 0 (M 22 0 + 1)) (tk + 1) T tk := by
  obtain ⟨h0, h1, h2, h3, h4, h5, h6, h7, h8, h9⟩ := h
  have row : ∀ c, c ≠ 22 → mw M 22 0 (M 22 0 + 1) c = M c := fun c hc => mw_ne M hc
  refine ⟨h0, ?_, fun p hp => ?_, fun p hp => ?_, fun p hp => ?_, fun p hp => ?_, ?_, ⟨hb, ?_, ?_⟩, ?_, ?_⟩
  · unfold sNu
    rw [row 6 (by decide), row 13 (by decide)]
    exact h1
  · rw [row 1 (by decide), row 2 (by decide), row 3 (by decide)]
    exact h2 p hp
  · rw [row 4 (by decide), row 5 (by decide)]
    exact h3 p hp
  · exact sKy_congr (I1 := iT I (I 0 0 + 1) (I 1 0)) (h4 p hp) (Nat.le_refl _) (fun c c1 c2 => by
      match c, c1 with
      | c + 2, _ => rfl) (fun c _ _ => by rw [row c (by omega)]) (row 14 (by decide)) (row 15 (by decide)) (row 18 (by decide)) (row 20 (by decide))
  · have k := sCl_congr (N := N) (I1 := iT I (I 0 0 + 1) (I 1 0)) (M1 := mw M 22 0 (M 22 0 + 1)) (h5 p hp) (fun c c1 c2 => by
      match c, c1 with
      | c + 2, _ => rfl) (fun c _ _ => by rw [row c (by omega)])
    obtain ⟨k1, ⟨b, k2, k3⟩, k4, k5, k6⟩ := k
    refine ⟨k1, ⟨b, by omega, k3⟩, k4, k5, ?_⟩
    rcases k6 with k6 | ⟨z1, z2, z3, z4, z5⟩
    · exact Or.inl k6
    · exact Or.inr ⟨z1, z2, z3, z4, pI_mono z5 (by omega)⟩
  · unfold sFr
    rw [row 18 (by decide), row 20 (by decide), row 21 (by decide), row 8 (by decide), row 9 (by decide), row 10 (by decide), row 12 (by decide)]
    exact h6
  · show I 0 0 + 1 = _
    rw [h7.2.1, nI_1]
  · rw [mw_s, h7.2.2, nI_1]
  · rw [row 17 (by decide)]
    exact h8
  · rw [row 20 (by decide), row 17 (by decide)]
    exact h9
theorem Sim_one {I M : gMd} {tk T : Nat} (h : Sim N I M tk T) (hb : tk + 1 ≤ 100 * T) : (iRun N (iT I (I 0 0 + 1) (I 1 0))).1 = (mOne (N 0 7) (N 0 8) M).1 ∧ Sim N (iFillL N (N 0 7) 0 (iRun N (iT I (I 0 0 + 1) (I 1 0))).2) (mOne (N 0 7) (N 0 8) M).2 (tk + 1) T := by
  have hg := SimG_tick h hb
  have h80 := h.2.1.2.2.2.1
  obtain ⟨t, t1, t2, t3, t4⟩ := hg.2.2.2.2.2.2.2.2.2
  have et : ix (iT I (I 0 0 + 1) (I 1 0) 1 0) = t := by rw [t2]; exact ix_nI (by omega)
  have hr := Sim_run (N := N) (T := T) rfl h.1 (N 0 8 - t) t 0 _ _ (by omega) hg t2 t3 t4
  have hm : mRunL (N 0 8) 0 0 (mw M 22 0 (M 22 0 + 1)) = mRunL (N 0 8 - t) t 0 (mw M 22 0 (M 22 0 + 1)) := by
    have k := mRunL_skip (N 0 8 - t) 0 (mw M 22 0 (M 22 0 + 1)) t 0 (fun i _ hi z => by
      rw [t3 i (by omega)] at z
      exact absurd z.1 (by decide))
    rw [show t + (N 0 8 - t) = N 0 8 by omega, Nat.zero_add] at k
    exact k
  have hi : iRun N (iT I (I 0 0 + 1) (I 1 0)) = iRunL N (N 0 8 - t) t 0 (iT I (I 0 0 + 1) (I 1 0)) := by
    unfold iRun
    rw [et]
  unfold mOne
  rw [hi, hm]
  exact ⟨hr.1, Sim_fillL _ _ _ _ hr.2.1 (by omega)⟩
theorem Sim_passL : ∀ (n : Nat) (a : Int32) (I M : gMd) (tk T : Nat), Sim N I M tk T → tk + n ≤ 100 * T → (iPassL N n a I).1 = (mPassL (N 0 7) (N 0 8) n a M).1 ∧ Sim N (iPassL N n a I).2 (mPassL (N 0 7) (N 0 8) n a M).2 (tk + n) T
  | 0, _, _, _, _, _, h, _ => ⟨rfl, h⟩
  | n + 1, a, I, M, tk, T, h, hb => by
    have h1 := Sim_one h (by omega)
    have h2 := Sim_passL n (a + (iRun N (iT I (I 0 0 + 1) (I 1 0))).1) _ _ (tk + 1) T h1.2 (by omega)
    unfold iPassL mPassL
    rw [← h1.1, show tk + (n + 1) = tk + 1 + n by omega]
    exact h2
end PRR
