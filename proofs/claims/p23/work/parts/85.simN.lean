theorem Sim_run {N : gNm} {tk T B : Nat} (hB : tk = B + 1) (hT : T ≤ 520) : ∀ (n t : Nat) (a : Int32) (I M : gMd), t + n = N 0 8 → SimG N I M tk T B → I 1 0 = nI t → (∀ i, i < t → M 20 i = 1) → (∀ i, t ≤ i → i < N 0 8 → B < ix (M 17 i) + 20) → (iRunL N n t a I).1 = (mRunL n t a M).1 ∧ Sim N (iRunL N n t a I).2 (mRunL n t a M).2 tk T ∧ (mRunL n t a M).2 0 = M 0
  | 0, t, a, I, M, hn, h, he, hd, hb => by
    obtain ⟨h0, h1, h2, h3, h4, h5, h6, h7, h8, h9⟩ := h
    exact ⟨rfl, ⟨h0, h1, h2, h3, h4, h5, h6, h7, h8, t, by omega, he, hd, fun i z1 z2 => by omega⟩, rfl⟩
  | n + 1, t, a, I, M, hn, h, he, hd, hb => by
    have ht : t < N 0 8 := by omega
    have hh := h
    obtain ⟨h0, h1, h2, h3, h4, h5, h6, h7, h8, h9⟩ := h
    obtain ⟨⟨d1, d2, d3, d4⟩, ⟨b, y1, y2, y3⟩, ⟨w0, d6, d6'⟩, d7, d8⟩ := h5 t ht
    have hix : ix (M 17 t) = b := by rw [y2]; exact ix_nI (by omega)
    have hbt := hb t (Nat.le_refl _) ht
    rw [hix] at hbt
    have key : ∀ i, i < N 0 8 → ((M 22 0 - M 17 i = 20) ↔ tk = ix (M 17 i) + 20) := fun i hi => by
      obtain ⟨bi, z1, z2, -⟩ := (h5 i hi).2.1
      rw [z2, h7.2.2, pk_sub z1, show (20 : Int32) = nI 20 by decide, nI_eq (by omega) (by decide), ix_nI (by omega)]
      omega
    unfold iRunL
    by_cases c : I 0 0 < I 17 t
    · have hlt : tk < b + 20 := by
        rw [h7.2.1, y3] at c
        exact (nI_ltI (by omega) (by omega)).mp c
      have hall : ∀ i, t ≤ i → i < N 0 8 → tk < ix (M 17 i) + 20 := fun i z1 z2 => by
        have := h8 t i z1 z2
        omega
      rw [if_pos c, mRunL_none (n + 1) t a M (fun i z1 z2 z3 => by
        have := hall i z1 (by omega)
        have := (key i (by omega)).mp z3.2
        omega)]
      exact ⟨rfl, ⟨h0, h1, h2, h3, h4, h5, h6, h7, h8, t, by omega, he, hd, hall⟩, rfl⟩
    · have heq : tk = b + 20 := by
        rw [h7.2.1, y3] at c
        have c2 : ¬ tk < b + 20 := fun z => c (nI_lt z (by omega))
        omega
      rw [if_neg c]
      unfold mRunL
      by_cases e : (!decide (I 18 t = -1)) = true
      · have ho : M 20 t = 1 := by
          rcases d8 with d8 | d8
          · rw [d8.2.1] at e; exact absurd e (by decide)
          · exact d8.1
        rw [if_pos e, if_neg (fun z => by rw [ho] at z; exact absurd z.1 (by decide))]
        have hd1 : ∀ i, i < t + 1 → M 20 i = 1 := fun i hi => by
          by_cases z : i = t
          · rw [z]; exact ho
          · exact hd i (by omega)
        have hb1 : ∀ i, t + 1 ≤ i → i < N 0 8 → B < ix (M 17 i) + 20 := fun i z1 z2 => hb i (by omega) z2
        exact Sim_run hB hT n (t + 1) a _ M (by omega) (SimG_nx hh ht hd1 hb1) (nI_1 t) hd1 hb1
      · have ho : M 20 t = 0 := by
          rcases d8 with d8 | ⟨z1, z2, -, ⟨cc, z3, z4⟩, -⟩
          · exact d8.1
          · refine absurd ?_ e
            have hne : ¬ I 18 t = -1 := by
              rw [z2, z4]
              intro z
              have := congrArg Int32.toInt z
              rw [nI_toInt (by omega), show (-1 : Int32).toInt = -1 by decide] at this
              omega
            simp [hne]
        rw [if_neg e, if_pos ⟨ho, (key t ht).mpr (by rw [hix]; exact heq)⟩]
        have hco : iCost I t 0 = M 15 t := by unfold iCost; rw [if_pos rfl, d2]
        obtain ⟨k1, k2, k3, k4, k5, k6⟩ := Sim_settle (T1 := T) hh (Nat.le_refl _) hT ht ho (w0 := w0) (c0 := w0) d6' (Nat.le_refl _) (by omega) (by omega) (cost := M 15 t) d6'
        have hd1 : ∀ i, i < t + 1 → mSettle M (nI t) (M 15 t) 20 i = 1 := fun i hi => by
          by_cases z : i = t
          · rw [z]; exact k5
          · rw [k4 i z]; exact hd i (by omega)
        have hb1 : ∀ i, t + 1 ≤ i → i < N 0 8 → B < ix (mSettle M (nI t) (M 15 t) 17 i) + 20 := fun i z1 z2 => by rw [k6]; exact hb i (by omega) z2
        have e0 : iSet N I t (M 15 t) 0 0 = I 0 0 := by
          unfold iSet
          rw [iK_o _ _ _ _ _ _ _ _ _ _ (Or.inr (Or.inl (by decide))), iC_o _ _ _ _ _ _ _ _ (Or.inr (Or.inl (by decide)))]
        have hs := SimG_nx k1 ht hd1 hb1
        rw [e0] at hs
        have hr := Sim_run hB hT n (t + 1) (a + 1) _ _ (by omega) hs (nI_1 t) hd1 hb1
        rw [iSettle_iSet, hco]
        exact ⟨hr.1, hr.2.1, hr.2.2.trans k3⟩
