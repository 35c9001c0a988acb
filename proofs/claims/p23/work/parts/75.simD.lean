section PRG
variable {N : gNm} {I M : gMd} {tk T : Nat}
theorem P_setKeyPlan (h : Sim N I M tk T) (hT : T < 520) {key plan : Int32} {j p0 : Nat} (hj : j < N 0 7) (hk : key = nI j) (hp0 : p0 < 4) (hpl : plan = nI p0) : ∃ M1, mSetKeyPlan M key plan = (nI (N 5 j), M1) ∧ M1 0 0 = 0 ∧ Sim (nPlan N j p0) I M1 tk (T + 1) := by
  have hkey : mKey M key = true := (Sim_key h).mpr ⟨j, hj, hk⟩
  have ej : ix key = j := Sim_ix (by have := h.2.1.2.2.1; omega) hj hk
  have hp : mIn plan 0 3 = true := mIn_p4.mpr ⟨p0, hp0, hpl⟩
  unfold mSetKeyPlan
  rw [if_neg (by rw [hkey]; decide), if_neg (by rw [hp]; decide), ej]
  refine ⟨mw (mWell M 0) 7 j plan, by rw [mwell_o _ (by decide), (h.2.2.2.2.1 j hj).1.1], by rw [mw_o _ (Or.inl (by decide)), mwell_s], ?_⟩
  have row : ∀ c, c ≠ 0 → c ≠ 7 → mw (mWell M 0) 7 j plan c = M c := fun c h0 h7 => funext fun i => by rw [mw_o _ (Or.inl h7), mwell_o _ h0]
  obtain ⟨h0, ⟨g1, g2, g3, g4, g5, g6⟩, h2, h3, h4, h5, h6, h7, h8, h9⟩ := h
  refine ⟨by omega, ⟨?_, ?_, g3, g4, fun i hi => ?_, g6⟩, fun i hi => ?_, fun i hi => ?_, fun i hi => ?_, fun i hi => ?_, ⟨fun i hi hi2 => ?_, fun i hi hi2 => ?_⟩, ⟨Nat.le_trans h7.1 (by omega), h7.2.1, ?_⟩, ?_, ?_⟩
  · rw [row 6 (by decide) (by decide)]; exact g1
  · rw [row 13 (by decide) (by decide)]; exact g2
  · show va_up (N 5) j p0 i < 4
    by_cases e : i = j
    · rw [e, va_up_self]; exact hp0
    · rw [va_up_ne _ _ e]; exact g5 i hi
  · rw [row 1 (by decide) (by decide), row 2 (by decide) (by decide), row 3 (by decide) (by decide)]; exact h2 i hi
  · rw [row 4 (by decide) (by decide), row 5 (by decide) (by decide)]; exact h3 i hi
  · have k := sKy_congr (T1 := T + 1) (M1 := mw M 7 i (M 7 i)) (h4 i hi) (by omega) (fun c _ _ => rfl) (fun c _ _ => ?_) (mw_ne M (by decide)) (mw_ne M (by decide)) (mw_ne M (by decide)) (mw_ne M (by decide))
    · obtain ⟨⟨a1, a2⟩, b, c⟩ := h4 i hi
      unfold sKy
      have e1 : wH (mw (mWell M 0) 7 j plan) (nI i) = wH M (nI i) := rfl
      have e2 : wO (mw (mWell M 0) 7 j plan) (nI i) = wO M (nI i) := rfl
      have e3 : wS (mw (mWell M 0) 7 j plan) (nI i) = wS M (nI i) := rfl
      rw [e1, e2, e3, row 8 (by decide) (by decide), row 9 (by decide) (by decide), row 10 (by decide) (by decide), row 11 (by decide) (by decide), row 12 (by decide) (by decide)]
      refine ⟨⟨?_, a2⟩, b, pI_mono c.1 (by omega), pI_mono c.2.1 (by omega), pI_mono c.2.2.1 (by omega), c.2.2.2⟩
      show mw (mWell M 0) 7 j plan 7 i = nI (va_up (N 5) j p0 i)
      by_cases e : i = j
      · subst e; rw [mw_s, va_up_self]; exact hpl
      · rw [mw_o _ (Or.inr e), mwell_o _ (by decide), va_up_ne _ _ e]; exact a1
    · by_cases e : c = 7
      · subst e; rw [mw_s]
      · rw [mw_o _ (Or.inl e)]
  · exact sCl_congr (N := N) (h5 i hi) (fun c _ _ => rfl) (fun c h1 _ => by rw [row c (by omega) (by omega)])
  · rw [row 18 (by decide) (by decide), row 20 (by decide) (by decide), row 21 (by decide) (by decide)]; exact h6.1 i hi hi2
  · rw [row 8 (by decide) (by decide), row 9 (by decide) (by decide), row 10 (by decide) (by decide), row 12 (by decide) (by decide)]; exact h6.2 i hi hi2
  · rw [row 22 (by decide) (by decide)]; exact h7.2.2
  · rw [row 17 (by decide) (by decide)]; exact h8
  · rw [row 20 (by decide) (by decide), row 17 (by decide) (by decide)]; exact h9
theorem P_addKey (h : Sim N I M tk T) (hT : T < 520) {plan : Int32} {p0 : Nat} (hp0 : p0 < 4) (hpl : plan = nI p0) (hn : N 0 7 < 8) (ek q : Nat) : ∃ M1, mAddKey M plan = (nI (N 0 7), M1) ∧ M1 0 0 = 0 ∧ Sim (nKey N ek q p0) (iK I (N 0 7) (I 2 p0) 0 0 0 0 0 0 0) M1 tk (T + 1) := by
  have hp : mIn plan 0 3 = true := mIn_p4.mpr ⟨p0, hp0, hpl⟩
  have ep : ix plan = p0 := Sim_ix (by decide) hp0 hpl
  obtain ⟨h0, ⟨g1, g2, g3, g4, g5, g6⟩, h2, h3, h4, h5, h6, h7, h8, h9⟩ := h
  have en : ix (M 6 0) = N 0 7 := by rw [g1]; exact ix_nI (by omega)
  have h68 : ¬ M 6 0 = 8 := by
    rw [g1, show (8 : Int32) = nI 8 by decide, nI_eq (by omega) (by decide)]
    omega
  have hE : mAddKey M plan = (nI (N 0 7), mw (mw (mw (mWell M 0) 7 (N 0 7) plan) 11 (N 0 7) (M 1 p0)) 6 0 (nI (N 0 7 + 1))) := by
    unfold mAddKey
    rw [if_neg (by rw [hp]; decide), if_neg h68]
    show (_ - 1, _) = _
    have e1 : mWell M 0 6 0 = M 6 0 := mwell_o _ (by decide)
    have e2 : (mw (mWell M 0) 7 (ix (mWell M 0 6 0)) plan) 6 0 = M 6 0 := by rw [mw_o _ (Or.inl (by decide)), e1]
    simp only [e2]
    rw [ep, e1, en]
    have e3 : (mw (mWell M 0) 7 (N 0 7) plan) 1 p0 = M 1 p0 := by rw [mw_o _ (Or.inl (by decide)), mwell_o _ (by decide)]
    rw [e3]
    have e4 : (mw (mw (mWell M 0) 7 (N 0 7) plan) 11 (N 0 7) (M 1 p0)) 6 0 = nI (N 0 7) := by rw [mw_o _ (Or.inl (by decide)), mw_o _ (Or.inl (by decide)), e1, g1]
    rw [e4, mw_s, nI_1, nI_pred]
  refine ⟨_, hE, by rw [mw_o _ (Or.inl (by decide)), mw_o _ (Or.inl (by decide)), mw_o _ (Or.inl (by decide)), mwell_s], ?_⟩
  generalize hM1 : mw (mw (mw (mWell M 0) 7 (N 0 7) plan) 11 (N 0 7) (M 1 p0)) 6 0 (nI (N 0 7 + 1)) = M1
  have row : ∀ c i, c ≠ 0 → c ≠ 6 → (c ≠ 7 ∨ i ≠ N 0 7) → (c ≠ 11 ∨ i ≠ N 0 7) → M1 c i = M c i := fun c i z0 z6 z7 z11 => by rw [← hM1, mw_o _ (Or.inl z6), mw_o _ z11, mw_o _ z7, mwell_o _ z0]
  have rowc : ∀ c, c ≠ 0 → c ≠ 6 → c ≠ 7 → c ≠ 11 → M1 c = M c := fun c z0 z6 z7 z11 => funext fun i => row c i z0 z6 (Or.inl z7) (Or.inl z11)
  have rowI : ∀ c, (c < 7 ∨ 14 < c) → iK I (N 0 7) (I 2 p0) 0 0 0 0 0 0 0 c = I c := fun c hh => funext fun i => iK_o _ _ _ _ _ _ _ _ _ _ (Or.inr hh)
  have r14 := rowc 14 (by decide) (by decide) (by decide) (by decide)
  have r15 := rowc 15 (by decide) (by decide) (by decide) (by decide)
  have r18 := rowc 18 (by decide) (by decide) (by decide) (by decide)
  have r20 := rowc 20 (by decide) (by decide) (by decide) (by decide)
  refine ⟨by omega, ⟨?_, ?_, ?_, g4, fun i hi => ?_, fun i hi => Nat.lt_succ_of_lt (g6 i hi)⟩, fun i hi => ?_, fun i hi => ?_, fun i hi => ?_, fun i hi => ?_, ⟨fun i hi hi2 => ?_, fun i hi hi2 => ?_⟩, ⟨Nat.le_trans h7.1 (by omega), ?_, ?_⟩, ?_, ?_⟩
  · show M1 6 0 = nI (N 0 7 + 1)
    rw [← hM1, mw_s]
  · rw [rowc 13 (by decide) (by decide) (by decide) (by decide)]; exact g2
  · show N 0 7 + 1 ≤ 8
    omega
  · show va_up (N 5) (N 0 7) p0 i < 4
    have hi : i < N 0 7 + 1 := hi
    by_cases e : i = N 0 7
    · rw [e, va_up_self]; exact hp0
    · rw [va_up_ne _ _ e]; exact g5 i (by omega)
  · rw [rowI 2 (by decide), rowI 3 (by decide), rowI 4 (by decide), rowc 1 (by decide) (by decide) (by decide) (by decide), rowc 2 (by decide) (by decide) (by decide) (by decide), rowc 3 (by decide) (by decide) (by decide) (by decide)]; exact h2 i hi
  · rw [rowI 5 (by decide), rowI 6 (by decide), rowc 4 (by decide) (by decide) (by decide) (by decide), rowc 5 (by decide) (by decide) (by decide) (by decide)]; exact h3 i hi
  · have hi : i < N 0 7 + 1 := hi
    by_cases e : i = N 0 7
    · subst e
      obtain ⟨k7, k8, k9, k10, k11, k12, k13, k14⟩ := iK_s I (N 0 7) (I 2 p0) 0 0 0 0 0 0 0
      obtain ⟨f8, f9, f10, f12⟩ := h6.2 (N 0 7) (Nat.le_refl _) hn
      have ne14 : ∀ i, i < N 0 8 → ¬ M 14 i = nI (N 0 7) := fun i hi z => by
        rw [(h5 i hi).1.1, nI_eq (by have := g6 i hi; omega) (by omega)] at z
        have := g6 i hi
        omega
      have s1 : sL (wH M1 (nI (N 0 7))) (N 0 8) = 0 := sL_zero _ (fun i hi => by unfold wH; rw [r14, if_neg (ne14 i hi)])
      have s2 : sL (wO M1 (nI (N 0 7))) (N 0 8) = 0 := sL_zero _ (fun i hi => by unfold wO; rw [r14, if_neg (ne14 i hi)])
      have s3 : sL (wS M1 (nI (N 0 7))) (N 0 8) = 0 := sL_zero _ (fun i hi => by unfold wS; rw [r14, if_neg (ne14 i hi)])
      have m11 : M1 11 (N 0 7) = M 1 p0 := by rw [← hM1, mw_o _ (Or.inl (by decide)), mw_s]
      have m7 : M1 7 (N 0 7) = plan := by rw [← hM1, mw_o _ (Or.inl (by decide)), mw_o _ (Or.inl (by decide)), mw_s]
      have m8 : M1 8 (N 0 7) = 0 := by rw [rowc 8 (by decide) (by decide) (by decide) (by decide)]; exact f8
      have m9 : M1 9 (N 0 7) = 0 := by rw [rowc 9 (by decide) (by decide) (by decide) (by decide)]; exact f9
      have m10 : M1 10 (N 0 7) = 0 := by rw [rowc 10 (by decide) (by decide) (by decide) (by decide)]; exact f10
      have m12 : M1 12 (N 0 7) = 0 := by rw [rowc 12 (by decide) (by decide) (by decide) (by decide)]; exact f12
      refine ⟨⟨?_, k7.trans ((h2 p0 hp0).1.1.trans m11.symm), k8.trans m9.symm, k9.trans m8.symm, k10.trans m10.symm, k14.trans m12.symm⟩, ⟨k11.trans s1.symm, k12.trans s2.symm, k13.trans s3.symm⟩, ⟨0, by omega, m8⟩, ⟨0, by omega, m10⟩, ?_, ⟨0, by omega, m9⟩⟩
      · show M1 7 (N 0 7) = nI (va_up (N 5) (N 0 7) p0 (N 0 7))
        rw [m7, va_up_self]; exact hpl
      · rw [m11]; exact pI_mono (h2 p0 hp0).2.1 (by omega)
    · have k := sKy_congr (T1 := T + 1) (I1 := iK I (N 0 7) (I 2 p0) 0 0 0 0 0 0 0) (M1 := M1) (h4 i (by omega)) (by omega) (fun c _ _ => iK_o _ _ _ _ _ _ _ _ _ _ (Or.inl e)) (fun c _ _ => row c i (by omega) (by omega) (Or.inr e) (Or.inr e)) r14 r15 r18 r20
      obtain ⟨⟨a1, a2⟩, b⟩ := k
      refine ⟨⟨?_, a2⟩, b⟩
      show M1 7 i = nI (va_up (N 5) (N 0 7) p0 i)
      rw [va_up_ne _ _ e]
      exact a1
  · exact sCl_congr (N := N) (h5 i hi) (fun c _ _ => by rw [rowI c (by omega)]) (fun c h1 _ => by rw [rowc c (by omega) (by omega) (by omega) (by omega)])
  · rw [r18, r20, rowc 21 (by decide) (by decide) (by decide) (by decide)]; exact h6.1 i hi hi2
  · have hi : N 0 7 + 1 ≤ i := hi
    rw [rowc 8 (by decide) (by decide) (by decide) (by decide), rowc 9 (by decide) (by decide) (by decide) (by decide), rowc 10 (by decide) (by decide) (by decide) (by decide), rowc 12 (by decide) (by decide) (by decide) (by decide)]; exact h6.2 i (by omega) hi2
  · rw [rowI 0 (by decide)]; exact h7.2.1
  · rw [rowc 22 (by decide) (by decide) (by decide) (by decide)]; exact h7.2.2
  · rw [rowc 17 (by decide) (by decide) (by decide) (by decide)]; exact h8
  · rw [rowI 1 (by decide), r20, rowc 17 (by decide) (by decide) (by decide) (by decide)]; exact h9
end PRG
