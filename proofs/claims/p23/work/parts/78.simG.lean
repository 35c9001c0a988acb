section PRK
variable {N : gNm} {I M : gMd} {tk T : Nat}
/-- what a disputed call leaves, in the class -/
def iDis (N : gNm) (I : gMd) (i : Nat) : gMd :=
  iK (iC I i (I 15 i) (I 16 i) (I 17 i) 0 (I 19 i) 1) (N 6 i) (I 7 (N 6 i) + I 16 i) (I 8 (N 6 i)) (I 9 (N 6 i) + (I 18 i - (if I 18 i < I 10 (N 6 i) then I 18 i else I 10 (N 6 i)))) (I 10 (N 6 i) - (if I 18 i < I 10 (N 6 i) then I 18 i else I 10 (N 6 i))) (I 11 (N 6 i)) (I 12 (N 6 i)) (I 13 (N 6 i) - I 18 i) (I 14 (N 6 i))
theorem P_dispute (h : Sim N I M tk T) (hT : T < 520) {call : Int32} {i : Nat} (hi : i < N 0 8) (hcl : call = nI i) (n1 : (!decide (I 18 i = -1)) = true) (n2 : I 20 i = 0) (n3 : I 0 0 - I 19 i ≤ 50) : ∃ M1, mDispute M call = (I 18 i, M1) ∧ M1 0 0 = 0 ∧ Sim N (iDis N I i) M1 tk (T + 1) := by
  have hcal : mCal M call = true := (Sim_call h).mpr ⟨i, hi, hcl⟩
  have ho : ¬ M 20 i = 0 := fun z => by rw [(Sim_open h hi).mpr z] at n1; exact absurd n1 (by decide)
  have eic : ix call = i := Sim_ix (by have := h.2.1.2.2.2.1; omega) hi hcl
  obtain ⟨h0, ⟨g1, g2, g3, g4, g5, g6⟩, h2, h3, h4, h5, h6, h7, h8, h9⟩ := h
  obtain ⟨k, hk⟩ : ∃ z, z = N 6 i := ⟨_, rfl⟩
  have hkn : k < N 0 7 := by rw [hk]; exact g6 i hi
  obtain ⟨⟨d1, d2, d3, d4⟩, d5, d6, ⟨wt, d7, d7'⟩, d8⟩ := h5 i hi
  have hen : M 20 i = 1 ∧ I 18 i = M 18 i ∧ I 19 i = M 19 i ∧ pI (M 18 i) 9001 ∧ pI (M 19 i) (tk + 1) := by
    rcases d8 with d8 | d8
    · exact absurd d8.1 ho
    · exact d8
  obtain ⟨f20, f18, f19, ⟨bk, fb, fb'⟩, f9⟩ := hen
  rw [← hk] at d1
  have ek : ix (nI k) = k := ix_nI (by omega)
  obtain ⟨⟨a1, a2, a3, a4, a5, a6⟩, ⟨b1, b2, b3⟩, c1, c2, ⟨tn, c3, c3'⟩, c4⟩ := h4 k hkn
  have hg := give_pI (m := bk) c1 c2 (by omega) (by omega)
  rw [← fb'] at hg
  have hE : mDispute M call = (M 18 i, mw (mw (mw (mw (mw (mWell M 0) 21 i 1) 18 i 0) 10 k (M 10 k - (if M 18 i < M 10 k then M 18 i else M 10 k))) 8 k (M 8 k + (M 18 i - (if M 18 i < M 10 k then M 18 i else M 10 k)))) 11 k (M 11 k + M 16 i)) := by
    unfold mDispute
    rw [if_neg (by rw [hcal]; decide), eic, if_neg (by
      rintro (z | z | z)
      · exact ho z
      · exact z (by rw [← d4]; exact n2)
      · rw [h7.2.1, f19] at n3
        rw [h7.2.2] at z
        exact absurd z (Int32.not_lt.mpr n3))]
    show (mw (mWell M 0) 21 i 1 18 i, mw (mGive (mw (mw (mWell M 0) 21 i 1) 18 i 0) (M 14 i) (mw (mWell M 0) 21 i 1 18 i)) 11 (ix ((mGive (mw (mw (mWell M 0) 21 i 1) 18 i 0) (M 14 i) (mw (mWell M 0) 21 i 1 18 i)) 14 i)) ((mGive (mw (mw (mWell M 0) 21 i 1) 18 i 0) (M 14 i) (mw (mWell M 0) 21 i 1 18 i)) 11 (ix ((mGive (mw (mw (mWell M 0) 21 i 1) 18 i 0) (M 14 i) (mw (mWell M 0) 21 i 1 18 i)) 14 i)) + (mGive (mw (mw (mWell M 0) 21 i 1) 18 i 0) (M 14 i) (mw (mWell M 0) 21 i 1 18 i)) 16 i)) = _
    have e18 : mw (mWell M 0) 21 i 1 18 i = M 18 i := by rw [mw_o _ (Or.inl (by decide)), mwell_o _ (by decide)]
    have eG : mGive (mw (mw (mWell M 0) 21 i 1) 18 i 0) (nI k) (M 18 i) = mw (mw (mw (mw (mWell M 0) 21 i 1) 18 i 0) 10 k (M 10 k - (if M 18 i < M 10 k then M 18 i else M 10 k))) 8 k (M 8 k + (M 18 i - (if M 18 i < M 10 k then M 18 i else M 10 k))) := by
      unfold mGive
      rw [ek]
      rfl
    simp only [e18, d1, eG]
    have e14 : mw (mw (mw (mw (mWell M 0) 21 i 1) 18 i 0) 10 k (M 10 k - (if M 18 i < M 10 k then M 18 i else M 10 k))) 8 k (M 8 k + (M 18 i - (if M 18 i < M 10 k then M 18 i else M 10 k))) 14 i = nI k := by
      rw [mw_o _ (Or.inl (by decide)), mw_o _ (Or.inl (by decide)), mw_o _ (Or.inl (by decide)), mw_o _ (Or.inl (by decide)), mwell_o _ (by decide)]
      exact d1
    rw [e14, ek]
    rfl
  refine ⟨_, by rw [hE, f18], by rw [mw_o _ (Or.inl (by decide)), mw_o _ (Or.inl (by decide)), mw_o _ (Or.inl (by decide)), mw_o _ (Or.inl (by decide)), mw_o _ (Or.inl (by decide)), mwell_s], ?_⟩
  clear hE
  generalize hE : mw (mw (mw (mw (mw (mWell M 0) 21 i 1) 18 i 0) 10 k (M 10 k - (if M 18 i < M 10 k then M 18 i else M 10 k))) 8 k (M 8 k + (M 18 i - (if M 18 i < M 10 k then M 18 i else M 10 k)))) 11 k (M 11 k + M 16 i) = M1
  have row : ∀ c p, c ≠ 0 → (c ≠ 21 ∨ p ≠ i) → (c ≠ 18 ∨ p ≠ i) → (c ≠ 11 ∨ p ≠ k) → (c ≠ 10 ∨ p ≠ k) → (c ≠ 8 ∨ p ≠ k) → M1 c p = M c p := fun c p z0 z1 z2 z3 z4 z5 => by rw [← hE, mw_o _ z3, mw_o _ z5, mw_o _ z4, mw_o _ z2, mw_o _ z1, mwell_o _ z0]
  have rowc : ∀ c, c ≠ 0 → c ≠ 21 → c ≠ 18 → c ≠ 11 → c ≠ 10 → c ≠ 8 → M1 c = M c := fun c z0 z1 z2 z3 z4 z5 => funext fun p => row c p z0 (Or.inl z1) (Or.inl z2) (Or.inl z3) (Or.inl z4) (Or.inl z5)
  have m21 : M1 21 i = 1 := by rw [← hE, mw_o _ (Or.inl (by decide)), mw_o _ (Or.inl (by decide)), mw_o _ (Or.inl (by decide)), mw_o _ (Or.inl (by decide)), mw_s]
  have m18 : M1 18 i = 0 := by rw [← hE, mw_o _ (Or.inl (by decide)), mw_o _ (Or.inl (by decide)), mw_o _ (Or.inl (by decide)), mw_s]
  have m10 : M1 10 k = M 10 k - (if M 18 i < M 10 k then M 18 i else M 10 k) := by rw [← hE, mw_o _ (Or.inl (by decide)), mw_o _ (Or.inl (by decide)), mw_s]
  have m8 : M1 8 k = M 8 k + (M 18 i - (if M 18 i < M 10 k then M 18 i else M 10 k)) := by rw [← hE, mw_o _ (Or.inl (by decide)), mw_s]
  have m11 : M1 11 k = M 11 k + M 16 i := by rw [← hE, mw_s]
  have o18 : ∀ p, p ≠ i → M1 18 p = M 18 p := fun p hp => row 18 p (by decide) (Or.inr hp) (Or.inr hp) (Or.inl (by decide)) (Or.inl (by decide)) (Or.inl (by decide))
  have r14 := rowc 14 (by decide) (by decide) (by decide) (by decide) (by decide) (by decide)
  have r15 := rowc 15 (by decide) (by decide) (by decide) (by decide) (by decide) (by decide)
  have r17 := rowc 17 (by decide) (by decide) (by decide) (by decide) (by decide) (by decide)
  have r20 := rowc 20 (by decide) (by decide) (by decide) (by decide) (by decide) (by decide)
  have hIo : ∀ c p, (p ≠ k ∨ c < 7 ∨ 14 < c) → (p ≠ i ∨ c < 15 ∨ 20 < c) → iDis N I i c p = I c p := fun c p z1 z2 => by
    unfold iDis
    rw [← hk, iK_o _ _ _ _ _ _ _ _ _ _ z1, iC_o _ _ _ _ _ _ _ _ z2]
  refine ⟨by omega, ⟨?_, ?_, g3, g4, g5, g6⟩, fun p hp => ?_, fun p hp => ?_, fun p hp => ?_, fun p hp => ?_, ⟨fun p hp hp2 => ?_, fun p hp hp2 => ?_⟩, ⟨Nat.le_trans h7.1 (by omega), ?_, ?_⟩, ?_, ?_⟩
  · rw [rowc 6 (by decide) (by decide) (by decide) (by decide) (by decide) (by decide)]; exact g1
  · rw [rowc 13 (by decide) (by decide) (by decide) (by decide) (by decide) (by decide)]; exact g2
  · rw [hIo 2 p (by omega) (by omega), hIo 3 p (by omega) (by omega), hIo 4 p (by omega) (by omega), rowc 1 (by decide) (by decide) (by decide) (by decide) (by decide) (by decide), rowc 2 (by decide) (by decide) (by decide) (by decide) (by decide) (by decide), rowc 3 (by decide) (by decide) (by decide) (by decide) (by decide) (by decide)]; exact h2 p hp
  · rw [hIo 5 p (by omega) (by omega), hIo 6 p (by omega) (by omega), rowc 4 (by decide) (by decide) (by decide) (by decide) (by decide) (by decide), rowc 5 (by decide) (by decide) (by decide) (by decide) (by decide) (by decide)]; exact h3 p hp
  · have s1 : sL (wH M1 (nI p)) (N 0 8) = sL (wH M (nI p)) (N 0 8) := by unfold wH; rw [r14, r15, r20]
    have s2 : sL (wO M1 (nI p)) (N 0 8) = sL (wO M (nI p)) (N 0 8) := by unfold wO; rw [r14, r20]
    have q7 := rowc 7 (by decide) (by decide) (by decide) (by decide) (by decide) (by decide)
    have q9 := rowc 9 (by decide) (by decide) (by decide) (by decide) (by decide) (by decide)
    have q12 := rowc 12 (by decide) (by decide) (by decide) (by decide) (by decide) (by decide)
    by_cases e : p = k
    · subst e
      have sS : sL (wS M1 (nI p)) (N 0 8) = sL (wS M (nI p)) (N 0 8) - M 18 i := by
        rw [sL_upd (N 0 8) hi (fun q _ hq => by unfold wS; rw [r14, o18 q hq])]
        show _ - wS M (nI p) i + wS M1 (nI p) i = _
        unfold wS
        rw [r14, m18, if_pos d1, if_pos d1, Int32.add_zero]
      unfold iDis
      rw [← hk]
      obtain ⟨k7, k8, k9, k10, k11, k12, k13, k14⟩ := iK_s (iC I i (I 15 i) (I 16 i) (I 17 i) 0 (I 19 i) 1) p (I 7 p + I 16 i) (I 8 p) (I 9 p + (I 18 i - (if I 18 i < I 10 p then I 18 i else I 10 p))) (I 10 p - (if I 18 i < I 10 p then I 18 i else I 10 p)) (I 11 p) (I 12 p) (I 13 p - I 18 i) (I 14 p)
      unfold sKy
      rw [k7, k8, k9, k10, k11, k12, k13, k14, s1, s2, sS, q7, q9, q12, m8, m10, m11, f18, a2, a4, a5, b3, d3]
      exact ⟨⟨a1, rfl, a3, rfl, rfl, a6⟩, ⟨b1, b2, rfl⟩, pI_mono hg.1 (by omega), pI_mono hg.2 (by omega), ⟨tn + wt, by omega, by rw [c3', d7', nI_add]⟩, c4⟩
    · have hne : ¬ M 14 i = nI p := fun z => by
        rw [d1, nI_eq (by omega) (by have : p < N 0 7 := hp; omega)] at z
        exact e z.symm
      obtain ⟨x1, x2, x3, x4, x5, x6⟩ := h4 p hp
      have s3 : sL (wS M1 (nI p)) (N 0 8) = sL (wS M (nI p)) (N 0 8) := sL_congr _ (fun q _ => by
        unfold wS
        rw [r14]
        by_cases z : q = i
        · subst z; rw [if_neg hne, if_neg hne]
        · rw [o18 q z])
      have rI : ∀ c, 7 ≤ c → c ≤ 14 → iDis N I i c p = I c p := fun c _ _ => hIo c p (Or.inl e) (by omega)
      have rM : ∀ c, 7 ≤ c → c ≤ 12 → M1 c p = M c p := fun c _ _ => row c p (by omega) (by omega) (by omega) (Or.inr e) (Or.inr e) (Or.inr e)
      unfold sKy
      rw [s1, s2, s3, rI 7 (by decide) (by decide), rI 8 (by decide) (by decide), rI 9 (by decide) (by decide), rI 10 (by decide) (by decide), rI 11 (by decide) (by decide), rI 12 (by decide) (by decide), rI 13 (by decide) (by decide), rI 14 (by decide) (by decide), rM 7 (by decide) (by decide), rM 8 (by decide) (by decide), rM 9 (by decide) (by decide), rM 10 (by decide) (by decide), rM 11 (by decide) (by decide), rM 12 (by decide) (by decide)]
      exact ⟨x1, x2, pI_mono x3 (by omega), pI_mono x4 (by omega), pI_mono x5 (by omega), x6⟩
  · by_cases e : p = i
    · subst e
      have q : ∀ c, 14 < c → iDis N I p c p = iC I p (I 15 p) (I 16 p) (I 17 p) 0 (I 19 p) 1 c p := fun c hc => by
        unfold iDis
        exact iK_o _ _ _ _ _ _ _ _ _ _ (Or.inr (Or.inr hc))
      obtain ⟨z15, z16, z17, z18, z19, z20⟩ := iC_s I p (I 15 p) (I 16 p) (I 17 p) 0 (I 19 p) 1
      unfold sCl
      rw [q 15 (by decide), q 16 (by decide), q 17 (by decide), q 18 (by decide), q 19 (by decide), q 20 (by decide), z15, z16, z17, z18, z19, z20, r14, r15, r17, r20, rowc 16 (by decide) (by decide) (by decide) (by decide) (by decide) (by decide), rowc 19 (by decide) (by decide) (by decide) (by decide) (by decide) (by decide), m21, m18, ← hk]
      exact ⟨⟨d1, d2, d3, rfl⟩, d5, d6, ⟨wt, d7, d7'⟩, Or.inr ⟨f20, rfl, f19, ⟨0, by omega, nI_0.symm⟩, f9⟩⟩
    · exact sCl_congr (h5 p hp) (fun c h1 _ => hIo c p (by omega) (Or.inl e)) (fun c h1 _ => row c p (by omega) (Or.inr e) (Or.inr e) (by omega) (by omega) (by omega))
  · have e : p ≠ i := by omega
    rw [o18 p e, r20, row 21 p (by decide) (Or.inr e) (Or.inr e) (by omega) (by omega) (by omega)]; exact h6.1 p hp hp2
  · have e : p ≠ k := by omega
    rw [row 8 p (by omega) (by omega) (by omega) (by omega) (by omega) (by omega), row 10 p (by omega) (by omega) (by omega) (by omega) (by omega) (by omega), rowc 9 (by decide) (by decide) (by decide) (by decide) (by decide) (by decide), rowc 12 (by decide) (by decide) (by decide) (by decide) (by decide) (by decide)]; exact h6.2 p hp hp2
  · rw [hIo 0 0 (by omega) (by omega)]; exact h7.2.1
  · rw [rowc 22 (by decide) (by decide) (by decide) (by decide) (by decide) (by decide)]; exact h7.2.2
  · rw [r17]; exact h8
  · rw [hIo 1 0 (by omega) (by omega), r17, r20]; exact h9
end PRK
