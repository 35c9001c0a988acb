section PRH
variable {N : gNm} {I M : gMd} {tk T : Nat}
theorem iC_s (I : gMd) (j : Nat) (w wt du co et di : Int32) : iC I j w wt du co et di 15 j = w ∧ iC I j w wt du co et di 16 j = wt ∧ iC I j w wt du co et di 17 j = du ∧ iC I j w wt du co et di 18 j = co ∧ iC I j w wt du co et di 19 j = et ∧ iC I j w wt du co et di 20 j = di :=
  ⟨if_pos rfl, if_pos rfl, if_pos rfl, if_pos rfl, if_pos rfl, if_pos rfl⟩
/-- what a settled call leaves, in the class -/
def iSet (N : gNm) (I : gMd) (i : Nat) (cost : Int32) : gMd :=
  iK (iC I i (I 15 i) (I 16 i) (I 17 i) cost (I 0 0) (I 20 i)) (N 6 i) (I 7 (N 6 i)) (I 8 (N 6 i)) (I 9 (N 6 i) + ((I 15 i - cost) - (if I 15 i - cost < I 10 (N 6 i) then I 15 i - cost else I 10 (N 6 i)))) (I 10 (N 6 i) - (if I 15 i - cost < I 10 (N 6 i) then I 15 i - cost else I 10 (N 6 i))) (I 11 (N 6 i) - I 15 i) (I 12 (N 6 i) - 1) (I 13 (N 6 i) + cost) (I 14 (N 6 i))
theorem iSettle_iSet (N : gNm) (I : gMd) (i : Nat) (oc : Int32) : iSettle N I i oc = iSet N I i (iCost I i oc) := rfl
theorem i_sub0 (a : Int32) : a - 0 = a := by rw [Int32.sub_eq_add_neg, show -(0 : Int32) = 0 by decide, Int32.add_zero]
theorem Sim_settle {T1 B : Nat} (h : SimG N I M tk T B) (hT : T ≤ T1) (hT1 : T1 ≤ 520) {i : Nat} (hi : i < N 0 8) (ho : M 20 i = 0) {w0 c0 : Nat} (hw : M 15 i = nI w0) (hc : c0 ≤ w0) (hw0 : w0 ≤ 9000) (hb : 100000 * T + (w0 - c0) ≤ 100000 * T1) {cost : Int32} (hcost : cost = nI c0) :
    SimG N (iSet N I i cost) (mSettle M (nI i) cost) tk T1 B ∧ mSettle M (nI i) cost 18 i = cost ∧ (mSettle M (nI i) cost) 0 = M 0 ∧ (∀ p, p ≠ i → mSettle M (nI i) cost 20 p = M 20 p) ∧ mSettle M (nI i) cost 20 i = 1 ∧ mSettle M (nI i) cost 17 = M 17 := by
  obtain ⟨h0, ⟨g1, g2, g3, g4, g5, g6⟩, h2, h3, h4, h5, h6, h7, h8, h9⟩ := h
  have ei : ix (nI i) = i := ix_nI (by omega)
  obtain ⟨k, hk⟩ : ∃ z, z = N 6 i := ⟨_, rfl⟩
  have hkn : k < N 0 7 := by rw [hk]; exact g6 i hi
  obtain ⟨⟨d1, d2, d3, d4⟩, d5, d6, d7, d8⟩ := h5 i hi
  have hco : I 18 i = -1 ∧ M 18 i = 0 := by
    rcases d8 with d8 | d8
    · exact d8.2
    · rw [d8.1] at ho; exact absurd ho (by decide)
  rw [← hk] at d1
  have ek : ix (nI k) = k := ix_nI (by omega)
  obtain ⟨⟨a1, a2, a3, a4, a5, a6⟩, ⟨b1, b2, b3⟩, c1, c2, c3, c4⟩ := h4 k hkn
  have hsub : M 15 i - cost = nI (w0 - c0) := by rw [hw, hcost, pk_sub hc]
  have hg := give_pI (m := w0 - c0) c1 c2 (by omega) (by omega)
  rw [← hsub] at hg
  have hE : mSettle M (nI i) cost = mw (mw (mw (mw (mw M 20 i 1) 18 i cost) 19 i (M 22 0)) 10 k (M 10 k - (if M 15 i - cost < M 10 k then M 15 i - cost else M 10 k))) 8 k (M 8 k + (M 15 i - cost - (if M 15 i - cost < M 10 k then M 15 i - cost else M 10 k))) := by
    unfold mSettle
    rw [ei]
    show mGive (mw (mw (mw M 20 i 1) 18 i cost) 19 i (M 22 0)) (M 14 i) (M 15 i - cost) = _
    rw [d1]
    unfold mGive
    rw [ek]
    rfl
  generalize hM1 : mSettle M (nI i) cost = M1 at hE ⊢
  have row : ∀ c p, (c ≠ 20 ∨ p ≠ i) → (c ≠ 18 ∨ p ≠ i) → (c ≠ 19 ∨ p ≠ i) → (c ≠ 10 ∨ p ≠ k) → (c ≠ 8 ∨ p ≠ k) → M1 c p = M c p := fun c p z1 z2 z3 z4 z5 => by rw [hE, mw_o _ z5, mw_o _ z4, mw_o _ z3, mw_o _ z2, mw_o _ z1]
  have rowc : ∀ c, c ≠ 20 → c ≠ 18 → c ≠ 19 → c ≠ 10 → c ≠ 8 → M1 c = M c := fun c z1 z2 z3 z4 z5 => funext fun p => row c p (Or.inl z1) (Or.inl z2) (Or.inl z3) (Or.inl z4) (Or.inl z5)
  have m20 : M1 20 i = 1 := by rw [hE, mw_o _ (Or.inl (by decide)), mw_o _ (Or.inl (by decide)), mw_o _ (Or.inl (by decide)), mw_o _ (Or.inl (by decide)), mw_s]
  have m18 : M1 18 i = cost := by rw [hE, mw_o _ (Or.inl (by decide)), mw_o _ (Or.inl (by decide)), mw_o _ (Or.inl (by decide)), mw_s]
  have m19 : M1 19 i = M 22 0 := by rw [hE, mw_o _ (Or.inl (by decide)), mw_o _ (Or.inl (by decide)), mw_s]
  have m10 : M1 10 k = M 10 k - (if M 15 i - cost < M 10 k then M 15 i - cost else M 10 k) := by rw [hE, mw_o _ (Or.inl (by decide)), mw_s]
  have m8 : M1 8 k = M 8 k + (M 15 i - cost - (if M 15 i - cost < M 10 k then M 15 i - cost else M 10 k)) := by rw [hE, mw_s]
  have o20 : ∀ p, p ≠ i → M1 20 p = M 20 p := fun p hp => row 20 p (Or.inr hp) (Or.inr hp) (Or.inr hp) (Or.inl (by decide)) (Or.inl (by decide))
  have o18 : ∀ p, p ≠ i → M1 18 p = M 18 p := fun p hp => row 18 p (Or.inr hp) (Or.inr hp) (Or.inr hp) (Or.inl (by decide)) (Or.inl (by decide))
  have r14 := rowc 14 (by decide) (by decide) (by decide) (by decide) (by decide)
  have r15 := rowc 15 (by decide) (by decide) (by decide) (by decide) (by decide)
  have r17 := rowc 17 (by decide) (by decide) (by decide) (by decide) (by decide)
  have hIo : ∀ c p, (p ≠ k ∨ c < 7 ∨ 14 < c) → (p ≠ i ∨ c < 15 ∨ 20 < c) → iSet N I i cost c p = I c p := fun c p z1 z2 => by
    unfold iSet
    rw [← hk, iK_o _ _ _ _ _ _ _ _ _ _ z1, iC_o _ _ _ _ _ _ _ _ z2]
  refine ⟨⟨hT1, ⟨?_, ?_, g3, g4, g5, g6⟩, fun p hp => ?_, fun p hp => ?_, fun p hp => ?_, fun p hp => ?_, ⟨fun p hp hp2 => ?_, fun p hp hp2 => ?_⟩, ⟨Nat.le_trans h7.1 (by omega), ?_, ?_⟩, ?_, ?_⟩, m18, rowc 0 (by decide) (by decide) (by decide) (by decide) (by decide), o20, m20, r17⟩
  · rw [rowc 6 (by decide) (by decide) (by decide) (by decide) (by decide)]; exact g1
  · rw [rowc 13 (by decide) (by decide) (by decide) (by decide) (by decide)]; exact g2
  · rw [hIo 2 p (by omega) (by omega), hIo 3 p (by omega) (by omega), hIo 4 p (by omega) (by omega), rowc 1 (by decide) (by decide) (by decide) (by decide) (by decide), rowc 2 (by decide) (by decide) (by decide) (by decide) (by decide), rowc 3 (by decide) (by decide) (by decide) (by decide) (by decide)]; exact h2 p hp
  · rw [hIo 5 p (by omega) (by omega), hIo 6 p (by omega) (by omega), rowc 4 (by decide) (by decide) (by decide) (by decide) (by decide), rowc 5 (by decide) (by decide) (by decide) (by decide) (by decide)]; exact h3 p hp
  · by_cases e : p = k
    · subst e
      have sH : sL (wH M1 (nI p)) (N 0 8) = sL (wH M (nI p)) (N 0 8) - M 15 i := by
        rw [sL_upd (N 0 8) hi (fun q _ hq => by unfold wH; rw [r14, r15, o20 q hq])]
        show _ - wH M (nI p) i + wH M1 (nI p) i = _
        unfold wH
        rw [r14, m20, if_pos d1, if_pos ho, if_pos d1, if_neg (by decide), Int32.add_zero]
      have sO : sL (wO M1 (nI p)) (N 0 8) = sL (wO M (nI p)) (N 0 8) - 1 := by
        rw [sL_upd (N 0 8) hi (fun q _ hq => by unfold wO; rw [r14, o20 q hq])]
        show _ - wO M (nI p) i + wO M1 (nI p) i = _
        unfold wO
        rw [r14, m20, if_pos d1, if_pos ho, if_pos d1, if_neg (by decide), Int32.add_zero]
      have sS : sL (wS M1 (nI p)) (N 0 8) = sL (wS M (nI p)) (N 0 8) + cost := by
        rw [sL_upd (N 0 8) hi (fun q _ hq => by unfold wS; rw [r14, o18 q hq])]
        show _ - wS M (nI p) i + wS M1 (nI p) i = _
        unfold wS
        rw [r14, m18, if_pos d1, hco.2, if_pos d1, i_sub0]
      have q7 := rowc 7 (by decide) (by decide) (by decide) (by decide) (by decide)
      have q9 := rowc 9 (by decide) (by decide) (by decide) (by decide) (by decide)
      have q11 := rowc 11 (by decide) (by decide) (by decide) (by decide) (by decide)
      have q12 := rowc 12 (by decide) (by decide) (by decide) (by decide) (by decide)
      unfold iSet
      rw [← hk]
      obtain ⟨k7, k8, k9, k10, k11, k12, k13, k14⟩ := iK_s (iC I i (I 15 i) (I 16 i) (I 17 i) cost (I 0 0) (I 20 i)) p (I 7 p) (I 8 p) (I 9 p + ((I 15 i - cost) - (if I 15 i - cost < I 10 p then I 15 i - cost else I 10 p))) (I 10 p - (if I 15 i - cost < I 10 p then I 15 i - cost else I 10 p)) (I 11 p - I 15 i) (I 12 p - 1) (I 13 p + cost) (I 14 p)
      unfold sKy
      rw [k7, k8, k9, k10, k11, k12, k13, k14, sH, sO, sS, q7, q9, q11, q12, m8, m10, d2, a4, a5, b1, b2, b3]
      exact ⟨⟨a1, a2, a3, rfl, rfl, a6⟩, ⟨rfl, rfl, rfl⟩, pI_mono hg.1 (by omega), pI_mono hg.2 (by omega), pI_mono c3 (by omega), c4⟩
    · have hne : ¬ M 14 i = nI p := fun z => by
        rw [d1, nI_eq (by omega) (by have : p < N 0 7 := hp; omega)] at z
        exact e z.symm
      obtain ⟨x1, x2, x3, x4, x5, x6⟩ := h4 p hp
      have s1 : sL (wH M1 (nI p)) (N 0 8) = sL (wH M (nI p)) (N 0 8) := sL_congr _ (fun q _ => by
        unfold wH
        rw [r14, r15]
        by_cases z : q = i
        · subst z; rw [if_neg hne, if_neg hne]
        · rw [o20 q z])
      have s2 : sL (wO M1 (nI p)) (N 0 8) = sL (wO M (nI p)) (N 0 8) := sL_congr _ (fun q _ => by
        unfold wO
        rw [r14]
        by_cases z : q = i
        · subst z; rw [if_neg hne, if_neg hne]
        · rw [o20 q z])
      have s3 : sL (wS M1 (nI p)) (N 0 8) = sL (wS M (nI p)) (N 0 8) := sL_congr _ (fun q _ => by
        unfold wS
        rw [r14]
        by_cases z : q = i
        · subst z; rw [if_neg hne, if_neg hne]
        · rw [o18 q z])
      have rI : ∀ c, 7 ≤ c → c ≤ 14 → iSet N I i cost c p = I c p := fun c _ _ => hIo c p (Or.inl e) (by omega)
      have rM : ∀ c, 7 ≤ c → c ≤ 12 → M1 c p = M c p := fun c _ _ => row c p (by omega) (by omega) (by omega) (Or.inr e) (Or.inr e)
      unfold sKy
      rw [s1, s2, s3, rI 7 (by decide) (by decide), rI 8 (by decide) (by decide), rI 9 (by decide) (by decide), rI 10 (by decide) (by decide), rI 11 (by decide) (by decide), rI 12 (by decide) (by decide), rI 13 (by decide) (by decide), rI 14 (by decide) (by decide), rM 7 (by decide) (by decide), rM 8 (by decide) (by decide), rM 9 (by decide) (by decide), rM 10 (by decide) (by decide), rM 11 (by decide) (by decide), rM 12 (by decide) (by decide)]
      exact ⟨x1, x2, pI_mono x3 (by omega), pI_mono x4 (by omega), pI_mono x5 (by omega), x6⟩
  · by_cases e : p = i
    · subst e
      have q : ∀ c, 14 < c → iSet N I p cost c p = iC I p (I 15 p) (I 16 p) (I 17 p) cost (I 0 0) (I 20 p) c p := fun c hc => by
        unfold iSet
        exact iK_o _ _ _ _ _ _ _ _ _ _ (Or.inr (Or.inr hc))
      obtain ⟨z15, z16, z17, z18, z19, z20⟩ := iC_s I p (I 15 p) (I 16 p) (I 17 p) cost (I 0 0) (I 20 p)
      unfold sCl
      rw [q 15 (by decide), q 16 (by decide), q 17 (by decide), q 18 (by decide), q 19 (by decide), q 20 (by decide), z15, z16, z17, z18, z19, z20, r14, r15, r17, rowc 16 (by decide) (by decide) (by decide) (by decide) (by decide), rowc 21 (by decide) (by decide) (by decide) (by decide) (by decide), m20, m18, m19, ← hk]
      exact ⟨⟨d1, d2, d3, d4⟩, d5, d6, d7, Or.inr ⟨rfl, rfl, h7.2.1.trans h7.2.2.symm, ⟨c0, by omega, hcost⟩, ⟨tk, by omega, h7.2.2⟩⟩⟩
    · exact sCl_congr (h5 p hp) (fun c h1 _ => hIo c p (by omega) (Or.inl e)) (fun c h1 _ => row c p (Or.inr e) (Or.inr e) (Or.inr e) (by omega) (by omega))
  · have e : p ≠ i := by omega
    rw [o18 p e, o20 p e, rowc 21 (by decide) (by decide) (by decide) (by decide) (by decide)]; exact h6.1 p hp hp2
  · have e : p ≠ k := by omega
    rw [row 8 p (by omega) (by omega) (by omega) (by omega) (by omega), row 10 p (by omega) (by omega) (by omega) (by omega) (by omega), rowc 9 (by decide) (by decide) (by decide) (by decide) (by decide), rowc 12 (by decide) (by decide) (by decide) (by decide) (by decide)]; exact h6.2 p hp hp2
  · rw [hIo 0 0 (by omega) (by omega)]; exact h7.2.1
  · rw [rowc 22 (by decide) (by decide) (by decide) (by decide) (by decide)]; exact h7.2.2
  · rw [r17]; exact h8
  · obtain ⟨t, t1, t2, t3, t4⟩ := h9
    refine ⟨t, t1, by rw [hIo 1 0 (by omega) (by omega)]; exact t2, fun p hp => ?_, by rw [r17]; exact t4⟩
    by_cases e : p = i
    · rw [e]; exact m20
    · rw [o20 p e]; exact t3 p hp
end PRH
