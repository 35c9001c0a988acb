section PRM
variable {N : gNm} {I M : gMd} {tk T : Nat}
/-- what a call that is let through leaves, in the class -/
def iGo (N : gNm) (I : gMd) (k r : Nat) (w : Int32) : gMd :=
  iC (iK I k (I 7 k - I 6 r) (I 8 k) (I 9 k - (if w < I 9 k then w else I 9 k)) (I 10 k + (w - (if w < I 9 k then w else I 9 k))) (I 11 k + w) (I 12 k + 1) (I 13 k) (I 14 k)) (N 0 8) w (I 6 r) (I 0 0 + 20) (-1) 0 0
theorem Sim_go (h : Sim N I M tk T) (hT : T < 520) {k r : Nat} (hk : k < N 0 7) (hr : r < 6) (hn : N 0 8 < 80) {w0 : Nat} (hw0 : w0 ≤ 9000) {w own key route size : Int32} (hw : w = nI w0) (hown : own = (if w < I 9 k then w else I 9 k)) (hkey : key = nI k) (hroute : route = nI r) (htok : I 6 r ≤ I 7 k) (ek q : Nat) :
    (mCallGo (mWell M 0) key route size w own) 0 0 = 0 ∧ Sim (nCall N ek q k) (iGo N I k r w) (mCallGo (mWell M 0) key route size w own) tk (T + 1) := by
  obtain ⟨h0, ⟨g1, g2, g3, g4, g5, g6⟩, h2, h3, h4, h5, h6, h7, h8, h9⟩ := h
  obtain ⟨⟨a1, a2, a3, a4, a5, a6⟩, ⟨b1, b2, b3⟩, ⟨cr, c1, c1'⟩, ⟨db, c2, c2'⟩, ⟨tn, c3, c3'⟩, c4⟩ := h4 k hk
  obtain ⟨⟨p1, p2⟩, p3, ⟨wt, p4, p4'⟩⟩ := h3 r hr
  obtain ⟨f18, f20, f21⟩ := h6.1 (N 0 8) (Nat.le_refl _) hn
  have ek' : ix key = k := by rw [hkey]; exact ix_nI (by omega)
  have er : ix route = r := by rw [hroute]; exact ix_nI (by omega)
  have en : ix (M 13 0) = N 0 8 := by rw [g2]; exact ix_nI (by omega)
  have hwt : wt ≤ tn := by
    rw [p2, a2, p4', c3', nI_leI (by omega) (by omega)] at htok
    exact htok
  have hlo : own = nI (min w0 cr) := by rw [hown, hw, a4, c1', lo_nI (by omega) (by omega)]
  have hE : mCallGo (mWell M 0) key route size w own = mw (mw (mw (mw (mw (mw (mw (mw (mWell M 0) 8 k (M 8 k - own)) 10 k (M 10 k + (w - own))) 11 k (M 11 k - M 5 r)) 14 (N 0 8) key) 15 (N 0 8) w) 16 (N 0 8) (M 5 r)) 17 (N 0 8) (M 22 0)) 13 0 (M 13 0 + 1) := by
    rw [← en]
    unfold mCallGo
    rw [ek', er]
    rfl
  generalize mCallGo (mWell M 0) key route size w own = M1 at hE ⊢
  have row : ∀ c p, c ≠ 0 → c ≠ 13 → (c ≠ 17 ∨ p ≠ N 0 8) → (c ≠ 16 ∨ p ≠ N 0 8) → (c ≠ 15 ∨ p ≠ N 0 8) → (c ≠ 14 ∨ p ≠ N 0 8) → (c ≠ 11 ∨ p ≠ k) → (c ≠ 10 ∨ p ≠ k) → (c ≠ 8 ∨ p ≠ k) → M1 c p = M c p := fun c p z0 z13 z1 z2 z3 z4 z5 z6 z7 => by
    rw [hE, mw_o _ (Or.inl z13), mw_o _ z1, mw_o _ z2, mw_o _ z3, mw_o _ z4, mw_o _ z5, mw_o _ z6, mw_o _ z7, mwell_o _ z0]
  have low : ∀ c, c ≠ 0 → c ≠ 13 → c ≠ 17 → c ≠ 16 → c ≠ 15 → c ≠ 14 → c ≠ 11 → c ≠ 10 → c ≠ 8 → M1 c = M c := fun c z0 z13 z1 z2 z3 z4 z5 z6 z7 => funext fun p => row c p z0 z13 (Or.inl z1) (Or.inl z2) (Or.inl z3) (Or.inl z4) (Or.inl z5) (Or.inl z6) (Or.inl z7)
  have m17 : M1 17 (N 0 8) = M 22 0 := by rw [hE, mw_o _ (Or.inl (by decide)), mw_s]
  have m16 : M1 16 (N 0 8) = M 5 r := by rw [hE, mw_o _ (Or.inl (by decide)), mw_o _ (Or.inl (by decide)), mw_s]
  have m15 : M1 15 (N 0 8) = w := by rw [hE, mw_o _ (Or.inl (by decide)), mw_o _ (Or.inl (by decide)), mw_o _ (Or.inl (by decide)), mw_s]
  have m14 : M1 14 (N 0 8) = nI k := by rw [hE, mw_o _ (Or.inl (by decide)), mw_o _ (Or.inl (by decide)), mw_o _ (Or.inl (by decide)), mw_o _ (Or.inl (by decide)), mw_s, hkey]
  have m11 : M1 11 k = M 11 k - M 5 r := by rw [hE, mw_o _ (Or.inl (by decide)), mw_o _ (Or.inl (by decide)), mw_o _ (Or.inl (by decide)), mw_o _ (Or.inl (by decide)), mw_o _ (Or.inl (by decide)), mw_s]
  have m10 : M1 10 k = M 10 k + (w - own) := by rw [hE, mw_o _ (Or.inl (by decide)), mw_o _ (Or.inl (by decide)), mw_o _ (Or.inl (by decide)), mw_o _ (Or.inl (by decide)), mw_o _ (Or.inl (by decide)), mw_o _ (Or.inl (by decide)), mw_s]
  have m8 : M1 8 k = M 8 k - own := by rw [hE, mw_o _ (Or.inl (by decide)), mw_o _ (Or.inl (by decide)), mw_o _ (Or.inl (by decide)), mw_o _ (Or.inl (by decide)), mw_o _ (Or.inl (by decide)), mw_o _ (Or.inl (by decide)), mw_o _ (Or.inl (by decide)), mw_s]
  have r18 : M1 18 = M 18 := low 18 (by decide) (by decide) (by decide) (by decide) (by decide) (by decide) (by decide) (by decide) (by decide)
  have r20 : M1 20 = M 20 := low 20 (by decide) (by decide) (by decide) (by decide) (by decide) (by decide) (by decide) (by decide) (by decide)
  have r21 : M1 21 = M 21 := low 21 (by decide) (by decide) (by decide) (by decide) (by decide) (by decide) (by decide) (by decide) (by decide)
  have old : ∀ c p, 14 ≤ c → p < N 0 8 → M1 c p = M c p := fun c p hc hp => row c p (by omega) (by omega) (by omega) (by omega) (by omega) (by omega) (by omega) (by omega) (by omega)
  have hIo : ∀ c p, (p ≠ k ∨ c < 7 ∨ 14 < c) → (p ≠ N 0 8 ∨ c < 15 ∨ 20 < c) → iGo N I k r w c p = I c p := fun c p z1 z2 => by
    unfold iGo
    rw [iC_o _ _ _ _ _ _ _ _ z2, iK_o _ _ _ _ _ _ _ _ _ _ z1]
  have sOld : ∀ key, sL (wH M1 key) (N 0 8) = sL (wH M key) (N 0 8) ∧ sL (wO M1 key) (N 0 8) = sL (wO M key) (N 0 8) ∧ sL (wS M1 key) (N 0 8) = sL (wS M key) (N 0 8) := fun key =>
    ⟨sL_congr _ (fun p hp => by unfold wH; rw [old 14 p (by decide) hp, old 15 p (by decide) hp, r20]), sL_congr _ (fun p hp => by unfold wO; rw [old 14 p (by decide) hp, r20]), sL_congr _ (fun p hp => by unfold wS; rw [old 14 p (by decide) hp, r18])⟩
  refine ⟨by rw [hE, mw_o _ (Or.inl (by decide)), mw_o _ (Or.inl (by decide)), mw_o _ (Or.inl (by decide)), mw_o _ (Or.inl (by decide)), mw_o _ (Or.inl (by decide)), mw_o _ (Or.inl (by decide)), mw_o _ (Or.inl (by decide)), mw_o _ (Or.inl (by decide)), mwell_s], by omega, ⟨?_, ?_, g3, ?_, g5, fun p hp => ?_⟩, fun p hp => ?_, fun p hp => ?_, fun p hp => ?_, fun p hp => ?_, ⟨fun p hp hp2 => ?_, fun p hp hp2 => ?_⟩, ⟨Nat.le_trans h7.1 (by omega), ?_, ?_⟩, fun i j hij hj => ?_, ?_⟩
  · rw [low 6 (by decide) (by decide) (by decide) (by decide) (by decide) (by decide) (by decide) (by decide) (by decide)]; exact g1
  · show M1 13 0 = nI (N 0 8 + 1)
    rw [hE, mw_s, g2, nI_1]
  · show N 0 8 + 1 ≤ 80
    omega
  · show va_up (N 6) (N 0 8) k p < N 0 7
    have hp : p < N 0 8 + 1 := hp
    by_cases e : p = N 0 8
    · rw [e, va_up_self]; exact hk
    · rw [va_up_ne _ _ e]; exact g6 p (by omega)
  · rw [hIo 2 p (by omega) (by omega), hIo 3 p (by omega) (by omega), hIo 4 p (by omega) (by omega), low 1 (by decide) (by decide) (by decide) (by decide) (by decide) (by decide) (by decide) (by decide) (by decide), low 2 (by decide) (by decide) (by decide) (by decide) (by decide) (by decide) (by decide) (by decide) (by decide), low 3 (by decide) (by decide) (by decide) (by decide) (by decide) (by decide) (by decide) (by decide) (by decide)]; exact h2 p hp
  · rw [hIo 5 p (by omega) (by omega), hIo 6 p (by omega) (by omega), low 4 (by decide) (by decide) (by decide) (by decide) (by decide) (by decide) (by decide) (by decide) (by decide), low 5 (by decide) (by decide) (by decide) (by decide) (by decide) (by decide) (by decide) (by decide) (by decide)]; exact h3 p hp
  · have q7 := low 7 (by decide) (by decide) (by decide) (by decide) (by decide) (by decide) (by decide) (by decide) (by decide)
    have q9 := low 9 (by decide) (by decide) (by decide) (by decide) (by decide) (by decide) (by decide) (by decide) (by decide)
    have q12 := low 12 (by decide) (by decide) (by decide) (by decide) (by decide) (by decide) (by decide) (by decide) (by decide)
    have z20 : M1 20 (N 0 8) = 0 := by rw [r20]; exact f20
    have z18 : M1 18 (N 0 8) = 0 := by rw [r18]; exact f18
    show (M1 7 p = nI (N 5 p) ∧ _) ∧ (_ = sL (wH M1 (nI p)) (N 0 8) + wH M1 (nI p) (N 0 8) ∧ _ = sL (wO M1 (nI p)) (N 0 8) + wO M1 (nI p) (N 0 8) ∧ _ = sL (wS M1 (nI p)) (N 0 8) + wS M1 (nI p) (N 0 8)) ∧ _
    obtain ⟨s1, s2, s3⟩ := sOld (nI p)
    rw [s1, s2, s3]
    unfold wH wO wS
    rw [m14, z20, z18, m15, q7, q9, q12]
    by_cases e : p = k
    · subst e
      obtain ⟨k7, k8, k9, k10, k11, k12, k13, k14⟩ := iK_s I p (I 7 p - I 6 r) (I 8 p) (I 9 p - (if w < I 9 p then w else I 9 p)) (I 10 p + (w - (if w < I 9 p then w else I 9 p))) (I 11 p + w) (I 12 p + 1) (I 13 p) (I 14 p)
      have z : ∀ c, c < 15 → iGo N I p r w c p = iK I p (I 7 p - I 6 r) (I 8 p) (I 9 p - (if w < I 9 p then w else I 9 p)) (I 10 p + (w - (if w < I 9 p then w else I 9 p))) (I 11 p + w) (I 12 p + 1) (I 13 p) (I 14 p) c p := fun c hc => iC_o _ _ _ _ _ _ _ _ (Or.inr (Or.inl hc))
      rw [z 7 (by decide), z 8 (by decide), z 9 (by decide), z 10 (by decide), z 11 (by decide), z 12 (by decide), z 13 (by decide), z 14 (by decide), k7, k8, k9, k10, k11, k12, k13, k14, m8, m10, m11, if_pos rfl, if_pos rfl, if_pos rfl, if_pos rfl, if_pos rfl, ← hown, a2, p2, a4, a5, b1, b2, b3, Int32.add_zero]
      refine ⟨⟨a1, rfl, a3, rfl, rfl, a6⟩, ⟨rfl, rfl, rfl⟩, ⟨cr - min w0 cr, by omega, ?_⟩, ⟨db + (w0 - min w0 cr), by omega, ?_⟩, ⟨tn - wt, by omega, ?_⟩, c4⟩
      · rw [c1', hlo, pk_sub (Nat.min_le_right _ _)]
      · rw [c2', hw, hlo, pk_sub (Nat.min_le_left _ _), nI_add]
      · rw [c3', p4', pk_sub hwt]
    · have hp' : p < N 0 7 := hp
      have hne : ¬ nI k = nI p := fun z => e ((nI_eq (by omega) (by omega)).mp z).symm
      have rI : ∀ c, c < 15 → iGo N I k r w c p = I c p := fun c _ => hIo c p (Or.inl e) (by omega)
      obtain ⟨x1, x2, x3, x4, x5, x6⟩ := h4 p hp
      rw [rI 7 (by decide), rI 8 (by decide), rI 9 (by decide), rI 10 (by decide), rI 11 (by decide), rI 12 (by decide), rI 13 (by decide), rI 14 (by decide), row 8 p (by decide) (by decide) (by omega) (by omega) (by omega) (by omega) (by omega) (by omega) (by omega), row 10 p (by decide) (by decide) (by omega) (by omega) (by omega) (by omega) (by omega) (by omega) (by omega), row 11 p (by decide) (by decide) (by omega) (by omega) (by omega) (by omega) (by omega) (by omega) (by omega), if_neg hne, if_neg hne, if_neg hne, Int32.add_zero, Int32.add_zero, Int32.add_zero]
      exact ⟨x1, x2, pI_mono x3 (by omega), pI_mono x4 (by omega), pI_mono x5 (by omega), x6⟩
  · have hp : p < N 0 8 + 1 := hp
    by_cases e : p = N 0 8
    · subst e
      obtain ⟨z15, z16, z17, z18, z19, z20⟩ := iC_s (iK I k (I 7 k - I 6 r) (I 8 k) (I 9 k - (if w < I 9 k then w else I 9 k)) (I 10 k + (w - (if w < I 9 k then w else I 9 k))) (I 11 k + w) (I 12 k + 1) (I 13 k) (I 14 k)) (N 0 8) w (I 6 r) (I 0 0 + 20) (-1) 0 0
      refine ⟨⟨?_, z15.trans m15.symm, z16.trans (p2.trans m16.symm), z20.trans (by rw [r21]; exact f21.symm)⟩, ⟨tk, Nat.le_refl _, m17.trans h7.2.2, z17.trans (by rw [h7.2.1, show (20 : Int32) = nI 20 by decide, nI_add])⟩, ⟨w0, by omega, m15.trans hw⟩, ⟨wt, p4, m16.trans p4'⟩, Or.inl ⟨by rw [r20]; exact f20, z18, by rw [r18]; exact f18⟩⟩
      show M1 14 (N 0 8) = nI (va_up (N 6) (N 0 8) k (N 0 8))
      rw [m14, va_up_self]
    · have hp' : p < N 0 8 := by omega
      have kk := sCl_congr (N := N) (I1 := iGo N I k r w) (M1 := M1) (h5 p hp') (fun c _ _ => hIo c p (by omega) (Or.inl e)) (fun c hc _ => old c p hc hp')
      obtain ⟨⟨y1, y2⟩, y3⟩ := kk
      refine ⟨⟨?_, y2⟩, y3⟩
      show M1 14 p = nI (va_up (N 6) (N 0 8) k p)
      rw [va_up_ne _ _ e]
      exact y1
  · have hp : N 0 8 + 1 ≤ p := hp
    rw [r18, r20, r21]; exact h6.1 p (by omega) hp2
  · have hp : N 0 7 ≤ p := hp
    rw [row 8 p (by decide) (by decide) (by omega) (by omega) (by omega) (by omega) (by omega) (by omega) (by omega), row 9 p (by decide) (by decide) (by omega) (by omega) (by omega) (by omega) (by omega) (by omega) (by omega), row 10 p (by decide) (by decide) (by omega) (by omega) (by omega) (by omega) (by omega) (by omega) (by omega), row 12 p (by decide) (by decide) (by omega) (by omega) (by omega) (by omega) (by omega) (by omega) (by omega)]; exact h6.2 p hp hp2
  · rw [hIo 0 0 (by omega) (by omega)]; exact h7.2.1
  · rw [low 22 (by decide) (by decide) (by decide) (by decide) (by decide) (by decide) (by decide) (by decide) (by decide)]; exact h7.2.2
  · have hj : j < N 0 8 + 1 := hj
    have begun : ∀ p, p < N 0 8 → ix (M 17 p) ≤ tk := fun p hp => by
      obtain ⟨b, y1, y2, -⟩ := (h5 p hp).2.1
      rw [y2, ix_nI (by omega)]; exact y1
    by_cases e : j = N 0 8
    · subst e
      rw [m17, h7.2.2, ix_nI (by omega)]
      by_cases e2 : i = N 0 8
      · subst e2; rw [m17, h7.2.2, ix_nI (by omega)]; exact Nat.le_refl _
      · rw [old 17 i (by decide) (by omega)]; exact begun i (by omega)
    · rw [old 17 i (by decide) (by omega), old 17 j (by decide) (by omega)]; exact h8 i j hij (by omega)
  · obtain ⟨t, t1, t2, t3, t4⟩ := h9
    refine ⟨t, Nat.le_succ_of_le t1, by rw [hIo 1 0 (by omega) (by omega)]; exact t2, fun p hp => by rw [r20]; exact t3 p hp, fun p hp hp2 => ?_⟩
    have hp2 : p < N 0 8 + 1 := hp2
    by_cases e : p = N 0 8
    · subst e; rw [m17, h7.2.2, ix_nI (by omega)]; omega
    · rw [old 17 p (by decide) (by omega)]; exact t4 p hp (by omega)
end PRM
