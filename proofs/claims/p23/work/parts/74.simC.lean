section PRF
variable {N : gNm} {I M : gMd} {tk T : Nat}
/-- rows of plans or of routes change -/
theorem Sim_tab {I1 M1 : gMd} (h : Sim N I M tk T) (hT : T < 520) (hI : ∀ c, (c < 2 ∨ 6 < c) → I1 c = I c) (hM : ∀ c, c ≠ 0 → 5 < c → M1 c = M c) (hp : sPl I1 M1) (hr : sRo I1 M1) : Sim N I1 M1 tk (T + 1) := by
  obtain ⟨h0, h1, h2, h3, h4, h5, h6, h7, h8, h9⟩ := h
  refine ⟨by omega, ?_, hp, hr, fun p hp => ?_, fun p hp => ?_, ⟨fun p hp hp2 => ?_, fun p hp hp2 => ?_⟩, ⟨?_, ?_, ?_⟩, ?_, ?_⟩
  · unfold sNu
    rw [hM 6 (by decide) (by decide), hM 13 (by decide) (by decide)]
    exact h1
  · exact sKy_congr (h4 p hp) (by omega) (fun c h1 _ => by rw [hI c (by omega)]) (fun c h1 _ => by rw [hM c (by omega) (by omega)]) (hM 14 (by decide) (by decide)) (hM 15 (by decide) (by decide)) (hM 18 (by decide) (by decide)) (hM 20 (by decide) (by decide))
  · exact sCl_congr (h5 p hp) (fun c h1 _ => by rw [hI c (by omega)]) (fun c h1 _ => by rw [hM c (by omega) (by omega)])
  · rw [hM 18 (by decide) (by decide), hM 20 (by decide) (by decide), hM 21 (by decide) (by decide)]
    exact h6.1 p hp hp2
  · rw [hM 8 (by decide) (by decide), hM 9 (by decide) (by decide), hM 10 (by decide) (by decide), hM 12 (by decide) (by decide)]
    exact h6.2 p hp hp2
  · exact Nat.le_trans h7.1 (by omega)
  · rw [hI 0 (by decide)]; exact h7.2.1
  · rw [hM 22 (by decide) (by decide)]; exact h7.2.2
  · rw [hM 17 (by decide) (by decide)]
    exact h8
  · rw [hI 1 (by decide), hM 20 (by decide) (by decide), hM 17 (by decide) (by decide)]
    exact h9
theorem P_setPlan (h : Sim N I M tk T) (hT : T < 520) {plan size refill slow : Int32} {j : Nat} (hj : j < 4) (hk : plan = nI j) (h1 : mIn size 1 100 = true) (h2 : mIn refill 0 100 = true) (h3 : mIn slow 0 refill = true) : (mSetPlan M plan size refill slow) 0 0 = 0 ∧ Sim N (iP I j size refill slow) (mSetPlan M plan size refill slow) tk (T + 1) := by
  have ej : ix plan = j := Sim_ix (by decide) hj hk
  have hp : mIn plan 0 3 = true := mIn_p4.mpr ⟨j, hj, hk⟩
  obtain ⟨q1, -, hq1, e1⟩ := mIn_up (n := 100) (a := 1) (by decide) (by decide) h1
  obtain ⟨q2, -, hq2, e2⟩ := mIn_up (n := 100) (a := 0) (by decide) (by decide) h2
  obtain ⟨q3, -, hq3, e3⟩ := mIn_up (n := q2) (a := 0) (by omega) (by omega) (by rw [← e2]; exact h3)
  have hE : mSetPlan M plan size refill slow = mw (mw (mw (mWell M 0) 1 j size) 2 j refill) 3 j slow := by
    unfold mSetPlan
    rw [if_pos ⟨hp, h1, h2, h3⟩, ej]
  rw [hE]
  refine ⟨?_, Sim_tab h hT (fun c hc => funext fun i => iP_o _ _ _ _ _ (Or.inr (by omega))) (fun c h0 hc => funext fun i => ?_) (fun p hp => ?_) (fun p hp => ?_)⟩
  · rw [mw_o _ (Or.inl (by decide)), mw_o _ (Or.inl (by decide)), mw_o _ (Or.inl (by decide)), mwell_s]
  · rw [mw_o _ (Or.inl (by omega)), mw_o _ (Or.inl (by omega)), mw_o _ (Or.inl (by omega)), mwell_o _ h0]
  · by_cases e : p = j
    · subst e
      have r1 : mw (mw (mw (mWell M 0) 1 p size) 2 p refill) 3 p slow 1 p = size := by rw [mw_o _ (Or.inl (by decide)), mw_o _ (Or.inl (by decide)), mw_s]
      have r2 : mw (mw (mw (mWell M 0) 1 p size) 2 p refill) 3 p slow 2 p = refill := by rw [mw_o _ (Or.inl (by decide)), mw_s]
      have r3 : mw (mw (mw (mWell M 0) 1 p size) 2 p refill) 3 p slow 3 p = slow := by rw [mw_s]
      rw [r1, r2, r3]
      exact ⟨⟨if_pos rfl, if_pos rfl, if_pos rfl⟩, ⟨q1, by omega, e1⟩, ⟨q2, by omega, e2⟩, ⟨q3, by omega, e3⟩⟩
    · have r : ∀ c, c ≠ 0 → mw (mw (mw (mWell M 0) 1 j size) 2 j refill) 3 j slow c p = M c p := fun c hc => by rw [mw_o _ (Or.inr e), mw_o _ (Or.inr e), mw_o _ (Or.inr e), mwell_o _ hc]
      rw [r 1 (by decide), r 2 (by decide), r 3 (by decide), iP_o _ _ _ _ _ (Or.inl e), iP_o _ _ _ _ _ (Or.inl e), iP_o _ _ _ _ _ (Or.inl e)]
      exact h.2.2.1 p hp
  · rw [iP_o _ _ _ _ _ (Or.inr (Or.inr (by decide))), iP_o _ _ _ _ _ (Or.inr (Or.inr (by decide)))]
    exact h.2.2.2.1 p hp
theorem P_setRoute (h : Sim N I M tk T) (hT : T < 520) {route price weight : Int32} {j : Nat} (hj : j < 6) (hk : route = nI j) (h1 : mIn price 0 1000 = true) (h2 : mIn weight 1 20 = true) : (mSetRoute M route price weight) 0 0 = 0 ∧ Sim N (iRt I j price weight) (mSetRoute M route price weight) tk (T + 1) := by
  have ej : ix route = j := Sim_ix (by decide) hj hk
  have hp : mIn route 0 5 = true := mIn_p6.mpr ⟨j, hj, hk⟩
  obtain ⟨q1, -, hq1, e1⟩ := mIn_up (n := 1000) (a := 0) (by decide) (by decide) h1
  obtain ⟨q2, -, hq2, e2⟩ := mIn_up (n := 20) (a := 1) (by decide) (by decide) h2
  have hE : mSetRoute M route price weight = mw (mw (mWell M 0) 4 j price) 5 j weight := by
    unfold mSetRoute
    rw [if_pos ⟨hp, h1, h2⟩, ej]
  rw [hE]
  refine ⟨?_, Sim_tab h hT (fun c hc => funext fun i => iRt_o _ _ _ _ (Or.inr (by omega))) (fun c h0 hc => funext fun i => ?_) (fun p hp => ?_) (fun p hp => ?_)⟩
  · rw [mw_o _ (Or.inl (by decide)), mw_o _ (Or.inl (by decide)), mwell_s]
  · rw [mw_o _ (Or.inl (by omega)), mw_o _ (Or.inl (by omega)), mwell_o _ h0]
  · have r : ∀ c, c ≠ 0 → c < 4 → mw (mw (mWell M 0) 4 j price) 5 j weight c p = M c p := fun c hc hc2 => by rw [mw_o _ (Or.inl (by omega)), mw_o _ (Or.inl (by omega)), mwell_o _ hc]
    rw [r 1 (by decide) (by decide), r 2 (by decide) (by decide), r 3 (by decide) (by decide), iRt_o _ _ _ _ (Or.inr (Or.inl (by decide))), iRt_o _ _ _ _ (Or.inr (Or.inl (by decide))), iRt_o _ _ _ _ (Or.inr (Or.inl (by decide)))]
    exact h.2.2.1 p hp
  · by_cases e : p = j
    · subst e
      have r1 : mw (mw (mWell M 0) 4 p price) 5 p weight 4 p = price := by rw [mw_o _ (Or.inl (by decide)), mw_s]
      have r2 : mw (mw (mWell M 0) 4 p price) 5 p weight 5 p = weight := by rw [mw_s]
      rw [r1, r2]
      exact ⟨⟨if_pos rfl, if_pos rfl⟩, ⟨q1, by omega, e1⟩, ⟨q2, by omega, e2⟩⟩
    · have r : ∀ c, c ≠ 0 → mw (mw (mWell M 0) 4 j price) 5 j weight c p = M c p := fun c hc => by rw [mw_o _ (Or.inr e), mw_o _ (Or.inr e), mwell_o _ hc]
      rw [r 4 (by decide), r 5 (by decide), iRt_o _ _ _ _ (Or.inl e), iRt_o _ _ _ _ (Or.inl e)]
      exact h.2.2.2.1 p hp
end PRF
