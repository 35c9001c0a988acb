-- ===== money: what was paid is credit less debt, held or spent =====
def mon (N : gNm) (I : gMd) : Prop := ∀ j, j < N 0 7 → I 9 j - I 10 j + I 11 j + I 13 j = I 14 j
theorem mon_close (cr db hd sp w c x : Int32) : cr + ((w - c) - x) - (db - x) + (hd - w) + (sp + c) = cr - db + hd + sp := by grind
theorem mon_pay (cr db hd sp w x pd : Int32) (h : cr - db + hd + sp = pd) : cr + (w - x) - (db - x) + hd + sp = pd + w := by grind
theorem mon_back (cr db hd sp b x : Int32) : cr + (b - x) - (db - x) + hd + (sp - b) = cr - db + hd + sp := by grind
theorem mon_go (cr db hd sp w x : Int32) : cr - x - (db + (w - x)) + (hd + w) + sp = cr - db + hd + sp := by grind
/-- one key's row changes -/
theorem mon_row {N : gNm} {I I1 : gMd} {k : Nat} (h : mon N I) (ho : ∀ c j, 9 ≤ c → c ≤ 14 → j ≠ k → I1 c j = I c j) (hk : I1 9 k - I1 10 k + I1 11 k + I1 13 k = I1 14 k) : mon N I1 := fun j hj => by
  by_cases e : j = k
  · rw [e]; exact hk
  · rw [ho 9 j (by decide) (by decide) e, ho 10 j (by decide) (by decide) e, ho 11 j (by decide) (by decide) e, ho 13 j (by decide) (by decide) e, ho 14 j (by decide) (by decide) e]
    exact h j hj
theorem mon_same {N N1 : gNm} {I I1 : gMd} (h : mon N I) (hn : N1 0 7 = N 0 7) (ho : ∀ c j, 9 ≤ c → c ≤ 14 → I1 c j = I c j) : mon N1 I1 := fun j hj => by
  rw [ho 9 j (by decide) (by decide), ho 10 j (by decide) (by decide), ho 11 j (by decide) (by decide), ho 13 j (by decide) (by decide), ho 14 j (by decide) (by decide)]
  exact h j (by rw [← hn]; exact hj)
theorem mon_iK {N : gNm} {I J : gMd} {k : Nat} {t ln cr db hd op sp pd : Int32} (h : mon N I) (ho : ∀ c j, 9 ≤ c → c ≤ 14 → J c j = I c j) (hk : cr - db + hd + sp = pd) : mon N (iK J k t ln cr db hd op sp pd) := by
  obtain ⟨-, -, k9, k10, k11, -, k13, k14⟩ := iK_s J k t ln cr db hd op sp pd
  refine mon_row (k := k) h (fun c j h1 h2 h3 => (iK_o _ _ _ _ _ _ _ _ _ _ (Or.inl h3)).trans (ho c j h1 h2)) ?_
  rw [k9, k10, k11, k13, k14]
  exact hk
theorem mon_iC {N N1 : gNm} {J : gMd} {i : Nat} {w wt du co et di : Int32} (h : mon N J) (hn : N1 0 7 = N 0 7) : mon N1 (iC J i w wt du co et di) := mon_same h hn (fun _ _ _ _ => iC_o _ _ _ _ _ _ _ _ (Or.inr (Or.inl (by omega))))
theorem mon_iP {N : gNm} {I : gMd} (h : mon N I) (j : Nat) (a b d : Int32) : mon N (iP I j a b d) := mon_same h rfl (fun _ _ _ _ => iP_o _ _ _ _ _ (Or.inr (Or.inr (by omega))))
theorem mon_iRt {N : gNm} {I : gMd} (h : mon N I) (j : Nat) (a b : Int32) : mon N (iRt I j a b) := mon_same h rfl (fun _ _ _ _ => iRt_o _ _ _ _ (Or.inr (Or.inr (by omega))))
theorem iT_o (I : gMd) (t x : Int32) {c i : Nat} (h : 2 ≤ c) : iT I t x c i = I c i := by
  match c, h with
  | c + 2, _ => rfl
theorem mon_iT {N : gNm} {I : gMd} (h : mon N I) (t x : Int32) : mon N (iT I t x) := mon_same h rfl (fun _ _ _ _ => iT_o _ _ _ (by omega))
theorem mon_set {N : gNm} {I : gMd} (h : mon N I) {i : Nat} (hi : N 6 i < N 0 7) (cost : Int32) : mon N (iSet N I i cost) := by
  unfold iSet
  exact mon_iK h (fun _ _ _ _ => iC_o _ _ _ _ _ _ _ _ (Or.inr (Or.inl (by omega)))) ((mon_close _ _ _ _ _ _ _).trans (h _ hi))
theorem mon_settle {N : gNm} {I : gMd} (h : mon N I) {i : Nat} (hi : N 6 i < N 0 7) (oc : Int32) : mon N (iSettle N I i oc) := by
  rw [iSettle_iSet]
  exact mon_set h hi _
theorem mon_dis {N : gNm} {I : gMd} (h : mon N I) {i : Nat} (hi : N 6 i < N 0 7) : mon N (iDis N I i) := by
  unfold iDis
  exact mon_iK h (fun _ _ _ _ => iC_o _ _ _ _ _ _ _ _ (Or.inr (Or.inl (by omega)))) ((mon_back _ _ _ _ _ _).trans (h _ hi))
theorem mon_iGo {N : gNm} {I : gMd} (h : mon N I) {k : Nat} (hk : k < N 0 7) (r : Nat) (w : Int32) (ek q : Nat) : mon (nCall N ek q k) (iGo N I k r w) := by
  unfold iGo
  exact mon_iC (N := N) (mon_iK h (fun _ _ _ _ => rfl) ((mon_go _ _ _ _ _ _).trans (h _ hk))) rfl
theorem mon_addKey {N : gNm} {I : gMd} (h : mon N I) (t : Int32) (ek q p0 : Nat) : mon (nKey N ek q p0) (iK I (N 0 7) t 0 0 0 0 0 0 0) := fun j hj => by
  obtain ⟨-, -, k9, k10, k11, -, k13, k14⟩ := iK_s I (N 0 7) t 0 0 0 0 0 0 0
  by_cases e : j = N 0 7
  · rw [e, k9, k10, k11, k13, k14]
    decide
  · have hj2 : j < N 0 7 + 1 := hj
    rw [iK_o _ _ _ _ _ _ _ _ _ _ (Or.inl e), iK_o _ _ _ _ _ _ _ _ _ _ (Or.inl e), iK_o _ _ _ _ _ _ _ _ _ _ (Or.inl e), iK_o _ _ _ _ _ _ _ _ _ _ (Or.inl e), iK_o _ _ _ _ _ _ _ _ _ _ (Or.inl e)]
    exact h j (by omega)
theorem mon_fillL {N : gNm} : ∀ (n j : Nat) (I : gMd), mon N I → j + n ≤ N 0 7 → mon N (iFillL N n j I)
  | 0, _, _, h, _ => h
  | n + 1, j, I, h, hn => mon_fillL n (j + 1) _ (by
      unfold iFill1
      exact mon_iK h (fun _ _ _ _ => rfl) (h j (by omega))) (by omega)
theorem mon_runL {N : gNm} (hc : ∀ i, i < N 0 8 → N 6 i < N 0 7) : ∀ (n t : Nat) (a : Int32) (I : gMd), mon N I → t + n ≤ N 0 8 → mon N (iRunL N n t a I).2
  | 0, _, _, _, h, _ => h
  | n + 1, t, a, I, h, hn => by
    unfold iRunL
    by_cases c : I 0 0 < I 17 t
    · rw [if_pos c]; exact h
    · rw [if_neg c]
      by_cases e : (!decide (I 18 t = -1)) = true
      · rw [if_pos e]; exact mon_runL hc n (t + 1) a _ (mon_iT h _ _) (by omega)
      · rw [if_neg e]; exact mon_runL hc n (t + 1) _ _ (mon_iT (mon_settle h (hc t (by omega)) 0) _ _) (by omega)
-- ===== the number of open calls =====
abbrev wN (I : gMd) : Nat → Int32 := fun i => if I 18 i = -1 then 1 else 0
theorem wN_congr {N : gNm} {I I1 : gMd} (h : ∀ i, i < N 0 8 → I1 18 i = I 18 i) : sL (wN I1) (N 0 8) = sL (wN I) (N 0 8) := sL_congr _ (fun i hi => by show (if I1 18 i = -1 then (1 : Int32) else 0) = _; rw [h i hi])
theorem fill_18 {N : gNm} : ∀ (n j : Nat) (I : gMd) (c i : Nat), 15 ≤ c → iFillL N n j I c i = I c i
  | 0, _, _, _, _, _ => rfl
  | n + 1, j, I, c, i, hc => (fill_18 n (j + 1) _ c i hc).trans (by unfold iFill1; exact iK_o _ _ _ _ _ _ _ _ _ _ (Or.inr (Or.inr (by omega))))
theorem set_18 {N : gNm} {I : gMd} {t : Nat} {cost : Int32} (i : Nat) (hi : i ≠ t) : iSet N I t cost 18 i = I 18 i := by
  unfold iSet
  rw [iK_o _ _ _ _ _ _ _ _ _ _ (Or.inr (Or.inr (by decide))), iC_o _ _ _ _ _ _ _ _ (Or.inl hi)]
theorem set_18s {N : gNm} {I : gMd} {t : Nat} {cost : Int32} : iSet N I t cost 18 t = cost := by
  unfold iSet
  rw [iK_o _ _ _ _ _ _ _ _ _ _ (Or.inr (Or.inr (by decide))), (iC_s I t _ _ _ _ _ _).2.2.2.1]
theorem set_15 {N : gNm} {I : gMd} {t : Nat} {cost : Int32} (i : Nat) : iSet N I t cost 15 i = I 15 i := by
  unfold iSet
  rw [iK_o _ _ _ _ _ _ _ _ _ _ (Or.inr (Or.inr (by decide)))]
  by_cases e : i = t
  · rw [e, (iC_s I t _ _ _ _ _ _).1]
  · rw [iC_o _ _ _ _ _ _ _ _ (Or.inl e)]
/-- what runs out is counted -/
theorem cnt_runL {N : gNm} : ∀ (n t : Nat) (a : Int32) (I : gMd), (∀ i, i < N 0 8 → ¬ I 15 i = -1) → t + n ≤ N 0 8 → (iRunL N n t a I).1 + sL (wN (iRunL N n t a I).2) (N 0 8) = a + sL (wN I) (N 0 8) ∧ ∀ i, (iRunL N n t a I).2 15 i = I 15 i
  | 0, _, _, _, _, _ => ⟨rfl, fun _ => rfl⟩
  | n + 1, t, a, I, h, hn => by
    unfold iRunL
    by_cases c : I 0 0 < I 17 t
    · rw [if_pos c]; exact ⟨rfl, fun _ => rfl⟩
    · rw [if_neg c]
      by_cases e : (!decide (I 18 t = -1)) = true
      · rw [if_pos e]
        obtain ⟨k1, k2⟩ := cnt_runL (N := N) n (t + 1) a (iT I (I 0 0) (nI t + 1)) (fun i hi => by rw [iT_o _ _ _ (by decide)]; exact h i hi) (by omega)
        exact ⟨k1.trans (by rw [wN_congr (N := N) (I := I) (fun i _ => iT_o _ _ _ (by decide))]), fun i => (k2 i).trans (iT_o _ _ _ (by decide))⟩
      · rw [if_neg e]
        have e1 : I 18 t = -1 := by
          cases z : decide (I 18 t = -1) with
          | true => exact of_decide_eq_true z
          | false => rw [z] at e; exact absurd rfl e
        have h15 : ∀ i, iT (iSettle N I t 0) (I 0 0) (nI t + 1) 15 i = I 15 i := fun i => by rw [iT_o _ _ _ (by decide), iSettle_iSet, set_15]
        obtain ⟨k1, k2⟩ := cnt_runL (N := N) n (t + 1) (a + 1) (iT (iSettle N I t 0) (I 0 0) (nI t + 1)) (fun i hi => by rw [h15]; exact h i hi) (by omega)
        refine ⟨k1.trans ?_, fun i => (k2 i).trans (h15 i)⟩
        have hne : ¬ iCost I t 0 = -1 := by
          unfold iCost
          rw [if_pos rfl]
          exact h t (by omega)
        have hu := sL_upd (w := wN I) (v := wN (iT (iSettle N I t 0) (I 0 0) (nI t + 1))) (c := t) (N 0 8) (by omega) (fun i hi hit => by
          show (if iT (iSettle N I t 0) (I 0 0) (nI t + 1) 18 i = -1 then (1 : Int32) else 0) = _
          rw [iT_o _ _ _ (by decide), iSettle_iSet, set_18 i hit])
        have w1 : wN I t = 1 := if_pos e1
        have w2 : wN (iT (iSettle N I t 0) (I 0 0) (nI t + 1)) t = 0 := by
          show (if iT (iSettle N I t 0) (I 0 0) (nI t + 1) 18 t = -1 then (1 : Int32) else 0) = 0
          rw [iT_o _ _ _ (by decide), iSettle_iSet, set_18s, if_neg hne]
        rw [hu, w1, w2, Int32.add_zero]
        grind
theorem cnt_passL {N : gNm} (hc : ∀ i, i < N 0 8 → N 6 i < N 0 7) (h8 : N 0 8 ≤ 80) : ∀ (n : Nat) (a : Int32) (I : gMd), gNx N I → mon N I → (∀ i, i < N 0 8 → ¬ I 15 i = -1) → mon N (iPassL N n a I).2 ∧ (iPassL N n a I).1 + sL (wN (iPassL N n a I).2) (N 0 8) = a + sL (wN I) (N 0 8)
  | 0, _, _, _, h, _ => ⟨h, rfl⟩
  | n + 1, a, I, hx, h, h5 => by
    unfold iPassL
    have hx0 : gNx N (iT I (I 0 0 + 1) (I 1 0)) := hx
    have hx1 : gNx N (iRun N (iT I (I 0 0 + 1) (I 1 0))).2 := gNx_run h8 hx0
    have hx2 : gNx N (iFillL N (N 0 7) 0 (iRun N (iT I (I 0 0 + 1) (I 1 0))).2) := gNx_fill hx1
    have hm1 : mon N (iRun N (iT I (I 0 0 + 1) (I 1 0))).2 := mon_runL hc _ _ _ _ (mon_iT h _ _) (by have := hx0.1; omega)
    obtain ⟨k1, k2⟩ := cnt_runL (N := N) (N 0 8 - ix ((iT I (I 0 0 + 1) (I 1 0)) 1 0)) (ix ((iT I (I 0 0 + 1) (I 1 0)) 1 0)) 0 (iT I (I 0 0 + 1) (I 1 0)) (fun i hi => by rw [iT_o _ _ _ (by decide)]; exact h5 i hi) (by have := hx0.1; omega)
    obtain ⟨q1, q2⟩ := cnt_passL hc h8 n (a + (iRun N (iT I (I 0 0 + 1) (I 1 0))).1) (iFillL N (N 0 7) 0 (iRun N (iT I (I 0 0 + 1) (I 1 0))).2) hx2 (mon_fillL _ _ _ hm1 (by omega)) (fun i hi => by
      rw [fill_18 _ _ _ _ _ (by decide)]
      have := k2 i
      unfold iRun
      rw [this, iT_o _ _ _ (by decide)]
      exact h5 i hi)
    refine ⟨q1, q2.trans ?_⟩
    rw [wN_congr (N := N) (I := (iRun N (iT I (I 0 0 + 1) (I 1 0))).2) (fun i _ => fill_18 _ _ _ _ _ (by decide))]
    have k3 : (iRun N (iT I (I 0 0 + 1) (I 1 0))).1 + sL (wN (iRun N (iT I (I 0 0 + 1) (I 1 0))).2) (N 0 8) = 0 + sL (wN (iT I (I 0 0 + 1) (I 1 0))) (N 0 8) := k1
    rw [wN_congr (N := N) (I := I) (fun i _ => iT_o _ _ _ (by decide))] at k3
    rw [Int32.add_assoc, k3, Int32.zero_add]
