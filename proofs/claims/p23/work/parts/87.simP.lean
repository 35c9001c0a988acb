-- ===== a whole pass; what is refused; the start =====
theorem mGive_0 (M : gMd) (key m : Int32) : mGive M key m 0 = M 0 := by
  unfold mGive
  rw [mw_ne _ (show (0 : Nat) ≠ 8 by decide), mw_ne _ (show (0 : Nat) ≠ 10 by decide)]
theorem mSettle_0 (M : gMd) (call cost : Int32) : mSettle M call cost 0 = M 0 := by
  unfold mSettle
  rw [mGive_0, mw_ne _ (show (0 : Nat) ≠ 19 by decide), mw_ne _ (show (0 : Nat) ≠ 18 by decide), mw_ne _ (show (0 : Nat) ≠ 20 by decide)]
theorem mRunL_0 : ∀ (n j : Nat) (a : Int32) (M : gMd), (mRunL n j a M).2 0 = M 0
  | 0, _, _, _ => rfl
  | n + 1, j, a, M => by
    unfold mRunL
    by_cases h : M 20 j = 0 ∧ M 22 0 - M 17 j = 20
    · rw [if_pos h, mRunL_0 n (j + 1) _ _, mSettle_0]
    · rw [if_neg h, mRunL_0 n (j + 1) a M]
theorem mFill1_0 (nc : Nat) (M : gMd) (i : Nat) : mFill1 nc M i 0 = M 0 := by
  unfold mFill1
  rw [mw_ne _ (show (0 : Nat) ≠ 11 by decide)]
theorem mFillL_0 (nc : Nat) : ∀ (n i : Nat) (M : gMd), mFillL nc n i M 0 = M 0
  | 0, _, _ => rfl
  | n + 1, i, M => by
    unfold mFillL
    rw [mFillL_0 nc n (i + 1), mFill1_0]
theorem mOne_0 (nk nc : Nat) (M : gMd) : (mOne nk nc M).2 0 = M 0 := by
  unfold mOne
  dsimp only
  rw [mFillL_0, mRunL_0, mw_ne _ (show (0 : Nat) ≠ 22 by decide)]
theorem mPassL_0 (nk nc : Nat) : ∀ (n : Nat) (a : Int32) (M : gMd), (mPassL nk nc n a M).2 0 = M 0
  | 0, _, _ => rfl
  | n + 1, a, M => by
    unfold mPassL
    rw [mPassL_0 nk nc n, mOne_0]
section PRQ
variable {N : gNm} {I M : gMd} {tk T : Nat}
theorem P_pass (h : Sim N I M tk T) (hT : T < 520) {ticks : Int32} (hp : mIn ticks 1 100 = true) : ∃ M1 tk1, mPass (N 0 7) (N 0 8) M ticks = ((iPassL N (ix ticks) 0 I).1, M1) ∧ M1 0 0 = 0 ∧ Sim N (iPassL N (ix ticks) 0 I).2 M1 tk1 (T + 1) := by
  obtain ⟨h1, h2⟩ := mIn_ix hp
  have hs := Sim_passL (ix ticks) 0 I (mWell M 0) tk (T + 1) (Sim_well 0 (Sim_T h hT)) (by have := h.2.2.2.2.2.2.2.1.1; omega)
  refine ⟨(mPassL (N 0 7) (N 0 8) (ix ticks) 0 (mWell M 0)).2, tk + ix ticks, ?_, (congrFun (mPassL_0 _ _ _ _ _) 0).trans (mwell_s M 0), hs.2⟩
  unfold mPass
  rw [if_neg (by rw [hp]; decide), hs.1]
theorem b_f {b : Bool} (h : ¬ b = true) : b = false := by
  cases b with
  | false => rfl
  | true => exact absurd rfl h
theorem p4_f {v : Int32} (h : ¬ pI v 4) : mIn v 0 3 = false := b_f (fun z => h (mIn_p4.mp z))
theorem p6_f {v : Int32} (h : ¬ pI v 6) : mIn v 0 5 = false := b_f (fun z => h (mIn_p6.mp z))
theorem p4_t {v : Int32} {j : Nat} (hj : j < 4) (h : v = nI j) : ¬ mIn v 0 3 = false := by
  rw [mIn_p4.mpr ⟨j, hj, h⟩]
  decide
theorem p6_t {v : Int32} {j : Nat} (hj : j < 6) (h : v = nI j) : ¬ mIn v 0 5 = false := by
  rw [mIn_p6.mpr ⟨j, hj, h⟩]
  decide
theorem key_t (h : Sim N I M tk T) {v : Int32} {j : Nat} (hj : j < N 0 7) (hv : v = nI j) : ¬ mKey M v = false := by
  rw [(Sim_key h).mpr ⟨j, hj, hv⟩]
  decide
theorem cal_t (h : Sim N I M tk T) {v : Int32} {j : Nat} (hj : j < N 0 8) (hv : v = nI j) : ¬ mCal M v = false := by
  rw [(Sim_call h).mpr ⟨j, hj, hv⟩]
  decide
theorem b_t {b : Bool} (h : b = true) : ¬ b = false := by
  rw [h]
  decide
-- what is refused
theorem X_setPlan (plan size refill slow : Int32) (M : gMd) (h : ¬ (mIn plan 0 3 = true ∧ mIn size 1 100 = true ∧ mIn refill 0 100 = true ∧ mIn slow 0 refill = true)) : mSetPlan M plan size refill slow = mWell M 1 := if_neg h
theorem X_setRoute (route price weight : Int32) (M : gMd) (h : ¬ (mIn route 0 5 = true ∧ mIn price 0 1000 = true ∧ mIn weight 1 20 = true)) : mSetRoute M route price weight = mWell M 1 := if_neg h
theorem X_addKey1 {plan : Int32} (hp : ¬ pI plan 4) : mAddKey M plan = (0, mWell M 1) := by
  unfold mAddKey
  rw [if_pos (p4_f hp)]
theorem X_addKey2 (h : Sim N I M tk T) {plan : Int32} {j : Nat} (hj : j < 4) (hp : plan = nI j) (hn : ¬ nI (N 0 7) < 8) : mAddKey M plan = (0, mWell M 2) := by
  have h8 := h.2.1.2.2.1
  have hx : ¬ N 0 7 < 8 := fun z => hn (by rw [show (8 : Int32) = nI 8 by decide]; exact nI_lt z (by decide))
  unfold mAddKey
  rw [if_neg (p4_t hj hp), if_pos (by rw [h.2.1.1, show N 0 7 = 8 by omega]; decide)]
theorem X_setKeyPlan1 (h : Sim N I M tk T) {key plan : Int32} (hk : ¬ pI key (N 0 7)) : mSetKeyPlan M key plan = (0, mWell M 1) := by
  unfold mSetKeyPlan
  rw [if_pos (key_f h hk)]
theorem X_setKeyPlan2 (h : Sim N I M tk T) {key plan : Int32} {j : Nat} (hj : j < N 0 7) (hk : key = nI j) (hp : ¬ pI plan 4) : mSetKeyPlan M key plan = (0, mWell M 2) := by
  unfold mSetKeyPlan
  rw [if_neg (key_t h hj hk), if_pos (p4_f hp)]
theorem X_setTrust1 (h : Sim N I M tk T) {key line : Int32} (hk : ¬ pI key (N 0 7)) : mSetTrust M key line = (0, mWell M 1) := by
  unfold mSetTrust
  rw [if_pos (key_f h hk)]
theorem X_setTrust2 (h : Sim N I M tk T) {key line : Int32} {j : Nat} (hj : j < N 0 7) (hk : key = nI j) (hp : ¬ mIn line 0 10000 = true) : mSetTrust M key line = (0, mWell M 2) := by
  unfold mSetTrust
  rw [if_neg (key_t h hj hk), if_pos (b_f hp)]
theorem X_pay1 (h : Sim N I M tk T) {key money : Int32} (hk : ¬ pI key (N 0 7)) : mPay M key money = (0, mWell M 1) := by
  unfold mPay
  rw [if_pos (key_f h hk)]
theorem X_pay2 (h : Sim N I M tk T) {key money : Int32} {j : Nat} (hj : j < N 0 7) (hk : key = nI j) (hp : ¬ mIn money 1 100000 = true) : mPay M key money = (0, mWell M 2) := by
  unfold mPay
  rw [if_neg (key_t h hj hk), if_pos (b_f hp)]
theorem X_call1 (h : Sim N I M tk T) {key route size : Int32} (hk : ¬ pI key (N 0 7)) : mCall M key route size = (0, mWell M 1) := by
  unfold mCall
  rw [if_pos (key_f h hk)]
theorem X_call2 (h : Sim N I M tk T) {key route size : Int32} {j : Nat} (hj : j < N 0 7) (hk : key = nI j) (hp : mIn route 0 5 = false ∨ mIn size 1 9 = false) : mCall M key route size = (0, mWell M 2) := by
  unfold mCall
  rw [if_neg (key_t h hj hk), if_pos hp]
theorem X_call3 (h : Sim N I M tk T) {key route size : Int32} {j r : Nat} (hj : j < N 0 7) (hk : key = nI j) (hr : r < 6) (hroute : route = nI r) (hs : mIn size 1 9 = true) (hn : ¬ nI (N 0 8) < 80) : mCall M key route size = (0, mWell M 3) := by
  have h8 := h.2.1.2.2.2.1
  have hx : ¬ N 0 8 < 80 := fun z => hn (by rw [show (80 : Int32) = nI 80 by decide]; exact nI_lt z (by decide))
  unfold mCall
  rw [if_neg (key_t h hj hk), if_neg (fun z => z.elim (p6_t hr hroute) (b_t hs)), if_pos (by rw [h.2.1.2.1, show N 0 8 = 80 by omega]; decide)]
theorem X_end1 (h : Sim N I M tk T) {call oc : Int32} (hk : ¬ pI call (N 0 8)) : mEnd M call oc = (0, mWell M 1) := by
  unfold mEnd
  rw [if_pos (cal_f h hk)]
theorem X_end2 (h : Sim N I M tk T) {call oc : Int32} {j : Nat} (hj : j < N 0 8) (hk : call = nI j) (hp : ¬ mIn oc 0 2 = true) : mEnd M call oc = (0, mWell M 2) := by
  unfold mEnd
  rw [if_neg (cal_t h hj hk), if_pos (b_f hp)]
theorem Sim_ixc (h : Sim N I M tk T) {call : Int32} {j : Nat} (hj : j < N 0 8) (hk : call = nI j) : ix call = j := by
  rw [hk]
  exact ix_nI (by have := h.2.1.2.2.2.1; omega)
theorem X_end3 (h : Sim N I M tk T) {call oc : Int32} {j : Nat} (hj : j < N 0 8) (hk : call = nI j) (hp : mIn oc 0 2 = true) (he : ¬ (!decide (I 18 j = -1)) = false) : mEnd M call oc = (0, mWell M 3) := by
  have e2 : ¬ M 20 (ix call) = 0 := fun z => he ((Sim_open h hj).mpr (by rw [← Sim_ixc h hj hk]; exact z))
  unfold mEnd
  rw [if_neg (cal_t h hj hk), if_neg (b_t hp), if_pos e2]
theorem X_dispute1 (h : Sim N I M tk T) {call : Int32} (hk : ¬ pI call (N 0 8)) : mDispute M call = (0, mWell M 1) := by
  unfold mDispute
  rw [if_pos (cal_f h hk)]
theorem X_dispute2 (h : Sim N I M tk T) {call : Int32} {j : Nat} (hj : j < N 0 8) (hk : call = nI j) (he : M 20 j = 0 ∨ ¬ M 21 j = 0 ∨ 50 < M 22 0 - M 19 j) : mDispute M call = (0, mWell M 2) := by
  unfold mDispute
  rw [if_neg (cal_t h hj hk), if_pos (by rw [Sim_ixc h hj hk]; exact he)]
theorem X_disA (h : Sim N I M tk T) {j : Nat} (hj : j < N 0 8) (he : ¬ (!decide (I 18 j = -1)) = true) : M 20 j = 0 := (Sim_open h hj).mp (b_f he)
theorem X_disB (h : Sim N I M tk T) {j : Nat} (hj : j < N 0 8) (he : ¬ I 20 j = 0) : ¬ M 21 j = 0 := fun z => he ((h.2.2.2.2.2.1 j hj).1.2.2.2.trans z)
theorem X_disC (h : Sim N I M tk T) {j : Nat} (hj : j < N 0 8) (h1 : (!decide (I 18 j = -1)) = true) (he : ¬ I 0 0 - I 19 j ≤ 50) : 50 < M 22 0 - M 19 j := by
  obtain ⟨-, -, -, -, d8⟩ := h.2.2.2.2.2.1 j hj
  obtain ⟨t0, t1, t2⟩ := h.2.2.2.2.2.2.2.1
  rcases d8 with d8 | d8
  · exact absurd ((Sim_open h hj).mpr d8.1) (b_t h1)
  · rw [t2, ← t1, ← d8.2.2.1]
    exact Int32.not_le.mp he
theorem X_pass (h : Sim N I M tk T) {ticks : Int32} (hp : ¬ mIn ticks 1 100 = true) : mPass (N 0 7) (N 0 8) M ticks = (0, mWell M 1) := by
  unfold mPass
  rw [if_pos (b_f hp)]
theorem X_cost (h : Sim N I M tk T) {call : Int32} (hk : ¬ pI call (N 0 8)) : mCost M call = (0, mWell M 1) := by
  unfold mCost
  rw [if_pos (cal_f h hk)]
theorem X_slow (h : Sim N I M tk T) {key : Int32} (hk : ¬ pI key (N 0 7)) : mIsSlowed (N 0 8) M key = (0, mWell M 1) := by
  unfold mIsSlowed
  rw [if_pos (key_f h hk)]
theorem P_isSlowed (h : Sim N I M tk T) {key : Int32} {k : Nat} (hk : k < N 0 7) (hkey : key = nI k) : mIsSlowed (N 0 8) M key = (b2i (decide (I 9 k = 0) && decide (I 12 k = 0)), mWell M 0) := by
  unfold mIsSlowed
  rw [if_neg (key_t h hk hkey), P_slow h hk hkey]
end PRQ
-- the start
theorem Sim_init (a pa ra lk lc : Nat) (ps rs : List Nat) : Sim (nInit a pa ra lk lc ps rs) iInit mInit 0 0 := by
  have z7 : nInit a pa ra lk lc ps rs 0 7 = 0 := rfl
  have z8 : nInit a pa ra lk lc ps rs 0 8 = 0 := rfl
  refine ⟨by decide, ⟨?_, ?_, ?_, ?_, ?_, ?_⟩, fun j hj => ?_, fun j hj => ?_, fun j hj => ?_, fun j hj => ?_, ⟨fun i _ _ => ⟨rfl, rfl, rfl⟩, fun i _ _ => ⟨rfl, rfl, rfl, rfl⟩⟩, ⟨Nat.zero_le _, ?_, ?_⟩, fun i j _ hj => ?_, 0, Nat.zero_le _, ?_, fun i hi => absurd hi (Nat.not_lt_zero i), fun i _ hi => ?_⟩
  · rw [z7]; decide
  · rw [z8]; decide
  · rw [z7]; decide
  · rw [z8]; decide
  · intro j hj; rw [z7] at hj; exact absurd hj (Nat.not_lt_zero j)
  · intro j hj; rw [z8] at hj; exact absurd hj (Nat.not_lt_zero j)
  · rcases (show j = 0 ∨ j = 1 ∨ j = 2 ∨ j = 3 by omega) with rfl | rfl | rfl | rfl <;> exact ⟨⟨by decide, by decide, by decide⟩, ⟨10, by decide, by decide⟩, ⟨1, by decide, by decide⟩, ⟨0, by decide, by decide⟩⟩
  · rcases (show j = 0 ∨ j = 1 ∨ j = 2 ∨ j = 3 ∨ j = 4 ∨ j = 5 by omega) with rfl | rfl | rfl | rfl | rfl | rfl <;> exact ⟨⟨by decide, by decide⟩, ⟨10, by decide, by decide⟩, ⟨1, by decide, by decide⟩⟩
  · rw [z7] at hj; exact absurd hj (Nat.not_lt_zero j)
  · rw [z8] at hj; exact absurd hj (Nat.not_lt_zero j)
  · decide
  · decide
  · rw [z8] at hj; exact absurd hj (Nat.not_lt_zero j)
  · decide
  · rw [z8] at hi; exact absurd hi (Nat.not_lt_zero i)
