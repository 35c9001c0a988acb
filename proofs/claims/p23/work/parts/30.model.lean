-- ===== the reference's state: 23 rows by their field numbers (a number is row k at 0) =====
abbrev gMd : Type := Nat → Nat → Int32
def mArr (c : Nat) : Bool := (decide (1 ≤ c) && decide (c ≤ 5)) || (decide (7 ≤ c) && decide (c ≤ 12)) || (decide (14 ≤ c) && decide (c ≤ 21))
def mSc (c : Nat) : Bool := decide (c = 0) || decide (c = 6) || decide (c = 13) || decide (c = 22)
def mZ (c : Nat) : Bool := decide (c = 20) || decide (c = 21)
def mLen (c : Nat) : Nat := if c ≤ 3 then 4 else if c ≤ 5 then 6 else if c ≤ 12 then 8 else 80
def mw (M : gMd) (c i : Nat) (v : Int32) : gMd := va_up M c (upd (M c) i v)
theorem mw_ne (M : gMd) {c d i : Nat} {v : Int32} (h : d ≠ c) : mw M c i v d = M d := va_up_ne _ _ h
theorem mw_self (M : gMd) (c i : Nat) (v : Int32) : mw M c i v c = upd (M c) i v := va_up_self _ _ _
-- ===== what the reference computes =====
def mOK0 (nk nc : Nat) (a b c d : Nat → Int32) : Prop := nk ≤ 8 ∧ nc ≤ 80 ∧ a 0 = nI nk ∧ c 0 = nI nc ∧ (∀ i, i < nk → vp_in (b i) 4) ∧ (∀ i, i < nc → vp_in (d i) 8)
def mOK (nk nc : Nat) (M : gMd) : Prop := mOK0 nk nc (M 6) (M 7) (M 13) (M 14)
def mIn (v a b : Int32) : Bool := !decide (v < a) && !decide (b < v)
abbrev mKey (M : gMd) (k : Int32) : Bool := mIn k 0 (M 6 0 - 1)
abbrev mCal (M : gMd) (k : Int32) : Bool := mIn k 0 (M 13 0 - 1)
theorem mIn_of {x b : Int32} {n : Nat} (hb : b = nI n - 1) (hn : n < 1000) (h : mIn x 0 b = true) : ∃ j, j < n ∧ x = nI j := by
  simp only [mIn, Bool.and_eq_true, Bool.not_eq_true', decide_eq_false_iff_not] at h
  obtain ⟨h1, h2⟩ := h
  obtain ⟨j, hj, rfl⟩ := nI_of h1
  refine ⟨j, ?_, rfl⟩
  rcases Nat.lt_or_ge j n with q | q
  · exact q
  · refine absurd ?_ h2
    rw [hb, Int32.lt_iff_toInt_lt, nI_toInt hj]
    cases n with
    | zero => rw [show (nI 0 - 1).toInt = -1 by decide]; omega
    | succ n => rw [nI_pred, nI_toInt (by omega)]; omega
theorem mIn_in {x b : Int32} {n N : Nat} (hb : b = nI n - 1) (hn : n < 1000) (hN : n ≤ N) (hN2 : N < 1000) (h : mIn x 0 b = true) : vp_in x N := by
  obtain ⟨j, hj, rfl⟩ := mIn_of hb hn h
  exact vp_in_nI (by omega) (by omega)
theorem mIn_3 {x : Int32} (h : mIn x 0 3 = true) : vp_in x 4 := mIn_in (n := 4) (by decide) (by decide) (Nat.le_refl _) (by decide) h
theorem mIn_5 {x : Int32} (h : mIn x 0 5 = true) : vp_in x 6 := mIn_in (n := 6) (by decide) (by decide) (Nat.le_refl _) (by decide) h
theorem mKey_in {nk nc : Nat} {M : gMd} {k : Int32} (hok : mOK nk nc M) (h : mKey M k = true) : vp_in k 8 := mIn_in (n := nk) (by rw [hok.2.2.1]) (by have := hok.1; omega) hok.1 (by decide) h
theorem mCal_in {nk nc : Nat} {M : gMd} {k : Int32} (hok : mOK nk nc M) (h : mCal M k = true) : vp_in k 80 := mIn_in (n := nc) (by rw [hok.2.2.2.1]) (by have := hok.2.1; omega) hok.2.1 (by decide) h
theorem mCal_who {nk nc : Nat} {M : gMd} {k : Int32} (hok : mOK nk nc M) (h : mCal M k = true) : vp_in (M 14 (ix k)) 8 := by
  obtain ⟨j, hj, rfl⟩ := mIn_of (n := nc) (by rw [hok.2.2.2.1]) (by have := hok.2.1; omega) h
  have e : ix (nI j) = j := nI_clamp (by have := hok.2.1; omega)
  rw [e]
  exact hok.2.2.2.2.2 j hj
theorem mKey_plan {nk nc : Nat} {M : gMd} {k : Int32} (hok : mOK nk nc M) (h : mKey M k = true) : vp_in (M 7 (ix k)) 4 := by
  obtain ⟨j, hj, rfl⟩ := mIn_of (n := nk) (by rw [hok.2.2.1]) (by have := hok.1; omega) h
  have e : ix (nI j) = j := nI_clamp (by have := hok.1; omega)
  rw [e]
  exact hok.2.2.2.2.1 j hj
def mGive (M : gMd) (key m : Int32) : gMd :=
  let M1 := mw M 10 (ix key) (M 10 (ix key) - (if m < M 10 (ix key) then m else M 10 (ix key)))
  mw M1 8 (ix key) (M1 8 (ix key) + (m - (if m < M 10 (ix key) then m else M 10 (ix key))))
def mSettle (M : gMd) (call cost : Int32) : gMd :=
  let M1 := mw M 20 (ix call) 1
  let M2 := mw M1 18 (ix call) cost
  let M3 := mw M2 19 (ix call) (M2 22 0)
  mGive M3 (M3 14 (ix call)) (M3 15 (ix call) - cost)
def mLeft (M : gMd) (key : Int32) : Int32 := if M 10 (ix key) < M 9 (ix key) then M 9 (ix key) - M 10 (ix key) else 0
abbrev mWell (M : gMd) (t : Int32) : gMd := mw M 0 0 t
def mSetPlan (M : gMd) (plan size refill slow : Int32) : gMd :=
  if mIn plan 0 3 = true ∧ mIn size 1 100 = true ∧ mIn refill 0 100 = true ∧ mIn slow 0 refill = true then mw (mw (mw (mWell M 0) 1 (ix plan) size) 2 (ix plan) refill) 3 (ix plan) slow else mWell M 1
def mSetRoute (M : gMd) (route price weight : Int32) : gMd :=
  if mIn route 0 5 = true ∧ mIn price 0 1000 = true ∧ mIn weight 1 20 = true then mw (mw (mWell M 0) 4 (ix route) price) 5 (ix route) weight else mWell M 1
def mAddKey (M : gMd) (plan : Int32) : Int32 × gMd :=
  if mIn plan 0 3 = false then (0, mWell M 1) else if M 6 0 = 8 then (0, mWell M 2) else
  let M1 := mWell M 0
  let M2 := mw M1 7 (ix (M1 6 0)) plan
  let M3 := mw M2 11 (ix (M2 6 0)) (M2 1 (ix plan))
  let M4 := mw M3 6 0 (M3 6 0 + 1)
  (M4 6 0 - 1, M4)
def mSetKeyPlan (M : gMd) (key plan : Int32) : Int32 × gMd :=
  if mKey M key = false then (0, mWell M 1) else if mIn plan 0 3 = false then (0, mWell M 2) else (mWell M 0 7 (ix key), mw (mWell M 0) 7 (ix key) plan)
def mSetTrust (M : gMd) (key line : Int32) : Int32 × gMd :=
  if mKey M key = false then (0, mWell M 1) else if mIn line 0 10000 = false then (0, mWell M 2) else (mWell M 0 9 (ix key), mw (mWell M 0) 9 (ix key) line)
def mPay (M : gMd) (key money : Int32) : Int32 × gMd :=
  if mKey M key = false then (0, mWell M 1) else if mIn money 1 100000 = false then (0, mWell M 2) else
  let M1 := mGive (mWell M 0) key money
  let M2 := mw M1 12 (ix key) (M1 12 (ix key) + money)
  (M2 8 (ix key), M2)
def mCallGo (M : gMd) (key route size worth own : Int32) : gMd :=
  let M2 := mw M 8 (ix key) (M 8 (ix key) - own)
  let M3 := mw M2 10 (ix key) (M2 10 (ix key) + (worth - own))
  let M4 := mw M3 11 (ix key) (M3 11 (ix key) - M3 5 (ix route))
  let M5 := mw M4 14 (ix (M4 13 0)) key
  let M6 := mw M5 15 (ix (M5 13 0)) worth
  let M7 := mw M6 16 (ix (M6 13 0)) (M6 5 (ix route))
  let M8 := mw M7 17 (ix (M7 13 0)) (M7 22 0)
  mw M8 13 0 (M8 13 0 + 1)
def mCall (M : gMd) (key route size : Int32) : Int32 × gMd :=
  if mKey M key = false then (0, mWell M 1) else if mIn route 0 5 = false ∨ mIn size 1 9 = false then (0, mWell M 2) else if M 13 0 = 80 then (0, mWell M 3) else
  let M1 := mWell M 0
  let worth := M1 4 (ix route) * size
  if M1 11 (ix key) < M1 5 (ix route) then (1, M1) else
  if M1 8 (ix key) < worth then (if M1 8 (ix key) + mLeft M1 key < worth then (2, M1) else (0, mCallGo M1 key route size worth (M1 8 (ix key)))) else (0, mCallGo M1 key route size worth worth)
def mEnd (M : gMd) (call oc : Int32) : Int32 × gMd :=
  if mCal M call = false then (0, mWell M 1) else if mIn oc 0 2 = false then (0, mWell M 2) else if ¬ M 20 (ix call) = 0 then (0, mWell M 3) else
  let M1 := mWell M 0
  let M2 := mSettle M1 call (if oc = 0 then M1 15 (ix call) else if oc = 1 then (M1 15 (ix call) + 1) / 2 else 0)
  (M2 18 (ix call), M2)
def mDispute (M : gMd) (call : Int32) : Int32 × gMd :=
  if mCal M call = false then (0, mWell M 1) else if M 20 (ix call) = 0 ∨ ¬ M 21 (ix call) = 0 ∨ 50 < M 22 0 - M 19 (ix call) then (0, mWell M 2) else
  let M1 := mw (mWell M 0) 21 (ix call) 1
  let back := M1 18 (ix call)
  let M2 := mw M1 18 (ix call) 0
  let M3 := mGive M2 (M2 14 (ix call)) back
  let M4 := mw M3 11 (ix (M3 14 (ix call))) (M3 11 (ix (M3 14 (ix call))) + M3 16 (ix call))
  (back, M4)
def mSlowL (M : gMd) (key : Int32) : Nat → Nat → Bool → Bool
  | 0, _, b => b
  | n + 1, j, b => mSlowL M key n (j + 1) (b && (!decide (M 14 j = key) || !decide (M 20 j = 0)))
def mSlow (M : gMd) (nc : Nat) (key : Int32) : Bool := mSlowL M key nc 0 (decide (M 8 (ix key) = 0))
def mHeldL (M : gMd) (key : Int32) : Nat → Nat → Int32 → Int32
  | 0, _, a => a
  | n + 1, j, a => mHeldL M key n (j + 1) (a + (if M 14 j = key then (if M 20 j = 0 then M 15 j else 0) else 0))
def mSpentL (M : gMd) (key : Int32) : Nat → Nat → Int32 → Int32
  | 0, _, a => a
  | n + 1, j, a => mSpentL M key n (j + 1) (a + (if M 14 j = key then M 18 j else 0))
def mRunL : Nat → Nat → Int32 → gMd → Int32 × gMd
  | 0, _, a, M => (a, M)
  | n + 1, j, a, M => if M 20 j = 0 ∧ M 22 0 - M 17 j = 20 then mRunL n (j + 1) (a + 1) (mSettle M (nI j) (M 15 j)) else mRunL n (j + 1) a M
def mFill1 (nc : Nat) (M : gMd) (i : Nat) : gMd :=
  let more := M 11 i + (if mSlow M nc (nI i) = true then M 3 (ix (M 7 i)) else M 2 (ix (M 7 i)))
  let most := if M 1 (ix (M 7 i)) < M 11 i then M 11 i else M 1 (ix (M 7 i))
  mw M 11 i (if more < most then more else most)
def mFillL (nc : Nat) : Nat → Nat → gMd → gMd
  | 0, _, M => M
  | n + 1, i, M => mFillL nc n (i + 1) (mFill1 nc M i)
def mOne (nk nc : Nat) (M : gMd) : Int32 × gMd :=
  let r := mRunL nc 0 0 (mw M 22 0 (M 22 0 + 1))
  (r.1, mFillL nc nk 0 r.2)
def mPassL (nk nc : Nat) : Nat → Int32 → gMd → Int32 × gMd
  | 0, a, M => (a, M)
  | n + 1, a, M => mPassL nk nc n (a + (mOne nk nc M).1) (mOne nk nc M).2
def mPass (nk nc : Nat) (M : gMd) (ticks : Int32) : Int32 × gMd :=
  if mIn ticks 1 100 = false then (0, mWell M 1) else mPassL nk nc (ix ticks) 0 (mWell M 0)
def mRd (M : gMd) (key : Int32) (v : gMd → Int32) : Int32 × gMd := if mKey M key = false then (0, mWell M 1) else (v (mWell M 0), mWell M 0)
def mCost (M : gMd) (call : Int32) : Int32 × gMd := if mCal M call = false then (0, mWell M 1) else (if mWell M 0 20 (ix call) = 0 then (-1) else mWell M 0 18 (ix call), mWell M 0)

theorem mNew_key {nk nc : Nat} {M : gMd} (hok : mOK nk nc M) (h : ¬ (M 6 0) = 8) : vp_in (M 6 0) 8 := by
  obtain ⟨h1, -, h2, -⟩ := hok
  rw [h2] at h ⊢
  have : nk ≠ 8 := fun e => h (by rw [e]; rfl)
  exact vp_in_nI (by omega) (by omega)
theorem mNew_cal {nk nc : Nat} {M : gMd} (hok : mOK nk nc M) (h : ¬ (M 13 0) = 80) : vp_in (M 13 0) 80 := by
  obtain ⟨-, h1, -, h2, -⟩ := hok
  rw [h2] at h ⊢
  have : nc ≠ 80 := fun e => h (by rw [e]; rfl)
  exact vp_in_nI (by omega) (by omega)

set_option maxHeartbeats 4000000 in
theorem g_lpE {x : Int32} {n j : Nat} (hx : x = nI n) (hn : n < 2 ^ 30) (hj : j ≤ n) (h : x ≤ nI j) : j = n := by
  rw [hx] at h
  have := (nI_leI (by omega) (by omega)).mp h
  omega
theorem g_lpC {x : Int32} {n j : Nat} (hx : x = nI n) (hn : n < 2 ^ 30) (hj : j ≤ n) (h : ¬ x ≤ nI j) : j < n := by
  rcases Nat.lt_or_ge j n with q | q
  · exact q
  · exact absurd (by rw [hx]; exact nI_le q (by omega)) h
theorem mSlowL_step {M : gMd} {key : Int32} {n j : Nat} {b : Bool} (h : j < n) : mSlowL M key (n - j) j b = mSlowL M key (n - (j + 1)) (j + 1) (b && (!decide (M 14 j = key) || !decide (M 20 j = 0))) := by
  rw [show n - j = (n - (j + 1)) + 1 by omega]
  rfl
theorem mSlowL_end {M : gMd} {key : Int32} {n : Nat} {b : Bool} : mSlowL M key (n - n) n b = b := by rw [Nat.sub_self]; rfl
theorem mHeldL_step {M : gMd} {key : Int32} {n j : Nat} {b : Int32} (h : j < n) : mHeldL M key (n - j) j b = mHeldL M key (n - (j + 1)) (j + 1) (b + (if M 14 j = key then (if M 20 j = 0 then M 15 j else 0) else 0)) := by
  rw [show n - j = (n - (j + 1)) + 1 by omega]
  rfl
theorem mHeldL_end {M : gMd} {key : Int32} {n : Nat} {b : Int32} : mHeldL M key (n - n) n b = b := by rw [Nat.sub_self]; rfl
theorem mSpentL_step {M : gMd} {key : Int32} {n j : Nat} {b : Int32} (h : j < n) : mSpentL M key (n - j) j b = mSpentL M key (n - (j + 1)) (j + 1) (b + (if M 14 j = key then M 18 j else 0)) := by
  rw [show n - j = (n - (j + 1)) + 1 by omega]
  rfl
theorem mSpentL_end {M : gMd} {key : Int32} {n : Nat} {b : Int32} : mSpentL M key (n - n) n b = b := by rw [Nat.sub_self]; rfl

def mIsSlowed (nc : Nat) (M : gMd) (key : Int32) : Int32 × gMd := if mKey M key = false then (0, mWell M 1) else (b2i (mSlow (mWell M 0) nc key), mWell M 0)

theorem mRunL_step {N : gMd} {n j : Nat} {a : Int32} (h : j < n) : mRunL (n - j) j a N = if N 20 j = 0 ∧ N 22 0 - N 17 j = 20 then mRunL (n - (j + 1)) (j + 1) (a + 1) (mSettle N (nI j) (N 15 j)) else mRunL (n - (j + 1)) (j + 1) a N := by
  rw [show n - j = (n - (j + 1)) + 1 by omega]
  rfl
theorem mRunL_end {N : gMd} {n : Nat} {a : Int32} : mRunL (n - n) n a N = (a, N) := by rw [Nat.sub_self]; rfl
theorem mFillL_step {nc : Nat} {N : gMd} {n j : Nat} (h : j < n) : mFillL nc (n - j) j N = mFillL nc (n - (j + 1)) (j + 1) (mFill1 nc N j) := by
  rw [show n - j = (n - (j + 1)) + 1 by omega]
  rfl
theorem mFillL_end {nc : Nat} {N : gMd} {n : Nat} : mFillL nc (n - n) n N = N := by rw [Nat.sub_self]; rfl
theorem mPassL_step {nk nc : Nat} {N : gMd} {n j : Nat} {a : Int32} (h : j < n) : mPassL nk nc (n - j) a N = mPassL nk nc (n - (j + 1)) (a + (mOne nk nc N).1) (mOne nk nc N).2 := by
  rw [show n - j = (n - (j + 1)) + 1 by omega]
  rfl
theorem mPassL_end {nk nc : Nat} {N : gMd} {n : Nat} {a : Int32} : mPassL nk nc (n - n) a N = (a, N) := by rw [Nat.sub_self]; rfl
theorem mGive_row (M : gMd) (k m : Int32) {c : Nat} (h8 : c ≠ 8) (h10 : c ≠ 10) : mGive M k m c = M c := by
  show mw (mw M 10 _ _) 8 _ _ c = M c
  rw [mw_ne _ h8, mw_ne _ h10]
theorem mSettle_row (M : gMd) (k m : Int32) {c : Nat} (h8 : c ≠ 8) (h10 : c ≠ 10) (h18 : c ≠ 18) (h19 : c ≠ 19) (h20 : c ≠ 20) : mSettle M k m c = M c := by
  show mGive (mw (mw (mw M 20 _ _) 18 _ _) 19 _ _) _ _ c = M c
  rw [mGive_row _ _ _ h8 h10, mw_ne _ h19, mw_ne _ h18, mw_ne _ h20]
theorem mRunL_row : ∀ (n j : Nat) (a : Int32) (M : gMd) {c : Nat}, c ≠ 8 → c ≠ 10 → c ≠ 18 → c ≠ 19 → c ≠ 20 → (mRunL n j a M).2 c = M c
  | 0, _, _, _, _, _, _, _, _, _ => rfl
  | n + 1, j, a, M, c, h8, h10, h18, h19, h20 => by
    unfold mRunL
    split
    · rw [mRunL_row n (j + 1) _ _ h8 h10 h18 h19 h20, mSettle_row _ _ _ h8 h10 h18 h19 h20]
    · exact mRunL_row n (j + 1) _ _ h8 h10 h18 h19 h20
theorem mFillL_row (nc : Nat) : ∀ (n i : Nat) (M : gMd) {c : Nat}, c ≠ 11 → mFillL nc n i M c = M c
  | 0, _, _, _, _ => rfl
  | n + 1, i, M, c, h => by
    unfold mFillL
    rw [mFillL_row nc n (i + 1) _ h]
    exact mw_ne _ h
theorem mOne_row (nk nc : Nat) (M : gMd) {c : Nat} (h8 : c ≠ 8) (h10 : c ≠ 10) (h11 : c ≠ 11) (h18 : c ≠ 18) (h19 : c ≠ 19) (h20 : c ≠ 20) (h22 : c ≠ 22) : (mOne nk nc M).2 c = M c := by
  show mFillL nc nk 0 (mRunL nc 0 0 (mw M 22 0 _)).2 c = M c
  rw [mFillL_row nc _ _ _ h11, mRunL_row _ _ _ _ h8 h10 h18 h19 h20, mw_ne _ h22]
theorem mOK_one {nk nc : Nat} {M : gMd} (h : mOK nk nc M) : mOK nk nc (mOne nk nc M).2 := by
  unfold mOK
  rw [mOne_row nk nc M (by decide) (by decide) (by decide) (by decide) (by decide) (by decide) (by decide), mOne_row nk nc M (by decide) (by decide) (by decide) (by decide) (by decide) (by decide) (by decide), mOne_row nk nc M (by decide) (by decide) (by decide) (by decide) (by decide) (by decide) (by decide), mOne_row nk nc M (by decide) (by decide) (by decide) (by decide) (by decide) (by decide) (by decide)]
  exact h
theorem mIn_tick {x : Int32} (h : mIn x 1 100 = true) : x = nI (ix x) ∧ ix x ≤ 100 := by
  simp only [mIn, Bool.and_eq_true, Bool.not_eq_true', decide_eq_false_iff_not] at h
  obtain ⟨h1, h2⟩ := h
  have h0 : ¬ x < 0 := by
    rw [Int32.lt_iff_toInt_lt] at h1 ⊢
    rw [show (1 : Int32).toInt = 1 by decide] at h1
    rw [show (0 : Int32).toInt = 0 by decide]
    omega
  obtain ⟨j, hj, rfl⟩ := nI_of h0
  have e : ix (nI j) = j := nI_clamp hj
  rw [e]
  refine ⟨rfl, ?_⟩
  rw [Int32.lt_iff_toInt_lt, nI_toInt hj, show (100 : Int32).toInt = 100 by decide] at h2
  omega

def mInit : gMd := fun c => if c = 1 then upd (upd (upd (upd (fun _ => 0) (ix 0) 10) (ix 1) 10) (ix 2) 10) (ix 3) 10 else if c = 2 then upd (upd (upd (upd (fun _ => 0) (ix 0) 1) (ix 1) 1) (ix 2) 1) (ix 3) 1 else if c = 4 then upd (upd (upd (upd (upd (upd (fun _ => 0) (ix 0) 10) (ix 1) 10) (ix 2) 10) (ix 3) 10) (ix 4) 10) (ix 5) 10 else if c = 5 then upd (upd (upd (upd (upd (upd (fun _ => 0) (ix 0) 1) (ix 1) 1) (ix 2) 1) (ix 3) 1) (ix 4) 1) (ix 5) 1 else fun _ => 0

