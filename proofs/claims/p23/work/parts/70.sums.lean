-- ===== sums over the calls =====
theorem i_alc (a b c : Int32) : a + (b + c) = b + (a + c) := by rw [← Int32.add_assoc, Int32.add_comm a b, Int32.add_assoc]
def sL (w : Nat → Int32) : Nat → Int32
  | 0 => 0
  | n + 1 => sL w n + w n
theorem sL_congr {w v : Nat → Int32} : ∀ (n : Nat), (∀ i, i < n → w i = v i) → sL w n = sL v n
  | 0, _ => rfl
  | n + 1, h => by
    show sL w n + w n = sL v n + v n
    rw [sL_congr n (fun i hi => h i (by omega)), h n (by omega)]
/-- one summand changes -/
theorem sL_upd {w v : Nat → Int32} {c : Nat} : ∀ (n : Nat), c < n → (∀ i, i < n → i ≠ c → v i = w i) → sL v n = sL w n - w c + v c
  | 0, h, _ => absurd h (Nat.not_lt_zero c)
  | n + 1, h, hw => by
    show sL v n + v n = sL w n + w n - w c + v c
    by_cases e : c = n
    · subst e
      rw [sL_congr c (v := w) (fun i hi => hw i (by omega) (by omega)), Int32.add_sub_cancel]
    · rw [sL_upd n (by omega) (fun i hi => hw i (by omega)), hw n (by omega) (fun z => e z.symm)]
      simp only [Int32.sub_eq_add_neg, Int32.add_assoc, Int32.add_comm, i_alc]
theorem sL_zero {w : Nat → Int32} : ∀ (n : Nat), (∀ i, i < n → w i = 0) → sL w n = 0
  | 0, _ => rfl
  | n + 1, h => by
    show sL w n + w n = 0
    rw [sL_zero n (fun i hi => h i (by omega)), h n (by omega)]
    rfl
abbrev wH (M : gMd) (key : Int32) : Nat → Int32 := fun j => if M 14 j = key then (if M 20 j = 0 then M 15 j else 0) else 0
abbrev wS (M : gMd) (key : Int32) : Nat → Int32 := fun j => if M 14 j = key then M 18 j else 0
abbrev wO (M : gMd) (key : Int32) : Nat → Int32 := fun j => if M 14 j = key then (if M 20 j = 0 then 1 else 0) else 0
theorem mHeldL_sL (M : gMd) (key : Int32) : ∀ (n j : Nat), mHeldL M key n j (sL (wH M key) j) = sL (wH M key) (j + n)
  | 0, _ => rfl
  | n + 1, j => by
    show mHeldL M key n (j + 1) (sL (wH M key) (j + 1)) = _
    rw [mHeldL_sL M key n (j + 1)]
    congr 1
    omega
theorem mSpentL_sL (M : gMd) (key : Int32) : ∀ (n j : Nat), mSpentL M key n j (sL (wS M key) j) = sL (wS M key) (j + n)
  | 0, _ => rfl
  | n + 1, j => by
    show mSpentL M key n (j + 1) (sL (wS M key) (j + 1)) = _
    rw [mSpentL_sL M key n (j + 1)]
    congr 1
    omega
theorem mHeld_eq (M : gMd) (key : Int32) (n : Nat) : mHeldL M key n 0 0 = sL (wH M key) n := by
  have h := mHeldL_sL M key n 0
  rw [Nat.zero_add] at h
  exact h
theorem mSpent_eq (M : gMd) (key : Int32) (n : Nat) : mSpentL M key n 0 0 = sL (wS M key) n := by
  have h := mSpentL_sL M key n 0
  rw [Nat.zero_add] at h
  exact h
/-- the number of a key's open holds -/
def oN (M : gMd) (key : Int32) : Nat → Nat
  | 0 => 0
  | n + 1 => oN M key n + (if M 14 n = key then (if M 20 n = 0 then 1 else 0) else 0)
theorem oN_le (M : gMd) (key : Int32) : ∀ n, oN M key n ≤ n
  | 0 => Nat.le_refl _
  | n + 1 => by
    have h := oN_le M key n
    unfold oN
    split <;> (try split) <;> omega
theorem oN_eq (M : gMd) (key : Int32) : ∀ n, sL (wO M key) n = nI (oN M key n)
  | 0 => rfl
  | n + 1 => by
    show sL (wO M key) n + wO M key n = nI (oN M key (n + 1))
    rw [oN_eq M key n]
    show nI (oN M key n) + (if M 14 n = key then (if M 20 n = 0 then (1 : Int32) else 0) else 0) = nI (oN M key n + (if M 14 n = key then (if M 20 n = 0 then 1 else 0) else 0))
    by_cases h1 : M 14 n = key
    · by_cases h2 : M 20 n = 0
      · simp only [if_pos h1, if_pos h2]; exact nI_1 _
      · simp only [if_pos h1, if_neg h2, Nat.add_zero, Int32.add_zero]
    · simp only [if_neg h1, Nat.add_zero, Int32.add_zero]
theorem oN_0 (M : gMd) (key : Int32) : ∀ n, oN M key n = 0 ↔ ∀ j, j < n → ¬ (M 14 j = key ∧ M 20 j = 0)
  | 0 => ⟨fun _ j hj => absurd hj (Nat.not_lt_zero j), fun _ => rfl⟩
  | n + 1 => by
    have ih := oN_0 M key n
    unfold oN
    constructor
    · intro h j hj
      have h0 : oN M key n = 0 := by omega
      rcases Nat.lt_or_ge j n with q | q
      · exact ih.mp h0 j q
      · have e : j = n := by omega
        subst e
        rintro ⟨a, b⟩
        rw [if_pos a, if_pos b] at h
        omega
    · intro h
      rw [ih.mpr (fun j hj => h j (by omega))]
      by_cases a : M 14 n = key
      · by_cases b : M 20 n = 0
        · exact absurd ⟨a, b⟩ (h n (by omega))
        · rw [if_pos a, if_neg b]
      · rw [if_neg a]
theorem mSlowL_iff (M : gMd) (key : Int32) : ∀ (n j : Nat) (b : Bool), mSlowL M key n j b = true ↔ (b = true ∧ ∀ i, j ≤ i → i < j + n → ¬ (M 14 i = key ∧ M 20 i = 0))
  | 0, j, b => ⟨fun h => ⟨h, fun i h1 h2 => by omega⟩, fun h => h.1⟩
  | n + 1, j, b => by
    show mSlowL M key n (j + 1) (b && (!decide (M 14 j = key) || !decide (M 20 j = 0))) = true ↔ _
    rw [mSlowL_iff M key n (j + 1)]
    simp only [Bool.and_eq_true, Bool.or_eq_true, Bool.not_eq_true', decide_eq_false_iff_not]
    constructor
    · rintro ⟨⟨h1, h2⟩, h3⟩
      refine ⟨h1, fun i hi hin => ?_⟩
      by_cases e : i = j
      · subst e
        rintro ⟨a, c⟩
        rcases h2 with h2 | h2
        · exact h2 a
        · exact h2 c
      · exact h3 i (by omega) (by omega)
    · rintro ⟨h1, h2⟩
      refine ⟨⟨h1, ?_⟩, fun i hi hin => h2 i (by omega) (by omega)⟩
      by_cases a : M 14 j = key
      · exact Or.inr (fun c => h2 j (by omega) (by omega) ⟨a, c⟩)
      · exact Or.inl a
/-- slow, by the number of open holds -/
theorem mSlow_eq (M : gMd) (nc : Nat) (hn : nc ≤ 80) (key : Int32) : mSlow M nc key = (decide (M 8 (ix key) = 0) && decide (sL (wO M key) nc = 0)) := by
  rw [Bool.eq_iff_iff]
  unfold mSlow
  rw [mSlowL_iff, Bool.and_eq_true]
  refine and_congr_right (fun _ => ?_)
  rw [decide_eq_true_eq, oN_eq, show ((0 : Int32)) = nI 0 from nI_0.symm, nI_eq (by have := oN_le M key nc; omega) (by decide), oN_0]
  constructor
  · intro h j hj
    have := h j (Nat.zero_le j) (by omega)
    exact this
  · intro h i _ hi
    exact h i (by omega)
