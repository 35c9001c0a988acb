theorem mw_s (M : gMd) (c i : Nat) (v : Int32) : mw M c i v c i = v := by
  rw [mw_self]
  simp [upd]
theorem mw_o (M : gMd) {c i d k : Nat} {v : Int32} (h : d ≠ c ∨ k ≠ i) : mw M c i v d k = M d k := by
  by_cases e : d = c
  · subst e
    rw [mw_self]
    rcases h with h | h
    · exact absurd rfl h
    · simp [upd, h]
  · rw [mw_ne M e]
theorem mwell_o (M : gMd) {t : Int32} {c i : Nat} (h : c ≠ 0) : mWell M t c i = M c i := mw_o M (Or.inl h)
theorem mwell_s (M : gMd) (t : Int32) : mWell M t 0 0 = t := mw_s M 0 0 t
theorem iK_s (I : gMd) (j : Nat) (t ln cr db hd op sp pd : Int32) : iK I j t ln cr db hd op sp pd 7 j = t ∧ iK I j t ln cr db hd op sp pd 8 j = ln ∧ iK I j t ln cr db hd op sp pd 9 j = cr ∧ iK I j t ln cr db hd op sp pd 10 j = db ∧ iK I j t ln cr db hd op sp pd 11 j = hd ∧ iK I j t ln cr db hd op sp pd 12 j = op ∧ iK I j t ln cr db hd op sp pd 13 j = sp ∧ iK I j t ln cr db hd op sp pd 14 j = pd :=
  ⟨if_pos rfl, if_pos rfl, if_pos rfl, if_pos rfl, if_pos rfl, if_pos rfl, if_pos rfl, if_pos rfl⟩
theorem lo_nI {m d : Nat} (hm : m < 2 ^ 31) (hd : d < 2 ^ 31) : (if nI m < nI d then nI m else nI d) = nI (min m d) := by
  by_cases h : m < d
  · rw [if_pos (nI_lt h hd), Nat.min_eq_left (by omega)]
  · rw [if_neg (nI_nlt (by omega) hm), Nat.min_eq_right (by omega)]
/-- money to the debt first, the rest to the credit -/
theorem give_pI {cr db : Int32} {A B m : Nat} (hc : pI cr (A + 1)) (hd : pI db (B + 1)) (hB : B < 2 ^ 30) (hm : m < 2 ^ 30) : pI (cr + (nI m - (if nI m < db then nI m else db))) (A + m + 1) ∧ pI (db - (if nI m < db then nI m else db)) (B + 1) := by
  obtain ⟨a, ha, rfl⟩ := hc
  obtain ⟨d, hd, rfl⟩ := hd
  rw [lo_nI (by omega) (by omega), pk_sub (Nat.min_le_left m d), pk_sub (Nat.min_le_right m d), nI_add]
  exact ⟨⟨_, by omega, rfl⟩, ⟨_, by omega, rfl⟩⟩
section PRE
variable {N : gNm} {I M : gMd} {tk T : Nat}
theorem Sim_ix {n : Nat} {v : Int32} {j : Nat} (hn : n < 1000) (hj : j < n) (hv : v = nI j) : ix v = j := by rw [hv]; exact ix_nI (by omega)
theorem P_setTrust (h : Sim N I M tk T) (hT : T < 520) {key line : Int32} {j : Nat} (hj : j < N 0 7) (hk : key = nI j) (hl : mIn line 0 10000 = true) : ∃ M1, mSetTrust M key line = (I 8 j, M1) ∧ M1 0 0 = 0 ∧ Sim N (iK I j (I 7 j) line (I 9 j) (I 10 j) (I 11 j) (I 12 j) (I 13 j) (I 14 j)) M1 tk (T + 1) := by
  have hkey : mKey M key = true := (Sim_key h).mpr ⟨j, hj, hk⟩
  have ej : ix key = j := Sim_ix (by have := h.2.1.2.2.1; omega) hj hk
  obtain ⟨⟨a1, a2, a3, a4, a5, a6⟩, ⟨b1, b2, b3⟩, c1, c2, c3, c4⟩ := h.2.2.2.2.1 j hj
  obtain ⟨k7, k8, k9, k10, k11, k12, k13, k14⟩ := iK_s I j (I 7 j) line (I 9 j) (I 10 j) (I 11 j) (I 12 j) (I 13 j) (I 14 j)
  unfold mSetTrust
  rw [if_neg (by rw [hkey]; decide), if_neg (by rw [hl]; decide), ej]
  refine ⟨mw (mWell M 0) 9 j line, by rw [show mWell M 0 9 j = I 8 j from a3.symm], rfl, Sim_row h hj (by omega) (by omega) (fun c i hh => iK_o _ _ _ _ _ _ _ _ _ _ hh) (fun c i hc hh => ?_) ?_⟩
  · rw [mw_o _ (show c ≠ 9 ∨ i ≠ j by omega), mwell_o _ hc]
  · refine ⟨⟨a1, k7.trans a2, k8.trans (mw_s _ _ _ _).symm, k9.trans a4, k10.trans a5, k14.trans a6⟩, ⟨k11.trans b1, k12.trans b2, k13.trans b3⟩, pI_mono c1 (by omega), pI_mono c2 (by omega), pI_mono c3 (by omega), ?_⟩
    obtain ⟨q, -, hq, e⟩ := mIn_up (n := 10000) (a := 0) (by decide) (by decide) hl
    exact ⟨q, by omega, by rw [mw_s]; exact e⟩
theorem P_pay (h : Sim N I M tk T) (hT : T < 520) {key money : Int32} {j : Nat} (hj : j < N 0 7) (hk : key = nI j) (hl : mIn money 1 100000 = true) : ∃ M1, mPay M key money = ((I 9 j) + (money - (if money < (I 10 j) then money else (I 10 j))), M1) ∧ M1 0 0 = 0 ∧ Sim N (iK I j (I 7 j) (I 8 j) ((I 9 j) + (money - (if money < (I 10 j) then money else (I 10 j)))) ((I 10 j) - (if money < (I 10 j) then money else (I 10 j))) (I 11 j) (I 12 j) (I 13 j) ((I 14 j) + money)) M1 tk (T + 1) := by
  have hkey : mKey M key = true := (Sim_key h).mpr ⟨j, hj, hk⟩
  have ej : ix key = j := Sim_ix (by have := h.2.1.2.2.1; omega) hj hk
  obtain ⟨⟨a1, a2, a3, a4, a5, a6⟩, ⟨b1, b2, b3⟩, c1, c2, c3, c4⟩ := h.2.2.2.2.1 j hj
  obtain ⟨q, -, hq, e⟩ := mIn_up (n := 100000) (a := 1) (by decide) (by decide) hl
  have hg := give_pI (m := q) c1 c2 (by have := h.1; omega) (by omega)
  obtain ⟨k7, k8, k9, k10, k11, k12, k13, k14⟩ := iK_s I j (I 7 j) (I 8 j) ((I 9 j) + (money - (if money < (I 10 j) then money else (I 10 j)))) ((I 10 j) - (if money < (I 10 j) then money else (I 10 j))) (I 11 j) (I 12 j) (I 13 j) ((I 14 j) + money)
  unfold mPay
  rw [if_neg (by rw [hkey]; decide), if_neg (by rw [hl]; decide)]
  have hG : mGive (mWell M 0) key money = mw (mw (mWell M 0) 10 j (M 10 j - (if money < M 10 j then money else M 10 j))) 8 j (M 8 j + (money - (if money < M 10 j then money else M 10 j))) := by
    unfold mGive
    rw [ej]
    rfl
  have w8 : ∀ v : Int32, (mw (mGive (mWell M 0) key money) 12 j v) 8 j = M 8 j + (money - (if money < M 10 j then money else M 10 j)) := fun v => by
    rw [mw_o _ (Or.inl (by decide)), hG, mw_s]
  refine ⟨mw (mGive (mWell M 0) key money) 12 (ix key) (mGive (mWell M 0) key money 12 (ix key) + money), ?_, ?_, Sim_row h hj (by omega) (by omega) (fun c i hh => iK_o _ _ _ _ _ _ _ _ _ _ hh) (fun c i hc hh => ?_) ?_⟩
  · show (_, _) = (_, _)
    rw [ej, w8, a4, a5]
  · rw [ej, mw_o _ (Or.inl (by decide)), hG, mw_o _ (Or.inl (by decide)), mw_o _ (Or.inl (by decide)), mwell_s]
  · rw [ej, mw_o _ (show c ≠ 12 ∨ i ≠ j by omega), hG, mw_o _ (show c ≠ 8 ∨ i ≠ j by omega), mw_o _ (show c ≠ 10 ∨ i ≠ j by omega), mwell_o _ hc]
  · rw [ej, hG]
    refine ⟨⟨a1, k7.trans a2, k8.trans a3, ?_, ?_, ?_⟩, ⟨k11.trans b1, k12.trans b2, k13.trans b3⟩, ?_, ?_, pI_mono c3 (by omega), c4⟩
    · rw [k9, mw_o _ (Or.inl (by decide)), mw_s, a4, a5]
    · rw [k10, mw_o _ (Or.inl (by decide)), mw_o _ (Or.inl (by decide)), mw_s, a5]
    · rw [k14, mw_s, mw_o _ (Or.inl (by decide)), mw_o _ (Or.inl (by decide)), mwell_o _ (by decide), a6]
    · rw [mw_o _ (Or.inl (by decide)), mw_s, e]
      exact pI_mono hg.1 (by omega)
    · rw [mw_o _ (Or.inl (by decide)), mw_o _ (Or.inl (by decide)), mw_s, e]
      exact pI_mono hg.2 (by omega)
end PRE
