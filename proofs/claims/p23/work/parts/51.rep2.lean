section GRQ
variable {cy : Nat → ClassId} {de : Nat} {N : gNm} {I : gMd} {f : gFm}
theorem gL_ek {lk ek n : Nat} {ad : Nat → Nat} (h : gL cy de f lk ek n ad) : ∃ x, f ek = some x := by
  obtain ⟨mc, ⟨a1, a2, a3⟩ | ⟨cap, y, a1, a2, -⟩⟩ := h
  · exact ⟨_, by rw [a2]; exact a3⟩
  · exact ⟨_, a2⟩
theorem gIn_up {n q : Nat} {ad : Nat → Nat} (h : gIn n ad) (hq : ∀ i, i < n → ad i ≠ q) : gIn (n + 1) (va_up ad n q) := by
  intro i j hi hj e
  by_cases h1 : i = n
  · by_cases h2 : j = n
    · rw [h1, h2]
    · rw [h1, va_up_self, va_up_ne _ _ h2] at e
      exact absurd e.symm (hq j (by omega))
  · by_cases h2 : j = n
    · rw [h2, va_up_self, va_up_ne _ _ h1] at e
      exact absurd e (hq i (by omega))
    · rw [va_up_ne _ _ h1, va_up_ne _ _ h2] at e
      exact h i j (by omega) (by omega) e
def nPlan (N : gNm) (j p0 : Nat) : gNm := fun c => match c with | 5 => va_up (N 5) j p0 | c => N c
def nKey (N : gNm) (ek1 q p0 : Nat) : gNm := fun c => match c with | 0 => (fun i => match i with | 5 => ek1 | 7 => N 0 7 + 1 | i => N 0 i) | 3 => va_up (N 3) (N 0 7) q | 5 => va_up (N 5) (N 0 7) p0 | c => N c
def nCall (N : gNm) (ek1 q k0 : Nat) : gNm := fun c => match c with | 0 => (fun i => match i with | 6 => ek1 | 8 => N 0 8 + 1 | i => N 0 i) | 4 => va_up (N 4) (N 0 8) q | 6 => va_up (N 6) (N 0 8) k0 | c => N c
theorem gR_setP5 (h : gR cy de N I f) {j0 p0 : Nat} (h0 : j0 < N 0 7) (hp : p0 < 4) : gR cy de (nPlan N j0 p0) I (va_up f (N 3 j0) (some (.inr (2, [.ref (N 1 p0), .int (I 7 j0), .int (I 8 j0), .int (I 9 j0), .int (I 10 j0), .int (I 11 j0), .int (I 12 j0), .int (I 13 j0), .int (I 14 j0)])))) := by
  have ha := gR_ke h h0
  have hn : ∀ b ci fs, f b = some (.inr (ci, fs)) → ci ≠ 2 → b ≠ N 3 j0 := fun b ci fs hb hc => g_ne ha hb (Ne.symm hc)
  obtain ⟨k1, k2, ⟨y, k3, k3'⟩, ⟨z, k4, k4'⟩, k5, k6⟩ := h
  obtain ⟨o1, o2, o3, o4, o5⟩ := k1
  refine ⟨⟨?_, fun j hj => ?_, fun j hj => ?_, fun j hj => ⟨?_, ?_⟩, fun j hj => ⟨?_, (o5 j hj).2⟩⟩, k2, ⟨y, (va_up_ne _ _ (fun e => ?_)).trans k3, k3'⟩, ⟨z, (va_up_ne _ _ (fun e => ?_)).trans k4, k4'⟩, gL_of k5 (va_up_ne _ _ (gL_ap k5 ha (by decide)).1.symm) (va_up_ne _ _ (gL_ap k5 ha (by decide)).2.symm) (fun _ _ => rfl), gL_of k6 (va_up_ne _ _ (gL_ap k6 ha (by decide)).1.symm) (va_up_ne _ _ (gL_ap k6 ha (by decide)).2.symm) (fun _ _ => rfl)⟩
  · exact (va_up_ne _ _ (hn _ _ _ o1 (by decide))).trans o1
  · exact (va_up_ne _ _ (hn _ _ _ (o2 j hj) (by decide))).trans (o2 j hj)
  · exact (va_up_ne _ _ (hn _ _ _ (o3 j hj) (by decide))).trans (o3 j hj)
  · by_cases e : j = j0
    · subst e
      show va_up f (N 3 j) _ (N 3 j) = some (.inr (2, [.ref (N 1 (va_up (N 5) j p0 j)), _, _, _, _, _, _, _, _]))
      rw [va_up_self, va_up_self]
    · show va_up f (N 3 j0) _ (N 3 j) = some (.inr (2, [.ref (N 1 (va_up (N 5) j0 p0 j)), _, _, _, _, _, _, _, _]))
      rw [va_up_ne _ _ (fun q => e (k2.2.2.2.2.2.2.1 j j0 hj h0 q)), va_up_ne _ _ e]
      exact (o4 j hj).1
  · show va_up (N 5) j0 p0 j < 4
    by_cases e : j = j0
    · rw [e, va_up_self]; exact hp
    · rw [va_up_ne _ _ e]; exact (o4 j hj).2
  · exact (va_up_ne _ _ (hn _ _ _ (o5 j hj).1 (by decide))).trans (o5 j hj).1
  · rw [show N 0 1 = N 3 j0 from e, ha] at k3; cases k3
  · rw [show N 0 2 = N 3 j0 from e, ha] at k4; cases k4

abbrev va_E9 (x : Nat × List Value) : va_E := .inr x
theorem gR_newK (h : gR cy de N I f) (hn : N 0 7 < 8) {q : Nat} (hq : f q = none) {p0 : Nat} (hp : p0 < 4) (t ln cr db hd op sp pd : Int32) {f3 f9 : gFm} (h3 : f3 = va_up f q (some (.inr (2, [.ref (N 1 p0), .int t, .int ln, .int cr, .int db, .int hd, .int op, .int sp, .int pd])))) {ek1 : Nat} (hL : gL cy de f9 (N 0 3) ek1 (N 0 7 + 1) (va_up (N 3) (N 0 7) q)) (he : ek1 = N 0 5 ∨ f3 ek1 = none) (hs : ∀ b, b ≠ N 0 3 → b ≠ ek1 → f9 b = f3 b) : gR cy de (nKey N ek1 q p0) (iK I (N 0 7) t ln cr db hd op sp pd) f9 := by
  obtain ⟨k1, k2, ⟨y, k3, k3'⟩, ⟨z, k4, k4'⟩, k5, k6⟩ := h
  obtain ⟨o1, o2, o3, o4, o5⟩ := k1
  obtain ⟨⟨a1, a2, a3, a4⟩, ⟨a5, a6, a7, a8⟩, a9, a10, a11, a12, a13, a14⟩ := k2
  obtain ⟨x5, hx5⟩ := gL_ek k5
  obtain ⟨x6, hx6⟩ := gL_ek k6
  obtain ⟨l5, hl5⟩ := gL_lk k5
  obtain ⟨l6, hl6⟩ := gL_lk k6
  have hqs : ∀ b x, f b = some x → b ≠ q := fun b x hb => g_nn hb hq
  have h3s : ∀ b x, f b = some x → f3 b = some x := fun b x hb => by rw [h3, va_up_ne _ _ (hqs b x hb)]; exact hb
  have hek : ∀ b x, f b = some x → b ≠ N 0 5 → b ≠ ek1 := fun b x hb hne e => by
    rcases he with he | he
    · exact hne (e.trans he)
    · rw [← e, h3s b x hb] at he; cases he
  have h9 : ∀ b x, f b = some x → b ≠ N 0 3 → b ≠ N 0 5 → f9 b = some x := fun b x hb h1 h2 => (hs b h1 (hek b x hb h2)).trans (h3s b x hb)
  have hob : ∀ b ci fs, f b = some (.inr (ci, fs)) → ci ≠ 0 → f9 b = some (.inr (ci, fs)) := fun b ci fs hb hc => h9 b _ hb (gL_ap k5 hb hc).1 (gL_ap k5 hb hc).2
  have h3q : f3 q = some (.inr (2, [.ref (N 1 p0), .int t, .int ln, .int cr, .int db, .int hd, .int op, .int sp, .int pd])) := by rw [h3, va_up_self]
  have hqe : q ≠ ek1 := fun e => by
    rcases he with he | he
    · exact hqs _ _ hx5 (e.trans he).symm
    · rw [← e, h3q] at he; cases he
  have h9q : f9 q = some (.inr (2, [.ref (N 1 p0), .int t, .int ln, .int cr, .int db, .int hd, .int op, .int sp, .int pd])) := (hs q (fun e => hqs _ _ hl5 e.symm) hqe).trans h3q
  have hag : ∀ c i, (i ≠ N 0 7 ∨ c < 7 ∨ 14 < c) → (iK I (N 0 7) t ln cr db hd op sp pd) c i = I c i := fun c i hh => iK_o I (N 0 7) t ln cr db hd op sp pd hh
  refine ⟨⟨?_, fun j hj => ?_, fun j hj => ?_, fun j hj => ?_, fun j hj => ?_⟩, ⟨?_, ?_, ?_, ?_, a11, a12, ?_, ?_⟩, ⟨y, ?_, k3'⟩, ⟨z, ?_, k4'⟩, ?_, ?_⟩
  · have k := hob _ _ _ o1 (by decide)
    refine k.trans ?_
    show _ = some (va_E9 (5, [.ref (N 0 1), .ref (N 0 2), .ref (N 0 3), .ref (N 0 4), .int ((iK I (N 0 7) t ln cr db hd op sp pd) 0 0), .int ((iK I (N 0 7) t ln cr db hd op sp pd) 1 0)]))
    rw [hag 0 _ (Or.inr (Or.inl (by decide))), hag 1 _ (Or.inr (Or.inl (by decide)))]
  · refine (hob _ _ _ (o2 j hj) (by decide)).trans ?_
    simp only [gPc, hag 2 _ (Or.inr (Or.inl (by decide))), hag 3 _ (Or.inr (Or.inl (by decide))), hag 4 _ (Or.inr (Or.inl (by decide)))]
  · refine (hob _ _ _ (o3 j hj) (by decide)).trans ?_
    simp only [gRc, hag 5 _ (Or.inr (Or.inl (by decide))), hag 6 _ (Or.inr (Or.inl (by decide)))]
  · have hj : j < N 0 7 + 1 := hj
    show f9 (va_up (N 3) (N 0 7) q j) = some (.inr (2, [.ref (N 1 (va_up (N 5) (N 0 7) p0 j)), .int ((iK I (N 0 7) t ln cr db hd op sp pd) 7 j), .int ((iK I (N 0 7) t ln cr db hd op sp pd) 8 j), .int ((iK I (N 0 7) t ln cr db hd op sp pd) 9 j), .int ((iK I (N 0 7) t ln cr db hd op sp pd) 10 j), .int ((iK I (N 0 7) t ln cr db hd op sp pd) 11 j), .int ((iK I (N 0 7) t ln cr db hd op sp pd) 12 j), .int ((iK I (N 0 7) t ln cr db hd op sp pd) 13 j), .int ((iK I (N 0 7) t ln cr db hd op sp pd) 14 j)])) ∧ va_up (N 5) (N 0 7) p0 j < 4
    by_cases e : j = N 0 7
    · subst e
      rw [va_up_self, va_up_self]
      refine ⟨h9q.trans ?_, hp⟩
      simp [iK]
    · rw [va_up_ne _ _ e, va_up_ne _ _ e]
      have k := o4 j (by omega)
      refine ⟨(hob _ _ _ k.1 (by decide)).trans ?_, k.2⟩
      simp only [gKc, hag 7 j (Or.inl e), hag 8 j (Or.inl e), hag 9 j (Or.inl e), hag 10 j (Or.inl e), hag 11 j (Or.inl e), hag 12 j (Or.inl e), hag 13 j (Or.inl e), hag 14 j (Or.inl e)]
  · have k := o5 j hj
    refine ⟨(hob _ _ _ k.1 (by decide)).trans ?_, Nat.lt_succ_of_lt k.2⟩
    show _ = some (va_E9 (1, [.ref (va_up (N 3) (N 0 7) q (N 6 j)), .int ((iK I (N 0 7) t ln cr db hd op sp pd) 15 j), .int ((iK I (N 0 7) t ln cr db hd op sp pd) 16 j), .int ((iK I (N 0 7) t ln cr db hd op sp pd) 17 j), .int ((iK I (N 0 7) t ln cr db hd op sp pd) 18 j), .int ((iK I (N 0 7) t ln cr db hd op sp pd) 19 j), .int ((iK I (N 0 7) t ln cr db hd op sp pd) 20 j)]))
    rw [va_up_ne _ _ (show N 6 j ≠ N 0 7 from Nat.ne_of_lt k.2), hag 15 _ (Or.inr (Or.inr (by decide))), hag 16 _ (Or.inr (Or.inr (by decide))), hag 17 _ (Or.inr (Or.inr (by decide))), hag 18 _ (Or.inr (Or.inr (by decide))), hag 19 _ (Or.inr (Or.inr (by decide))), hag 20 _ (Or.inr (Or.inr (by decide)))]
  · exact ⟨a1, a2, fun e => (hek _ _ hl6 (fun z9 => a3 z9.symm)) e.symm, fun e => (hek _ _ hx6 (fun z9 => a4 z9.symm)) e.symm⟩
  · exact ⟨fun e => (hek _ _ k3 (fun z9 => a5 z9.symm)) e.symm, fun e => (hek _ _ k4 (fun z9 => a6 z9.symm)) e.symm, a7, a8⟩
  · show N 0 7 + 1 ≤ 8
    omega
  · exact a10
  · exact gIn_up a13 (fun i hi => hqs _ _ (o4 i hi).1)
  · exact a14
  · exact h9 _ _ k3 (fun e => by rw [show N 0 1 = N 0 3 from e, hl5] at k3; cases k3) (fun e => a5 e.symm)
  · exact h9 _ _ k4 (fun e => by rw [show N 0 2 = N 0 3 from e, hl5] at k4; cases k4) (fun e => a6 e.symm)
  · exact hL
  · exact gL_of k6 ((h9 _ _ hl6 (fun e => a1 e.symm) (fun e => a3 e.symm)).trans hl6.symm) ((h9 _ _ hx6 (fun e => a2 e.symm) (fun e => a4 e.symm)).trans hx6.symm) (fun _ _ => rfl)

theorem gR_newC (h : gR cy de N I f) (hn : N 0 8 < 80) {q : Nat} (hq : f q = none) {p0 : Nat} (hp : p0 < N 0 7) (w wt du co et di : Int32) {f3 f9 : gFm} (h3 : f3 = va_up f q (some (.inr (1, [.ref (N 3 p0), .int w, .int wt, .int du, .int co, .int et, .int di])))) {ek1 : Nat} (hL : gL cy de f9 (N 0 4) ek1 (N 0 8 + 1) (va_up (N 4) (N 0 8) q)) (he : ek1 = N 0 6 ∨ f3 ek1 = none) (hs : ∀ b, b ≠ N 0 4 → b ≠ ek1 → f9 b = f3 b) : gR cy de (nCall N ek1 q p0) (iC I (N 0 8) w wt du co et di) f9 := by
  obtain ⟨k1, k2, ⟨y, k3, k3'⟩, ⟨z, k4, k4'⟩, k5, k6⟩ := h
  obtain ⟨o1, o2, o3, o4, o5⟩ := k1
  obtain ⟨⟨a1, a2, a3, a4⟩, ⟨a5, a6, a7, a8⟩, a9, a10, a11, a12, a13, a14⟩ := k2
  obtain ⟨x5, hx5⟩ := gL_ek k6
  obtain ⟨x6, hx6⟩ := gL_ek k5
  obtain ⟨l5, hl5⟩ := gL_lk k6
  obtain ⟨l6, hl6⟩ := gL_lk k5
  have hqs : ∀ b x, f b = some x → b ≠ q := fun b x hb => g_nn hb hq
  have h3s : ∀ b x, f b = some x → f3 b = some x := fun b x hb => by rw [h3, va_up_ne _ _ (hqs b x hb)]; exact hb
  have hek : ∀ b x, f b = some x → b ≠ N 0 6 → b ≠ ek1 := fun b x hb hne e => by
    rcases he with he | he
    · exact hne (e.trans he)
    · rw [← e, h3s b x hb] at he; cases he
  have h9 : ∀ b x, f b = some x → b ≠ N 0 4 → b ≠ N 0 6 → f9 b = some x := fun b x hb h1 h2 => (hs b h1 (hek b x hb h2)).trans (h3s b x hb)
  have hob : ∀ b ci fs, f b = some (.inr (ci, fs)) → ci ≠ 0 → f9 b = some (.inr (ci, fs)) := fun b ci fs hb hc => h9 b _ hb (gL_ap k6 hb hc).1 (gL_ap k6 hb hc).2
  have h3q : f3 q = some (.inr (1, [.ref (N 3 p0), .int w, .int wt, .int du, .int co, .int et, .int di])) := by rw [h3, va_up_self]
  have hqe : q ≠ ek1 := fun e => by
    rcases he with he | he
    · exact hqs _ _ hx5 (e.trans he).symm
    · rw [← e, h3q] at he; cases he
  have h9q : f9 q = some (.inr (1, [.ref (N 3 p0), .int w, .int wt, .int du, .int co, .int et, .int di])) := (hs q (fun e => hqs _ _ hl5 e.symm) hqe).trans h3q
  have hag : ∀ c i, (i ≠ N 0 8 ∨ c < 15 ∨ 20 < c) → (iC I (N 0 8) w wt du co et di) c i = I c i := fun c i hh => iC_o I (N 0 8) w wt du co et di hh
  refine ⟨⟨?_, fun j hj => ?_, fun j hj => ?_, fun j hj => ?_, fun j hj => ?_⟩, ⟨?_, ?_, ?_, ?_, a11, a12, ?_, ?_⟩, ⟨y, ?_, k3'⟩, ⟨z, ?_, k4'⟩, ?_, ?_⟩
  · have k := hob _ _ _ o1 (by decide)
    refine k.trans ?_
    show _ = some (va_E9 (5, [.ref (N 0 1), .ref (N 0 2), .ref (N 0 3), .ref (N 0 4), .int ((iC I (N 0 8) w wt du co et di) 0 0), .int ((iC I (N 0 8) w wt du co et di) 1 0)]))
    rw [hag 0 _ (Or.inr (Or.inl (by decide))), hag 1 _ (Or.inr (Or.inl (by decide)))]
  · refine (hob _ _ _ (o2 j hj) (by decide)).trans ?_
    simp only [gPc, hag 2 _ (Or.inr (Or.inl (by decide))), hag 3 _ (Or.inr (Or.inl (by decide))), hag 4 _ (Or.inr (Or.inl (by decide)))]
  · refine (hob _ _ _ (o3 j hj) (by decide)).trans ?_
    simp only [gRc, hag 5 _ (Or.inr (Or.inl (by decide))), hag 6 _ (Or.inr (Or.inl (by decide)))]
  · have k := o4 j hj
    refine ⟨(hob _ _ _ k.1 (by decide)).trans ?_, k.2⟩
    show _ = some (va_E9 (2, [.ref (N 1 (N 5 j)), .int ((iC I (N 0 8) w wt du co et di) 7 j), .int ((iC I (N 0 8) w wt du co et di) 8 j), .int ((iC I (N 0 8) w wt du co et di) 9 j), .int ((iC I (N 0 8) w wt du co et di) 10 j), .int ((iC I (N 0 8) w wt du co et di) 11 j), .int ((iC I (N 0 8) w wt du co et di) 12 j), .int ((iC I (N 0 8) w wt du co et di) 13 j), .int ((iC I (N 0 8) w wt du co et di) 14 j)]))
    rw [hag 7 _ (Or.inr (Or.inl (by decide))), hag 8 _ (Or.inr (Or.inl (by decide))), hag 9 _ (Or.inr (Or.inl (by decide))), hag 10 _ (Or.inr (Or.inl (by decide))), hag 11 _ (Or.inr (Or.inl (by decide))), hag 12 _ (Or.inr (Or.inl (by decide))), hag 13 _ (Or.inr (Or.inl (by decide))), hag 14 _ (Or.inr (Or.inl (by decide)))]
  · have hj : j < N 0 8 + 1 := hj
    show f9 (va_up (N 4) (N 0 8) q j) = some (.inr (1, [.ref (N 3 (va_up (N 6) (N 0 8) p0 j)), .int ((iC I (N 0 8) w wt du co et di) 15 j), .int ((iC I (N 0 8) w wt du co et di) 16 j), .int ((iC I (N 0 8) w wt du co et di) 17 j), .int ((iC I (N 0 8) w wt du co et di) 18 j), .int ((iC I (N 0 8) w wt du co et di) 19 j), .int ((iC I (N 0 8) w wt du co et di) 20 j)])) ∧ va_up (N 6) (N 0 8) p0 j < N 0 7
    by_cases e : j = N 0 8
    · subst e
      rw [va_up_self, va_up_self]
      refine ⟨h9q.trans ?_, hp⟩
      simp [iC]
    · rw [va_up_ne _ _ e, va_up_ne _ _ e]
      have k := o5 j (by omega)
      refine ⟨(hob _ _ _ k.1 (by decide)).trans ?_, k.2⟩
      simp only [gCc, hag 15 j (Or.inl e), hag 16 j (Or.inl e), hag 17 j (Or.inl e), hag 18 j (Or.inl e), hag 19 j (Or.inl e), hag 20 j (Or.inl e)]
  · exact ⟨a1, fun e => (hek _ _ hl6 (fun z9 => a2 z9)) e, a3, fun e => (hek _ _ hx6 (fun z9 => a4 z9)) e⟩
  · exact ⟨a5, a6, fun e => (hek _ _ k3 (fun z9 => a7 z9.symm)) e.symm, fun e => (hek _ _ k4 (fun z9 => a8 z9.symm)) e.symm⟩
  · exact a9
  · show N 0 8 + 1 ≤ 80
    omega
  · exact a13
  · exact gIn_up a14 (fun i hi => hqs _ _ (o5 i hi).1)
  · exact h9 _ _ k3 (fun e => by rw [show N 0 1 = N 0 4 from e, hl5] at k3; cases k3) (fun e => a7 e.symm)
  · exact h9 _ _ k4 (fun e => by rw [show N 0 2 = N 0 4 from e, hl5] at k4; cases k4) (fun e => a8 e.symm)
  · exact gL_of k5 ((h9 _ _ hl6 a1 a2).trans hl6.symm) ((h9 _ _ hx6 a3 a4).trans hx6.symm) (fun _ _ => rfl)
  · exact hL

end GRQ

theorem c_addK (l : Launch) (D : va_G) (cy : Nat → ClassId) (de : Nat) (f : gFm) (N : gNm) (I : gMd) (f0 : gFm) (q : Nat) (p0 : Nat) (t ln cr db hd op sp pd : Int32) (hR : gR cy de N I f0) (hn : N 0 7 < 8) (hq : f0 q = none) (hp : p0 < 4) (hf : f = va_up f0 q (some (.inr (2, [.ref (N 1 p0), .int t, .int ln, .int cr, .int db, .int hd, .int op, .int sp, .int pd])))) : gMi l yJx4a65c_add_9ea2d wsJx4a65c_add_9ea2d { frames := 6, cells := 1, slots := 200, locals := 190 } D cy de [.ref (N 0 3), .ref q] f (fun r9 f9 => r9 = 1 ∧ ∃ ek1, gR cy de (nKey N ek1 q p0) (iK I (N 0 7) t ln cr db hd op sp pd) f9) 1 200 := by
  have hqs : ∀ b x, f0 b = some x → b ≠ q := fun b x hb => g_nn hb hq
  have h3 : ∀ b x, f0 b = some x → f b = some x := fun b x hb => by rw [hf, va_up_ne _ _ (hqs b x hb)]; exact hb
  obtain ⟨x5, hx5⟩ := gL_ek hR.2.2.2.2.1
  obtain ⟨l5, hl5⟩ := gL_lk hR.2.2.2.2.1
  refine gMi_mono (c_Ladd l D cy de f (N 0 3) (N 0 5) (N 0 7) (N 3) q 2 _ ((RX1, TX1, 9)) (gL_of hR.2.2.2.2.1 ((h3 _ _ hl5).trans hl5.symm) ((h3 _ _ hx5).trans hx5.symm) (fun _ _ => rfl)) (by omega) (by rw [hf, va_up_self]) rfl (by decide) (fun z => hqs _ _ hl5 z.symm) (fun z => hqs _ _ hx5 z.symm) (fun j hj => ⟨2, _, (RX1, TX1, 9), h3 _ _ (gR_ke hR hj), rfl, by decide⟩)) (fun r f9 hw => ?_)
  obtain ⟨k1, ek1, k2, k3, k4⟩ := hw
  exact ⟨k1, ek1, gR_newK hR hn hq hp t ln cr db hd op sp pd hf k2 k3 k4⟩

theorem c_addC (l : Launch) (D : va_G) (cy : Nat → ClassId) (de : Nat) (f : gFm) (N : gNm) (I : gMd) (f0 : gFm) (q : Nat) (p0 : Nat) (w wt du co et di : Int32) (hR : gR cy de N I f0) (hn : N 0 8 < 80) (hq : f0 q = none) (hp : p0 < N 0 7) (hf : f = va_up f0 q (some (.inr (1, [.ref (N 3 p0), .int w, .int wt, .int du, .int co, .int et, .int di])))) : gMi l yJx4a65c_add_9ea2d wsJx4a65c_add_9ea2d { frames := 6, cells := 1, slots := 200, locals := 190 } D cy de [.ref (N 0 4), .ref q] f (fun r9 f9 => r9 = 1 ∧ ∃ ek1, gR cy de (nCall N ek1 q p0) (iC I (N 0 8) w wt du co et di) f9) 1 200 := by
  have hqs : ∀ b x, f0 b = some x → b ≠ q := fun b x hb => g_nn hb hq
  have h3 : ∀ b x, f0 b = some x → f b = some x := fun b x hb => by rw [hf, va_up_ne _ _ (hqs b x hb)]; exact hb
  obtain ⟨x5, hx5⟩ := gL_ek hR.2.2.2.2.2
  obtain ⟨l5, hl5⟩ := gL_lk hR.2.2.2.2.2
  refine gMi_mono (c_Ladd l D cy de f (N 0 4) (N 0 6) (N 0 8) (N 4) q 1 _ ((RX0, TX0, 7)) (gL_of hR.2.2.2.2.2 ((h3 _ _ hl5).trans hl5.symm) ((h3 _ _ hx5).trans hx5.symm) (fun _ _ => rfl)) (by omega) (by rw [hf, va_up_self]) rfl (by decide) (fun z => hqs _ _ hl5 z.symm) (fun z => hqs _ _ hx5 z.symm) (fun j hj => ⟨1, _, (RX0, TX0, 7), h3 _ _ (gR_ca hR hj), rfl, by decide⟩)) (fun r f9 hw => ?_)
  obtain ⟨k1, ek1, k2, k3, k4⟩ := hw
  exact ⟨k1, ek1, gR_newC hR hn hq hp w wt du co et di hf k2 k3 k4⟩
