-- ===== the gateway's objects in a world =====
theorem g_cast {p : Program} {l : Launch} {e : Env} {R : Room} {s : State} {m : MethodId} {args : Array Value} {below : List Frame} {meth : Method} {c : Code} {H : Heap} {locs : List Loc} {cells slots : Nat} {Q : State → Prop} {cc : ByteArray} {pc : Nat} {ls : Array Slot} {rest : List Value} {D : va_G} {cy : Nat → ClassId} {de : Nat} {A : Nat → Prop} {f : gFm} {a : Nat}
    (hexec : p.tables.exec = Jvm.exec) (hb : c.code = cc) {own : String} {index : Nat} (hown : s.vm.findClass own = some m.cls) (hI : gI D cy de A s f H locs) {ci : Nat} {fs : List Value} {q : vw_C} (hf : f a = some (.inr (ci, fs))) (hc : vwCl[ci]? = some q) (hlink : (Cond.classLink own index q.1).before args s = true) (hdg : decode cc pc = .ok (.checkcast index, 3))
    (kk : W p l e R s m args below meth c H locs cells slots Q (F0 m (pc + 3) ls (.ref a :: rest))) : W p l e R s m args below meth c H locs cells slots Q (F0 m pc ls (.ref a :: rest)) :=
  va_castS hexec hb hown hlink (hI.1.1 ci q hc).2 (gI_recv hI hf hc) hdg kk
abbrev gNm : Type := Nat → Nat → Nat
abbrev gKc (N : gNm) (I : gMd) (j : Nat) : List Value := [.ref (N 1 (N 5 j)), .int (I 7 j), .int (I 8 j), .int (I 9 j), .int (I 10 j), .int (I 11 j), .int (I 12 j), .int (I 13 j), .int (I 14 j)]
abbrev gCc (N : gNm) (I : gMd) (j : Nat) : List Value := [.ref (N 3 (N 6 j)), .int (I 15 j), .int (I 16 j), .int (I 17 j), .int (I 18 j), .int (I 19 j), .int (I 20 j)]
abbrev gPc (I : gMd) (j : Nat) : List Value := [.int (nI j), .int (I 2 j), .int (I 3 j), .int (I 4 j)]
abbrev gRc (I : gMd) (j : Nat) : List Value := [.int (I 5 j), .int (I 6 j)]
abbrev gTc (N : gNm) (I : gMd) : List Value := [.ref (N 0 1), .ref (N 0 2), .ref (N 0 3), .ref (N 0 4), .int (I 0 0), .int (I 1 0)]
def gQr (c : ClassId) (n : Nat) (f : gFm) (a : Nat) (ad : Nat → Nat) : Prop := ∃ y : Nat → Option Nat, f a = some (.inl (c, n, .inr (.inr (.inr (.inr y))))) ∧ ∀ j, j < n → y j = some (ad j)
def gIn (n : Nat) (ad : Nat → Nat) : Prop := ∀ i j, i < n → j < n → ad i = ad j → i = j
/-- what lies apart: the two lists, their arrays, the arrays of plans and routes -/
def gAp (N : gNm) : Prop := (N 0 3 ≠ N 0 4 ∧ N 0 3 ≠ N 0 6 ∧ N 0 5 ≠ N 0 4 ∧ N 0 5 ≠ N 0 6) ∧ (N 0 5 ≠ N 0 1 ∧ N 0 5 ≠ N 0 2 ∧ N 0 6 ≠ N 0 1 ∧ N 0 6 ≠ N 0 2) ∧ N 0 7 ≤ 8 ∧ N 0 8 ≤ 80 ∧ gIn 4 (N 1) ∧ gIn 6 (N 2) ∧ gIn (N 0 7) (N 3) ∧ gIn (N 0 8) (N 4)
def gOb (N : gNm) (I : gMd) (f : gFm) : Prop :=
  f (N 0 0) = some (.inr (5, gTc N I)) ∧ (∀ j, j < 4 → f (N 1 j) = some (.inr (3, gPc I j))) ∧ (∀ j, j < 6 → f (N 2 j) = some (.inr (4, gRc I j))) ∧ (∀ j, j < N 0 7 → f (N 3 j) = some (.inr (2, gKc N I j)) ∧ N 5 j < 4) ∧ (∀ j, j < N 0 8 → f (N 4 j) = some (.inr (1, gCc N I j)) ∧ N 6 j < N 0 7)
def gR (cy : Nat → ClassId) (de : Nat) (N : gNm) (I : gMd) (f : gFm) : Prop :=
  gOb N I f ∧ gAp N ∧ gQr (cy 3) 4 f (N 0 1) (N 1) ∧ gQr (cy 4) 6 f (N 0 2) (N 2) ∧ gL cy de f (N 0 3) (N 0 5) (N 0 7) (N 3) ∧ gL cy de f (N 0 4) (N 0 6) (N 0 8) (N 4)
section GRP
variable {cy : Nat → ClassId} {de : Nat} {N : gNm} {I : gMd} {f : gFm}
theorem gR_tg (h : gR cy de N I f) : f (N 0 0) = some (.inr (5, gTc N I)) := h.1.1
theorem gR_pl (h : gR cy de N I f) {j : Nat} (hj : j < 4) : f (N 1 j) = some (.inr (3, gPc I j)) := h.1.2.1 j hj
theorem gR_ro (h : gR cy de N I f) {j : Nat} (hj : j < 6) : f (N 2 j) = some (.inr (4, gRc I j)) := h.1.2.2.1 j hj
theorem gR_ke (h : gR cy de N I f) {j : Nat} (hj : j < N 0 7) : f (N 3 j) = some (.inr (2, gKc N I j)) := (h.1.2.2.2.1 j hj).1
theorem gR_kp (h : gR cy de N I f) {j : Nat} (hj : j < N 0 7) : N 5 j < 4 := (h.1.2.2.2.1 j hj).2
theorem gR_ca (h : gR cy de N I f) {j : Nat} (hj : j < N 0 8) : f (N 4 j) = some (.inr (1, gCc N I j)) := (h.1.2.2.2.2 j hj).1
theorem gR_ck (h : gR cy de N I f) {j : Nat} (hj : j < N 0 8) : N 6 j < N 0 7 := (h.1.2.2.2.2 j hj).2
theorem gR_nk (h : gR cy de N I f) : N 0 7 ≤ 8 := h.2.1.2.2.1
theorem gR_nc (h : gR cy de N I f) : N 0 8 ≤ 80 := h.2.1.2.2.2.1
/-- one object's cell is another: lists and arrays are as they were -/
theorem gR_up {I1 : gMd} {f1 : gFm} {a ci : Nat} {fs : List Value} (h : gR cy de N I f) (ha : f a = some (.inr (ci, fs))) (hc : ci ≠ 0) (h1 : ∀ b, b ≠ a → f1 b = f b) (ho : gOb N I1 f1) : gR cy de N I1 f1 := by
  obtain ⟨k1, k2, ⟨y, k3, k3'⟩, ⟨z, k4, k4'⟩, k5, k6⟩ := h
  refine ⟨ho, k2, ⟨y, (h1 _ (fun e => ?_)).trans k3, k3'⟩, ⟨z, (h1 _ (fun e => ?_)).trans k4, k4'⟩, gL_of k5 (h1 _ (gL_ap k5 ha hc).1.symm) (h1 _ (gL_ap k5 ha hc).2.symm) (fun _ _ => rfl), gL_of k6 (h1 _ (gL_ap k6 ha hc).1.symm) (h1 _ (gL_ap k6 ha hc).2.symm) (fun _ _ => rfl)⟩
  · rw [e, ha] at k3; cases k3
  · rw [e, ha] at k4; cases k4
def iT (I : gMd) (t x : Int32) : gMd := fun c i => match c with | 0 => t | 1 => x | c => I c i
def iP (I : gMd) (j : Nat) (a b d : Int32) : gMd := fun c i => if i = j then (match c with | 2 => a | 3 => b | 4 => d | c => I c i) else I c i
def iRt (I : gMd) (j : Nat) (a b : Int32) : gMd := fun c i => if i = j then (match c with | 5 => a | 6 => b | c => I c i) else I c i
def iK (I : gMd) (j : Nat) (t ln cr db hd op sp pd : Int32) : gMd := fun c i => if i = j then (match c with | 7 => t | 8 => ln | 9 => cr | 10 => db | 11 => hd | 12 => op | 13 => sp | 14 => pd | c => I c i) else I c i
def iC (I : gMd) (j : Nat) (w wt du co et di : Int32) : gMd := fun c i => if i = j then (match c with | 15 => w | 16 => wt | 17 => du | 18 => co | 19 => et | 20 => di | c => I c i) else I c i
theorem gR_setT (h : gR cy de N I f) (t x : Int32) : gR cy de N (iT I t x) (va_up f (N 0 0) (some (.inr (5, [.ref (N 0 1), .ref (N 0 2), .ref (N 0 3), .ref (N 0 4), .int t, .int x])))) := by
  have ha := gR_tg h
  refine gR_up h ha (by decide) (fun b hb => va_up_ne _ _ hb) ⟨va_up_self _ _ _, fun j hj => ?_, fun j hj => ?_, fun j hj => ⟨?_, gR_kp h hj⟩, fun j hj => ⟨?_, gR_ck h hj⟩⟩
  · rw [va_up_ne _ _ (g_ne ha (gR_pl h hj) (by decide))]; exact gR_pl h hj
  · rw [va_up_ne _ _ (g_ne ha (gR_ro h hj) (by decide))]; exact gR_ro h hj
  · rw [va_up_ne _ _ (g_ne ha (gR_ke h hj) (by decide))]; exact gR_ke h hj
  · rw [va_up_ne _ _ (g_ne ha (gR_ca h hj) (by decide))]; exact gR_ca h hj
theorem iP_o (I : gMd) (j : Nat) (a b d : Int32) {c i : Nat} (h : i ≠ j ∨ c < 2 ∨ 4 < c) : iP I j a b d c i = I c i := by
  unfold iP
  by_cases hi : i = j
  · rw [if_pos hi]
    rcases h with h | h | h
    · exact absurd hi h
    · match c, h with | 0, _ => rfl | 1, _ => rfl
    · match c, h with | c + 5, _ => rfl
  · rw [if_neg hi]
theorem iRt_o (I : gMd) (j : Nat) (a b : Int32) {c i : Nat} (h : i ≠ j ∨ c < 5 ∨ 6 < c) : iRt I j a b c i = I c i := by
  unfold iRt
  by_cases hi : i = j
  · rw [if_pos hi]
    rcases h with h | h | h
    · exact absurd hi h
    · match c, h with | 0, _ => rfl | 1, _ => rfl | 2, _ => rfl | 3, _ => rfl | 4, _ => rfl
    · match c, h with | c + 7, _ => rfl
  · rw [if_neg hi]
theorem iK_o (I : gMd) (j : Nat) (t ln cr db hd op sp pd : Int32) {c i : Nat} (h : i ≠ j ∨ c < 7 ∨ 14 < c) : iK I j t ln cr db hd op sp pd c i = I c i := by
  unfold iK
  by_cases hi : i = j
  · rw [if_pos hi]
    rcases h with h | h | h
    · exact absurd hi h
    · match c, h with | 0, _ => rfl | 1, _ => rfl | 2, _ => rfl | 3, _ => rfl | 4, _ => rfl | 5, _ => rfl | 6, _ => rfl
    · match c, h with | c + 15, _ => rfl
  · rw [if_neg hi]
theorem iC_o (I : gMd) (j : Nat) (w wt du co et di : Int32) {c i : Nat} (h : i ≠ j ∨ c < 15 ∨ 20 < c) : iC I j w wt du co et di c i = I c i := by
  unfold iC
  by_cases hi : i = j
  · rw [if_pos hi]
    rcases h with h | h | h
    · exact absurd hi h
    · match c, h with | 0, _ => rfl | 1, _ => rfl | 2, _ => rfl | 3, _ => rfl | 4, _ => rfl | 5, _ => rfl | 6, _ => rfl | 7, _ => rfl | 8, _ => rfl | 9, _ => rfl | 10, _ => rfl | 11, _ => rfl | 12, _ => rfl | 13, _ => rfl | 14, _ => rfl
    · match c, h with | c + 21, _ => rfl
  · rw [if_neg hi]
theorem gR_setP (h : gR cy de N I f) {j0 : Nat} (h0 : j0 < 4) (a b d : Int32) : gR cy de N (iP I j0 a b d) (va_up f (N 1 j0) (some (.inr (3, [.int (nI j0), .int a, .int b, .int d])))) := by
  have ha := gR_pl h h0
  refine gR_up h ha (by decide) (fun b hb => va_up_ne _ _ hb) ⟨?_, fun j hj => ?_, fun j hj => ?_, fun j hj => ⟨?_, gR_kp h hj⟩, fun j hj => ⟨?_, gR_ck h hj⟩⟩
  · rw [va_up_ne _ _ (g_ne ha (gR_tg h) (by decide)), gR_tg h]; simp only [gTc, iP_o I j0 a b d (Or.inr (Or.inl (show 0 < 2 by decide))), iP_o I j0 a b d (Or.inr (Or.inl (show 1 < 2 by decide)))]
  · by_cases e : j = j0
    · subst e; rw [va_up_self]; simp [gPc, iP]
    · rw [va_up_ne _ _ (fun q => e (h.2.1.2.2.2.2.1 j j0 hj h0 q)), gR_pl h hj]; simp only [gPc, iP_o I j0 a b d (Or.inl e)]
  · rw [va_up_ne _ _ (g_ne ha (gR_ro h hj) (by decide)), gR_ro h hj]; simp only [gRc, iP_o I j0 a b d (Or.inr (Or.inr (show 4 < 5 by decide))), iP_o I j0 a b d (Or.inr (Or.inr (show 4 < 6 by decide)))]
  · rw [va_up_ne _ _ (g_ne ha (gR_ke h hj) (by decide)), gR_ke h hj]; simp only [gKc, iP_o I j0 a b d (Or.inr (Or.inr (show 4 < 7 by decide))), iP_o I j0 a b d (Or.inr (Or.inr (show 4 < 8 by decide))), iP_o I j0 a b d (Or.inr (Or.inr (show 4 < 9 by decide))), iP_o I j0 a b d (Or.inr (Or.inr (show 4 < 10 by decide))), iP_o I j0 a b d (Or.inr (Or.inr (show 4 < 11 by decide))), iP_o I j0 a b d (Or.inr (Or.inr (show 4 < 12 by decide))), iP_o I j0 a b d (Or.inr (Or.inr (show 4 < 13 by decide))), iP_o I j0 a b d (Or.inr (Or.inr (show 4 < 14 by decide)))]
  · rw [va_up_ne _ _ (g_ne ha (gR_ca h hj) (by decide)), gR_ca h hj]; simp only [gCc, iP_o I j0 a b d (Or.inr (Or.inr (show 4 < 15 by decide))), iP_o I j0 a b d (Or.inr (Or.inr (show 4 < 16 by decide))), iP_o I j0 a b d (Or.inr (Or.inr (show 4 < 17 by decide))), iP_o I j0 a b d (Or.inr (Or.inr (show 4 < 18 by decide))), iP_o I j0 a b d (Or.inr (Or.inr (show 4 < 19 by decide))), iP_o I j0 a b d (Or.inr (Or.inr (show 4 < 20 by decide)))]
theorem gR_setR (h : gR cy de N I f) {j0 : Nat} (h0 : j0 < 6) (a b : Int32) : gR cy de N (iRt I j0 a b) (va_up f (N 2 j0) (some (.inr (4, [.int a, .int b])))) := by
  have ha := gR_ro h h0
  refine gR_up h ha (by decide) (fun b hb => va_up_ne _ _ hb) ⟨?_, fun j hj => ?_, fun j hj => ?_, fun j hj => ⟨?_, gR_kp h hj⟩, fun j hj => ⟨?_, gR_ck h hj⟩⟩
  · rw [va_up_ne _ _ (g_ne ha (gR_tg h) (by decide)), gR_tg h]; simp only [gTc, iRt_o I j0 a b (Or.inr (Or.inl (show 0 < 5 by decide))), iRt_o I j0 a b (Or.inr (Or.inl (show 1 < 5 by decide)))]
  · rw [va_up_ne _ _ (g_ne ha (gR_pl h hj) (by decide)), gR_pl h hj]; simp only [gPc, iRt_o I j0 a b (Or.inr (Or.inl (show 2 < 5 by decide))), iRt_o I j0 a b (Or.inr (Or.inl (show 3 < 5 by decide))), iRt_o I j0 a b (Or.inr (Or.inl (show 4 < 5 by decide)))]
  · by_cases e : j = j0
    · subst e; rw [va_up_self]; simp [gRc, iRt]
    · rw [va_up_ne _ _ (fun q => e (h.2.1.2.2.2.2.2.1 j j0 hj h0 q)), gR_ro h hj]; simp only [gRc, iRt_o I j0 a b (Or.inl e)]
  · rw [va_up_ne _ _ (g_ne ha (gR_ke h hj) (by decide)), gR_ke h hj]; simp only [gKc, iRt_o I j0 a b (Or.inr (Or.inr (show 6 < 7 by decide))), iRt_o I j0 a b (Or.inr (Or.inr (show 6 < 8 by decide))), iRt_o I j0 a b (Or.inr (Or.inr (show 6 < 9 by decide))), iRt_o I j0 a b (Or.inr (Or.inr (show 6 < 10 by decide))), iRt_o I j0 a b (Or.inr (Or.inr (show 6 < 11 by decide))), iRt_o I j0 a b (Or.inr (Or.inr (show 6 < 12 by decide))), iRt_o I j0 a b (Or.inr (Or.inr (show 6 < 13 by decide))), iRt_o I j0 a b (Or.inr (Or.inr (show 6 < 14 by decide)))]
  · rw [va_up_ne _ _ (g_ne ha (gR_ca h hj) (by decide)), gR_ca h hj]; simp only [gCc, iRt_o I j0 a b (Or.inr (Or.inr (show 6 < 15 by decide))), iRt_o I j0 a b (Or.inr (Or.inr (show 6 < 16 by decide))), iRt_o I j0 a b (Or.inr (Or.inr (show 6 < 17 by decide))), iRt_o I j0 a b (Or.inr (Or.inr (show 6 < 18 by decide))), iRt_o I j0 a b (Or.inr (Or.inr (show 6 < 19 by decide))), iRt_o I j0 a b (Or.inr (Or.inr (show 6 < 20 by decide)))]
theorem gR_setK (h : gR cy de N I f) {j0 : Nat} (h0 : j0 < N 0 7) (t ln cr db hd op sp pd : Int32) : gR cy de N (iK I j0 t ln cr db hd op sp pd) (va_up f (N 3 j0) (some (.inr (2, [.ref (N 1 (N 5 j0)), .int t, .int ln, .int cr, .int db, .int hd, .int op, .int sp, .int pd])))) := by
  have ha := gR_ke h h0
  refine gR_up h ha (by decide) (fun b hb => va_up_ne _ _ hb) ⟨?_, fun j hj => ?_, fun j hj => ?_, fun j hj => ⟨?_, gR_kp h hj⟩, fun j hj => ⟨?_, gR_ck h hj⟩⟩
  · rw [va_up_ne _ _ (g_ne ha (gR_tg h) (by decide)), gR_tg h]; simp only [gTc, iK_o I j0 t ln cr db hd op sp pd (Or.inr (Or.inl (show 0 < 7 by decide))), iK_o I j0 t ln cr db hd op sp pd (Or.inr (Or.inl (show 1 < 7 by decide)))]
  · rw [va_up_ne _ _ (g_ne ha (gR_pl h hj) (by decide)), gR_pl h hj]; simp only [gPc, iK_o I j0 t ln cr db hd op sp pd (Or.inr (Or.inl (show 2 < 7 by decide))), iK_o I j0 t ln cr db hd op sp pd (Or.inr (Or.inl (show 3 < 7 by decide))), iK_o I j0 t ln cr db hd op sp pd (Or.inr (Or.inl (show 4 < 7 by decide)))]
  · rw [va_up_ne _ _ (g_ne ha (gR_ro h hj) (by decide)), gR_ro h hj]; simp only [gRc, iK_o I j0 t ln cr db hd op sp pd (Or.inr (Or.inl (show 5 < 7 by decide))), iK_o I j0 t ln cr db hd op sp pd (Or.inr (Or.inl (show 6 < 7 by decide)))]
  · by_cases e : j = j0
    · subst e; rw [va_up_self]; simp [gKc, iK]
    · rw [va_up_ne _ _ (fun q => e (h.2.1.2.2.2.2.2.2.1 j j0 hj h0 q)), gR_ke h hj]; simp only [gKc, iK_o I j0 t ln cr db hd op sp pd (Or.inl e)]
  · rw [va_up_ne _ _ (g_ne ha (gR_ca h hj) (by decide)), gR_ca h hj]; simp only [gCc, iK_o I j0 t ln cr db hd op sp pd (Or.inr (Or.inr (show 14 < 15 by decide))), iK_o I j0 t ln cr db hd op sp pd (Or.inr (Or.inr (show 14 < 16 by decide))), iK_o I j0 t ln cr db hd op sp pd (Or.inr (Or.inr (show 14 < 17 by decide))), iK_o I j0 t ln cr db hd op sp pd (Or.inr (Or.inr (show 14 < 18 by decide))), iK_o I j0 t ln cr db hd op sp pd (Or.inr (Or.inr (show 14 < 19 by decide))), iK_o I j0 t ln cr db hd op sp pd (Or.inr (Or.inr (show 14 < 20 by decide)))]
theorem gR_setC (h : gR cy de N I f) {j0 : Nat} (h0 : j0 < N 0 8) (w wt du co et di : Int32) : gR cy de N (iC I j0 w wt du co et di) (va_up f (N 4 j0) (some (.inr (1, [.ref (N 3 (N 6 j0)), .int w, .int wt, .int du, .int co, .int et, .int di])))) := by
  have ha := gR_ca h h0
  refine gR_up h ha (by decide) (fun b hb => va_up_ne _ _ hb) ⟨?_, fun j hj => ?_, fun j hj => ?_, fun j hj => ⟨?_, gR_kp h hj⟩, fun j hj => ⟨?_, gR_ck h hj⟩⟩
  · rw [va_up_ne _ _ (g_ne ha (gR_tg h) (by decide)), gR_tg h]; simp only [gTc, iC_o I j0 w wt du co et di (Or.inr (Or.inl (show 0 < 15 by decide))), iC_o I j0 w wt du co et di (Or.inr (Or.inl (show 1 < 15 by decide)))]
  · rw [va_up_ne _ _ (g_ne ha (gR_pl h hj) (by decide)), gR_pl h hj]; simp only [gPc, iC_o I j0 w wt du co et di (Or.inr (Or.inl (show 2 < 15 by decide))), iC_o I j0 w wt du co et di (Or.inr (Or.inl (show 3 < 15 by decide))), iC_o I j0 w wt du co et di (Or.inr (Or.inl (show 4 < 15 by decide)))]
  · rw [va_up_ne _ _ (g_ne ha (gR_ro h hj) (by decide)), gR_ro h hj]; simp only [gRc, iC_o I j0 w wt du co et di (Or.inr (Or.inl (show 5 < 15 by decide))), iC_o I j0 w wt du co et di (Or.inr (Or.inl (show 6 < 15 by decide)))]
  · rw [va_up_ne _ _ (g_ne ha (gR_ke h hj) (by decide)), gR_ke h hj]; simp only [gKc, iC_o I j0 w wt du co et di (Or.inr (Or.inl (show 7 < 15 by decide))), iC_o I j0 w wt du co et di (Or.inr (Or.inl (show 8 < 15 by decide))), iC_o I j0 w wt du co et di (Or.inr (Or.inl (show 9 < 15 by decide))), iC_o I j0 w wt du co et di (Or.inr (Or.inl (show 10 < 15 by decide))), iC_o I j0 w wt du co et di (Or.inr (Or.inl (show 11 < 15 by decide))), iC_o I j0 w wt du co et di (Or.inr (Or.inl (show 12 < 15 by decide))), iC_o I j0 w wt du co et di (Or.inr (Or.inl (show 13 < 15 by decide))), iC_o I j0 w wt du co et di (Or.inr (Or.inl (show 14 < 15 by decide)))]
  · by_cases e : j = j0
    · subst e; rw [va_up_self]; simp [gCc, iC]
    · rw [va_up_ne _ _ (fun q => e (h.2.1.2.2.2.2.2.2.2 j j0 hj h0 q)), gR_ca h hj]; simp only [gCc, iC_o I j0 w wt du co et di (Or.inl e)]
end GRP
