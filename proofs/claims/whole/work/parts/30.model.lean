-- ===== the reference's state: 23 rows by their field numbers (a number is row k at 0) =====
abbrev gMd : Type := Nat → Nat → Int32
def mArr (c : Nat) : Bool := (decide (1 ≤ c) && decide (c ≤ 5)) || (decide (7 ≤ c) && decide (c ≤ 12)) || (decide (14 ≤ c) && decide (c ≤ 21))
def mSc (c : Nat) : Bool := decide (c = 0) || decide (c = 6) || decide (c = 13) || decide (c = 22)
def mZ (c : Nat) : Bool := decide (c = 20) || decide (c = 21)
def mLen (c : Nat) : Nat := if c ≤ 3 then 4 else if c ≤ 5 then 6 else if c ≤ 12 then 8 else 80
abbrev mCell (M : gMd) (ma : Nat → Nat) : List Value := [.int (M 0 0), .ref (ma 1), .ref (ma 2), .ref (ma 3), .ref (ma 4), .ref (ma 5), .int (M 6 0), .ref (ma 7), .ref (ma 8), .ref (ma 9), .ref (ma 10), .ref (ma 11), .ref (ma 12), .int (M 13 0), .ref (ma 14), .ref (ma 15), .ref (ma 16), .ref (ma 17), .ref (ma 18), .ref (ma 19), .ref (ma 20), .ref (ma 21), .int (M 22 0)]
def Rm (cy : Nat → ClassId) (mm : Nat) (ma : Nat → Nat) (M : gMd) (f : gFm) : Prop :=
  f mm = some (.inr (6, mCell M ma)) ∧ (∀ c, mArr c = true → f (ma c) = some (.inl (cond (mZ c) (cy 1) (cy 0), mLen c, .inl (M c)))) ∧ (∀ c d, mArr c = true → mArr d = true → ma c = ma d → c = d)
def mw (M : gMd) (c i : Nat) (v : Int32) : gMd := va_up M c (upd (M c) i v)
theorem mw_ne (M : gMd) {c d i : Nat} {v : Int32} (h : d ≠ c) : mw M c i v d = M d := va_up_ne _ _ h
theorem mw_self (M : gMd) (c i : Nat) (v : Int32) : mw M c i v c = upd (M c) i v := va_up_self _ _ _
theorem Rm_w {cy : Nat → ClassId} {mm : Nat} {ma : Nat → Nat} {M : gMd} {f : gFm} (hR : Rm cy mm ma M f) (c : Nat) (hc : mArr c = true) (i : Nat) (v : Int32) : Rm cy mm ma (mw M c i v) (va_up f (ma c) (some (.inl (cond (mZ c) (cy 1) (cy 0), mLen c, .inl (upd (M c) i v))))) := by
  obtain ⟨h1, h2, h3⟩ := hR
  have hne : mm ≠ ma c := fun e => by
    have := h2 c hc
    rw [← e, h1] at this
    cases this
  have k0 : ∀ k, mArr k = false → k ≠ c := fun k hk e => by rw [e, hc] at hk; cases hk
  refine ⟨?_, fun d hd => ?_, h3⟩
  · rw [va_up_ne _ _ hne, h1]
    simp only [mCell, mw_ne M (k0 0 rfl), mw_ne M (k0 6 rfl), mw_ne M (k0 13 rfl), mw_ne M (k0 22 rfl)]
  · by_cases e : d = c
    · subst e
      rw [va_up_self, mw_self]
    · rw [va_up_ne _ _ (fun z => e (h3 d c hd hc z)), mw_ne M e]
      exact h2 d hd
theorem Rm_p {cy : Nat → ClassId} {mm : Nat} {ma : Nat → Nat} {M : gMd} {f : gFm} (hR : Rm cy mm ma M f) (k : Nat) (hk : mSc k = true) (v : Int32) : Rm cy mm ma (mw M k 0 v) (va_up f mm (some (.inr (6, (mCell M ma).set k (.int v))))) := by
  obtain ⟨h1, h2, h3⟩ := hR
  have hne : ∀ d, mArr d = true → ma d ≠ mm := fun d hd e => by
    have := h2 d hd
    rw [e, h1] at this
    cases this
  have hkd : ∀ d, mArr d = true → d ≠ k := fun d hd e => by
    subst e
    simp only [mSc, Bool.or_eq_true, decide_eq_true_eq] at hk
    rcases hk with ((hk | hk) | hk) | hk <;> subst hk <;> cases hd
  refine ⟨?_, fun d hd => ?_, h3⟩
  · rw [va_up_self]
    simp only [mSc, Bool.or_eq_true, decide_eq_true_eq] at hk
    rcases hk with ((hk | hk) | hk) | hk <;> subst hk <;> simp [mCell, mw, va_up, upd]
  · rw [va_up_ne _ _ (hne d hd), mw_ne M (hkd d hd)]
    exact h2 d hd
section MST
variable {p : Program} {l : Launch} {e : Env} {R : Room} {s : State} {m : MethodId} {args : Array Value} {below : List Frame} {meth : Method} {c : Code} {H : Heap} {locs : List Loc} {cells slots : Nat} {Q : State → Prop}
variable {cc : ByteArray} {pc : Nat} {ls : Array Slot} {rest : List Value} {D : va_G} {cy : Nat → ClassId} {de : Nat} {A : Nat → Prop} {f : gFm} {mm : Nat} {ma : Nat → Nat} {M : gMd}
theorem m_get (hexec : p.tables.exec = Jvm.exec) (hb : c.code = cc) {index : Nat} {Ts : List Cond} (hts : ∀ w ∈ Ts, w.before args s = true) (hin : ∀ w ∈ wsX50, w ∈ Ts) (hown : s.vm.findClass RX5 = some m.cls) (hI : gI D cy de A s f H locs) (hR : Rm cy mm ma M f) (k : Nat) (hk : k < 23) (hlink : (Cond.fieldLink RX5 index "TollGatewayModel" (TX5 k).2.1 (TX5 k).2.2.1).before args s = true) (hsame : (TX5 k).1 = "TollGatewayModel") {v : Value} (hv : (mCell M ma)[k]? = some v) (hdg : decode cc pc = .ok (.getfield index, 3))
    (kk : W p l e R s m args below meth c H locs cells slots Q (F0 m (pc + 3) ls (v :: rest))) : W p l e R s m args below meth c H locs cells slots Q (F0 m pc ls (.ref mm :: rest)) :=
  g_get (ci := 6) (C := RX5) (T := TX5) (N := 23) hexec hb hts hin hown hI hR.1 rfl k hk hlink (fun _ h9 => hsame ▸ h9) hv hdg kk
theorem m_put (hexec : p.tables.exec = Jvm.exec) (hb : c.code = cc) {index : Nat} {Ts : List Cond} (hts : ∀ w ∈ Ts, w.before args s = true) (hin : ∀ w ∈ wsX50, w ∈ Ts) (hown : s.vm.findClass RX5 = some m.cls) (hI : gI D cy de A s f H locs) (hR : Rm cy mm ma M f) (k : Nat) (hk : k < 23) (hsc : mSc k = true) (hlink : (Cond.fieldLink RX5 index "TollGatewayModel" (TX5 k).2.1 (TX5 k).2.2.1).before args s = true) (hsame : (TX5 k).1 = "TollGatewayModel") (hfin : (TX5 k).2.2.2 = false) (hd : parseFieldDescriptor (TX5 k).2.2.1 = some .int) {x : Int32} (hdg : decode cc pc = .ok (.putfield index, 3))
    (kk : ∀ (f1 : gFm) (H1 : Heap) (locs1 : List Loc), Rm cy mm ma (mw M k 0 x) f1 → gI D cy de A s f1 H1 locs1 → W p l e R s m args below meth c H1 locs1 cells slots Q (F0 m (pc + 3) ls rest)) : W p l e R s m args below meth c H locs cells slots Q (F0 m pc ls (.int x :: .ref mm :: rest)) :=
  g_put (ci := 6) (v := .int x) (ty := .int) (C := RX5) (T := TX5) (N := 23) hexec hb hts hin tyX5 tyX5_ok nmX5 hown hI hR.1 rfl k hk hlink (fun _ h9 => hsame ▸ h9) hfin hd rfl rfl (by show k < 23; exact hk) hdg (fun f1 H1 locs1 e1 hI1 => kk f1 H1 locs1 (by rw [e1]; exact Rm_p hR k hsc x) hI1)
theorem m_iast (hexec : p.tables.exec = Jvm.exec) (hb : c.code = cc) (hI : gI D cy de A s f H locs) (hR : Rm cy mm ma M f) (k : Nat) (hk : mArr k = true) (hz : mZ k = false) {i v : Int32} (hin : vp_in i (mLen k)) (hdg : decode cc pc = .ok (.iastore, 1))
    (kk : ∀ (f1 : gFm) (H1 : Heap) (locs1 : List Loc), Rm cy mm ma (mw M k (ix i) v) f1 → gI D cy de A s f1 H1 locs1 → W p l e R s m args below meth c H1 locs1 cells slots Q (F0 m (pc + 1) ls rest)) : W p l e R s m args below meth c H locs cells slots Q (F0 m pc ls (.int v :: .int i :: .ref (ma k) :: rest)) :=
  g_iast (n := mLen k) (x := M k) hexec hb hI (by have := hR.2.1 k hk; rw [hz] at this; exact this) hin hdg (fun f1 H1 locs1 e1 hI1 => kk f1 H1 locs1 (by have h := Rm_w hR k hk (ix i) v; rw [hz] at h; rw [e1]; exact h) hI1)
theorem m_zast (hexec : p.tables.exec = Jvm.exec) (hb : c.code = cc) (hI : gI D cy de A s f H locs) (hR : Rm cy mm ma M f) (k : Nat) (hk : mArr k = true) (hz : mZ k = true) {i v : Int32} (hv : vp_nar .boolean v = v) (hin : vp_in i (mLen k)) (hdg : decode cc pc = .ok (.bastore, 1))
    (kk : ∀ (f1 : gFm) (H1 : Heap) (locs1 : List Loc), Rm cy mm ma (mw M k (ix i) v) f1 → gI D cy de A s f1 H1 locs1 → W p l e R s m args below meth c H1 locs1 cells slots Q (F0 m (pc + 1) ls rest)) : W p l e R s m args below meth c H locs cells slots Q (F0 m pc ls (.int v :: .int i :: .ref (ma k) :: rest)) :=
  g_zast (n := mLen k) (x := M k) hexec hb hI (by have := hR.2.1 k hk; rw [hz] at this; exact this) hin hdg (fun f1 H1 locs1 e1 hI1 => kk f1 H1 locs1 (by have h := Rm_w hR k hk (ix i) v; rw [hz] at h; rw [hv] at e1; rw [e1]; exact h) hI1)
theorem m_iald (hexec : p.tables.exec = Jvm.exec) (hb : c.code = cc) (hI : gI D cy de A s f H locs) (hR : Rm cy mm ma M f) (k : Nat) (hk : mArr k = true) (hz : mZ k = false) {i : Int32} (hin : vp_in i (mLen k)) (hdg : decode cc pc = .ok (.iaload, 1))
    (kk : W p l e R s m args below meth c H locs cells slots Q (F0 m (pc + 1) ls (.int (M k (ix i)) :: rest))) : W p l e R s m args below meth c H locs cells slots Q (F0 m pc ls (.int i :: .ref (ma k) :: rest)) :=
  g_iald (n := mLen k) (x := M k) hexec hb hI (by have := hR.2.1 k hk; rw [hz] at this; exact this) hin hdg kk
theorem m_zald (hexec : p.tables.exec = Jvm.exec) (hb : c.code = cc) (hI : gI D cy de A s f H locs) (hR : Rm cy mm ma M f) (k : Nat) (hk : mArr k = true) (hz : mZ k = true) {i : Int32} (hin : vp_in i (mLen k)) (hdg : decode cc pc = .ok (.baload, 1))
    (kk : W p l e R s m args below meth c H locs cells slots Q (F0 m (pc + 1) ls (.int (M k (ix i)) :: rest))) : W p l e R s m args below meth c H locs cells slots Q (F0 m pc ls (.int i :: .ref (ma k) :: rest)) :=
  g_zald (n := mLen k) (x := M k) hexec hb hI (by have := hR.2.1 k hk; rw [hz] at this; exact this) hin hdg kk
end MST
-- ===== what the reference computes =====
def mOK0 (nk nc : Nat) (a b c d : Nat → Int32) : Prop := nk ≤ 8 ∧ nc ≤ 80 ∧ a 0 = nI nk ∧ c 0 = nI nc ∧ (∀ i, i < nk → vp_in (b i) 4) ∧ (∀ i, i < nc → vp_in (d i) 8)
def mOK (nk nc : Nat) (M : gMd) : Prop := mOK0 nk nc (M 6) (M 7) (M 13) (M 14)
def mIn (v a b : Int32) : Bool := !decide (v < a) && !decide (b < v)
abbrev mKey (M : gMd) (k : Int32) : Bool := mIn k 0 (M 6 0 - 1)
abbrev mCal (M : gMd) (k : Int32) : Bool := mIn k 0 (M 13 0 - 1)
theorem mIn_of {x b : Int32} {n : Nat} (hb : b = nI n - 1) (hn : n < 1000) (h : mIn x 0 b = true) : ∃ j, j < n ∧ x = nI j := by
  simp only [mIn, Bool.and_eq_true, Bool.not_eq_true', decide_eq_false_iff_not] at h
  obtain ⟨h1, h2⟩ := h
  obtain ⟨j, hj, rfl⟩ := nI_of h1
  refine ⟨j, ?_, rfl⟩
  rcases Nat.lt_or_ge j n with q | q
  · exact q
  · refine absurd ?_ h2
    rw [hb, Int32.lt_iff_toInt_lt, nI_toInt hj]
    cases n with
    | zero => rw [show (nI 0 - 1).toInt = -1 by decide]; omega
    | succ n => rw [nI_pred, nI_toInt (by omega)]; omega
theorem mIn_in {x b : Int32} {n N : Nat} (hb : b = nI n - 1) (hn : n < 1000) (hN : n ≤ N) (hN2 : N < 1000) (h : mIn x 0 b = true) : vp_in x N := by
  obtain ⟨j, hj, rfl⟩ := mIn_of hb hn h
  exact vp_in_nI (by omega) (by omega)
theorem mIn_3 {x : Int32} (h : mIn x 0 3 = true) : vp_in x 4 := mIn_in (n := 4) (by decide) (by decide) (Nat.le_refl _) (by decide) h
theorem mIn_5 {x : Int32} (h : mIn x 0 5 = true) : vp_in x 6 := mIn_in (n := 6) (by decide) (by decide) (Nat.le_refl _) (by decide) h
theorem mKey_in {nk nc : Nat} {M : gMd} {k : Int32} (hok : mOK nk nc M) (h : mKey M k = true) : vp_in k 8 := mIn_in (n := nk) (by rw [hok.2.2.1]) (by have := hok.1; omega) hok.1 (by decide) h
theorem mCal_in {nk nc : Nat} {M : gMd} {k : Int32} (hok : mOK nk nc M) (h : mCal M k = true) : vp_in k 80 := mIn_in (n := nc) (by rw [hok.2.2.2.1]) (by have := hok.2.1; omega) hok.2.1 (by decide) h
theorem mCal_who {nk nc : Nat} {M : gMd} {k : Int32} (hok : mOK nk nc M) (h : mCal M k = true) : vp_in (M 14 (ix k)) 8 := by
  obtain ⟨j, hj, rfl⟩ := mIn_of (n := nc) (by rw [hok.2.2.2.1]) (by have := hok.2.1; omega) h
  have e : ix (nI j) = j := nI_clamp (by have := hok.2.1; omega)
  rw [e]
  exact hok.2.2.2.2.2 j hj
theorem mKey_plan {nk nc : Nat} {M : gMd} {k : Int32} (hok : mOK nk nc M) (h : mKey M k = true) : vp_in (M 7 (ix k)) 4 := by
  obtain ⟨j, hj, rfl⟩ := mIn_of (n := nk) (by rw [hok.2.2.1]) (by have := hok.1; omega) h
  have e : ix (nI j) = j := nI_clamp (by have := hok.1; omega)
  rw [e]
  exact hok.2.2.2.2.1 j hj
def mGive (M : gMd) (key m : Int32) : gMd :=
  let M1 := mw M 10 (ix key) (M 10 (ix key) - (if m < M 10 (ix key) then m else M 10 (ix key)))
  mw M1 8 (ix key) (M1 8 (ix key) + (m - (if m < M 10 (ix key) then m else M 10 (ix key))))
def mSettle (M : gMd) (call cost : Int32) : gMd :=
  let M1 := mw M 20 (ix call) 1
  let M2 := mw M1 18 (ix call) cost
  let M3 := mw M2 19 (ix call) (M2 22 0)
  mGive M3 (M3 14 (ix call)) (M3 15 (ix call) - cost)
def mLeft (M : gMd) (key : Int32) : Int32 := if M 10 (ix key) < M 9 (ix key) then M 9 (ix key) - M 10 (ix key) else 0
abbrev mWell (M : gMd) (t : Int32) : gMd := mw M 0 0 t
def mSetPlan (M : gMd) (plan size refill slow : Int32) : gMd :=
  if mIn plan 0 3 = true ∧ mIn size 1 100 = true ∧ mIn refill 0 100 = true ∧ mIn slow 0 refill = true then mw (mw (mw (mWell M 0) 1 (ix plan) size) 2 (ix plan) refill) 3 (ix plan) slow else mWell M 1
def mSetRoute (M : gMd) (route price weight : Int32) : gMd :=
  if mIn route 0 5 = true ∧ mIn price 0 1000 = true ∧ mIn weight 1 20 = true then mw (mw (mWell M 0) 4 (ix route) price) 5 (ix route) weight else mWell M 1
def mAddKey (M : gMd) (plan : Int32) : Int32 × gMd :=
  if mIn plan 0 3 = false then (0, mWell M 1) else if M 6 0 = 8 then (0, mWell M 2) else
  let M1 := mWell M 0
  let M2 := mw M1 7 (ix (M1 6 0)) plan
  let M3 := mw M2 11 (ix (M2 6 0)) (M2 1 (ix plan))
  let M4 := mw M3 6 0 (M3 6 0 + 1)
  (M4 6 0 - 1, M4)
def mSetKeyPlan (M : gMd) (key plan : Int32) : Int32 × gMd :=
  if mKey M key = false then (0, mWell M 1) else if mIn plan 0 3 = false then (0, mWell M 2) else (mWell M 0 7 (ix key), mw (mWell M 0) 7 (ix key) plan)
def mSetTrust (M : gMd) (key line : Int32) : Int32 × gMd :=
  if mKey M key = false then (0, mWell M 1) else if mIn line 0 10000 = false then (0, mWell M 2) else (mWell M 0 9 (ix key), mw (mWell M 0) 9 (ix key) line)
def mPay (M : gMd) (key money : Int32) : Int32 × gMd :=
  if mKey M key = false then (0, mWell M 1) else if mIn money 1 100000 = false then (0, mWell M 2) else
  let M1 := mGive (mWell M 0) key money
  let M2 := mw M1 12 (ix key) (M1 12 (ix key) + money)
  (M2 8 (ix key), M2)
def mCallGo (M : gMd) (key route size worth own : Int32) : gMd :=
  let M2 := mw M 8 (ix key) (M 8 (ix key) - own)
  let M3 := mw M2 10 (ix key) (M2 10 (ix key) + (worth - own))
  let M4 := mw M3 11 (ix key) (M3 11 (ix key) - M3 5 (ix route))
  let M5 := mw M4 14 (ix (M4 13 0)) key
  let M6 := mw M5 15 (ix (M5 13 0)) worth
  let M7 := mw M6 16 (ix (M6 13 0)) (M6 5 (ix route))
  let M8 := mw M7 17 (ix (M7 13 0)) (M7 22 0)
  mw M8 13 0 (M8 13 0 + 1)
def mCall (M : gMd) (key route size : Int32) : Int32 × gMd :=
  if mKey M key = false then (0, mWell M 1) else if mIn route 0 5 = false ∨ mIn size 1 9 = false then (0, mWell M 2) else if M 13 0 = 80 then (0, mWell M 3) else
  let M1 := mWell M 0
  let worth := M1 4 (ix route) * size
  if M1 11 (ix key) < M1 5 (ix route) then (1, M1) else
  if M1 8 (ix key) < worth then (if M1 8 (ix key) + mLeft M1 key < worth then (2, M1) else (0, mCallGo M1 key route size worth (M1 8 (ix key)))) else (0, mCallGo M1 key route size worth worth)
def mEnd (M : gMd) (call oc : Int32) : Int32 × gMd :=
  if mCal M call = false then (0, mWell M 1) else if mIn oc 0 2 = false then (0, mWell M 2) else if ¬ M 20 (ix call) = 0 then (0, mWell M 3) else
  let M1 := mWell M 0
  let M2 := mSettle M1 call (if oc = 0 then M1 15 (ix call) else if oc = 1 then (M1 15 (ix call) + 1) / 2 else 0)
  (M2 18 (ix call), M2)
def mDispute (M : gMd) (call : Int32) : Int32 × gMd :=
  if mCal M call = false then (0, mWell M 1) else if M 20 (ix call) = 0 ∨ ¬ M 21 (ix call) = 0 ∨ 50 < M 22 0 - M 19 (ix call) then (0, mWell M 2) else
  let M1 := mw (mWell M 0) 21 (ix call) 1
  let back := M1 18 (ix call)
  let M2 := mw M1 18 (ix call) 0
  let M3 := mGive M2 (M2 14 (ix call)) back
  let M4 := mw M3 11 (ix (M3 14 (ix call))) (M3 11 (ix (M3 14 (ix call))) + M3 16 (ix call))
  (back, M4)
def mSlowL (M : gMd) (key : Int32) : Nat → Nat → Bool → Bool
  | 0, _, b => b
  | n + 1, j, b => mSlowL M key n (j + 1) (b && (!decide (M 14 j = key) || !decide (M 20 j = 0)))
def mSlow (M : gMd) (nc : Nat) (key : Int32) : Bool := mSlowL M key nc 0 (decide (M 8 (ix key) = 0))
def mHeldL (M : gMd) (key : Int32) : Nat → Nat → Int32 → Int32
  | 0, _, a => a
  | n + 1, j, a => mHeldL M key n (j + 1) (a + (if M 14 j = key then (if M 20 j = 0 then M 15 j else 0) else 0))
def mSpentL (M : gMd) (key : Int32) : Nat → Nat → Int32 → Int32
  | 0, _, a => a
  | n + 1, j, a => mSpentL M key n (j + 1) (a + (if M 14 j = key then M 18 j else 0))
def mRunL : Nat → Nat → Int32 → gMd → Int32 × gMd
  | 0, _, a, M => (a, M)
  | n + 1, j, a, M => if M 20 j = 0 ∧ M 22 0 - M 17 j = 20 then mRunL n (j + 1) (a + 1) (mSettle M (nI j) (M 15 j)) else mRunL n (j + 1) a M
def mFill1 (nc : Nat) (M : gMd) (i : Nat) : gMd :=
  let more := M 11 i + (if mSlow M nc (nI i) = true then M 3 (ix (M 7 i)) else M 2 (ix (M 7 i)))
  let most := if M 1 (ix (M 7 i)) < M 11 i then M 11 i else M 1 (ix (M 7 i))
  mw M 11 i (if more < most then more else most)
def mFillL (nc : Nat) : Nat → Nat → gMd → gMd
  | 0, _, M => M
  | n + 1, i, M => mFillL nc n (i + 1) (mFill1 nc M i)
def mOne (nk nc : Nat) (M : gMd) : Int32 × gMd :=
  let r := mRunL nc 0 0 (mw M 22 0 (M 22 0 + 1))
  (r.1, mFillL nc nk 0 r.2)
def mPassL (nk nc : Nat) : Nat → Int32 → gMd → Int32 × gMd
  | 0, a, M => (a, M)
  | n + 1, a, M => mPassL nk nc n (a + (mOne nk nc M).1) (mOne nk nc M).2
def mPass (nk nc : Nat) (M : gMd) (ticks : Int32) : Int32 × gMd :=
  if mIn ticks 1 100 = false then (0, mWell M 1) else mPassL nk nc (ix ticks) 0 (mWell M 0)
def mRd (M : gMd) (key : Int32) (v : gMd → Int32) : Int32 × gMd := if mKey M key = false then (0, mWell M 1) else (v (mWell M 0), mWell M 0)
def mCost (M : gMd) (call : Int32) : Int32 × gMd := if mCal M call = false then (0, mWell M 1) else (if mWell M 0 20 (ix call) = 0 then (-1) else mWell M 0 18 (ix call), mWell M 0)
