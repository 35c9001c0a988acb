theorem mRunL_step {N : gMd} {n j : Nat} {a : Int32} (h : j < n) : mRunL (n - j) j a N = if N 20 j = 0 ∧ N 22 0 - N 17 j = 20 then mRunL (n - (j + 1)) (j + 1) (a + 1) (mSettle N (nI j) (N 15 j)) else mRunL (n - (j + 1)) (j + 1) a N := by
  rw [show n - j = (n - (j + 1)) + 1 by omega]
  rfl
theorem mRunL_end {N : gMd} {n : Nat} {a : Int32} : mRunL (n - n) n a N = (a, N) := by rw [Nat.sub_self]; rfl
theorem mFillL_step {nc : Nat} {N : gMd} {n j : Nat} (h : j < n) : mFillL nc (n - j) j N = mFillL nc (n - (j + 1)) (j + 1) (mFill1 nc N j) := by
  rw [show n - j = (n - (j + 1)) + 1 by omega]
  rfl
theorem mFillL_end {nc : Nat} {N : gMd} {n : Nat} : mFillL nc (n - n) n N = N := by rw [Nat.sub_self]; rfl
theorem mPassL_step {nk nc : Nat} {N : gMd} {n j : Nat} {a : Int32} (h : j < n) : mPassL nk nc (n - j) a N = mPassL nk nc (n - (j + 1)) (a + (mOne nk nc N).1) (mOne nk nc N).2 := by
  rw [show n - j = (n - (j + 1)) + 1 by omega]
  rfl
theorem mPassL_end {nk nc : Nat} {N : gMd} {n : Nat} {a : Int32} : mPassL nk nc (n - n) a N = (a, N) := by rw [Nat.sub_self]; rfl
theorem mGive_row (M : gMd) (k m : Int32) {c : Nat} (h8 : c ≠ 8) (h10 : c ≠ 10) : mGive M k m c = M c := by
  show mw (mw M 10 _ _) 8 _ _ c = M c
  rw [mw_ne _ h8, mw_ne _ h10]
theorem mSettle_row (M : gMd) (k m : Int32) {c : Nat} (h8 : c ≠ 8) (h10 : c ≠ 10) (h18 : c ≠ 18) (h19 : c ≠ 19) (h20 : c ≠ 20) : mSettle M k m c = M c := by
  show mGive (mw (mw (mw M 20 _ _) 18 _ _) 19 _ _) _ _ c = M c
  rw [mGive_row _ _ _ h8 h10, mw_ne _ h19, mw_ne _ h18, mw_ne _ h20]
theorem mRunL_row : ∀ (n j : Nat) (a : Int32) (M : gMd) {c : Nat}, c ≠ 8 → c ≠ 10 → c ≠ 18 → c ≠ 19 → c ≠ 20 → (mRunL n j a M).2 c = M c
  | 0, _, _, _, _, _, _, _, _, _ => rfl
  | n + 1, j, a, M, c, h8, h10, h18, h19, h20 => by
    unfold mRunL
    split
    · rw [mRunL_row n (j + 1) _ _ h8 h10 h18 h19 h20, mSettle_row _ _ _ h8 h10 h18 h19 h20]
    · exact mRunL_row n (j + 1) _ _ h8 h10 h18 h19 h20
theorem mFillL_row (nc : Nat) : ∀ (n i : Nat) (M : gMd) {c : Nat}, c ≠ 11 → mFillL nc n i M c = M c
  | 0, _, _, _, _ => rfl
  | n + 1, i, M, c, h => by
    unfold mFillL
    rw [mFillL_row nc n (i + 1) _ h]
    exact mw_ne _ h
theorem mOne_row (nk nc : Nat) (M : gMd) {c : Nat} (h8 : c ≠ 8) (h10 : c ≠ 10) (h11 : c ≠ 11) (h18 : c ≠ 18) (h19 : c ≠ 19) (h20 : c ≠ 20) (h22 : c ≠ 22) : (mOne nk nc M).2 c = M c := by
  show mFillL nc nk 0 (mRunL nc 0 0 (mw M 22 0 _)).2 c = M c
  rw [mFillL_row nc _ _ _ h11, mRunL_row _ _ _ _ h8 h10 h18 h19 h20, mw_ne _ h22]
theorem mOK_one {nk nc : Nat} {M : gMd} (h : mOK nk nc M) : mOK nk nc (mOne nk nc M).2 := by
  unfold mOK
  rw [mOne_row nk nc M (by decide) (by decide) (by decide) (by decide) (by decide) (by decide) (by decide), mOne_row nk nc M (by decide) (by decide) (by decide) (by decide) (by decide) (by decide) (by decide), mOne_row nk nc M (by decide) (by decide) (by decide) (by decide) (by decide) (by decide) (by decide), mOne_row nk nc M (by decide) (by decide) (by decide) (by decide) (by decide) (by decide) (by decide)]
  exact h
theorem mIn_tick {x : Int32} (h : mIn x 1 100 = true) : x = nI (ix x) ∧ ix x ≤ 100 := by
  simp only [mIn, Bool.and_eq_true, Bool.not_eq_true', decide_eq_false_iff_not] at h
  obtain ⟨h1, h2⟩ := h
  have h0 : ¬ x < 0 := by
    rw [Int32.lt_iff_toInt_lt] at h1 ⊢
    rw [show (1 : Int32).toInt = 1 by decide] at h1
    rw [show (0 : Int32).toInt = 0 by decide]
    omega
  obtain ⟨j, hj, rfl⟩ := nI_of h0
  have e : ix (nI j) = j := nI_clamp hj
  rw [e]
  refine ⟨rfl, ?_⟩
  rw [Int32.lt_iff_toInt_lt, nI_toInt hj, show (100 : Int32).toInt = 100 by decide] at h2
  omega

set_option maxHeartbeats 4000000 in
set_option maxRecDepth 100000 in
/-- isSlowed -/
theorem c_X5_isSlowed (l : Launch) (D : va_G) (cy : Nat → ClassId) (de : Nat) (f : gFm) (mm : Nat) (ma : Nat → Nat) (M : gMd) (key : Int32) (nk nc : Nat) (hok : mOK nk nc M) (hR : Rm cy mm ma M f) : gMi l yX5_isSlowed wsX5_isSlowed { frames := 2, cells := 0, slots := 0, locals := 43 } D cy de [.ref mm, .int key] f (fun r9 f9 => r9 = ((mIsSlowed nc M key).1) ∧ Rm cy mm ma ((mIsSlowed nc M key).2) f9) 0 0 := by
  refine fun sz => Met.ofW (cc := cX5_isSlowed) (maxL := 2) (ret := (some .boolean)) (by decide) rfl ?_
  intro p e s m args below meth c s₁ B hml hv
  obtain ⟨rfl, hv⟩ := hv
  obtain ⟨rfl, hI⟩ := gP_I hv
  have hx := B.exec
  have hb := B.bytes
  have hr := B.returns
  have hts := atoms_spec (ws := wsX5_isSlowed) B.pre
  have hown : s.vm.findClass RX5 = some m.cls := findClass_of_methodNamed B.named
  have hlocks := B.notSynchronized
  have hl := lv_entry ([.ref mm, .int key]) (n := 2) (Nat.le_of_ble_eq_true rfl)
  rw [lg_entry_eq]
  generalize (lg_sl ([.ref mm, .int key]) ++ List.replicate (2 - (lg_sl ([.ref mm, .int key])).length) Slot.unset).toArray = ls at hl ⊢
  have hl : lv_has ls 2 [(0, .ref mm), (1, .int key)] := hl
  refine lv_aload_n hx hb dX5_isSlowed_0 rfl (lv_at hl 0 rfl) ?_
  refine lv_aload_n hx hb dX5_isSlowed_1 rfl (lv_at hl 0 rfl) ?_
  refine lv_iload_n hx hb dX5_isSlowed_2 rfl (lv_at hl 1 rfl) ?_
  refine g_calli hI (va_runV (As := [.int key]) (rest := [.ref mm]) ⟨hx, hb, hml, hown, hts⟩ (c_X5_isKey l D cy de f mm ma M key hR s.heap.size) (cwV 1 hts gX5_isSlowed_X5_isKey rfl rfl rfl (by decide +kernel) ⟨Nat.le_of_ble_eq_true rfl, Nat.le_of_ble_eq_true rfl⟩) (g_preV hI hR.1 rfl) rfl rfl hl.1 rfl (lv_room (Nat.le_of_ble_eq_true rfl)) dX5_isSlowed_3 ⟨Nat.le_of_ble_eq_true rfl, Nat.le_of_ble_eq_true rfl⟩) (fun r_1 f_2 H locs hw_3 hI => ?_)
  obtain ⟨rfl, hR⟩ := hw_3
  refine g_b2i_eq (tgt := 13) hx hb dX5_isSlowed_6 (by decide) (fun c_4 => ?_) (fun c_4 => ?_)
  · refine lv_iconst (v := 1) hx hb dX5_isSlowed_13 (by decide) ?_
    refine g_calli hI (va_runV (As := [.int 1]) (rest := []) ⟨hx, hb, hml, hown, hts⟩ (c_X5_goesWell l D cy de f_2 mm ma M 1 hR H.size) (cwV 1 hts gX5_isSlowed_X5_goesWell rfl rfl rfl (by decide +kernel) ⟨Nat.le_of_ble_eq_true rfl, Nat.le_of_ble_eq_true rfl⟩) (g_preV hI hR.1 rfl) rfl rfl hl.1 rfl (lv_room (Nat.le_of_ble_eq_true rfl)) dX5_isSlowed_14 ⟨Nat.le_of_ble_eq_true rfl, Nat.le_of_ble_eq_true rfl⟩) (fun r_5 f_6 H locs hw_7 hI => ?_)
    obtain ⟨rfl, hR⟩ := hw_7
    obtain ⟨M_8, eM_8⟩ : ∃ z, z = mWell M 1 := ⟨_, rfl⟩
    rw [← eM_8] at hR
    refine g_b2i_eq (tgt := 32) hx hb dX5_isSlowed_17 (by decide) (fun _ => ?_) (fun z => absurd z (by decide))
    refine lv_iconst (v := 0) hx hb dX5_isSlowed_32 (by decide) ?_
    exact g_zret hx hb hr hlocks hI rfl (by have hE : (mIsSlowed nc M key) = (0, M_8) := (by simp only [mIsSlowed, c_4, if_true, if_false, ↓reduceIte, Bool.true_eq_false, Bool.false_eq_true, true_and, and_true, and_false, false_and, or_true, true_or, or_false, false_or, not_true_eq_false, not_false_eq_true, Bool.and_true, Bool.true_and, Bool.and_false, Bool.false_and, Bool.not_true, Bool.not_false, decide_true, decide_false, cond_true, cond_false] <;> (subst eM_8; rfl)); exact ⟨by rw [hE], by rw [hE]; exact hR⟩) (Nat.le_of_ble_eq_true rfl) (Nat.le_of_ble_eq_true rfl) dX5_isSlowed_33
  · refine lv_iconst (v := 0) hx hb dX5_isSlowed_9 (by decide) ?_
    refine lv_goto (tgt := 14) hx hb dX5_isSlowed_10 (by decide) ?_
    refine g_calli hI (va_runV (As := [.int 0]) (rest := []) ⟨hx, hb, hml, hown, hts⟩ (c_X5_goesWell l D cy de f_2 mm ma M 0 hR H.size) (cwV 1 hts gX5_isSlowed_X5_goesWell rfl rfl rfl (by decide +kernel) ⟨Nat.le_of_ble_eq_true rfl, Nat.le_of_ble_eq_true rfl⟩) (g_preV hI hR.1 rfl) rfl rfl hl.1 rfl (lv_room (Nat.le_of_ble_eq_true rfl)) dX5_isSlowed_14 ⟨Nat.le_of_ble_eq_true rfl, Nat.le_of_ble_eq_true rfl⟩) (fun r_10 f_11 H locs hw_12 hI => ?_)
    obtain ⟨rfl, hR⟩ := hw_12
    obtain ⟨M_13, eM_13⟩ : ∃ z, z = mWell M 0 := ⟨_, rfl⟩
    rw [← eM_13] at hR
    refine g_b2i_eq (tgt := 32) hx hb dX5_isSlowed_17 (by decide) (fun z => absurd z (by decide)) (fun _ => ?_)
    refine lv_aload_n hx hb dX5_isSlowed_20 rfl (lv_at hl 0 rfl) ?_
    refine lv_iload_n hx hb dX5_isSlowed_21 rfl (lv_at hl 1 rfl) ?_
    refine g_calli hI (va_runV (As := [.int key]) (rest := []) ⟨hx, hb, hml, hown, hts⟩ (c_X5_isSlow l D cy de f_11 mm ma M_13 key nk nc (by subst eM_13; exact hok) hR (mKey_in hok c_4) H.size) (cwV 1 hts gX5_isSlowed_X5_isSlow rfl rfl rfl (by decide +kernel) ⟨Nat.le_of_ble_eq_true rfl, Nat.le_of_ble_eq_true rfl⟩) (g_preV hI hR.1 rfl) rfl rfl hl.1 rfl (lv_room (Nat.le_of_ble_eq_true rfl)) dX5_isSlowed_22 ⟨Nat.le_of_ble_eq_true rfl, Nat.le_of_ble_eq_true rfl⟩) (fun r_15 f_16 H locs hw_17 hI => ?_)
    obtain ⟨rfl, hR⟩ := hw_17
    refine g_b2i_eq (tgt := 32) hx hb dX5_isSlowed_25 (by decide) (fun c_18 => ?_) (fun c_18 => ?_)
    · refine lv_iconst (v := 0) hx hb dX5_isSlowed_32 (by decide) ?_
      exact g_zret hx hb hr hlocks hI rfl (by have hE : (mIsSlowed nc M key) = (0, M_13) := (by subst eM_13; simp only [mIsSlowed, c_4, c_18, if_true, if_false, ↓reduceIte, Bool.true_eq_false, Bool.false_eq_true, true_and, and_true, and_false, false_and, or_true, true_or, or_false, false_or, not_true_eq_false, not_false_eq_true, Bool.and_true, Bool.true_and, Bool.and_false, Bool.false_and, Bool.not_true, Bool.not_false, decide_true, decide_false, cond_true, cond_false] <;> (rfl)); exact ⟨by rw [hE], by rw [hE]; exact hR⟩) (Nat.le_of_ble_eq_true rfl) (Nat.le_of_ble_eq_true rfl) dX5_isSlowed_33
    · refine lv_iconst (v := 1) hx hb dX5_isSlowed_28 (by decide) ?_
      refine lv_goto (tgt := 33) hx hb dX5_isSlowed_29 (by decide) ?_
      exact g_zret hx hb hr hlocks hI rfl (by have hE : (mIsSlowed nc M key) = (1, M_13) := (by subst eM_13; simp only [mIsSlowed, c_4, c_18, if_true, if_false, ↓reduceIte, Bool.true_eq_false, Bool.false_eq_true, true_and, and_true, and_false, false_and, or_true, true_or, or_false, false_or, not_true_eq_false, not_false_eq_true, Bool.and_true, Bool.true_and, Bool.and_false, Bool.false_and, Bool.not_true, Bool.not_false, decide_true, decide_false, cond_true, cond_false] <;> (rfl)); exact ⟨by rw [hE], by rw [hE]; exact hR⟩) (Nat.le_of_ble_eq_true rfl) (Nat.le_of_ble_eq_true rfl) dX5_isSlowed_33

set_option maxHeartbeats 4000000 in
set_option maxRecDepth 100000 in
/-- passOne -/
theorem c_X5_passOne (l : Launch) (D : va_G) (cy : Nat → ClassId) (de : Nat) (f : gFm) (mm : Nat) (ma : Nat → Nat) (M : gMd) (nk nc : Nat) (hok : mOK nk nc M) (hR : Rm cy mm ma M f) : gMi l yX5_passOne wsX5_passOne { frames := 2, cells := 0, slots := 0, locals := 45 } D cy de [.ref mm] f (fun r9 f9 => r9 = ((mOne nk nc M).1) ∧ Rm cy mm ma ((mOne nk nc M).2) f9) 0 0 := by
  refine fun sz => Met.ofW (cc := cX5_passOne) (maxL := 6) (ret := (some .int)) (by decide) rfl ?_
  intro p e s m args below meth c s₁ B hml hv
  obtain ⟨rfl, hv⟩ := hv
  obtain ⟨rfl, hI⟩ := gP_I hv
  have hx := B.exec
  have hb := B.bytes
  have hr := B.returns
  have hts := atoms_spec (ws := wsX5_passOne) B.pre
  have hown : s.vm.findClass RX5 = some m.cls := findClass_of_methodNamed B.named
  have hlocks := B.notSynchronized
  have hinX5 : ∀ w ∈ wsX50, w ∈ wsX5_passOne := by decide +kernel
  have hw0 := hts (.fieldLink RX5 104 "TollGatewayModel" "tick" "I") (by decide +kernel)
  have hw1 := hts (.fieldLink RX5 79 "TollGatewayModel" "calls" "I") (by decide +kernel)
  have hw2 := hts (.fieldLink RX5 76 "TollGatewayModel" "keys" "I") (by decide +kernel)
  have hw3 := hts (.fieldLink RX5 25 "TollGatewayModel" "plans" "[I") (by decide +kernel)
  have hw4 := hts (.fieldLink RX5 37 "TollGatewayModel" "tokens" "[I") (by decide +kernel)
  have hw5 := hts (.fieldLink RX5 13 "TollGatewayModel" "refills" "[I") (by decide +kernel)
  have hw6 := hts (.fieldLink RX5 7 "TollGatewayModel" "sizes" "[I") (by decide +kernel)
  have hw7 := hts (.fieldLink RX5 16 "TollGatewayModel" "slows" "[I") (by decide +kernel)
  have hw8 := hts (.fieldLink RX5 61 "TollGatewayModel" "hasEnded" "[Z") (by decide +kernel)
  have hw9 := hts (.fieldLink RX5 52 "TollGatewayModel" "begun" "[I") (by decide +kernel)
  have hw10 := hts (.fieldLink RX5 46 "TollGatewayModel" "worths" "[I") (by decide +kernel)
  have hl := lv_entry ([.ref mm]) (n := 6) (Nat.le_of_ble_eq_true rfl)
  rw [lg_entry_eq]
  generalize (lg_sl ([.ref mm]) ++ List.replicate (6 - (lg_sl ([.ref mm])).length) Slot.unset).toArray = ls at hl ⊢
  have hl : lv_has ls 6 [(0, .ref mm)] := hl
  refine lv_aload_n hx hb dX5_passOne_0 rfl (lv_at hl 0 rfl) ?_
  refine lv_dup hx hb dX5_passOne_1 rfl ?_
  refine m_get hx hb hts hinX5 hown hI hR 22 (by decide) hw0 rfl rfl dX5_passOne_2 ?_
  refine lv_iconst (v := 1) hx hb dX5_passOne_5 (by decide) ?_
  refine lv_iadd hx hb dX5_passOne_6 ?_
  refine m_put hx hb hts hinX5 hown hI hR 22 (by decide) rfl hw0 rfl rfl (by decide +kernel) dX5_passOne_7 (fun f_1 H locs hR hI => ?_)
  obtain ⟨M_2, eM_2⟩ : ∃ z, z = mw M 22 0 ((M 22 0) + 1) := ⟨_, rfl⟩
  rw [← eM_2] at hR
  refine lv_iconst (v := 0) hx hb dX5_passOne_10 (by decide) ?_
  refine lv_istore_n (lv' := [(1, .int 0), (0, .ref mm)]) hx hb dX5_passOne_11 rfl hl (by decide) rfl (fun ls hl => ?_)
  refine lv_iconst (v := 0) hx hb dX5_passOne_12 (by decide) ?_
  refine lv_istore_n (lv' := [(2, .int 0), (1, .int 0), (0, .ref mm)]) hx hb dX5_passOne_13 rfl hl (by decide) rfl (fun ls hl => ?_)
  have hloop_14 : ∀ (n j : Nat) (acc : Int32) (N : gMd) (fN : gFm) (H : Heap) (locs : List Loc), j ≤ nc → nc + 1 ≤ j + n → mOK nk nc N → Rm cy mm ma N fN → gI D cy de (gA f s.heap.size) s fN H locs → mRunL (nc - j) j acc N = mRunL nc 0 0 M_2 → ∀ ls : Array Slot, lv_has ls 6 [(2, .int (nI j)), (1, .int acc), (0, .ref mm)] → W p l e (headSpec wsX5_passOne { frames := 2, cells := 0, slots := 0, locals := 45 }).room s m ([.ref mm] : List Value).toArray below meth c H locs 0 0 (MQ below (va_Qi (fun r9 f9 => r9 = ((mOne nk nc M).1) ∧ Rm cy mm ma ((mOne nk nc M).2) f9) (gB D (gA f s.heap.size)) (gA f s.heap.size)) ([.ref mm] : List Value).toArray s 0 0 (gA f s.heap.size)) (F0 m 14 ls []) := by
    intro n
    induction n with
    | zero => intro j acc N fN H locs h1 h2; exact absurd h2 (by omega)
    | succ n ih_14 =>
      intro j acc N fN H locs hjl hjn hok hR hI E_14 ls hl
      have hjx : ix (nI j) = j := nI_clamp (by have := hok.1; have := hok.2.1; omega)
      refine lv_iload_n hx hb dX5_passOne_14 rfl (lv_at hl 0 rfl) ?_
      refine lv_aload_n hx hb dX5_passOne_15 rfl (lv_at hl 2 rfl) ?_
      refine m_get hx hb hts hinX5 hown hI hR 13 (by decide) hw1 rfl rfl dX5_passOne_16 ?_
      refine lv_icmp_ge (tgt := 67) hx hb dX5_passOne_19 (by decide) (fun c_3 => ?_) (fun c_3 => ?_)
      · have c_3' := Int32.not_lt.mpr c_3
        have hj : j = nc := g_lpE hok.2.2.2.1 (by have := hok.1; have := hok.2.1; omega) hjl c_3
        rw [hj] at E_14
        have hres_14 := (mRunL_end (N := N) (a := acc)).symm.trans E_14
        refine lv_iconst (v := 0) hx hb dX5_passOne_67 (by decide) ?_
        refine lv_istore_n (lv' := [(2, .int 0), (1, .int acc), (0, .ref mm)]) hx hb dX5_passOne_68 rfl hl (by decide) rfl (fun ls hl => ?_)
        have hloop_69 : ∀ (n i : Nat) (N_69 : gMd) (fN_69 : gFm) (H : Heap) (locs : List Loc), i ≤ nk → nk + 1 ≤ i + n → mOK nk nc N_69 → Rm cy mm ma N_69 fN_69 → gI D cy de (gA f s.heap.size) s fN_69 H locs → mFillL nc (nk - i) i N_69 = mFillL nc nk 0 N → ∀ ls : Array Slot, lv_has ls 6 [(2, .int (nI i)), (1, .int acc), (0, .ref mm)] → W p l e (headSpec wsX5_passOne { frames := 2, cells := 0, slots := 0, locals := 45 }).room s m ([.ref mm] : List Value).toArray below meth c H locs 0 0 (MQ below (va_Qi (fun r9 f9 => r9 = ((mOne nk nc M).1) ∧ Rm cy mm ma ((mOne nk nc M).2) f9) (gB D (gA f s.heap.size)) (gA f s.heap.size)) ([.ref mm] : List Value).toArray s 0 0 (gA f s.heap.size)) (F0 m 69 ls []) := by
          intro n
          induction n with
          | zero => intro i N_69 fN_69 H locs h1 h2; exact absurd h2 (by omega)
          | succ n ih_69 =>
            intro i N_69 fN_69 H locs hjl hjn hok hR hI E_69 ls hl
            have hjx : ix (nI i) = i := nI_clamp (by have := hok.1; have := hok.2.1; omega)
            refine lv_iload_n hx hb dX5_passOne_69 rfl (lv_at hl 0 rfl) ?_
            refine lv_aload_n hx hb dX5_passOne_70 rfl (lv_at hl 2 rfl) ?_
            refine m_get hx hb hts hinX5 hown hI hR 6 (by decide) hw2 rfl rfl dX5_passOne_71 ?_
            refine lv_icmp_ge (tgt := 174) hx hb dX5_passOne_74 (by decide) (fun c_4 => ?_) (fun c_4 => ?_)
            · have c_4' := Int32.not_lt.mpr c_4
              have hj : i = nk := g_lpE hok.2.2.1 (by have := hok.1; have := hok.2.1; omega) hjl c_4
              rw [hj] at E_69
              have hres_69 := (mFillL_end (nc := nc) (N := N_69)).symm.trans E_69
              refine lv_iload_n hx hb dX5_passOne_174 rfl (lv_at hl 1 rfl) ?_
              exact g_iret hx hb hr hlocks hI (by have hE : mOne nk nc M = (acc, N_69) := (by show ((mRunL nc 0 0 (mw M 22 0 (M 22 0 + 1))).1, mFillL nc nk 0 (mRunL nc 0 0 (mw M 22 0 (M 22 0 + 1))).2) = _; rw [← eM_2, ← hres_14, hres_69]); exact ⟨by rw [hE], by rw [hE]; exact hR⟩) (Nat.le_of_ble_eq_true rfl) (Nat.le_of_ble_eq_true rfl) dX5_passOne_175
            · have c_4' := Int32.not_le.mp c_4
              have hj : i < nk := g_lpC hok.2.2.1 (by have := hok.1; have := hok.2.1; omega) hjl c_4
              refine lv_aload_n hx hb dX5_passOne_77 rfl (lv_at hl 2 rfl) ?_
              refine m_get hx hb hts hinX5 hown hI hR 7 (by decide) hw3 rfl rfl dX5_passOne_78 ?_
              refine lv_iload_n hx hb dX5_passOne_81 rfl (lv_at hl 0 rfl) ?_
              refine m_iald hx hb hI hR 7 rfl rfl (vp_in_nI (Nat.lt_of_lt_of_le hj hok.1) (by decide)) dX5_passOne_82 ?_
              rw [hjx]
              refine lv_istore_n (lv' := [(3, .int (N_69 7 i)), (2, .int (nI i)), (1, .int acc), (0, .ref mm)]) hx hb dX5_passOne_83 rfl hl (by decide) rfl (fun ls hl => ?_)
              refine lv_aload_n hx hb dX5_passOne_84 rfl (lv_at hl 3 rfl) ?_
              refine m_get hx hb hts hinX5 hown hI hR 11 (by decide) hw4 rfl rfl dX5_passOne_85 ?_
              refine lv_iload_n hx hb dX5_passOne_88 rfl (lv_at hl 1 rfl) ?_
              refine m_iald hx hb hI hR 11 rfl rfl (vp_in_nI (Nat.lt_of_lt_of_le hj hok.1) (by decide)) dX5_passOne_89 ?_
              rw [hjx]
              refine lv_aload_n hx hb dX5_passOne_90 rfl (lv_at hl 3 rfl) ?_
              refine lv_iload_n hx hb dX5_passOne_91 rfl (lv_at hl 1 rfl) ?_
              refine g_calli hI (va_runV (As := [.int (nI i)]) (rest := [.int (N_69 11 i)]) ⟨hx, hb, hml, hown, hts⟩ (c_X5_isSlow l D cy de fN_69 mm ma N_69 (nI i) nk nc (by exact hok) hR (vp_in_nI (Nat.lt_of_lt_of_le hj hok.1) (by decide)) H.size) (cwV 1 hts gX5_passOne_X5_isSlow rfl rfl rfl (by decide +kernel) ⟨Nat.le_of_ble_eq_true rfl, Nat.le_of_ble_eq_true rfl⟩) (g_preV hI hR.1 rfl) rfl rfl hl.1 rfl (lv_room (Nat.le_of_ble_eq_true rfl)) dX5_passOne_92 ⟨Nat.le_of_ble_eq_true rfl, Nat.le_of_ble_eq_true rfl⟩) (fun r_5 f_6 H locs hw_7 hI => ?_)
              obtain ⟨rfl, hR⟩ := hw_7
              refine g_b2i_eq (tgt := 107) hx hb dX5_passOne_95 (by decide) (fun c_8 => ?_) (fun c_8 => ?_)
              · refine lv_aload_n hx hb dX5_passOne_107 rfl (lv_at hl 3 rfl) ?_
                refine m_get hx hb hts hinX5 hown hI hR 2 (by decide) hw5 rfl rfl dX5_passOne_108 ?_
                refine lv_iload_n hx hb dX5_passOne_111 rfl (lv_at hl 0 rfl) ?_
                refine m_iald hx hb hI hR 2 rfl rfl (hok.2.2.2.2.1 i hj) dX5_passOne_112 ?_
                refine lv_iadd hx hb dX5_passOne_113 ?_
                refine lv_istore (lv' := [(4, .int ((N_69 11 i) + (N_69 2 (ix (N_69 7 i))))), (3, .int (N_69 7 i)), (2, .int (nI i)), (1, .int acc), (0, .ref mm)]) hx hb dX5_passOne_114 hl (by decide) rfl (fun ls hl => ?_)
                refine lv_aload_n hx hb dX5_passOne_116 rfl (lv_at hl 4 rfl) ?_
                refine m_get hx hb hts hinX5 hown hI hR 11 (by decide) hw4 rfl rfl dX5_passOne_117 ?_
                refine lv_iload_n hx hb dX5_passOne_120 rfl (lv_at hl 2 rfl) ?_
                refine m_iald hx hb hI hR 11 rfl rfl (vp_in_nI (Nat.lt_of_lt_of_le hj hok.1) (by decide)) dX5_passOne_121 ?_
                rw [hjx]
                refine lv_aload_n hx hb dX5_passOne_122 rfl (lv_at hl 4 rfl) ?_
                refine m_get hx hb hts hinX5 hown hI hR 1 (by decide) hw6 rfl rfl dX5_passOne_123 ?_
                refine lv_iload_n hx hb dX5_passOne_126 rfl (lv_at hl 1 rfl) ?_
                refine m_iald hx hb hI hR 1 rfl rfl (hok.2.2.2.2.1 i hj) dX5_passOne_127 ?_
                refine lv_icmp_le (tgt := 140) hx hb dX5_passOne_128 (by decide) (fun c_9 => ?_) (fun c_9 => ?_)
                · have c_9' := Int32.not_lt.mpr c_9
                  refine lv_aload_n hx hb dX5_passOne_140 rfl (lv_at hl 4 rfl) ?_
                  refine m_get hx hb hts hinX5 hown hI hR 1 (by decide) hw6 rfl rfl dX5_passOne_141 ?_
                  refine lv_iload_n hx hb dX5_passOne_144 rfl (lv_at hl 1 rfl) ?_
                  refine m_iald hx hb hI hR 1 rfl rfl (hok.2.2.2.2.1 i hj) dX5_passOne_145 ?_
                  refine lv_istore (lv' := [(5, .int (N_69 1 (ix (N_69 7 i)))), (4, .int ((N_69 11 i) + (N_69 2 (ix (N_69 7 i))))), (3, .int (N_69 7 i)), (2, .int (nI i)), (1, .int acc), (0, .ref mm)]) hx hb dX5_passOne_146 hl (by decide) rfl (fun ls hl => ?_)
                  refine lv_aload_n hx hb dX5_passOne_148 rfl (lv_at hl 5 rfl) ?_
                  refine m_get hx hb hts hinX5 hown hI hR 11 (by decide) hw4 rfl rfl dX5_passOne_149 ?_
                  refine lv_iload_n hx hb dX5_passOne_152 rfl (lv_at hl 3 rfl) ?_
                  refine lv_iload hx hb dX5_passOne_153 (lv_at hl 1 rfl) ?_
                  refine lv_iload hx hb dX5_passOne_155 (lv_at hl 0 rfl) ?_
                  refine lv_icmp_ge (tgt := 165) hx hb dX5_passOne_157 (by decide) (fun c_10 => ?_) (fun c_10 => ?_)
                  · have c_10' := Int32.not_lt.mpr c_10
                    refine lv_iload hx hb dX5_passOne_165 (lv_at hl 0 rfl) ?_
                    refine m_iast hx hb hI hR 11 rfl rfl (vp_in_nI (Nat.lt_of_lt_of_le hj hok.1) (by decide)) dX5_passOne_167 (fun f_11 H locs hR hI => ?_)
                    rw [hjx] at hR
                    obtain ⟨M_12, eM_12⟩ : ∃ z, z = mw N_69 11 i (N_69 1 (ix (N_69 7 i))) := ⟨_, rfl⟩
                    rw [← eM_12] at hR
                    refine lv_iinc (v := (nI i) + 1) (lv' := [(2, .int ((nI i) + 1)), (5, .int (N_69 1 (ix (N_69 7 i)))), (4, .int ((N_69 11 i) + (N_69 2 (ix (N_69 7 i))))), (3, .int (N_69 7 i)), (1, .int acc), (0, .ref mm)]) hx hb dX5_passOne_168 hl (k := 3) rfl rfl (by decide) rfl (fun ls hl => ?_)
                    refine lv_goto (tgt := 69) hx hb dX5_passOne_171 (by decide) ?_
                    refine ih_69 (i + 1)  M_12 f_11 H locs (by omega) (by omega) (by subst eM_12; exact hok) hR hI ?_ ls ?_
                    · have E1 := (mFillL_step (nc := nc) (N := N_69) hj).symm.trans E_69
                      simp only [mFill1, c_8, c_9, c_9', c_10, c_10', if_true, if_false, ↓reduceIte, Bool.true_eq_false, Bool.false_eq_true, true_and, and_true, and_false, false_and, or_true, true_or, or_false, false_or, not_true_eq_false, not_false_eq_true, Bool.and_true, Bool.true_and, Bool.and_false, Bool.false_and, Bool.not_true, Bool.not_false, decide_true, decide_false, cond_true, cond_false] at E1
                      subst eM_12; exact E1
                    · rw [← nI_1]
                      exact lv_sub hl [0, 4, 5] rfl
                  · have c_10' := Int32.not_le.mp c_10
                    refine lv_iload hx hb dX5_passOne_160 (lv_at hl 1 rfl) ?_
                    refine lv_goto (tgt := 167) hx hb dX5_passOne_162 (by decide) ?_
                    refine m_iast hx hb hI hR 11 rfl rfl (vp_in_nI (Nat.lt_of_lt_of_le hj hok.1) (by decide)) dX5_passOne_167 (fun f_13 H locs hR hI => ?_)
                    rw [hjx] at hR
                    obtain ⟨M_14, eM_14⟩ : ∃ z, z = mw N_69 11 i ((N_69 11 i) + (N_69 2 (ix (N_69 7 i)))) := ⟨_, rfl⟩
                    rw [← eM_14] at hR
                    refine lv_iinc (v := (nI i) + 1) (lv' := [(2, .int ((nI i) + 1)), (5, .int (N_69 1 (ix (N_69 7 i)))), (4, .int ((N_69 11 i) + (N_69 2 (ix (N_69 7 i))))), (3, .int (N_69 7 i)), (1, .int acc), (0, .ref mm)]) hx hb dX5_passOne_168 hl (k := 3) rfl rfl (by decide) rfl (fun ls hl => ?_)
                    refine lv_goto (tgt := 69) hx hb dX5_passOne_171 (by decide) ?_
                    refine ih_69 (i + 1)  M_14 f_13 H locs (by omega) (by omega) (by subst eM_14; exact hok) hR hI ?_ ls ?_
                    · have E1 := (mFillL_step (nc := nc) (N := N_69) hj).symm.trans E_69
                      simp only [mFill1, c_8, c_9, c_9', c_10, c_10', if_true, if_false, ↓reduceIte, Bool.true_eq_false, Bool.false_eq_true, true_and, and_true, and_false, false_and, or_true, true_or, or_false, false_or, not_true_eq_false, not_false_eq_true, Bool.and_true, Bool.true_and, Bool.and_false, Bool.false_and, Bool.not_true, Bool.not_false, decide_true, decide_false, cond_true, cond_false] at E1
                      subst eM_14; exact E1
                    · rw [← nI_1]
                      exact lv_sub hl [0, 4, 5] rfl
                · have c_9' := Int32.not_le.mp c_9
                  refine lv_aload_n hx hb dX5_passOne_131 rfl (lv_at hl 4 rfl) ?_
                  refine m_get hx hb hts hinX5 hown hI hR 11 (by decide) hw4 rfl rfl dX5_passOne_132 ?_
                  refine lv_iload_n hx hb dX5_passOne_135 rfl (lv_at hl 2 rfl) ?_
                  refine m_iald hx hb hI hR 11 rfl rfl (vp_in_nI (Nat.lt_of_lt_of_le hj hok.1) (by decide)) dX5_passOne_136 ?_
                  rw [hjx]
                  refine lv_goto (tgt := 146) hx hb dX5_passOne_137 (by decide) ?_
                  refine lv_istore (lv' := [(5, .int (N_69 11 i)), (4, .int ((N_69 11 i) + (N_69 2 (ix (N_69 7 i))))), (3, .int (N_69 7 i)), (2, .int (nI i)), (1, .int acc), (0, .ref mm)]) hx hb dX5_passOne_146 hl (by decide) rfl (fun ls hl => ?_)
                  refine lv_aload_n hx hb dX5_passOne_148 rfl (lv_at hl 5 rfl) ?_
                  refine m_get hx hb hts hinX5 hown hI hR 11 (by decide) hw4 rfl rfl dX5_passOne_149 ?_
                  refine lv_iload_n hx hb dX5_passOne_152 rfl (lv_at hl 3 rfl) ?_
                  refine lv_iload hx hb dX5_passOne_153 (lv_at hl 1 rfl) ?_
                  refine lv_iload hx hb dX5_passOne_155 (lv_at hl 0 rfl) ?_
                  refine lv_icmp_ge (tgt := 165) hx hb dX5_passOne_157 (by decide) (fun c_15 => ?_) (fun c_15 => ?_)
                  · have c_15' := Int32.not_lt.mpr c_15
                    refine lv_iload hx hb dX5_passOne_165 (lv_at hl 0 rfl) ?_
                    refine m_iast hx hb hI hR 11 rfl rfl (vp_in_nI (Nat.lt_of_lt_of_le hj hok.1) (by decide)) dX5_passOne_167 (fun f_16 H locs hR hI => ?_)
                    rw [hjx] at hR
                    obtain ⟨M_17, eM_17⟩ : ∃ z, z = mw N_69 11 i (N_69 11 i) := ⟨_, rfl⟩
                    rw [← eM_17] at hR
                    refine lv_iinc (v := (nI i) + 1) (lv' := [(2, .int ((nI i) + 1)), (5, .int (N_69 11 i)), (4, .int ((N_69 11 i) + (N_69 2 (ix (N_69 7 i))))), (3, .int (N_69 7 i)), (1, .int acc), (0, .ref mm)]) hx hb dX5_passOne_168 hl (k := 3) rfl rfl (by decide) rfl (fun ls hl => ?_)
                    refine lv_goto (tgt := 69) hx hb dX5_passOne_171 (by decide) ?_
                    refine ih_69 (i + 1)  M_17 f_16 H locs (by omega) (by omega) (by subst eM_17; exact hok) hR hI ?_ ls ?_
                    · have E1 := (mFillL_step (nc := nc) (N := N_69) hj).symm.trans E_69
                      simp only [mFill1, c_8, c_9, c_9', c_15, c_15', if_true, if_false, ↓reduceIte, Bool.true_eq_false, Bool.false_eq_true, true_and, and_true, and_false, false_and, or_true, true_or, or_false, false_or, not_true_eq_false, not_false_eq_true, Bool.and_true, Bool.true_and, Bool.and_false, Bool.false_and, Bool.not_true, Bool.not_false, decide_true, decide_false, cond_true, cond_false] at E1
                      subst eM_17; exact E1
                    · rw [← nI_1]
                      exact lv_sub hl [0, 4, 5] rfl
                  · have c_15' := Int32.not_le.mp c_15
                    refine lv_iload hx hb dX5_passOne_160 (lv_at hl 1 rfl) ?_
                    refine lv_goto (tgt := 167) hx hb dX5_passOne_162 (by decide) ?_
                    refine m_iast hx hb hI hR 11 rfl rfl (vp_in_nI (Nat.lt_of_lt_of_le hj hok.1) (by decide)) dX5_passOne_167 (fun f_18 H locs hR hI => ?_)
                    rw [hjx] at hR
                    obtain ⟨M_19, eM_19⟩ : ∃ z, z = mw N_69 11 i ((N_69 11 i) + (N_69 2 (ix (N_69 7 i)))) := ⟨_, rfl⟩
                    rw [← eM_19] at hR
                    refine lv_iinc (v := (nI i) + 1) (lv' := [(2, .int ((nI i) + 1)), (5, .int (N_69 11 i)), (4, .int ((N_69 11 i) + (N_69 2 (ix (N_69 7 i))))), (3, .int (N_69 7 i)), (1, .int acc), (0, .ref mm)]) hx hb dX5_passOne_168 hl (k := 3) rfl rfl (by decide) rfl (fun ls hl => ?_)
                    refine lv_goto (tgt := 69) hx hb dX5_passOne_171 (by decide) ?_
                    refine ih_69 (i + 1)  M_19 f_18 H locs (by omega) (by omega) (by subst eM_19; exact hok) hR hI ?_ ls ?_
                    · have E1 := (mFillL_step (nc := nc) (N := N_69) hj).symm.trans E_69
                      simp only [mFill1, c_8, c_9, c_9', c_15, c_15', if_true, if_false, ↓reduceIte, Bool.true_eq_false, Bool.false_eq_true, true_and, and_true, and_false, false_and, or_true, true_or, or_false, false_or, not_true_eq_false, not_false_eq_true, Bool.and_true, Bool.true_and, Bool.and_false, Bool.false_and, Bool.not_true, Bool.not_false, decide_true, decide_false, cond_true, cond_false] at E1
                      subst eM_19; exact E1
                    · rw [← nI_1]
                      exact lv_sub hl [0, 4, 5] rfl
              · refine lv_aload_n hx hb dX5_passOne_98 rfl (lv_at hl 3 rfl) ?_
                refine m_get hx hb hts hinX5 hown hI hR 3 (by decide) hw7 rfl rfl dX5_passOne_99 ?_
                refine lv_iload_n hx hb dX5_passOne_102 rfl (lv_at hl 0 rfl) ?_
                refine m_iald hx hb hI hR 3 rfl rfl (hok.2.2.2.2.1 i hj) dX5_passOne_103 ?_
                refine lv_goto (tgt := 113) hx hb dX5_passOne_104 (by decide) ?_
                refine lv_iadd hx hb dX5_passOne_113 ?_
                refine lv_istore (lv' := [(4, .int ((N_69 11 i) + (N_69 3 (ix (N_69 7 i))))), (3, .int (N_69 7 i)), (2, .int (nI i)), (1, .int acc), (0, .ref mm)]) hx hb dX5_passOne_114 hl (by decide) rfl (fun ls hl => ?_)
                refine lv_aload_n hx hb dX5_passOne_116 rfl (lv_at hl 4 rfl) ?_
                refine m_get hx hb hts hinX5 hown hI hR 11 (by decide) hw4 rfl rfl dX5_passOne_117 ?_
                refine lv_iload_n hx hb dX5_passOne_120 rfl (lv_at hl 2 rfl) ?_
                refine m_iald hx hb hI hR 11 rfl rfl (vp_in_nI (Nat.lt_of_lt_of_le hj hok.1) (by decide)) dX5_passOne_121 ?_
                rw [hjx]
                refine lv_aload_n hx hb dX5_passOne_122 rfl (lv_at hl 4 rfl) ?_
                refine m_get hx hb hts hinX5 hown hI hR 1 (by decide) hw6 rfl rfl dX5_passOne_123 ?_
                refine lv_iload_n hx hb dX5_passOne_126 rfl (lv_at hl 1 rfl) ?_
                refine m_iald hx hb hI hR 1 rfl rfl (hok.2.2.2.2.1 i hj) dX5_passOne_127 ?_
                refine lv_icmp_le (tgt := 140) hx hb dX5_passOne_128 (by decide) (fun c_20 => ?_) (fun c_20 => ?_)
                · have c_20' := Int32.not_lt.mpr c_20
                  refine lv_aload_n hx hb dX5_passOne_140 rfl (lv_at hl 4 rfl) ?_
                  refine m_get hx hb hts hinX5 hown hI hR 1 (by decide) hw6 rfl rfl dX5_passOne_141 ?_
                  refine lv_iload_n hx hb dX5_passOne_144 rfl (lv_at hl 1 rfl) ?_
                  refine m_iald hx hb hI hR 1 rfl rfl (hok.2.2.2.2.1 i hj) dX5_passOne_145 ?_
                  refine lv_istore (lv' := [(5, .int (N_69 1 (ix (N_69 7 i)))), (4, .int ((N_69 11 i) + (N_69 3 (ix (N_69 7 i))))), (3, .int (N_69 7 i)), (2, .int (nI i)), (1, .int acc), (0, .ref mm)]) hx hb dX5_passOne_146 hl (by decide) rfl (fun ls hl => ?_)
                  refine lv_aload_n hx hb dX5_passOne_148 rfl (lv_at hl 5 rfl) ?_
                  refine m_get hx hb hts hinX5 hown hI hR 11 (by decide) hw4 rfl rfl dX5_passOne_149 ?_
                  refine lv_iload_n hx hb dX5_passOne_152 rfl (lv_at hl 3 rfl) ?_
                  refine lv_iload hx hb dX5_passOne_153 (lv_at hl 1 rfl) ?_
                  refine lv_iload hx hb dX5_passOne_155 (lv_at hl 0 rfl) ?_
                  refine lv_icmp_ge (tgt := 165) hx hb dX5_passOne_157 (by decide) (fun c_21 => ?_) (fun c_21 => ?_)
                  · have c_21' := Int32.not_lt.mpr c_21
                    refine lv_iload hx hb dX5_passOne_165 (lv_at hl 0 rfl) ?_
                    refine m_iast hx hb hI hR 11 rfl rfl (vp_in_nI (Nat.lt_of_lt_of_le hj hok.1) (by decide)) dX5_passOne_167 (fun f_22 H locs hR hI => ?_)
                    rw [hjx] at hR
                    obtain ⟨M_23, eM_23⟩ : ∃ z, z = mw N_69 11 i (N_69 1 (ix (N_69 7 i))) := ⟨_, rfl⟩
                    rw [← eM_23] at hR
                    refine lv_iinc (v := (nI i) + 1) (lv' := [(2, .int ((nI i) + 1)), (5, .int (N_69 1 (ix (N_69 7 i)))), (4, .int ((N_69 11 i) + (N_69 3 (ix (N_69 7 i))))), (3, .int (N_69 7 i)), (1, .int acc), (0, .ref mm)]) hx hb dX5_passOne_168 hl (k := 3) rfl rfl (by decide) rfl (fun ls hl => ?_)
                    refine lv_goto (tgt := 69) hx hb dX5_passOne_171 (by decide) ?_
                    refine ih_69 (i + 1)  M_23 f_22 H locs (by omega) (by omega) (by subst eM_23; exact hok) hR hI ?_ ls ?_
                    · have E1 := (mFillL_step (nc := nc) (N := N_69) hj).symm.trans E_69
                      simp only [mFill1, c_8, c_20, c_20', c_21, c_21', if_true, if_false, ↓reduceIte, Bool.true_eq_false, Bool.false_eq_true, true_and, and_true, and_false, false_and, or_true, true_or, or_false, false_or, not_true_eq_false, not_false_eq_true, Bool.and_true, Bool.true_and, Bool.and_false, Bool.false_and, Bool.not_true, Bool.not_false, decide_true, decide_false, cond_true, cond_false] at E1
                      subst eM_23; exact E1
                    · rw [← nI_1]
                      exact lv_sub hl [0, 4, 5] rfl
                  · have c_21' := Int32.not_le.mp c_21
                    refine lv_iload hx hb dX5_passOne_160 (lv_at hl 1 rfl) ?_
                    refine lv_goto (tgt := 167) hx hb dX5_passOne_162 (by decide) ?_
                    refine m_iast hx hb hI hR 11 rfl rfl (vp_in_nI (Nat.lt_of_lt_of_le hj hok.1) (by decide)) dX5_passOne_167 (fun f_24 H locs hR hI => ?_)
                    rw [hjx] at hR
                    obtain ⟨M_25, eM_25⟩ : ∃ z, z = mw N_69 11 i ((N_69 11 i) + (N_69 3 (ix (N_69 7 i)))) := ⟨_, rfl⟩
                    rw [← eM_25] at hR
                    refine lv_iinc (v := (nI i) + 1) (lv' := [(2, .int ((nI i) + 1)), (5, .int (N_69 1 (ix (N_69 7 i)))), (4, .int ((N_69 11 i) + (N_69 3 (ix (N_69 7 i))))), (3, .int (N_69 7 i)), (1, .int acc), (0, .ref mm)]) hx hb dX5_passOne_168 hl (k := 3) rfl rfl (by decide) rfl (fun ls hl => ?_)
                    refine lv_goto (tgt := 69) hx hb dX5_passOne_171 (by decide) ?_
                    refine ih_69 (i + 1)  M_25 f_24 H locs (by omega) (by omega) (by subst eM_25; exact hok) hR hI ?_ ls ?_
                    · have E1 := (mFillL_step (nc := nc) (N := N_69) hj).symm.trans E_69
                      simp only [mFill1, c_8, c_20, c_20', c_21, c_21', if_true, if_false, ↓reduceIte, Bool.true_eq_false, Bool.false_eq_true, true_and, and_true, and_false, false_and, or_true, true_or, or_false, false_or, not_true_eq_false, not_false_eq_true, Bool.and_true, Bool.true_and, Bool.and_false, Bool.false_and, Bool.not_true, Bool.not_false, decide_true, decide_false, cond_true, cond_false] at E1
                      subst eM_25; exact E1
                    · rw [← nI_1]
                      exact lv_sub hl [0, 4, 5] rfl
                · have c_20' := Int32.not_le.mp c_20
                  refine lv_aload_n hx hb dX5_passOne_131 rfl (lv_at hl 4 rfl) ?_
                  refine m_get hx hb hts hinX5 hown hI hR 11 (by decide) hw4 rfl rfl dX5_passOne_132 ?_
                  refine lv_iload_n hx hb dX5_passOne_135 rfl (lv_at hl 2 rfl) ?_
                  refine m_iald hx hb hI hR 11 rfl rfl (vp_in_nI (Nat.lt_of_lt_of_le hj hok.1) (by decide)) dX5_passOne_136 ?_
                  rw [hjx]
                  refine lv_goto (tgt := 146) hx hb dX5_passOne_137 (by decide) ?_
                  refine lv_istore (lv' := [(5, .int (N_69 11 i)), (4, .int ((N_69 11 i) + (N_69 3 (ix (N_69 7 i))))), (3, .int (N_69 7 i)), (2, .int (nI i)), (1, .int acc), (0, .ref mm)]) hx hb dX5_passOne_146 hl (by decide) rfl (fun ls hl => ?_)
                  refine lv_aload_n hx hb dX5_passOne_148 rfl (lv_at hl 5 rfl) ?_
                  refine m_get hx hb hts hinX5 hown hI hR 11 (by decide) hw4 rfl rfl dX5_passOne_149 ?_
                  refine lv_iload_n hx hb dX5_passOne_152 rfl (lv_at hl 3 rfl) ?_
                  refine lv_iload hx hb dX5_passOne_153 (lv_at hl 1 rfl) ?_
                  refine lv_iload hx hb dX5_passOne_155 (lv_at hl 0 rfl) ?_
                  refine lv_icmp_ge (tgt := 165) hx hb dX5_passOne_157 (by decide) (fun c_26 => ?_) (fun c_26 => ?_)
                  · have c_26' := Int32.not_lt.mpr c_26
                    refine lv_iload hx hb dX5_passOne_165 (lv_at hl 0 rfl) ?_
                    refine m_iast hx hb hI hR 11 rfl rfl (vp_in_nI (Nat.lt_of_lt_of_le hj hok.1) (by decide)) dX5_passOne_167 (fun f_27 H locs hR hI => ?_)
                    rw [hjx] at hR
                    obtain ⟨M_28, eM_28⟩ : ∃ z, z = mw N_69 11 i (N_69 11 i) := ⟨_, rfl⟩
                    rw [← eM_28] at hR
                    refine lv_iinc (v := (nI i) + 1) (lv' := [(2, .int ((nI i) + 1)), (5, .int (N_69 11 i)), (4, .int ((N_69 11 i) + (N_69 3 (ix (N_69 7 i))))), (3, .int (N_69 7 i)), (1, .int acc), (0, .ref mm)]) hx hb dX5_passOne_168 hl (k := 3) rfl rfl (by decide) rfl (fun ls hl => ?_)
                    refine lv_goto (tgt := 69) hx hb dX5_passOne_171 (by decide) ?_
                    refine ih_69 (i + 1)  M_28 f_27 H locs (by omega) (by omega) (by subst eM_28; exact hok) hR hI ?_ ls ?_
                    · have E1 := (mFillL_step (nc := nc) (N := N_69) hj).symm.trans E_69
                      simp only [mFill1, c_8, c_20, c_20', c_26, c_26', if_true, if_false, ↓reduceIte, Bool.true_eq_false, Bool.false_eq_true, true_and, and_true, and_false, false_and, or_true, true_or, or_false, false_or, not_true_eq_false, not_false_eq_true, Bool.and_true, Bool.true_and, Bool.and_false, Bool.false_and, Bool.not_true, Bool.not_false, decide_true, decide_false, cond_true, cond_false] at E1
                      subst eM_28; exact E1
                    · rw [← nI_1]
                      exact lv_sub hl [0, 4, 5] rfl
                  · have c_26' := Int32.not_le.mp c_26
                    refine lv_iload hx hb dX5_passOne_160 (lv_at hl 1 rfl) ?_
                    refine lv_goto (tgt := 167) hx hb dX5_passOne_162 (by decide) ?_
                    refine m_iast hx hb hI hR 11 rfl rfl (vp_in_nI (Nat.lt_of_lt_of_le hj hok.1) (by decide)) dX5_passOne_167 (fun f_29 H locs hR hI => ?_)
                    rw [hjx] at hR
                    obtain ⟨M_30, eM_30⟩ : ∃ z, z = mw N_69 11 i ((N_69 11 i) + (N_69 3 (ix (N_69 7 i)))) := ⟨_, rfl⟩
                    rw [← eM_30] at hR
                    refine lv_iinc (v := (nI i) + 1) (lv' := [(2, .int ((nI i) + 1)), (5, .int (N_69 11 i)), (4, .int ((N_69 11 i) + (N_69 3 (ix (N_69 7 i))))), (3, .int (N_69 7 i)), (1, .int acc), (0, .ref mm)]) hx hb dX5_passOne_168 hl (k := 3) rfl rfl (by decide) rfl (fun ls hl => ?_)
                    refine lv_goto (tgt := 69) hx hb dX5_passOne_171 (by decide) ?_
                    refine ih_69 (i + 1)  M_30 f_29 H locs (by omega) (by omega) (by subst eM_30; exact hok) hR hI ?_ ls ?_
                    · have E1 := (mFillL_step (nc := nc) (N := N_69) hj).symm.trans E_69
                      simp only [mFill1, c_8, c_20, c_20', c_26, c_26', if_true, if_false, ↓reduceIte, Bool.true_eq_false, Bool.false_eq_true, true_and, and_true, and_false, false_and, or_true, true_or, or_false, false_or, not_true_eq_false, not_false_eq_true, Bool.and_true, Bool.true_and, Bool.and_false, Bool.false_and, Bool.not_true, Bool.not_false, decide_true, decide_false, cond_true, cond_false] at E1
                      subst eM_30; exact E1
                    · rw [← nI_1]
                      exact lv_sub hl [0, 4, 5] rfl
        exact hloop_69 (nk + 1) 0  N fN H locs (Nat.zero_le _) (by omega) hok hR hI rfl ls (lv_sub hl [0, 1, 2] rfl)
      · have c_3' := Int32.not_le.mp c_3
        have hj : j < nc := g_lpC hok.2.2.2.1 (by have := hok.1; have := hok.2.1; omega) hjl c_3
        refine lv_aload_n hx hb dX5_passOne_22 rfl (lv_at hl 2 rfl) ?_
        refine m_get hx hb hts hinX5 hown hI hR 20 (by decide) hw8 rfl rfl dX5_passOne_23 ?_
        refine lv_iload_n hx hb dX5_passOne_26 rfl (lv_at hl 0 rfl) ?_
        refine m_zald hx hb hI hR 20 rfl rfl (vp_in_nI (Nat.lt_of_lt_of_le hj hok.2.1) (by decide)) dX5_passOne_27 ?_
        rw [hjx]
        refine lv_if_ne (tgt := 61) hx hb dX5_passOne_28 (by decide) (fun c_31 => ?_) (fun c_31 => ?_)
        · refine lv_iinc (v := (nI j) + 1) (lv' := [(2, .int ((nI j) + 1)), (1, .int acc), (0, .ref mm)]) hx hb dX5_passOne_61 hl (k := 0) rfl rfl (by decide) rfl (fun ls hl => ?_)
          refine lv_goto (tgt := 14) hx hb dX5_passOne_64 (by decide) ?_
          refine ih_14 (j + 1) acc N fN H locs (by omega) (by omega) hok hR hI ?_ ls ?_
          · have E1 := (mRunL_step (N := N) (a := acc) hj).symm.trans E_14
            simp only [c_31, if_true, if_false, ↓reduceIte, Bool.true_eq_false, Bool.false_eq_true, true_and, and_true, and_false, false_and, or_true, true_or, or_false, false_or, not_true_eq_false, not_false_eq_true, Bool.and_true, Bool.true_and, Bool.and_false, Bool.false_and, Bool.not_true, Bool.not_false, decide_true, decide_false, cond_true, cond_false] at E1
            exact E1
          · rw [← nI_1]
            exact lv_sub hl [0, 1, 2] rfl
        · refine lv_aload_n hx hb dX5_passOne_31 rfl (lv_at hl 2 rfl) ?_
          refine m_get hx hb hts hinX5 hown hI hR 22 (by decide) hw0 rfl rfl dX5_passOne_32 ?_
          refine lv_aload_n hx hb dX5_passOne_35 rfl (lv_at hl 2 rfl) ?_
          refine m_get hx hb hts hinX5 hown hI hR 17 (by decide) hw9 rfl rfl dX5_passOne_36 ?_
          refine lv_iload_n hx hb dX5_passOne_39 rfl (lv_at hl 0 rfl) ?_
          refine m_iald hx hb hI hR 17 rfl rfl (vp_in_nI (Nat.lt_of_lt_of_le hj hok.2.1) (by decide)) dX5_passOne_40 ?_
          rw [hjx]
          refine lv_isub hx hb dX5_passOne_41 ?_
          refine lv_bipush (v := 20) hx hb dX5_passOne_42 (by decide) ?_
          refine lv_icmp_ne (tgt := 61) hx hb dX5_passOne_44 (by decide) (fun c_32 => ?_) (fun c_32 => ?_)
          · refine lv_iinc (v := (nI j) + 1) (lv' := [(2, .int ((nI j) + 1)), (1, .int acc), (0, .ref mm)]) hx hb dX5_passOne_61 hl (k := 0) rfl rfl (by decide) rfl (fun ls hl => ?_)
            refine lv_goto (tgt := 14) hx hb dX5_passOne_64 (by decide) ?_
            refine ih_14 (j + 1) acc N fN H locs (by omega) (by omega) hok hR hI ?_ ls ?_
            · have E1 := (mRunL_step (N := N) (a := acc) hj).symm.trans E_14
              simp only [c_31, c_32, if_true, if_false, ↓reduceIte, Bool.true_eq_false, Bool.false_eq_true, true_and, and_true, and_false, false_and, or_true, true_or, or_false, false_or, not_true_eq_false, not_false_eq_true, Bool.and_true, Bool.true_and, Bool.and_false, Bool.false_and, Bool.not_true, Bool.not_false, decide_true, decide_false, cond_true, cond_false] at E1
              exact E1
            · rw [← nI_1]
              exact lv_sub hl [0, 1, 2] rfl
          · refine lv_aload_n hx hb dX5_passOne_47 rfl (lv_at hl 2 rfl) ?_
            refine lv_iload_n hx hb dX5_passOne_48 rfl (lv_at hl 0 rfl) ?_
            refine lv_aload_n hx hb dX5_passOne_49 rfl (lv_at hl 2 rfl) ?_
            refine m_get hx hb hts hinX5 hown hI hR 15 (by decide) hw10 rfl rfl dX5_passOne_50 ?_
            refine lv_iload_n hx hb dX5_passOne_53 rfl (lv_at hl 0 rfl) ?_
            refine m_iald hx hb hI hR 15 rfl rfl (vp_in_nI (Nat.lt_of_lt_of_le hj hok.2.1) (by decide)) dX5_passOne_54 ?_
            rw [hjx]
            refine g_callv hI (va_runV (As := [.int (nI j), .int (N 15 j)]) (rest := []) ⟨hx, hb, hml, hown, hts⟩ (c_X5_settle l D cy de fN mm ma N (nI j) (N 15 j) hR (vp_in_nI (Nat.lt_of_lt_of_le hj hok.2.1) (by decide)) (by rw [hjx]; exact hok.2.2.2.2.2 j hj) H.size) (cwV 2 hts gX5_passOne_X5_settle rfl rfl rfl (by decide +kernel) ⟨Nat.le_of_ble_eq_true rfl, Nat.le_of_ble_eq_true rfl⟩) (g_preV hI hR.1 rfl) rfl rfl hl.1 rfl (lv_room (Nat.le_of_ble_eq_true rfl)) dX5_passOne_55 ⟨Nat.le_of_ble_eq_true rfl, Nat.le_of_ble_eq_true rfl⟩) (fun f_34 H locs hw_35 hI => ?_)
            have hR := hw_35
            obtain ⟨M_36, eM_36⟩ : ∃ z, z = mSettle N (nI j) (N 15 j) := ⟨_, rfl⟩
            rw [← eM_36] at hR
            refine lv_iinc (v := acc + 1) (lv' := [(1, .int (acc + 1)), (2, .int (nI j)), (0, .ref mm)]) hx hb dX5_passOne_58 hl (k := 1) rfl rfl (by decide) rfl (fun ls hl => ?_)
            refine lv_iinc (v := (nI j) + 1) (lv' := [(2, .int ((nI j) + 1)), (1, .int (acc + 1)), (0, .ref mm)]) hx hb dX5_passOne_61 hl (k := 1) rfl rfl (by decide) rfl (fun ls hl => ?_)
            refine lv_goto (tgt := 14) hx hb dX5_passOne_64 (by decide) ?_
            refine ih_14 (j + 1) (acc + 1) M_36 f_34 H locs (by omega) (by omega) (by subst eM_36; exact hok) hR hI ?_ ls ?_
            · have E1 := (mRunL_step (N := N) (a := acc) hj).symm.trans E_14
              simp only [c_31, c_32, if_true, if_false, ↓reduceIte, Bool.true_eq_false, Bool.false_eq_true, true_and, and_true, and_false, false_and, or_true, true_or, or_false, false_or, not_true_eq_false, not_false_eq_true, Bool.and_true, Bool.true_and, Bool.and_false, Bool.false_and, Bool.not_true, Bool.not_false, decide_true, decide_false, cond_true, cond_false] at E1
              subst eM_36; exact E1
            · rw [← nI_1]
              exact lv_sub hl [0, 1, 2] rfl
  exact hloop_14 (nc + 1) 0 0 M_2 f_1 H locs (Nat.zero_le _) (by omega) (by subst eM_2; exact hok) hR hI rfl ls (lv_sub hl [0, 1, 2] rfl)

set_option maxHeartbeats 4000000 in
set_option maxRecDepth 100000 in
/-- pass -/
theorem c_X5_pass (l : Launch) (D : va_G) (cy : Nat → ClassId) (de : Nat) (f : gFm) (mm : Nat) (ma : Nat → Nat) (M : gMd) (ticks : Int32) (nk nc : Nat) (hok : mOK nk nc M) (hR : Rm cy mm ma M f) : gMi l yX5_pass wsX5_pass { frames := 3, cells := 0, slots := 0, locals := 70 } D cy de [.ref mm, .int ticks] f (fun r9 f9 => r9 = ((mPass nk nc M ticks).1) ∧ Rm cy mm ma ((mPass nk nc M ticks).2) f9) 0 0 := by
  refine fun sz => Met.ofW (cc := cX5_pass) (maxL := 4) (ret := (some .int)) (by decide) rfl ?_
  intro p e s m args below meth c s₁ B hml hv
  obtain ⟨rfl, hv⟩ := hv
  obtain ⟨rfl, hI⟩ := gP_I hv
  have hx := B.exec
  have hb := B.bytes
  have hr := B.returns
  have hts := atoms_spec (ws := wsX5_pass) B.pre
  have hown : s.vm.findClass RX5 = some m.cls := findClass_of_methodNamed B.named
  have hlocks := B.notSynchronized
  have hl := lv_entry ([.ref mm, .int ticks]) (n := 4) (Nat.le_of_ble_eq_true rfl)
  rw [lg_entry_eq]
  generalize (lg_sl ([.ref mm, .int ticks]) ++ List.replicate (4 - (lg_sl ([.ref mm, .int ticks])).length) Slot.unset).toArray = ls at hl ⊢
  have hl : lv_has ls 4 [(0, .ref mm), (1, .int ticks)] := hl
  refine lv_aload_n hx hb dX5_pass_0 rfl (lv_at hl 0 rfl) ?_
  refine lv_iload_n hx hb dX5_pass_1 rfl (lv_at hl 1 rfl) ?_
  refine lv_iconst (v := 1) hx hb dX5_pass_2 (by decide) ?_
  refine lv_bipush (v := 100) hx hb dX5_pass_3 (by decide) ?_
  refine g_calli hI (va_runS (As := [.int ticks, .int 1, .int 100]) (rest := [.ref mm]) ⟨hx, hb, hml, hown, hts⟩ (c_X5_in l D cy de f mm ma M ticks 1 100 hR s.heap.size) (va_cwS 3 hts gX5_pass_X5_in rfl rfl rfl (by decide +kernel) ⟨Nat.le_of_ble_eq_true rfl, Nat.le_of_ble_eq_true rfl⟩) (g_preS hI) rfl rfl hl.1 rfl (lv_room (Nat.le_of_ble_eq_true rfl)) dX5_pass_5 ⟨Nat.le_of_ble_eq_true rfl, Nat.le_of_ble_eq_true rfl⟩) (fun r_1 f_2 H locs hw_3 hI => ?_)
  obtain ⟨rfl, hR⟩ := hw_3
  refine g_b2i_eq (tgt := 15) hx hb dX5_pass_8 (by decide) (fun c_4 => ?_) (fun c_4 => ?_)
  · refine lv_iconst (v := 1) hx hb dX5_pass_15 (by decide) ?_
    refine g_calli hI (va_runV (As := [.int 1]) (rest := []) ⟨hx, hb, hml, hown, hts⟩ (c_X5_goesWell l D cy de f_2 mm ma M 1 hR H.size) (cwV 1 hts gX5_pass_X5_goesWell rfl rfl rfl (by decide +kernel) ⟨Nat.le_of_ble_eq_true rfl, Nat.le_of_ble_eq_true rfl⟩) (g_preV hI hR.1 rfl) rfl rfl hl.1 rfl (lv_room (Nat.le_of_ble_eq_true rfl)) dX5_pass_16 ⟨Nat.le_of_ble_eq_true rfl, Nat.le_of_ble_eq_true rfl⟩) (fun r_5 f_6 H locs hw_7 hI => ?_)
    obtain ⟨rfl, hR⟩ := hw_7
    obtain ⟨M_8, eM_8⟩ : ∃ z, z = mWell M 1 := ⟨_, rfl⟩
    rw [← eM_8] at hR
    refine g_b2i_ne (tgt := 24) hx hb dX5_pass_19 (by decide) (fun z => absurd z (by decide)) (fun _ => ?_)
    refine lv_iconst (v := 0) hx hb dX5_pass_22 (by decide) ?_
    exact g_iret hx hb hr hlocks hI (by have hE : (mPass nk nc M ticks) = (0, M_8) := (by simp only [mPass, c_4, if_true, if_false, ↓reduceIte, Bool.true_eq_false, Bool.false_eq_true, true_and, and_true, and_false, false_and, or_true, true_or, or_false, false_or, not_true_eq_false, not_false_eq_true, Bool.and_true, Bool.true_and, Bool.and_false, Bool.false_and, Bool.not_true, Bool.not_false, decide_true, decide_false, cond_true, cond_false] <;> (subst eM_8; rfl)); exact ⟨by rw [hE], by rw [hE]; exact hR⟩) (Nat.le_of_ble_eq_true rfl) (Nat.le_of_ble_eq_true rfl) dX5_pass_23
  · refine lv_iconst (v := 0) hx hb dX5_pass_11 (by decide) ?_
    refine lv_goto (tgt := 16) hx hb dX5_pass_12 (by decide) ?_
    refine g_calli hI (va_runV (As := [.int 0]) (rest := []) ⟨hx, hb, hml, hown, hts⟩ (c_X5_goesWell l D cy de f_2 mm ma M 0 hR H.size) (cwV 1 hts gX5_pass_X5_goesWell rfl rfl rfl (by decide +kernel) ⟨Nat.le_of_ble_eq_true rfl, Nat.le_of_ble_eq_true rfl⟩) (g_preV hI hR.1 rfl) rfl rfl hl.1 rfl (lv_room (Nat.le_of_ble_eq_true rfl)) dX5_pass_16 ⟨Nat.le_of_ble_eq_true rfl, Nat.le_of_ble_eq_true rfl⟩) (fun r_10 f_11 H locs hw_12 hI => ?_)
    obtain ⟨rfl, hR⟩ := hw_12
    obtain ⟨M_13, eM_13⟩ : ∃ z, z = mWell M 0 := ⟨_, rfl⟩
    rw [← eM_13] at hR
    refine g_b2i_ne (tgt := 24) hx hb dX5_pass_19 (by decide) (fun _ => ?_) (fun z => absurd z (by decide))
    refine lv_iconst (v := 0) hx hb dX5_pass_24 (by decide) ?_
    refine lv_istore_n (lv' := [(2, .int 0), (0, .ref mm), (1, .int ticks)]) hx hb dX5_pass_25 rfl hl (by decide) rfl (fun ls hl => ?_)
    refine lv_iconst (v := 0) hx hb dX5_pass_26 (by decide) ?_
    refine lv_istore_n (lv' := [(3, .int 0), (2, .int 0), (0, .ref mm), (1, .int ticks)]) hx hb dX5_pass_27 rfl hl (by decide) rfl (fun ls hl => ?_)
    obtain ⟨hlim, hlim2⟩ := mIn_tick c_4
    have hloop_28 : ∀ (n j : Nat) (acc : Int32) (N : gMd) (fN : gFm) (H : Heap) (locs : List Loc), j ≤ (ix ticks) → (ix ticks) + 1 ≤ j + n → mOK nk nc N → Rm cy mm ma N fN → gI D cy de (gA f s.heap.size) s fN H locs → mPassL nk nc ((ix ticks) - j) acc N = mPassL nk nc (ix ticks) 0 M_13 → ∀ ls : Array Slot, lv_has ls 4 [(3, .int (nI j)), (2, .int acc), (0, .ref mm), (1, .int ticks)] → W p l e (headSpec wsX5_pass { frames := 3, cells := 0, slots := 0, locals := 70 }).room s m ([.ref mm, .int ticks] : List Value).toArray below meth c H locs 0 0 (MQ below (va_Qi (fun r9 f9 => r9 = ((mPass nk nc M ticks).1) ∧ Rm cy mm ma ((mPass nk nc M ticks).2) f9) (gB D (gA f s.heap.size)) (gA f s.heap.size)) ([.ref mm, .int ticks] : List Value).toArray s 0 0 (gA f s.heap.size)) (F0 m 28 ls []) := by
      intro n
      induction n with
      | zero => intro j acc N fN H locs h1 h2; exact absurd h2 (by omega)
      | succ n ih_28 =>
        intro j acc N fN H locs hjl hjn hok hR hI E_28 ls hl
        have hjx : ix (nI j) = j := nI_clamp (by have := hok.1; have := hok.2.1; omega)
        refine lv_iload_n hx hb dX5_pass_28 rfl (lv_at hl 0 rfl) ?_
        refine lv_iload_n hx hb dX5_pass_29 rfl (lv_at hl 3 rfl) ?_
        refine lv_icmp_ge (tgt := 46) hx hb dX5_pass_30 (by decide) (fun c_15 => ?_) (fun c_15 => ?_)
        · have c_15' := Int32.not_lt.mpr c_15
          have hj : j = (ix ticks) := g_lpE hlim (by omega) hjl c_15
          rw [hj] at E_28
          have hres_28 := (mPassL_end (N := N) (a := acc)).symm.trans E_28
          refine lv_iload_n hx hb dX5_pass_46 rfl (lv_at hl 1 rfl) ?_
          exact g_iret hx hb hr hlocks hI (by have hE : mPass nk nc M ticks = (acc, N) := (by rw [hres_28]; subst eM_13; simp only [mPass, c_4, c_15', if_true, if_false, ↓reduceIte, Bool.true_eq_false, Bool.false_eq_true, true_and, and_true, and_false, false_and, or_true, true_or, or_false, false_or, not_true_eq_false, not_false_eq_true, Bool.and_true, Bool.true_and, Bool.and_false, Bool.false_and, Bool.not_true, Bool.not_false, decide_true, decide_false, cond_true, cond_false]); exact ⟨by rw [hE], by rw [hE]; exact hR⟩) (Nat.le_of_ble_eq_true rfl) (Nat.le_of_ble_eq_true rfl) dX5_pass_47
        · have c_15' := Int32.not_le.mp c_15
          have hj : j < (ix ticks) := g_lpC hlim (by omega) hjl c_15
          refine lv_iload_n hx hb dX5_pass_33 rfl (lv_at hl 1 rfl) ?_
          refine lv_aload_n hx hb dX5_pass_34 rfl (lv_at hl 2 rfl) ?_
          refine g_calli hI (va_runV (As := []) (rest := [.int acc]) ⟨hx, hb, hml, hown, hts⟩ (c_X5_passOne l D cy de fN mm ma N nk nc (by exact hok) hR H.size) (cwV 0 hts gX5_pass_X5_passOne rfl rfl rfl (by decide +kernel) ⟨Nat.le_of_ble_eq_true rfl, Nat.le_of_ble_eq_true rfl⟩) (g_preV hI hR.1 rfl) rfl rfl hl.1 rfl (lv_room (Nat.le_of_ble_eq_true rfl)) dX5_pass_35 ⟨Nat.le_of_ble_eq_true rfl, Nat.le_of_ble_eq_true rfl⟩) (fun r_16 f_17 H locs hw_18 hI => ?_)
          obtain ⟨rfl, hR⟩ := hw_18
          obtain ⟨M_19, eM_19⟩ : ∃ z, z = (mOne nk nc N).2 := ⟨_, rfl⟩
          rw [← eM_19] at hR
          refine lv_iadd hx hb dX5_pass_38 ?_
          refine lv_istore_n (lv' := [(2, .int (acc + ((mOne nk nc N).1))), (3, .int (nI j)), (0, .ref mm), (1, .int ticks)]) hx hb dX5_pass_39 rfl hl (by decide) rfl (fun ls hl => ?_)
          refine lv_iinc (v := (nI j) + 1) (lv' := [(3, .int ((nI j) + 1)), (2, .int (acc + ((mOne nk nc N).1))), (0, .ref mm), (1, .int ticks)]) hx hb dX5_pass_40 hl (k := 1) rfl rfl (by decide) rfl (fun ls hl => ?_)
          refine lv_goto (tgt := 28) hx hb dX5_pass_43 (by decide) ?_
          refine ih_28 (j + 1) (acc + ((mOne nk nc N).1)) M_19 f_17 H locs (by omega) (by omega) (by subst eM_19; exact mOK_one hok) hR hI ?_ ls ?_
          · have E1 := (mPassL_step (N := N) (a := acc) hj).symm.trans E_28
            subst eM_19; exact E1
          · rw [← nI_1]
            exact lv_sub hl [0, 1, 2, 3] rfl
    exact hloop_28 ((ix ticks) + 1) 0 0 M_13 f_11 H locs (Nat.zero_le _) (by omega) (by subst eM_13; exact hok) hR hI rfl ls (lv_sub hl [0, 1, 2, 3] rfl)
