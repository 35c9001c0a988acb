theorem iPassL_s {N : gNm} {T j : Nat} {a : Int32} {J : gMd} (h : j < T) : iPassL N (T - j) a J = iPassL N (T - (j + 1)) (a + (iRun N (iT J (J 0 0 + 1) (J 1 0))).1) (iFillL N (N 0 7) 0 (iRun N (iT J (J 0 0 + 1) (J 1 0))).2) := by
  rw [show T - j = (T - (j + 1)) + 1 by omega]
  rfl
theorem iPassL_e {N : gNm} {T : Nat} {a : Int32} {J : gMd} : iPassL N (T - T) a J = (a, J) := by rw [Nat.sub_self]; rfl
theorem mIn_ix {v : Int32} (h : mIn v 1 100 = true) : ix v ≤ 100 ∧ v = nI (ix v) := by
  simp only [mIn, Bool.and_eq_true, Bool.not_eq_true', decide_eq_false_iff_not] at h
  obtain ⟨h1, h2⟩ := h
  have h3 : ¬ v < 0 := fun z => h1 (by rw [Int32.lt_iff_toInt_lt] at z ⊢; have e : (0 : Int32).toInt = 0 := by decide
                                       have e1 : (1 : Int32).toInt = 1 := by decide
                                       omega)
  obtain ⟨j, hj, rfl⟩ := nI_of h3
  have e : ix (nI j) = j := nI_clamp hj
  rw [e]
  refine ⟨?_, rfl⟩
  rcases Nat.lt_or_ge 100 j with q | q
  · exact absurd (by rw [← show nI 100 = (100 : Int32) by decide]; exact nI_lt q hj) h2
  · exact q

set_option maxHeartbeats 4000000 in
set_option maxRecDepth 100000 in
theorem c_X4_pass (l : Launch) (hl0 : l.stackTraces = false) (D : va_G) (cy : Nat → ClassId) (de : Nat) (f : gFm) (N : gNm) (I : gMd) (ticks : Int32) (hR : gR cy de N I f) (hN : gNx N I) : gXi l yX4_pass wsX4_pass { frames := 7, cells := 1, slots := 6, locals := 104 } D cy de [.ref (N 0 0), .int ticks] f (fun r9 f9 => (mIn ticks 1 100 = true) ∧ r9 = (iPassL N (ix ticks) 0 I).1 ∧ gR cy de N (iPassL N (ix ticks) 0 I).2 f9) (fun E9 => E9 = "java/lang/IllegalArgumentException" ∧ ¬ (mIn ticks 1 100 = true)) 1 6 := by
  refine fun sz => vx_ofW (cc := cX4_pass) (maxL := 4) (ret := (some .int)) (by decide) rfl ?_
  intro p e s m args below meth c s₁ B hml hout hv
  obtain ⟨rfl, hv⟩ := hv
  obtain ⟨rfl, hI⟩ := gP_I hv
  have hx := B.exec
  have hb := B.bytes
  have hr := B.returns
  have hts := atoms_spec (ws := wsX4_pass) B.pre
  have hown : s.vm.findClass RX4 = some m.cls := findClass_of_methodNamed B.named
  have hlocks := B.notSynchronized
  have hinX4 : ∀ w ∈ wsX40, w ∈ wsX4_pass := by decide +kernel
  have hw0 := hts (.fieldLink RX4 120 "TollGateway" "tick" "I") (by decide +kernel)
  have hl := lv_entry ([.ref (N 0 0), .int ticks]) (n := 4) (Nat.le_of_ble_eq_true rfl)
  rw [lg_entry_eq]
  generalize (lg_sl ([.ref (N 0 0), .int ticks]) ++ List.replicate (4 - (lg_sl ([.ref (N 0 0), .int ticks])).length) Slot.unset).toArray = ls at hl ⊢
  have hl : lv_has ls 4 [(0, .ref (N 0 0)), (1, .int ticks)] := hl
  have htg : f (N 0 0) = some (.inr (5, [.ref (N 0 1), .ref (N 0 2), .ref (N 0 3), .ref (N 0 4), .int (I 0 0), .int (I 1 0)])) := gR_tg hR
  refine lv_iload_n hx hb dX4_pass_0 rfl (lv_at hl 1 rfl) ?_
  refine lv_iconst (v := 1) hx hb dX4_pass_1 (by decide) ?_
  refine lv_bipush (v := 100) hx hb dX4_pass_2 (by decide) ?_
  refine gx_callv hI hout hlocks (fun E9 h9 => h9) (Nat.le_of_ble_eq_true rfl) (Nat.le_of_ble_eq_true rfl) (vx_runS (As := [.int ticks, .int 1, .int 100]) (rest := []) ⟨hx, hb, hml, hown, hts⟩ (c_X4_refuseOutside l hl0 D cy de f N I ticks 1 100 s.heap.size) (va_cwS 3 hts gX4_pass_X4_refuseOutside rfl rfl rfl (by decide +kernel) ⟨Nat.le_of_ble_eq_true rfl, Nat.le_of_ble_eq_true rfl⟩) (g_preS hI) rfl rfl hl.1 rfl (lv_room (Nat.le_of_ble_eq_true rfl)) dX4_pass_4 ⟨Nat.le_of_ble_eq_true rfl, Nat.le_of_ble_eq_true rfl⟩) (fun f_2 H locs hw_3 hI => ?_)
  obtain ⟨hg_5, e_4⟩ := hw_3
  rw [e_4] at hI
  refine lv_iconst (v := 0) hx hb dX4_pass_7 (by decide) ?_
  refine lv_istore_n (lv' := [(2, .int 0), (0, .ref (N 0 0)), (1, .int ticks)]) hx hb dX4_pass_8 rfl hl (by decide) rfl (fun ls hl => ?_)
  refine lv_iconst (v := 0) hx hb dX4_pass_9 (by decide) ?_
  refine lv_istore_n (lv' := [(3, .int 0), (2, .int 0), (0, .ref (N 0 0)), (1, .int ticks)]) hx hb dX4_pass_10 rfl hl (by decide) rfl (fun ls hl => ?_)
  obtain ⟨hTb, hT⟩ := mIn_ix hg_5
  have hloop : ∀ (n j : Nat) (a : Int32) (J : gMd) (fJ : gFm) (H : Heap) (locs : List Loc), j ≤ ix ticks → ix ticks + 1 ≤ j + n → gR cy de N J fJ → gI D cy de (gA f s.heap.size) s fJ H locs → gNx N J → iPassL N (ix ticks - j) a J = iPassL N (ix ticks) 0 I → ∀ ls : Array Slot, lv_has ls 4 [(3, .int (nI j)), (2, .int a), (0, .ref (N 0 0)), (1, .int ticks)] → W p l e (headSpec wsX4_pass { frames := 7, cells := 1, slots := 6, locals := 104 }).room s m ([.ref (N 0 0), .int ticks] : List Value).toArray below meth c H locs (0 + 1) (0 + 6) (vx_MQ below (va_Qi (fun r9 f9 => (mIn ticks 1 100 = true) ∧ r9 = (iPassL N (ix ticks) 0 I).1 ∧ gR cy de N (iPassL N (ix ticks) 0 I).2 f9) (gB D (gA f s.heap.size)) (gA f s.heap.size)) (gXX D (gA f s.heap.size) f (fun E9 => E9 = "java/lang/IllegalArgumentException" ∧ ¬ (mIn ticks 1 100 = true))) ([.ref (N 0 0), .int ticks] : List Value).toArray s 1 6 (gA f s.heap.size)) (F0 m 11 ls []) := by
    intro n
    induction n with
    | zero => intro j a J fJ H locs h1 h2; exact absurd h2 (by omega)
    | succ n ih =>
      intro j a J fJ H locs hjl hjn hRJ hI hnx E ls hl
      have htgJ : fJ (N 0 0) = some (.inr (5, [.ref (N 0 1), .ref (N 0 2), .ref (N 0 3), .ref (N 0 4), .int (J 0 0), .int (J 1 0)])) := gR_tg hRJ
      refine lv_iload_n hx hb dX4_pass_11 rfl (lv_at hl 0 rfl) ?_
      refine lv_iload_n hx hb dX4_pass_12 rfl (lv_at hl 3 rfl) ?_
      refine lv_icmp_ge (tgt := 43) hx hb dX4_pass_13 (by decide) (fun c_6 => ?_) (fun c_6 => ?_)
      · have c_6' := Int32.not_lt.mpr c_6
        have hj : j = ix ticks := g_lpE hT (by omega) hjl c_6
        rw [hj] at E
        have hres := (iPassL_e).symm.trans E
        refine lv_iload_n hx hb dX4_pass_43 rfl (lv_at hl 1 rfl) ?_
        exact gx_iret hx hb hr hlocks hI ⟨hg_5, (by rw [← hres]; exact ⟨rfl, hRJ⟩)⟩ (Nat.le_of_ble_eq_true rfl) (Nat.le_of_ble_eq_true rfl) dX4_pass_44
      · have c_6' := Int32.not_le.mp c_6
        have hj : j < ix ticks := g_lpC hT (by omega) hjl c_6
        refine lv_aload_n hx hb dX4_pass_16 rfl (lv_at hl 2 rfl) ?_
        refine lv_dup hx hb dX4_pass_17 rfl ?_
        refine g_get (ci := 5) (C := RX4) (T := TX4) (N := 6) hx hb hts hinX4 hown hI htgJ rfl 4 (by decide) hw0 (fun _ h9 => h9) rfl dX4_pass_18 ?_
        refine lv_iconst (v := 1) hx hb dX4_pass_21 (by decide) ?_
        refine lv_iadd hx hb dX4_pass_22 ?_
        refine g_put (ci := 5) (v := .int ((J 0 0) + 1)) (ty := .int) (C := RX4) (T := TX4) (N := 6) hx hb hts hinX4 tyX4 tyX4_ok nmX4 hown hI htgJ rfl 4 (by decide) hw0 (fun _ h9 => h9) rfl (by decide +kernel) rfl rfl (Nat.le_of_ble_eq_true rfl) dX4_pass_23 (fun f_7 H locs e_8 hI => ?_)
        have e_8 : f_7 = va_up fJ (N 0 0) (some (.inr (5, [.ref (N 0 1), .ref (N 0 2), .ref (N 0 3), .ref (N 0 4), .int ((J 0 0) + 1), .int (J 1 0)]))) := e_8
        have hf_9 : f_7 (N 0 0) = some (.inr (5, [.ref (N 0 1), .ref (N 0 2), .ref (N 0 3), .ref (N 0 4), .int ((J 0 0) + 1), .int (J 1 0)])) := by rw [e_8]; exact va_up_self _ _ _
        refine lv_iload_n hx hb dX4_pass_26 rfl (lv_at hl 1 rfl) ?_
        refine lv_aload_n hx hb dX4_pass_27 rfl (lv_at hl 2 rfl) ?_
        have hR_11 : gR cy de N (iT J ((J 0 0) + 1) (J 1 0)) f_7 := (by rw [e_8]; first | exact gR_setT hRJ _ _ | (simp only [g_uu]; exact gR_setT hRJ _ _))
        refine g_calli hI (va_runV (As := []) (rest := [.int a]) ⟨hx, hb, hml, hown, hts⟩ (c_X4_runOutHolds l D cy de f_7 N (iT J ((J 0 0) + 1) (J 1 0)) hR_11 hnx H.size) (cwV 0 hts gX4_pass_X4_runOutHolds rfl rfl rfl (by decide +kernel) ⟨Nat.le_of_ble_eq_true rfl, Nat.le_of_ble_eq_true rfl⟩) (g_preV hI hf_9 rfl) rfl rfl hl.1 rfl (lv_room (Nat.le_of_ble_eq_true rfl)) dX4_pass_28 ⟨Nat.le_of_ble_eq_true rfl, Nat.le_of_ble_eq_true rfl⟩) (fun r_10 f_12 H locs hw_13 hI => ?_)
        obtain ⟨e_15, hR_14⟩ := hw_13
        rw [e_15]
        have ht_16 : f_12 (N 0 0) = some (.inr (5, [.ref (N 0 1), .ref (N 0 2), .ref (N 0 3), .ref (N 0 4), .int (((iRun N (iT J ((J 0 0) + 1) (J 1 0))).2) 0 0), .int (((iRun N (iT J ((J 0 0) + 1) (J 1 0))).2) 1 0)])) := gR_tg hR_14
        refine lv_iadd hx hb dX4_pass_31 ?_
        refine lv_istore_n (lv' := [(2, .int (a + ((iRun N (iT J ((J 0 0) + 1) (J 1 0))).1))), (3, .int (nI j)), (0, .ref (N 0 0)), (1, .int ticks)]) hx hb dX4_pass_32 rfl hl (by decide) rfl (fun ls hl => ?_)
        refine lv_aload_n hx hb dX4_pass_33 rfl (lv_at hl 2 rfl) ?_
        refine g_callv hI (va_runV (As := []) (rest := []) ⟨hx, hb, hml, hown, hts⟩ (c_X4_refillBuckets l D cy de f_12 N ((iRun N (iT J ((J 0 0) + 1) (J 1 0))).2) hR_14 H.size) (cwV 0 hts gX4_pass_X4_refillBuckets rfl rfl rfl (by decide +kernel) ⟨Nat.le_of_ble_eq_true rfl, Nat.le_of_ble_eq_true rfl⟩) (g_preV hI ht_16 rfl) rfl rfl hl.1 rfl (lv_room (Nat.le_of_ble_eq_true rfl)) dX4_pass_34 ⟨Nat.le_of_ble_eq_true rfl, Nat.le_of_ble_eq_true rfl⟩) (fun f_18 H locs hw_19 hI => ?_)
        have hR_20 := hw_19
        have ht_21 : f_18 (N 0 0) = some (.inr (5, [.ref (N 0 1), .ref (N 0 2), .ref (N 0 3), .ref (N 0 4), .int ((iFillL N (N 0 7) 0 ((iRun N (iT J ((J 0 0) + 1) (J 1 0))).2)) 0 0), .int ((iFillL N (N 0 7) 0 ((iRun N (iT J ((J 0 0) + 1) (J 1 0))).2)) 1 0)])) := gR_tg hR_20
        refine lv_iinc (v := (nI j) + 1) (lv' := [(3, .int ((nI j) + 1)), (2, .int (a + ((iRun N (iT J ((J 0 0) + 1) (J 1 0))).1))), (0, .ref (N 0 0)), (1, .int ticks)]) hx hb dX4_pass_37 hl (k := 1) rfl rfl (by decide) rfl (fun ls hl => ?_)
        refine lv_goto (tgt := 11) hx hb dX4_pass_40 (by decide) ?_
        refine ih (j + 1) (a + ((iRun N (iT J ((J 0 0) + 1) (J 1 0))).1)) (iFillL N (N 0 7) 0 ((iRun N (iT J ((J 0 0) + 1) (J 1 0))).2)) f_18 H locs (by omega) (by omega) hR_20 hI (gNx_fill (gNx_run (gR_nc hRJ) hnx)) ?_ ls ?_
        · have E1 := (iPassL_s hj).symm.trans E
          exact E1
        · rw [← nI_1]
          exact lv_sub hl [0, 1, 2, 3] rfl
  exact hloop (ix ticks + 1) 0 0 I f H locs (by omega) (by omega) hR hI hN rfl ls (lv_sub hl [0, 1, 2, 3] rfl)
