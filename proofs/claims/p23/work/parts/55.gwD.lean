def iFill1 (N : gNm) (J : gMd) (j : Nat) : gMd :=
  iK J j (if J 2 (N 5 j) ≤ J 7 j then J 7 j else if J 7 j + (cond (decide (J 9 j = 0) && decide (J 12 j = 0)) (J 4 (N 5 j)) (J 3 (N 5 j))) < J 2 (N 5 j) then J 7 j + (cond (decide (J 9 j = 0) && decide (J 12 j = 0)) (J 4 (N 5 j)) (J 3 (N 5 j))) else J 2 (N 5 j)) (J 8 j) (J 9 j) (J 10 j) (J 11 j) (J 12 j) (J 13 j) (J 14 j)
def iFillL (N : gNm) : Nat → Nat → gMd → gMd
  | 0, _, J => J
  | n + 1, j, J => iFillL N n (j + 1) (iFill1 N J j)
theorem iFillL_s {N : gNm} {j : Nat} {J : gMd} (h : j < N 0 7) : iFillL N (N 0 7 - j) j J = iFillL N (N 0 7 - (j + 1)) (j + 1) (iFill1 N J j) := by
  rw [show N 0 7 - j = (N 0 7 - (j + 1)) + 1 by omega]
  rfl
theorem iFillL_e {N : gNm} {J : gMd} : iFillL N (N 0 7 - N 0 7) (N 0 7) J = J := by rw [Nat.sub_self]; rfl
def iCost (J : gMd) (t : Nat) (oc : Int32) : Int32 := if oc = 0 then J 15 t else if oc = 1 then (J 15 t + 1) / 2 else 0
def iSettle (N : gNm) (J : gMd) (t : Nat) (oc : Int32) : gMd :=
  iK (iC J t (J 15 t) (J 16 t) (J 17 t) (iCost J t oc) (J 0 0) (J 20 t)) (N 6 t) (J 7 (N 6 t)) (J 8 (N 6 t)) (J 9 (N 6 t) + ((J 15 t - iCost J t oc) - (if J 15 t - iCost J t oc < J 10 (N 6 t) then J 15 t - iCost J t oc else J 10 (N 6 t)))) (J 10 (N 6 t) - (if J 15 t - iCost J t oc < J 10 (N 6 t) then J 15 t - iCost J t oc else J 10 (N 6 t))) (J 11 (N 6 t) - J 15 t) (J 12 (N 6 t) - 1) (J 13 (N 6 t) + iCost J t oc) (J 14 (N 6 t))
def iRunL (N : gNm) : Nat → Nat → Int32 → gMd → Int32 × gMd
  | 0, _, a, J => (a, J)
  | n + 1, t, a, J => if J 0 0 < J 17 t then (a, J) else if (!decide (J 18 t = -1)) = true then iRunL N n (t + 1) a (iT J (J 0 0) (nI t + 1)) else iRunL N n (t + 1) (a + 1) (iT (iSettle N J t 0) (J 0 0) (nI t + 1))
theorem iRunL_s {N : gNm} {t : Nat} {a : Int32} {J : gMd} (h : t < N 0 8) : iRunL N (N 0 8 - t) t a J = if J 0 0 < J 17 t then (a, J) else if (!decide (J 18 t = -1)) = true then iRunL N (N 0 8 - (t + 1)) (t + 1) a (iT J (J 0 0) (nI t + 1)) else iRunL N (N 0 8 - (t + 1)) (t + 1) (a + 1) (iT (iSettle N J t 0) (J 0 0) (nI t + 1)) := by
  rw [show N 0 8 - t = (N 0 8 - (t + 1)) + 1 by omega]
  rfl
theorem iRunL_e {N : gNm} {a : Int32} {J : gMd} : iRunL N (N 0 8 - N 0 8) (N 0 8) a J = (a, J) := by rw [Nat.sub_self]; rfl
/-- the next call that may run out -/
def gNx (N : gNm) (I : gMd) : Prop := ix (I 1 0) ≤ N 0 8 ∧ I 1 0 = nI (ix (I 1 0))
def iRun (N : gNm) (I : gMd) : Int32 × gMd := iRunL N (N 0 8 - ix (I 1 0)) (ix (I 1 0)) 0 I
theorem gNx_of {N : gNm} {I : gMd} {t : Nat} (ht : t ≤ N 0 8) (h8 : N 0 8 ≤ 80) (h : I 1 0 = nI t) : gNx N I := by
  have e : ix (I 1 0) = t := by rw [h]; exact nI_clamp (by omega)
  exact ⟨by rw [e]; exact ht, by rw [e]; exact h⟩
theorem gNx_runL {N : gNm} (h8 : N 0 8 ≤ 80) : ∀ (n t : Nat) (a : Int32) (J : gMd), t + n ≤ N 0 8 → J 1 0 = nI t → gNx N (iRunL N n t a J).2
  | 0, t, _, J, ht, h => gNx_of (t := t) (by omega) h8 h
  | n + 1, t, a, J, ht, h => by
    unfold iRunL
    by_cases h1 : J 0 0 < J 17 t
    · rw [if_pos h1]; exact gNx_of (t := t) (by omega) h8 h
    · rw [if_neg h1]
      by_cases h2 : (!decide (J 18 t = -1)) = true
      · rw [if_pos h2]; exact gNx_runL h8 n (t + 1) a _ (by omega) (nI_1 t)
      · rw [if_neg h2]; exact gNx_runL h8 n (t + 1) (a + 1) _ (by omega) (nI_1 t)
theorem gNx_run {N : gNm} {I : gMd} (h8 : N 0 8 ≤ 80) (h : gNx N I) : gNx N (iRun N I).2 := gNx_runL h8 _ _ _ _ (by have := h.1; omega) h.2
theorem iFillL_10 (N : gNm) : ∀ (n j : Nat) (J : gMd) (c : Nat), c < 7 → ∀ i, iFillL N n j J c i = J c i
  | 0, _, _, _, _, _ => rfl
  | n + 1, j, J, c, hc, i => by
    unfold iFillL
    rw [iFillL_10 N n (j + 1) (iFill1 N J j) c hc i]
    exact iK_o _ _ _ _ _ _ _ _ _ _ (Or.inr (Or.inl hc))
theorem gNx_fill {N : gNm} {J : gMd} {n j : Nat} (h : gNx N J) : gNx N (iFillL N n j J) := by
  unfold gNx
  rw [iFillL_10 N n j J 1 (by decide) 0]
  exact h
def iPassL (N : gNm) : Nat → Int32 → gMd → Int32 × gMd
  | 0, a, J => (a, J)
  | n + 1, a, J => iPassL N n (a + (iRun N (iT J (J 0 0 + 1) (J 1 0))).1) (iFillL N (N 0 7) 0 (iRun N (iT J (J 0 0 + 1) (J 1 0))).2)

set_option maxHeartbeats 4000000 in
set_option maxRecDepth 100000 in
theorem c_X4_refillBuckets (l : Launch) (D : va_G) (cy : Nat → ClassId) (de : Nat) (f : gFm) (N : gNm) (I : gMd) (hR : gR cy de N I f) : gMv l yX4_refillBuckets wsX4_refillBuckets { frames := 3, cells := 0, slots := 0, locals := 64 } D cy de [.ref (N 0 0)] f (fun f9 => gR cy de N (iFillL N (N 0 7) 0 I) f9) 0 0 := by
  refine fun sz => Met.ofW (cc := cX4_refillBuckets) (maxL := 2) (ret := none) (by decide) rfl ?_
  intro p e s m args below meth c s₁ B hml hv
  obtain ⟨rfl, hv⟩ := hv
  obtain ⟨rfl, hI⟩ := gP_I hv
  have hx := B.exec
  have hb := B.bytes
  have hr := B.returns
  have hts := atoms_spec (ws := wsX4_refillBuckets) B.pre
  have hown : s.vm.findClass RX4 = some m.cls := findClass_of_methodNamed B.named
  have hlocks := B.notSynchronized
  have hinX4 : ∀ w ∈ wsX40, w ∈ wsX4_refillBuckets := by decide +kernel
  have hw0 := hts (.fieldLink RX4 24 "TollGateway" "keys" "Ljava/util/ArrayList;") (by decide +kernel)
  have hw1 := hts (.classLink RX4 73 "TollGateway$Key") (by decide +kernel)
  have hw2 := hts (.initialized RX1) (by decide +kernel)
  have hw3 := hts (.instanceMethod yX1_refillBucket) (by decide +kernel)
  have hw4 := hts (.selects RX1 yX1_refillBucket yX1_refillBucket) (by decide +kernel)
  have hl := lv_entry ([.ref (N 0 0)]) (n := 2) (Nat.le_of_ble_eq_true rfl)
  rw [lg_entry_eq]
  generalize (lg_sl ([.ref (N 0 0)]) ++ List.replicate (2 - (lg_sl ([.ref (N 0 0)])).length) Slot.unset).toArray = ls at hl ⊢
  have hl : lv_has ls 2 [(0, .ref (N 0 0))] := hl
  have htg : f (N 0 0) = some (.inr (5, [.ref (N 0 1), .ref (N 0 2), .ref (N 0 3), .ref (N 0 4), .int (I 0 0), .int (I 1 0)])) := gR_tg hR
  refine lv_iconst (v := 0) hx hb dX4_refillBuckets_0 (by decide) ?_
  refine lv_istore_n (lv' := [(1, .int 0), (0, .ref (N 0 0))]) hx hb dX4_refillBuckets_1 rfl hl (by decide) rfl (fun ls hl => ?_)
  have hloop : ∀ (n j : Nat) (J : gMd) (fJ : gFm) (H : Heap) (locs : List Loc), j ≤ N 0 7 → N 0 7 + 1 ≤ j + n → gR cy de N J fJ → gI D cy de (gA f s.heap.size) s fJ H locs → iFillL N (N 0 7 - j) j J = iFillL N (N 0 7) 0 I → ∀ ls : Array Slot, lv_has ls 2 [(1, .int (nI j)), (0, .ref (N 0 0))] → W p l e (headSpec wsX4_refillBuckets { frames := 3, cells := 0, slots := 0, locals := 64 }).room s m ([.ref (N 0 0)] : List Value).toArray below meth c H locs 0 0 (MQ below (va_Qv (fun f9 => gR cy de N (iFillL N (N 0 7) 0 I) f9) (gB D (gA f s.heap.size)) (gA f s.heap.size)) ([.ref (N 0 0)] : List Value).toArray s 0 0 (gA f s.heap.size)) (F0 m 2 ls []) := by
    intro n
    induction n with
    | zero => intro j J fJ H locs h1 h2; exact absurd h2 (by omega)
    | succ n ih =>
      intro j J fJ H locs hjl hjn hRJ hI E ls hl
      have htgJ : fJ (N 0 0) = some (.inr (5, [.ref (N 0 1), .ref (N 0 2), .ref (N 0 3), .ref (N 0 4), .int (J 0 0), .int (J 1 0)])) := gR_tg hRJ
      obtain ⟨lf_1, hlf_2⟩ := gL_lk hRJ.2.2.2.2.1
      obtain ⟨lf_3, hlf_4⟩ := gL_lk hRJ.2.2.2.2.2
      refine lv_iload_n hx hb dX4_refillBuckets_2 rfl (lv_at hl 0 rfl) ?_
      refine lv_aload_n hx hb dX4_refillBuckets_3 rfl (lv_at hl 1 rfl) ?_
      refine g_get (ci := 5) (C := RX4) (T := TX4) (N := 6) hx hb hts hinX4 hown hI htgJ rfl 2 (by decide) hw0 (fun _ h9 => h9) rfl dX4_refillBuckets_4 ?_
      refine g_calli hI (va_runV (As := []) (rest := [.int (nI j)]) ⟨hx, hb, hml, hown, hts⟩ (c_Lsize l D cy de fJ (N 0 3) (N 0 5) (N 0 7) (N 3) hRJ.2.2.2.2.1 H.size) (cwV 0 hts gX4_refillBuckets_Jx4a65c_size_8abf5 rfl rfl rfl (by decide +kernel) ⟨Nat.le_of_ble_eq_true rfl, Nat.le_of_ble_eq_true rfl⟩) (g_preV hI hlf_2 rfl) rfl rfl hl.1 rfl (lv_room (Nat.le_of_ble_eq_true rfl)) dX4_refillBuckets_7 ⟨Nat.le_of_ble_eq_true rfl, Nat.le_of_ble_eq_true rfl⟩) (fun r_5 f_6 H locs hw_7 hI => ?_)
      obtain ⟨e_8_r, e_8⟩ := hw_7
      rw [e_8_r]
      rw [e_8] at hI
      refine lv_icmp_ge (tgt := 33) hx hb dX4_refillBuckets_10 (by decide) (fun c_9 => ?_) (fun c_9 => ?_)
      · have c_9' := Int32.not_lt.mpr c_9
        have hj : j = N 0 7 := g_lpE rfl (by have := gR_nk hRJ; have := gR_nc hRJ; omega) hjl c_9
        rw [hj] at E
        have hres := (iFillL_e).symm.trans E
        exact g_vret hx hb hr hlocks hI (by rw [← hres]; exact hRJ) (Nat.le_of_ble_eq_true rfl) (Nat.le_of_ble_eq_true rfl) dX4_refillBuckets_33
      · have c_9' := Int32.not_le.mp c_9
        have hj : j < N 0 7 := g_lpC rfl (by have := gR_nk hRJ; have := gR_nc hRJ; omega) hjl c_9
        refine lv_aload_n hx hb dX4_refillBuckets_13 rfl (lv_at hl 1 rfl) ?_
        refine g_get (ci := 5) (C := RX4) (T := TX4) (N := 6) hx hb hts hinX4 hown hI htgJ rfl 2 (by decide) hw0 (fun _ h9 => h9) rfl dX4_refillBuckets_14 ?_
        refine lv_iload_n hx hb dX4_refillBuckets_17 rfl (lv_at hl 0 rfl) ?_
        refine g_callq hI (va_runV (As := [.int (nI j)]) (rest := []) ⟨hx, hb, hml, hown, hts⟩ (c_Lget l D cy de fJ (N 0 3) (N 0 5) (N 0 7) (N 3) j hRJ.2.2.2.2.1 hj H.size) (cwV 1 hts gX4_refillBuckets_Jx4a65c_get_915e3 rfl rfl rfl (by decide +kernel) ⟨Nat.le_of_ble_eq_true rfl, Nat.le_of_ble_eq_true rfl⟩) (g_preV hI hlf_2 rfl) rfl rfl hl.1 rfl (lv_room (Nat.le_of_ble_eq_true rfl)) dX4_refillBuckets_18 ⟨Nat.le_of_ble_eq_true rfl, Nat.le_of_ble_eq_true rfl⟩) (fun r_10 f_11 H locs hw_12 hI => ?_)
        obtain ⟨e_13_r, e_13⟩ := hw_12
        rw [e_13_r]
        rw [e_13] at hI
        have ho_14 : fJ (N 3 j) = some (.inr (2, [.ref (N 1 (N 5 j)), .int (J 7 j), .int (J 8 j), .int (J 9 j), .int (J 10 j), .int (J 11 j), .int (J 12 j), .int (J 13 j), .int (J 14 j)])) := gR_ke hRJ hj
        have ho_15 : fJ (N 1 (N 5 j)) = some (.inr (3, [.int (nI (N 5 j)), .int (J 2 (N 5 j)), .int (J 3 (N 5 j)), .int (J 4 (N 5 j))])) := gR_pl hRJ (gR_kp hRJ hj)
        refine g_cast hx hb hown hI ho_14 rfl hw1 dX4_refillBuckets_21 ?_
        refine g_callv hI (va_runVN (As := []) (rest := []) ⟨hx, hb, hml, hown, hts⟩ (c_X1_refillBucket l D cy de fJ (N 3 j) (N 1 (N 5 j)) (J 7 j) (J 8 j) (J 9 j) (J 10 j) (J 11 j) (J 12 j) (J 13 j) (J 14 j) (nI (N 5 j)) (J 2 (N 5 j)) (J 3 (N 5 j)) (J 4 (N 5 j)) ho_14 ho_15 H.size) ⟨va_cnB 0 hts gX4_refillBuckets_X1_refillBucket_n203 rfl rfl rfl (nm_T203 hI.2.2.2.1) hw2 (by decide +kernel) ⟨Nat.le_of_ble_eq_true rfl, Nat.le_of_ble_eq_true rfl⟩, hw3, hw4⟩ (g_preV hI ho_14 rfl) rfl rfl hl.1 rfl (lv_room (Nat.le_of_ble_eq_true rfl)) dX4_refillBuckets_24 ⟨Nat.le_of_ble_eq_true rfl, Nat.le_of_ble_eq_true rfl⟩) (fun f_17 H locs hw_18 hI => ?_)
        have e_19 := hw_18
        have e_19 : f_17 = va_up fJ (N 3 j) (some (.inr (2, [.ref (N 1 (N 5 j)), .int (if (J 2 (N 5 j)) ≤ (J 7 j) then (J 7 j) else if (J 7 j) + (cond (decide ((J 9 j) = 0) && decide ((J 12 j) = 0)) (J 4 (N 5 j)) (J 3 (N 5 j))) < (J 2 (N 5 j)) then (J 7 j) + (cond (decide ((J 9 j) = 0) && decide ((J 12 j) = 0)) (J 4 (N 5 j)) (J 3 (N 5 j))) else (J 2 (N 5 j))), .int (J 8 j), .int (J 9 j), .int (J 10 j), .int (J 11 j), .int (J 12 j), .int (J 13 j), .int (J 14 j)]))) := e_19
        have hf_20 : f_17 (N 3 j) = some (.inr (2, [.ref (N 1 (N 5 j)), .int (if (J 2 (N 5 j)) ≤ (J 7 j) then (J 7 j) else if (J 7 j) + (cond (decide ((J 9 j) = 0) && decide ((J 12 j) = 0)) (J 4 (N 5 j)) (J 3 (N 5 j))) < (J 2 (N 5 j)) then (J 7 j) + (cond (decide ((J 9 j) = 0) && decide ((J 12 j) = 0)) (J 4 (N 5 j)) (J 3 (N 5 j))) else (J 2 (N 5 j))), .int (J 8 j), .int (J 9 j), .int (J 10 j), .int (J 11 j), .int (J 12 j), .int (J 13 j), .int (J 14 j)])) := by rw [e_19]; exact va_up_self _ _ _
        have hf_21 : f_17 (N 0 0) = some (.inr (5, [.ref (N 0 1), .ref (N 0 2), .ref (N 0 3), .ref (N 0 4), .int (J 0 0), .int (J 1 0)])) := by rw [e_19, va_up_ne _ _ (g_ne ho_14 htgJ (by decide))]; exact htgJ
        have hf_22 : f_17 (N 0 3) = some (.inr (0, lf_1)) := by rw [e_19, va_up_ne _ _ (g_ne ho_14 hlf_2 (by decide))]; exact hlf_2
        have hf_23 : f_17 (N 0 4) = some (.inr (0, lf_3)) := by rw [e_19, va_up_ne _ _ (g_ne ho_14 hlf_4 (by decide))]; exact hlf_4
        have hf_24 : f_17 (N 1 (N 5 j)) = some (.inr (3, [.int (nI (N 5 j)), .int (J 2 (N 5 j)), .int (J 3 (N 5 j)), .int (J 4 (N 5 j))])) := by rw [e_19, va_up_ne _ _ (g_ne ho_14 ho_15 (by decide))]; exact ho_15
        refine lv_iinc (v := (nI j) + 1) (lv' := [(1, .int ((nI j) + 1)), (0, .ref (N 0 0))]) hx hb dX4_refillBuckets_27 hl (k := 0) rfl rfl (by decide) rfl (fun ls hl => ?_)
        refine lv_goto (tgt := 2) hx hb dX4_refillBuckets_30 (by decide) ?_
        refine ih (j + 1)  (iK J j (if (J 2 (N 5 j)) ≤ (J 7 j) then (J 7 j) else if (J 7 j) + (cond (decide ((J 9 j) = 0) && decide ((J 12 j) = 0)) (J 4 (N 5 j)) (J 3 (N 5 j))) < (J 2 (N 5 j)) then (J 7 j) + (cond (decide ((J 9 j) = 0) && decide ((J 12 j) = 0)) (J 4 (N 5 j)) (J 3 (N 5 j))) else (J 2 (N 5 j))) (J 8 j) (J 9 j) (J 10 j) (J 11 j) (J 12 j) (J 13 j) (J 14 j)) f_17 H locs (by omega) (by omega) (by rw [e_19]; first | exact gR_setK hRJ hj _ _ _ _ _ _ _ _ | (simp only [g_uu]; exact gR_setK hRJ hj _ _ _ _ _ _ _ _)) hI ?_ ls ?_
        · have E1 := (iFillL_s hj).symm.trans E
          exact E1
        · rw [← nI_1]
          exact lv_sub hl [0, 1] rfl
  exact hloop (N 0 7 + 1) 0  I f s.heap [] (by omega) (by omega) hR hI rfl ls (lv_sub hl [0, 1] rfl)

set_option maxHeartbeats 4000000 in
set_option maxRecDepth 100000 in
theorem c_X4_runOutHolds (l : Launch) (D : va_G) (cy : Nat → ClassId) (de : Nat) (f : gFm) (N : gNm) (I : gMd) (hR : gR cy de N I f) (hN : gNx N I) : gMi l yX4_runOutHolds wsX4_runOutHolds { frames := 4, cells := 0, slots := 0, locals := 79 } D cy de [.ref (N 0 0)] f (fun r9 f9 => r9 = (iRun N I).1 ∧ gR cy de N (iRun N I).2 f9) 0 0 := by
  refine fun sz => Met.ofW (cc := cX4_runOutHolds) (maxL := 3) (ret := (some .int)) (by decide) rfl ?_
  intro p e s m args below meth c s₁ B hml hv
  obtain ⟨rfl, hv⟩ := hv
  obtain ⟨rfl, hI⟩ := gP_I hv
  have hx := B.exec
  have hb := B.bytes
  have hr := B.returns
  have hts := atoms_spec (ws := wsX4_runOutHolds) B.pre
  have hown : s.vm.findClass RX4 = some m.cls := findClass_of_methodNamed B.named
  have hlocks := B.notSynchronized
  have hinX0 : ∀ w ∈ wsX00, w ∈ wsX4_runOutHolds := by decide +kernel
  have hinX4 : ∀ w ∈ wsX40, w ∈ wsX4_runOutHolds := by decide +kernel
  have hw0 := hts (.fieldLink RX4 197 "TollGateway" "nextToRunOut" "I") (by decide +kernel)
  have hw1 := hts (.fieldLink RX4 28 "TollGateway" "letThrough" "Ljava/util/ArrayList;") (by decide +kernel)
  have hw2 := hts (.classLink RX4 118 "TollGateway$Call") (by decide +kernel)
  have hw3 := hts (.fieldLink RX4 120 "TollGateway" "tick" "I") (by decide +kernel)
  have hw4 := hts (.initialized RX0) (by decide +kernel)
  have hw5 := hts (.instanceMethod yX0_hasEnded) (by decide +kernel)
  have hw6 := hts (.selects RX0 yX0_hasEnded yX0_hasEnded) (by decide +kernel)
  have hw7 := hts (.instanceMethod yX0_settle) (by decide +kernel)
  have hw8 := hts (.selects RX0 yX0_settle yX0_settle) (by decide +kernel)
  have hl := lv_entry ([.ref (N 0 0)]) (n := 3) (Nat.le_of_ble_eq_true rfl)
  rw [lg_entry_eq]
  generalize (lg_sl ([.ref (N 0 0)]) ++ List.replicate (3 - (lg_sl ([.ref (N 0 0)])).length) Slot.unset).toArray = ls at hl ⊢
  have hl : lv_has ls 3 [(0, .ref (N 0 0))] := hl
  have htg : f (N 0 0) = some (.inr (5, [.ref (N 0 1), .ref (N 0 2), .ref (N 0 3), .ref (N 0 4), .int (I 0 0), .int (I 1 0)])) := gR_tg hR
  refine lv_iconst (v := 0) hx hb dX4_runOutHolds_0 (by decide) ?_
  refine lv_istore_n (lv' := [(1, .int 0), (0, .ref (N 0 0))]) hx hb dX4_runOutHolds_1 rfl hl (by decide) rfl (fun ls hl => ?_)
  have hloop : ∀ (n t : Nat) (a : Int32) (J : gMd) (fJ : gFm) (H : Heap) (locs : List Loc), t ≤ N 0 8 → N 0 8 + 1 ≤ t + n → gR cy de N J fJ → gI D cy de (gA f s.heap.size) s fJ H locs → J 1 0 = nI t → iRunL N (N 0 8 - t) t a J = iRun N I → ∀ ls : Array Slot, lv_has ls 3 [(1, .int a), (0, .ref (N 0 0))] → W p l e (headSpec wsX4_runOutHolds { frames := 4, cells := 0, slots := 0, locals := 79 }).room s m ([.ref (N 0 0)] : List Value).toArray below meth c H locs 0 0 (MQ below (va_Qi (fun r9 f9 => r9 = (iRun N I).1 ∧ gR cy de N (iRun N I).2 f9) (gB D (gA f s.heap.size)) (gA f s.heap.size)) ([.ref (N 0 0)] : List Value).toArray s 0 0 (gA f s.heap.size)) (F0 m 2 ls []) := by
    intro n
    induction n with
    | zero => intro t a J fJ H locs h1 h2; exact absurd h2 (by omega)
    | succ n ih =>
      intro t a J fJ H locs hjl hjn hRJ hI hnx E ls hl
      have htgJ : fJ (N 0 0) = some (.inr (5, [.ref (N 0 1), .ref (N 0 2), .ref (N 0 3), .ref (N 0 4), .int (J 0 0), .int (J 1 0)])) := gR_tg hRJ
      obtain ⟨lf_1, hlf_2⟩ := gL_lk hRJ.2.2.2.2.1
      obtain ⟨lf_3, hlf_4⟩ := gL_lk hRJ.2.2.2.2.2
      refine lv_aload_n hx hb dX4_runOutHolds_2 rfl (lv_at hl 1 rfl) ?_
      refine g_get (ci := 5) (C := RX4) (T := TX4) (N := 6) hx hb hts hinX4 hown hI htgJ rfl 5 (by decide) hw0 (fun _ h9 => h9) rfl dX4_runOutHolds_3 ?_
      rw [hnx]
      refine lv_aload_n hx hb dX4_runOutHolds_6 rfl (lv_at hl 1 rfl) ?_
      refine g_get (ci := 5) (C := RX4) (T := TX4) (N := 6) hx hb hts hinX4 hown hI htgJ rfl 3 (by decide) hw1 (fun _ h9 => h9) rfl dX4_runOutHolds_7 ?_
      refine g_calli hI (va_runV (As := []) (rest := [.int (nI t)]) ⟨hx, hb, hml, hown, hts⟩ (c_Lsize l D cy de fJ (N 0 4) (N 0 6) (N 0 8) (N 4) hRJ.2.2.2.2.2 H.size) (cwV 0 hts gX4_runOutHolds_Jx4a65c_size_8abf5 rfl rfl rfl (by decide +kernel) ⟨Nat.le_of_ble_eq_true rfl, Nat.le_of_ble_eq_true rfl⟩) (g_preV hI hlf_4 rfl) rfl rfl hl.1 rfl (lv_room (Nat.le_of_ble_eq_true rfl)) dX4_runOutHolds_10 ⟨Nat.le_of_ble_eq_true rfl, Nat.le_of_ble_eq_true rfl⟩) (fun r_5 f_6 H locs hw_7 hI => ?_)
      obtain ⟨e_8_r, e_8⟩ := hw_7
      rw [e_8_r]
      rw [e_8] at hI
      refine lv_icmp_ge (tgt := 87) hx hb dX4_runOutHolds_13 (by decide) (fun c_9 => ?_) (fun c_9 => ?_)
      · have c_9' := Int32.not_lt.mpr c_9
        have hj : t = N 0 8 := g_lpE rfl (by have := gR_nk hRJ; have := gR_nc hRJ; omega) hjl c_9
        rw [hj] at E
        have hres := (iRunL_e).symm.trans E
        refine lv_iload_n hx hb dX4_runOutHolds_87 rfl (lv_at hl 0 rfl) ?_
        exact g_iret hx hb hr hlocks hI (by rw [← hres]; exact ⟨rfl, hRJ⟩) (Nat.le_of_ble_eq_true rfl) (Nat.le_of_ble_eq_true rfl) dX4_runOutHolds_88
      · have c_9' := Int32.not_le.mp c_9
        have hj : t < N 0 8 := g_lpC rfl (by have := gR_nk hRJ; have := gR_nc hRJ; omega) hjl c_9
        refine lv_aload_n hx hb dX4_runOutHolds_16 rfl (lv_at hl 1 rfl) ?_
        refine g_get (ci := 5) (C := RX4) (T := TX4) (N := 6) hx hb hts hinX4 hown hI htgJ rfl 3 (by decide) hw1 (fun _ h9 => h9) rfl dX4_runOutHolds_17 ?_
        refine lv_aload_n hx hb dX4_runOutHolds_20 rfl (lv_at hl 1 rfl) ?_
        refine g_get (ci := 5) (C := RX4) (T := TX4) (N := 6) hx hb hts hinX4 hown hI htgJ rfl 5 (by decide) hw0 (fun _ h9 => h9) rfl dX4_runOutHolds_21 ?_
        rw [hnx]
        refine g_callq hI (va_runV (As := [.int (nI t)]) (rest := []) ⟨hx, hb, hml, hown, hts⟩ (c_Lget l D cy de fJ (N 0 4) (N 0 6) (N 0 8) (N 4) t hRJ.2.2.2.2.2 hj H.size) (cwV 1 hts gX4_runOutHolds_Jx4a65c_get_915e3 rfl rfl rfl (by decide +kernel) ⟨Nat.le_of_ble_eq_true rfl, Nat.le_of_ble_eq_true rfl⟩) (g_preV hI hlf_4 rfl) rfl rfl hl.1 rfl (lv_room (Nat.le_of_ble_eq_true rfl)) dX4_runOutHolds_24 ⟨Nat.le_of_ble_eq_true rfl, Nat.le_of_ble_eq_true rfl⟩) (fun r_10 f_11 H locs hw_12 hI => ?_)
        obtain ⟨e_13_r, e_13⟩ := hw_12
        rw [e_13_r]
        rw [e_13] at hI
        have ho_14 : fJ (N 4 t) = some (.inr (1, [.ref (N 3 (N 6 t)), .int (J 15 t), .int (J 16 t), .int (J 17 t), .int (J 18 t), .int (J 19 t), .int (J 20 t)])) := gR_ca hRJ hj
        have ho_15 : fJ (N 3 (N 6 t)) = some (.inr (2, [.ref (N 1 (N 5 (N 6 t))), .int (J 7 (N 6 t)), .int (J 8 (N 6 t)), .int (J 9 (N 6 t)), .int (J 10 (N 6 t)), .int (J 11 (N 6 t)), .int (J 12 (N 6 t)), .int (J 13 (N 6 t)), .int (J 14 (N 6 t))])) := gR_ke hRJ (gR_ck hRJ hj)
        refine g_cast hx hb hown hI ho_14 rfl hw2 dX4_runOutHolds_27 ?_
        refine g_getN (ci := 1) (C := RX0) (T := TX0) (N := 7) hx hb hts hinX0 hown hI ho_14 rfl 3 (by decide) (nf_T200 hI.2.2.2.1) (fun _ h9 => h9) rfl dX4_runOutHolds_30 ?_
        refine lv_aload_n hx hb dX4_runOutHolds_33 rfl (lv_at hl 1 rfl) ?_
        refine g_get (ci := 5) (C := RX4) (T := TX4) (N := 6) hx hb hts hinX4 hown hI htgJ rfl 4 (by decide) hw3 (fun _ h9 => h9) rfl dX4_runOutHolds_34 ?_
        refine lv_icmp_gt (tgt := 87) hx hb dX4_runOutHolds_37 (by decide) (fun c_16 => ?_) (fun c_16 => ?_)
        · have hres := (iRunL_s hj).symm.trans E
          rw [if_pos c_16] at hres
          refine lv_iload_n hx hb dX4_runOutHolds_87 rfl (lv_at hl 0 rfl) ?_
          exact g_iret hx hb hr hlocks hI (by rw [← hres]; exact ⟨rfl, hRJ⟩) (Nat.le_of_ble_eq_true rfl) (Nat.le_of_ble_eq_true rfl) dX4_runOutHolds_88
        · refine lv_aload_n hx hb dX4_runOutHolds_40 rfl (lv_at hl 1 rfl) ?_
          refine g_get (ci := 5) (C := RX4) (T := TX4) (N := 6) hx hb hts hinX4 hown hI htgJ rfl 3 (by decide) hw1 (fun _ h9 => h9) rfl dX4_runOutHolds_41 ?_
          refine lv_aload_n hx hb dX4_runOutHolds_44 rfl (lv_at hl 1 rfl) ?_
          refine g_get (ci := 5) (C := RX4) (T := TX4) (N := 6) hx hb hts hinX4 hown hI htgJ rfl 5 (by decide) hw0 (fun _ h9 => h9) rfl dX4_runOutHolds_45 ?_
          rw [hnx]
          refine g_callq hI (va_runV (As := [.int (nI t)]) (rest := []) ⟨hx, hb, hml, hown, hts⟩ (c_Lget l D cy de fJ (N 0 4) (N 0 6) (N 0 8) (N 4) t hRJ.2.2.2.2.2 hj H.size) (cwV 1 hts gX4_runOutHolds_Jx4a65c_get_915e3 rfl rfl rfl (by decide +kernel) ⟨Nat.le_of_ble_eq_true rfl, Nat.le_of_ble_eq_true rfl⟩) (g_preV hI hlf_4 rfl) rfl rfl hl.1 rfl (lv_room (Nat.le_of_ble_eq_true rfl)) dX4_runOutHolds_48 ⟨Nat.le_of_ble_eq_true rfl, Nat.le_of_ble_eq_true rfl⟩) (fun r_17 f_18 H locs hw_19 hI => ?_)
          obtain ⟨e_20_r, e_20⟩ := hw_19
          rw [e_20_r]
          rw [e_20] at hI
          refine g_cast hx hb hown hI ho_14 rfl hw2 dX4_runOutHolds_51 ?_
          refine lv_astore_n (lv' := [(2, .ref (N 4 t)), (1, .int a), (0, .ref (N 0 0))]) hx hb dX4_runOutHolds_54 rfl hl (by decide) rfl (fun ls hl => ?_)
          refine lv_aload_n hx hb dX4_runOutHolds_55 rfl (lv_at hl 0 rfl) ?_
          refine g_calli hI (va_runVN (As := []) (rest := []) ⟨hx, hb, hml, hown, hts⟩ (c_X0_hasEnded l D cy de fJ (N 4 t) (N 3 (N 6 t)) (J 15 t) (J 16 t) (J 17 t) (J 18 t) (J 19 t) (J 20 t) ho_14 H.size) ⟨va_cnB 0 hts gX4_runOutHolds_X0_hasEnded_n130 rfl rfl rfl (nm_T130 hI.2.2.2.1) hw4 (by decide +kernel) ⟨Nat.le_of_ble_eq_true rfl, Nat.le_of_ble_eq_true rfl⟩, hw5, hw6⟩ (g_preV hI ho_14 rfl) rfl rfl hl.1 rfl (lv_room (Nat.le_of_ble_eq_true rfl)) dX4_runOutHolds_56 ⟨Nat.le_of_ble_eq_true rfl, Nat.le_of_ble_eq_true rfl⟩) (fun r_21 f_22 H locs hw_23 hI => ?_)
          obtain ⟨rfl, e_24⟩ := hw_23
          rw [e_24] at hI
          refine g_b2i_ne (tgt := 74) hx hb dX4_runOutHolds_59 (by decide) (fun c_25 => ?_) (fun c_25 => ?_)
          · refine lv_aload_n hx hb dX4_runOutHolds_74 rfl (lv_at hl 2 rfl) ?_
            refine lv_dup hx hb dX4_runOutHolds_75 rfl ?_
            refine g_get (ci := 5) (C := RX4) (T := TX4) (N := 6) hx hb hts hinX4 hown hI htgJ rfl 5 (by decide) hw0 (fun _ h9 => h9) rfl dX4_runOutHolds_76 ?_
            rw [hnx]
            refine lv_iconst (v := 1) hx hb dX4_runOutHolds_79 (by decide) ?_
            refine lv_iadd hx hb dX4_runOutHolds_80 ?_
            refine g_put (ci := 5) (v := .int ((nI t) + 1)) (ty := .int) (C := RX4) (T := TX4) (N := 6) hx hb hts hinX4 tyX4 tyX4_ok nmX4 hown hI htgJ rfl 5 (by decide) hw0 (fun _ h9 => h9) rfl (by decide +kernel) rfl rfl (Nat.le_of_ble_eq_true rfl) dX4_runOutHolds_81 (fun f_26 H locs e_27 hI => ?_)
            have e_27 : f_26 = va_up fJ (N 0 0) (some (.inr (5, [.ref (N 0 1), .ref (N 0 2), .ref (N 0 3), .ref (N 0 4), .int (J 0 0), .int ((nI t) + 1)]))) := e_27
            have hf_28 : f_26 (N 0 0) = some (.inr (5, [.ref (N 0 1), .ref (N 0 2), .ref (N 0 3), .ref (N 0 4), .int (J 0 0), .int ((nI t) + 1)])) := by rw [e_27]; exact va_up_self _ _ _
            have hf_29 : f_26 (N 0 3) = some (.inr (0, lf_1)) := by rw [e_27, va_up_ne _ _ (g_ne htgJ hlf_2 (by decide))]; exact hlf_2
            have hf_30 : f_26 (N 0 4) = some (.inr (0, lf_3)) := by rw [e_27, va_up_ne _ _ (g_ne htgJ hlf_4 (by decide))]; exact hlf_4
            have hf_31 : f_26 (N 4 t) = some (.inr (1, [.ref (N 3 (N 6 t)), .int (J 15 t), .int (J 16 t), .int (J 17 t), .int (J 18 t), .int (J 19 t), .int (J 20 t)])) := by rw [e_27, va_up_ne _ _ (g_ne htgJ ho_14 (by decide))]; exact ho_14
            have hf_32 : f_26 (N 3 (N 6 t)) = some (.inr (2, [.ref (N 1 (N 5 (N 6 t))), .int (J 7 (N 6 t)), .int (J 8 (N 6 t)), .int (J 9 (N 6 t)), .int (J 10 (N 6 t)), .int (J 11 (N 6 t)), .int (J 12 (N 6 t)), .int (J 13 (N 6 t)), .int (J 14 (N 6 t))])) := by rw [e_27, va_up_ne _ _ (g_ne htgJ ho_15 (by decide))]; exact ho_15
            refine lv_goto (tgt := 2) hx hb dX4_runOutHolds_84 (by decide) ?_
            refine ih (t + 1) a (iT J (J 0 0) ((nI t) + 1)) f_26 H locs (by omega) (by omega) (by rw [e_27]; first | exact gR_setT hRJ _ _ | (simp only [g_uu]; exact gR_setT hRJ _ _)) hI (nI_1 t) ?_ ls ?_
            · have E1 := (iRunL_s hj).symm.trans E
              simp only [c_16, c_25, if_true, if_false, ↓reduceIte, Bool.true_eq_false, Bool.false_eq_true, true_and, and_true, and_false, false_and, or_true, true_or, or_false, false_or, not_true_eq_false, not_false_eq_true, Bool.and_true, Bool.true_and, Bool.and_false, Bool.false_and, Bool.not_true, Bool.not_false, decide_true, decide_false, cond_true, cond_false] at E1
              exact E1
            · exact lv_sub hl [1, 2] rfl
          · refine lv_aload_n hx hb dX4_runOutHolds_62 rfl (lv_at hl 0 rfl) ?_
            refine lv_iconst (v := 0) hx hb dX4_runOutHolds_63 (by decide) ?_
            refine lv_aload_n hx hb dX4_runOutHolds_64 rfl (lv_at hl 2 rfl) ?_
            refine g_get (ci := 5) (C := RX4) (T := TX4) (N := 6) hx hb hts hinX4 hown hI htgJ rfl 4 (by decide) hw3 (fun _ h9 => h9) rfl dX4_runOutHolds_65 ?_
            refine g_callv hI (va_runVN (As := [.int 0, .int (J 0 0)]) (rest := []) ⟨hx, hb, hml, hown, hts⟩ (c_X0_settle l D cy de fJ (N 4 t) 0 (J 0 0) (N 3 (N 6 t)) (J 15 t) (J 16 t) (J 17 t) (J 18 t) (J 19 t) (J 20 t) (N 1 (N 5 (N 6 t))) (J 7 (N 6 t)) (J 8 (N 6 t)) (J 9 (N 6 t)) (J 10 (N 6 t)) (J 11 (N 6 t)) (J 12 (N 6 t)) (J 13 (N 6 t)) (J 14 (N 6 t)) ho_14 ho_15 H.size) ⟨va_cnB 2 hts gX4_runOutHolds_X0_settle_n136 rfl rfl rfl (nm_T136 hI.2.2.2.1) hw4 (by decide +kernel) ⟨Nat.le_of_ble_eq_true rfl, Nat.le_of_ble_eq_true rfl⟩, hw7, hw8⟩ (g_preV hI ho_14 rfl) rfl rfl hl.1 rfl (lv_room (Nat.le_of_ble_eq_true rfl)) dX4_runOutHolds_68 ⟨Nat.le_of_ble_eq_true rfl, Nat.le_of_ble_eq_true rfl⟩) (fun f_34 H locs hw_35 hI => ?_)
            have e_36 := hw_35
            obtain ⟨f_37, e_38⟩ : ∃ z, z = va_up fJ (N 4 t) (some (.inr (1, [.ref (N 3 (N 6 t)), .int (J 15 t), .int (J 16 t), .int (J 17 t), .int (if (0 : Int32) = 0 then (J 15 t) else if (0 : Int32) = 1 then ((J 15 t) + 1) / 2 else 0), .int (J 0 0), .int (J 20 t)]))) := ⟨_, rfl⟩
            rw [← e_38] at e_36
            have e_38 : f_37 = va_up fJ (N 4 t) (some (.inr (1, [.ref (N 3 (N 6 t)), .int (J 15 t), .int (J 16 t), .int (J 17 t), .int (if (0 : Int32) = 0 then (J 15 t) else if (0 : Int32) = 1 then ((J 15 t) + 1) / 2 else 0), .int (J 0 0), .int (J 20 t)]))) := e_38
            have hf_39 : f_37 (N 4 t) = some (.inr (1, [.ref (N 3 (N 6 t)), .int (J 15 t), .int (J 16 t), .int (J 17 t), .int (if (0 : Int32) = 0 then (J 15 t) else if (0 : Int32) = 1 then ((J 15 t) + 1) / 2 else 0), .int (J 0 0), .int (J 20 t)])) := by rw [e_38]; exact va_up_self _ _ _
            have hf_40 : f_37 (N 0 0) = some (.inr (5, [.ref (N 0 1), .ref (N 0 2), .ref (N 0 3), .ref (N 0 4), .int (J 0 0), .int (J 1 0)])) := by rw [e_38, va_up_ne _ _ (g_ne ho_14 htgJ (by decide))]; exact htgJ
            have hf_41 : f_37 (N 0 3) = some (.inr (0, lf_1)) := by rw [e_38, va_up_ne _ _ (g_ne ho_14 hlf_2 (by decide))]; exact hlf_2
            have hf_42 : f_37 (N 0 4) = some (.inr (0, lf_3)) := by rw [e_38, va_up_ne _ _ (g_ne ho_14 hlf_4 (by decide))]; exact hlf_4
            have hf_43 : f_37 (N 3 (N 6 t)) = some (.inr (2, [.ref (N 1 (N 5 (N 6 t))), .int (J 7 (N 6 t)), .int (J 8 (N 6 t)), .int (J 9 (N 6 t)), .int (J 10 (N 6 t)), .int (J 11 (N 6 t)), .int (J 12 (N 6 t)), .int (J 13 (N 6 t)), .int (J 14 (N 6 t))])) := by rw [e_38, va_up_ne _ _ (g_ne ho_14 ho_15 (by decide))]; exact ho_15
            have e_36 : f_34 = va_up f_37 (N 3 (N 6 t)) (some (.inr (2, [.ref (N 1 (N 5 (N 6 t))), .int (J 7 (N 6 t)), .int (J 8 (N 6 t)), .int ((J 9 (N 6 t)) + (((J 15 t) - (if (0 : Int32) = 0 then (J 15 t) else if (0 : Int32) = 1 then ((J 15 t) + 1) / 2 else 0)) - (if ((J 15 t) - (if (0 : Int32) = 0 then (J 15 t) else if (0 : Int32) = 1 then ((J 15 t) + 1) / 2 else 0)) < (J 10 (N 6 t)) then ((J 15 t) - (if (0 : Int32) = 0 then (J 15 t) else if (0 : Int32) = 1 then ((J 15 t) + 1) / 2 else 0)) else (J 10 (N 6 t))))), .int ((J 10 (N 6 t)) - (if ((J 15 t) - (if (0 : Int32) = 0 then (J 15 t) else if (0 : Int32) = 1 then ((J 15 t) + 1) / 2 else 0)) < (J 10 (N 6 t)) then ((J 15 t) - (if (0 : Int32) = 0 then (J 15 t) else if (0 : Int32) = 1 then ((J 15 t) + 1) / 2 else 0)) else (J 10 (N 6 t)))), .int ((J 11 (N 6 t)) - (J 15 t)), .int ((J 12 (N 6 t)) - 1), .int ((J 13 (N 6 t)) + (if (0 : Int32) = 0 then (J 15 t) else if (0 : Int32) = 1 then ((J 15 t) + 1) / 2 else 0)), .int (J 14 (N 6 t))]))) := e_36
            have hf_44 : f_34 (N 3 (N 6 t)) = some (.inr (2, [.ref (N 1 (N 5 (N 6 t))), .int (J 7 (N 6 t)), .int (J 8 (N 6 t)), .int ((J 9 (N 6 t)) + (((J 15 t) - (if (0 : Int32) = 0 then (J 15 t) else if (0 : Int32) = 1 then ((J 15 t) + 1) / 2 else 0)) - (if ((J 15 t) - (if (0 : Int32) = 0 then (J 15 t) else if (0 : Int32) = 1 then ((J 15 t) + 1) / 2 else 0)) < (J 10 (N 6 t)) then ((J 15 t) - (if (0 : Int32) = 0 then (J 15 t) else if (0 : Int32) = 1 then ((J 15 t) + 1) / 2 else 0)) else (J 10 (N 6 t))))), .int ((J 10 (N 6 t)) - (if ((J 15 t) - (if (0 : Int32) = 0 then (J 15 t) else if (0 : Int32) = 1 then ((J 15 t) + 1) / 2 else 0)) < (J 10 (N 6 t)) then ((J 15 t) - (if (0 : Int32) = 0 then (J 15 t) else if (0 : Int32) = 1 then ((J 15 t) + 1) / 2 else 0)) else (J 10 (N 6 t)))), .int ((J 11 (N 6 t)) - (J 15 t)), .int ((J 12 (N 6 t)) - 1), .int ((J 13 (N 6 t)) + (if (0 : Int32) = 0 then (J 15 t) else if (0 : Int32) = 1 then ((J 15 t) + 1) / 2 else 0)), .int (J 14 (N 6 t))])) := by rw [e_36]; exact va_up_self _ _ _
            have hf_45 : f_34 (N 0 0) = some (.inr (5, [.ref (N 0 1), .ref (N 0 2), .ref (N 0 3), .ref (N 0 4), .int (J 0 0), .int (J 1 0)])) := by rw [e_36, va_up_ne _ _ (g_ne hf_43 hf_40 (by decide))]; exact hf_40
            have hf_46 : f_34 (N 0 3) = some (.inr (0, lf_1)) := by rw [e_36, va_up_ne _ _ (g_ne hf_43 hf_41 (by decide))]; exact hf_41
            have hf_47 : f_34 (N 0 4) = some (.inr (0, lf_3)) := by rw [e_36, va_up_ne _ _ (g_ne hf_43 hf_42 (by decide))]; exact hf_42
            have hf_48 : f_34 (N 4 t) = some (.inr (1, [.ref (N 3 (N 6 t)), .int (J 15 t), .int (J 16 t), .int (J 17 t), .int (if (0 : Int32) = 0 then (J 15 t) else if (0 : Int32) = 1 then ((J 15 t) + 1) / 2 else 0), .int (J 0 0), .int (J 20 t)])) := by rw [e_36, va_up_ne _ _ (g_ne hf_43 hf_39 (by decide))]; exact hf_39
            refine lv_iinc (v := a + 1) (lv' := [(1, .int (a + 1)), (2, .ref (N 4 t)), (0, .ref (N 0 0))]) hx hb dX4_runOutHolds_71 hl (k := 1) rfl rfl (by decide) rfl (fun ls hl => ?_)
            refine lv_aload_n hx hb dX4_runOutHolds_74 rfl (lv_at hl 2 rfl) ?_
            refine lv_dup hx hb dX4_runOutHolds_75 rfl ?_
            refine g_get (ci := 5) (C := RX4) (T := TX4) (N := 6) hx hb hts hinX4 hown hI hf_45 rfl 5 (by decide) hw0 (fun _ h9 => h9) rfl dX4_runOutHolds_76 ?_
            rw [hnx]
            refine lv_iconst (v := 1) hx hb dX4_runOutHolds_79 (by decide) ?_
            refine lv_iadd hx hb dX4_runOutHolds_80 ?_
            refine g_put (ci := 5) (v := .int ((nI t) + 1)) (ty := .int) (C := RX4) (T := TX4) (N := 6) hx hb hts hinX4 tyX4 tyX4_ok nmX4 hown hI hf_45 rfl 5 (by decide) hw0 (fun _ h9 => h9) rfl (by decide +kernel) rfl rfl (Nat.le_of_ble_eq_true rfl) dX4_runOutHolds_81 (fun f_49 H locs e_50 hI => ?_)
            have e_50 : f_49 = va_up f_34 (N 0 0) (some (.inr (5, [.ref (N 0 1), .ref (N 0 2), .ref (N 0 3), .ref (N 0 4), .int (J 0 0), .int ((nI t) + 1)]))) := e_50
            have hf_51 : f_49 (N 0 0) = some (.inr (5, [.ref (N 0 1), .ref (N 0 2), .ref (N 0 3), .ref (N 0 4), .int (J 0 0), .int ((nI t) + 1)])) := by rw [e_50]; exact va_up_self _ _ _
            have hf_52 : f_49 (N 0 3) = some (.inr (0, lf_1)) := by rw [e_50, va_up_ne _ _ (g_ne hf_45 hf_46 (by decide))]; exact hf_46
            have hf_53 : f_49 (N 0 4) = some (.inr (0, lf_3)) := by rw [e_50, va_up_ne _ _ (g_ne hf_45 hf_47 (by decide))]; exact hf_47
            have hf_54 : f_49 (N 4 t) = some (.inr (1, [.ref (N 3 (N 6 t)), .int (J 15 t), .int (J 16 t), .int (J 17 t), .int (if (0 : Int32) = 0 then (J 15 t) else if (0 : Int32) = 1 then ((J 15 t) + 1) / 2 else 0), .int (J 0 0), .int (J 20 t)])) := by rw [e_50, va_up_ne _ _ (g_ne hf_45 hf_48 (by decide))]; exact hf_48
            have hf_55 : f_49 (N 3 (N 6 t)) = some (.inr (2, [.ref (N 1 (N 5 (N 6 t))), .int (J 7 (N 6 t)), .int (J 8 (N 6 t)), .int ((J 9 (N 6 t)) + (((J 15 t) - (if (0 : Int32) = 0 then (J 15 t) else if (0 : Int32) = 1 then ((J 15 t) + 1) / 2 else 0)) - (if ((J 15 t) - (if (0 : Int32) = 0 then (J 15 t) else if (0 : Int32) = 1 then ((J 15 t) + 1) / 2 else 0)) < (J 10 (N 6 t)) then ((J 15 t) - (if (0 : Int32) = 0 then (J 15 t) else if (0 : Int32) = 1 then ((J 15 t) + 1) / 2 else 0)) else (J 10 (N 6 t))))), .int ((J 10 (N 6 t)) - (if ((J 15 t) - (if (0 : Int32) = 0 then (J 15 t) else if (0 : Int32) = 1 then ((J 15 t) + 1) / 2 else 0)) < (J 10 (N 6 t)) then ((J 15 t) - (if (0 : Int32) = 0 then (J 15 t) else if (0 : Int32) = 1 then ((J 15 t) + 1) / 2 else 0)) else (J 10 (N 6 t)))), .int ((J 11 (N 6 t)) - (J 15 t)), .int ((J 12 (N 6 t)) - 1), .int ((J 13 (N 6 t)) + (if (0 : Int32) = 0 then (J 15 t) else if (0 : Int32) = 1 then ((J 15 t) + 1) / 2 else 0)), .int (J 14 (N 6 t))])) := by rw [e_50, va_up_ne _ _ (g_ne hf_45 hf_44 (by decide))]; exact hf_44
            refine lv_goto (tgt := 2) hx hb dX4_runOutHolds_84 (by decide) ?_
            refine ih (t + 1) (a + 1) (iT (iK (iC J t (J 15 t) (J 16 t) (J 17 t) (if (0 : Int32) = 0 then (J 15 t) else if (0 : Int32) = 1 then ((J 15 t) + 1) / 2 else 0) (J 0 0) (J 20 t)) (N 6 t) (J 7 (N 6 t)) (J 8 (N 6 t)) ((J 9 (N 6 t)) + (((J 15 t) - (if (0 : Int32) = 0 then (J 15 t) else if (0 : Int32) = 1 then ((J 15 t) + 1) / 2 else 0)) - (if ((J 15 t) - (if (0 : Int32) = 0 then (J 15 t) else if (0 : Int32) = 1 then ((J 15 t) + 1) / 2 else 0)) < (J 10 (N 6 t)) then ((J 15 t) - (if (0 : Int32) = 0 then (J 15 t) else if (0 : Int32) = 1 then ((J 15 t) + 1) / 2 else 0)) else (J 10 (N 6 t))))) ((J 10 (N 6 t)) - (if ((J 15 t) - (if (0 : Int32) = 0 then (J 15 t) else if (0 : Int32) = 1 then ((J 15 t) + 1) / 2 else 0)) < (J 10 (N 6 t)) then ((J 15 t) - (if (0 : Int32) = 0 then (J 15 t) else if (0 : Int32) = 1 then ((J 15 t) + 1) / 2 else 0)) else (J 10 (N 6 t)))) ((J 11 (N 6 t)) - (J 15 t)) ((J 12 (N 6 t)) - 1) ((J 13 (N 6 t)) + (if (0 : Int32) = 0 then (J 15 t) else if (0 : Int32) = 1 then ((J 15 t) + 1) / 2 else 0)) (J 14 (N 6 t))) (J 0 0) ((nI t) + 1)) f_49 H locs (by omega) (by omega) (by rw [e_50, e_36, e_38]; first | exact gR_setT (gR_setK (gR_setC hRJ hj _ _ _ _ _ _) (gR_ck hRJ hj) _ _ _ _ _ _ _ _) _ _ | (simp only [g_uu]; exact gR_setT (gR_setK (gR_setC hRJ hj _ _ _ _ _ _) (gR_ck hRJ hj) _ _ _ _ _ _ _ _) _ _)) hI (nI_1 t) ?_ ls ?_
            · have E1 := (iRunL_s hj).symm.trans E
              simp only [c_16, c_25, if_true, if_false, ↓reduceIte, Bool.true_eq_false, Bool.false_eq_true, true_and, and_true, and_false, false_and, or_true, true_or, or_false, false_or, not_true_eq_false, not_false_eq_true, Bool.and_true, Bool.true_and, Bool.and_false, Bool.false_and, Bool.not_true, Bool.not_false, decide_true, decide_false, cond_true, cond_false] at E1
              exact E1
            · exact lv_sub hl [0, 2] rfl
  exact hloop (N 0 8 + 1) (ix (I 1 0)) 0 I f s.heap [] (by exact hN.1) (by omega) hR hI hN.2 rfl ls (lv_sub hl [0, 1] rfl)
