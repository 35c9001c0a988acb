theorem g_lt8 {n : Nat} (hn : n ≤ 8) (h : nI n < 8) : n < 8 := (nI_ltI (by omega) (by decide)).mp (by rw [show nI 8 = (8 : Int32) by decide]; exact h)
theorem g_lt80 {n : Nat} (hn : n ≤ 80) (h : nI n < 80) : n < 80 := (nI_ltI (by omega) (by decide)).mp (by rw [show nI 80 = (80 : Int32) by decide]; exact h)

set_option maxHeartbeats 4000000 in
set_option maxRecDepth 100000 in
theorem c_X4_setKeyPlan (l : Launch) (hl0 : l.stackTraces = false) (D : va_G) (cy : Nat → ClassId) (de : Nat) (f : gFm) (N : gNm) (I : gMd) (key : Int32) (plan : Int32) (hR : gR cy de N I f) : gXi l yX4_setKeyPlan wsX4_setKeyPlan { frames := 7, cells := 2, slots := 12, locals := 103 } D cy de [.ref (N 0 0), .int key, .int plan] f (fun r9 f9 => ∃ jkey, jkey < N 0 7 ∧ key = nI jkey ∧ ∃ jplan, jplan < 4 ∧ plan = nI jplan ∧ (r9 = nI (N 5 jkey) ∧ gR cy de (nPlan N jkey jplan) I f9)) (fun E9 => (E9 = "java/lang/IndexOutOfBoundsException" ∧ ¬ pI key (N 0 7)) ∨ ∃ jkey, jkey < N 0 7 ∧ key = nI jkey ∧ (E9 = "java/lang/IllegalArgumentException" ∧ ¬ pI plan (4))) 2 12 := by
  refine fun sz => vx_ofW (cc := cX4_setKeyPlan) (maxL := 6) (ret := (some .int)) (by decide) rfl ?_
  intro p e s m args below meth c s₁ B hml hout hv
  obtain ⟨rfl, hv⟩ := hv
  obtain ⟨rfl, hI⟩ := gP_I hv
  have hx := B.exec
  have hb := B.bytes
  have hr := B.returns
  have hts := atoms_spec (ws := wsX4_setKeyPlan) B.pre
  have hown : s.vm.findClass RX4 = some m.cls := findClass_of_methodNamed B.named
  have hlocks := B.notSynchronized
  have hinX1 : ∀ w ∈ wsX10, w ∈ wsX4_setKeyPlan := by decide +kernel
  have hinX2 : ∀ w ∈ wsX20, w ∈ wsX4_setKeyPlan := by decide +kernel
  have hl := lv_entry ([.ref (N 0 0), .int key, .int plan]) (n := 6) (Nat.le_of_ble_eq_true rfl)
  rw [lg_entry_eq]
  generalize (lg_sl ([.ref (N 0 0), .int key, .int plan]) ++ List.replicate (6 - (lg_sl ([.ref (N 0 0), .int key, .int plan])).length) Slot.unset).toArray = ls at hl ⊢
  have hl : lv_has ls 6 [(0, .ref (N 0 0)), (1, .int key), (2, .int plan)] := hl
  have htg : f (N 0 0) = some (.inr (5, [.ref (N 0 1), .ref (N 0 2), .ref (N 0 3), .ref (N 0 4), .int (I 0 0), .int (I 1 0)])) := gR_tg hR
  refine lv_aload_n hx hb dX4_setKeyPlan_0 rfl (lv_at hl 0 rfl) ?_
  refine lv_iload_n hx hb dX4_setKeyPlan_1 rfl (lv_at hl 1 rfl) ?_
  refine gx_callq hI hout hlocks (fun E9 h9 => Or.inl h9) (Nat.le_of_ble_eq_true rfl) (Nat.le_of_ble_eq_true rfl) (vx_runV (As := [.int key]) (rest := []) ⟨hx, hb, hml, hown, hts⟩ (c_X4_keyAt l hl0 D cy de f N I key hR s.heap.size) (cwV 1 hts gX4_setKeyPlan_X4_keyAt rfl rfl rfl (by decide +kernel) ⟨Nat.le_of_ble_eq_true rfl, Nat.le_of_ble_eq_true rfl⟩) (g_preV hI htg rfl) rfl rfl hl.1 rfl (lv_room (Nat.le_of_ble_eq_true rfl)) dX4_setKeyPlan_2 ⟨Nat.le_of_ble_eq_true rfl, Nat.le_of_ble_eq_true rfl⟩) (fun r_1 f_2 H locs hw_3 hI => ?_)
  obtain ⟨jkey, hjkey, hkjkey, e_4_r, e_4⟩ := hw_3
  rw [e_4_r]
  rw [e_4] at hI
  have ho_5 : f (N 3 jkey) = some (.inr (2, [.ref (N 1 (N 5 jkey)), .int (I 7 jkey), .int (I 8 jkey), .int (I 9 jkey), .int (I 10 jkey), .int (I 11 jkey), .int (I 12 jkey), .int (I 13 jkey), .int (I 14 jkey)])) := gR_ke hR hjkey
  refine lv_astore_n (lv' := [(3, .ref (N 3 jkey)), (0, .ref (N 0 0)), (1, .int key), (2, .int plan)]) hx hb dX4_setKeyPlan_5 rfl hl (by decide) rfl (fun ls hl => ?_)
  refine lv_aload_n hx hb dX4_setKeyPlan_6 rfl (lv_at hl 1 rfl) ?_
  refine lv_iload_n hx hb dX4_setKeyPlan_7 rfl (lv_at hl 3 rfl) ?_
  refine gx_callq hI hout hlocks (fun E9 h9 => Or.inr ⟨jkey, hjkey, hkjkey, h9⟩) (Nat.le_of_ble_eq_true rfl) (Nat.le_of_ble_eq_true rfl) (vx_runV (As := [.int plan]) (rest := []) ⟨hx, hb, hml, hown, hts⟩ (c_X4_planAt l hl0 D cy de f N I plan hR H.size) (cwV 1 hts gX4_setKeyPlan_X4_planAt rfl rfl rfl (by decide +kernel) ⟨Nat.le_of_ble_eq_true rfl, Nat.le_of_ble_eq_true rfl⟩) (g_preV hI htg rfl) rfl rfl hl.1 rfl (lv_room (Nat.le_of_ble_eq_true rfl)) dX4_setKeyPlan_8 ⟨Nat.le_of_ble_eq_true rfl, Nat.le_of_ble_eq_true rfl⟩) (fun r_6 f_7 H locs hw_8 hI => ?_)
  obtain ⟨jplan, hjplan, hkjplan, e_9_r, e_9⟩ := hw_8
  rw [e_9_r]
  rw [e_9] at hI
  have ho_10 : f (N 1 jplan) = some (.inr (3, [.int (nI jplan), .int (I 2 jplan), .int (I 3 jplan), .int (I 4 jplan)])) := gR_pl hR hjplan
  refine lv_astore (lv' := [(4, .ref (N 1 jplan)), (3, .ref (N 3 jkey)), (0, .ref (N 0 0)), (1, .int key), (2, .int plan)]) hx hb dX4_setKeyPlan_11 hl (by decide) rfl (fun ls hl => ?_)
  refine lv_aload_n hx hb dX4_setKeyPlan_13 rfl (lv_at hl 1 rfl) ?_
  refine g_getN (ci := 2) (C := RX1) (T := TX1) (N := 9) hx hb hts hinX1 hown hI ho_5 rfl 0 (by decide) (nf_T86 hI.2.2.2.1) (fun _ h9 => h9) rfl dX4_setKeyPlan_14 ?_
  have ho_11 : f (N 1 (N 5 jkey)) = some (.inr (3, [.int (nI (N 5 jkey)), .int (I 2 (N 5 jkey)), .int (I 3 (N 5 jkey)), .int (I 4 (N 5 jkey))])) := gR_pl hR (gR_kp hR hjkey)
  refine g_getN (ci := 3) (C := RX2) (T := TX2) (N := 4) hx hb hts hinX2 hown hI ho_11 rfl 0 (by decide) (nf_T90 hI.2.2.2.1) (fun _ h9 => h9) rfl dX4_setKeyPlan_17 ?_
  refine lv_istore (lv' := [(5, .int (nI (N 5 jkey))), (4, .ref (N 1 jplan)), (3, .ref (N 3 jkey)), (0, .ref (N 0 0)), (1, .int key), (2, .int plan)]) hx hb dX4_setKeyPlan_20 hl (by decide) rfl (fun ls hl => ?_)
  refine lv_aload_n hx hb dX4_setKeyPlan_22 rfl (lv_at hl 2 rfl) ?_
  refine lv_aload hx hb dX4_setKeyPlan_23 (lv_at hl 1 rfl) ?_
  refine g_putN (ci := 2) (v := .ref (N 1 jplan)) (ty := (.object "TollGateway$Plan")) (C := RX1) (T := TX1) (N := 9) hx hb hts hinX1 tyX1 tyX1_ok nmX1 hown hI ho_5 rfl 0 (by decide) (nf_T86 hI.2.2.2.1) (fun _ h9 => h9) rfl (by decide +kernel) rfl rfl (Nat.le_of_ble_eq_true rfl) dX4_setKeyPlan_25 (fun f_12 H locs e_13 hI => ?_)
  have e_13 : f_12 = va_up f (N 3 jkey) (some (.inr (2, [.ref (N 1 jplan), .int (I 7 jkey), .int (I 8 jkey), .int (I 9 jkey), .int (I 10 jkey), .int (I 11 jkey), .int (I 12 jkey), .int (I 13 jkey), .int (I 14 jkey)]))) := e_13
  have hf_14 : f_12 (N 3 jkey) = some (.inr (2, [.ref (N 1 jplan), .int (I 7 jkey), .int (I 8 jkey), .int (I 9 jkey), .int (I 10 jkey), .int (I 11 jkey), .int (I 12 jkey), .int (I 13 jkey), .int (I 14 jkey)])) := by rw [e_13]; exact va_up_self _ _ _
  have hf_15 : f_12 (N 0 0) = some (.inr (5, [.ref (N 0 1), .ref (N 0 2), .ref (N 0 3), .ref (N 0 4), .int (I 0 0), .int (I 1 0)])) := by rw [e_13, va_up_ne _ _ (g_ne ho_5 htg (by decide))]; exact htg
  have hf_16 : f_12 (N 1 jplan) = some (.inr (3, [.int (nI jplan), .int (I 2 jplan), .int (I 3 jplan), .int (I 4 jplan)])) := by rw [e_13, va_up_ne _ _ (g_ne ho_5 ho_10 (by decide))]; exact ho_10
  have hf_17 : f_12 (N 1 (N 5 jkey)) = some (.inr (3, [.int (nI (N 5 jkey)), .int (I 2 (N 5 jkey)), .int (I 3 (N 5 jkey)), .int (I 4 (N 5 jkey))])) := by rw [e_13, va_up_ne _ _ (g_ne ho_5 ho_11 (by decide))]; exact ho_11
  refine lv_iload hx hb dX4_setKeyPlan_28 (lv_at hl 0 rfl) ?_
  exact gx_iret hx hb hr hlocks hI ⟨jkey, hjkey, hkjkey, ⟨jplan, hjplan, hkjplan, ⟨rfl, (by rw [e_13]; first | exact gR_setP5 hR hjkey hjplan | (simp only [g_uu]; exact gR_setP5 hR hjkey hjplan))⟩⟩⟩ (Nat.le_of_ble_eq_true rfl) (Nat.le_of_ble_eq_true rfl) dX4_setKeyPlan_30

set_option maxHeartbeats 4000000 in
set_option maxRecDepth 100000 in
theorem c_X4_addKey (l : Launch) (hl0 : l.stackTraces = false) (D : va_G) (cy : Nat → ClassId) (de : Nat) (f : gFm) (N : gNm) (I : gMd) (plan : Int32) (hR : gR cy de N I f) : gXi l yX4_addKey wsX4_addKey { frames := 7, cells := 3, slots := 215, locals := 211 } D cy de [.ref (N 0 0), .int plan] f (fun r9 f9 => ∃ jplan, jplan < 4 ∧ plan = nI jplan ∧ (nI (N 0 7) < 8) ∧ (∃ ek_40, ∃ q_15, r9 = nI (N 0 7) ∧ gR cy de (nKey N ek_40 q_15 jplan) (iK I (N 0 7) (I 2 jplan) 0 0 0 0 0 0 0) f9)) (fun E9 => (E9 = "java/lang/IllegalArgumentException" ∧ ¬ pI plan (4)) ∨ ∃ jplan, jplan < 4 ∧ plan = nI jplan ∧ (E9 = "java/lang/IllegalStateException" ∧ ¬ (nI (N 0 7) < 8))) 3 215 := by
  refine fun sz => vx_ofW (cc := cX4_addKey) (maxL := 3) (ret := (some .int)) (by decide) rfl ?_
  intro p e s m args below meth c s₁ B hml hout hv
  obtain ⟨rfl, hv⟩ := hv
  obtain ⟨rfl, hI⟩ := gP_I hv
  have hx := B.exec
  have hb := B.bytes
  have hr := B.returns
  have hts := atoms_spec (ws := wsX4_addKey) B.pre
  have hown : s.vm.findClass RX4 = some m.cls := findClass_of_methodNamed B.named
  have hlocks := B.notSynchronized
  have hinX1 : ∀ w ∈ wsX10, w ∈ wsX4_addKey := by decide +kernel
  have hinX4 : ∀ w ∈ wsX40, w ∈ wsX4_addKey := by decide +kernel
  have hw0 := hts (.fieldLink RX4 24 "TollGateway" "keys" "Ljava/util/ArrayList;") (by decide +kernel)
  have hw1 := hts (.classLink RX4 73 RX1) (by decide +kernel)
  have hw2 := hts (.instantiable RX1 9) (by decide +kernel)
  have hw3 := hts (.initialized RX1) (by decide +kernel)
  have hw4 := hts (.instanceMethod yX1_init) (by decide +kernel)
  have hw5 := hts (.classLink RX4 66 "java/lang/IllegalStateException") (by decide +kernel)
  have hw6 := hts (.initialized "java/lang/IllegalStateException") (by decide +kernel)
  have hl := lv_entry ([.ref (N 0 0), .int plan]) (n := 3) (Nat.le_of_ble_eq_true rfl)
  rw [lg_entry_eq]
  generalize (lg_sl ([.ref (N 0 0), .int plan]) ++ List.replicate (3 - (lg_sl ([.ref (N 0 0), .int plan])).length) Slot.unset).toArray = ls at hl ⊢
  have hl : lv_has ls 3 [(0, .ref (N 0 0)), (1, .int plan)] := hl
  have htg : f (N 0 0) = some (.inr (5, [.ref (N 0 1), .ref (N 0 2), .ref (N 0 3), .ref (N 0 4), .int (I 0 0), .int (I 1 0)])) := gR_tg hR
  obtain ⟨lf_1, hlf_2⟩ := gL_lk hR.2.2.2.2.1
  obtain ⟨lf_3, hlf_4⟩ := gL_lk hR.2.2.2.2.2
  refine lv_aload_n hx hb dX4_addKey_0 rfl (lv_at hl 0 rfl) ?_
  refine lv_iload_n hx hb dX4_addKey_1 rfl (lv_at hl 1 rfl) ?_
  refine gx_callq hI hout hlocks (fun E9 h9 => Or.inl h9) (Nat.le_of_ble_eq_true rfl) (Nat.le_of_ble_eq_true rfl) (vx_runV (As := [.int plan]) (rest := []) ⟨hx, hb, hml, hown, hts⟩ (c_X4_planAt l hl0 D cy de f N I plan hR s.heap.size) (cwV 1 hts gX4_addKey_X4_planAt rfl rfl rfl (by decide +kernel) ⟨Nat.le_of_ble_eq_true rfl, Nat.le_of_ble_eq_true rfl⟩) (g_preV hI htg rfl) rfl rfl hl.1 rfl (lv_room (Nat.le_of_ble_eq_true rfl)) dX4_addKey_2 ⟨Nat.le_of_ble_eq_true rfl, Nat.le_of_ble_eq_true rfl⟩) (fun r_5 f_6 H locs hw_7 hI => ?_)
  obtain ⟨jplan, hjplan, hkjplan, e_8_r, e_8⟩ := hw_7
  rw [e_8_r]
  rw [e_8] at hI
  have ho_9 : f (N 1 jplan) = some (.inr (3, [.int (nI jplan), .int (I 2 jplan), .int (I 3 jplan), .int (I 4 jplan)])) := gR_pl hR hjplan
  refine lv_astore_n (lv' := [(2, .ref (N 1 jplan)), (0, .ref (N 0 0)), (1, .int plan)]) hx hb dX4_addKey_5 rfl hl (by decide) rfl (fun ls hl => ?_)
  refine lv_aload_n hx hb dX4_addKey_6 rfl (lv_at hl 1 rfl) ?_
  refine g_get (ci := 5) (C := RX4) (T := TX4) (N := 6) hx hb hts hinX4 hown hI htg rfl 2 (by decide) hw0 (fun _ h9 => h9) rfl dX4_addKey_7 ?_
  refine g_calli hI (va_runV (As := []) (rest := []) ⟨hx, hb, hml, hown, hts⟩ (c_Lsize l D cy de f (N 0 3) (N 0 5) (N 0 7) (N 3) hR.2.2.2.2.1 H.size) (cwV 0 hts gX4_addKey_Jx4a65c_size_8abf5 rfl rfl rfl (by decide +kernel) ⟨Nat.le_of_ble_eq_true rfl, Nat.le_of_ble_eq_true rfl⟩) (g_preV hI hlf_2 rfl) rfl rfl hl.1 rfl (lv_room (Nat.le_of_ble_eq_true rfl)) dX4_addKey_10 ⟨Nat.le_of_ble_eq_true rfl, Nat.le_of_ble_eq_true rfl⟩) (fun r_10 f_11 H locs hw_12 hI => ?_)
  obtain ⟨e_13_r, e_13⟩ := hw_12
  rw [e_13_r]
  rw [e_13] at hI
  refine lv_bipush (v := 8) hx hb dX4_addKey_13 (by decide) ?_
  refine lv_icmp_lt (tgt := 28) hx hb dX4_addKey_15 (by decide) (fun c_14 => ?_) (fun c_14 => ?_)
  · refine lv_aload_n hx hb dX4_addKey_28 rfl (lv_at hl 1 rfl) ?_
    refine g_get (ci := 5) (C := RX4) (T := TX4) (N := 6) hx hb hts hinX4 hown hI htg rfl 2 (by decide) hw0 (fun _ h9 => h9) rfl dX4_addKey_29 ?_
    refine g_new (ci := 2) (fs := [.null, .int 0, .int 0, .int 0, .int 0, .int 0, .int 0, .int 0, .int 0]) hx hb hts hinX1 tyX1 tyX1_ok hown hw1 hw2 hw3 hI rfl (by decide +kernel) (Nat.le_of_ble_eq_true rfl) (Nat.le_of_ble_eq_true rfl) dX4_addKey_32 (fun q_15 f_16 H hq_18 e_17 hI => ?_)
    have hn_19 : N 0 0 ≠ q_15 := g_nn htg hq_18
    have hn_20 : N 0 3 ≠ q_15 := g_nn hlf_2 hq_18
    have hn_21 : N 0 4 ≠ q_15 := g_nn hlf_4 hq_18
    have hn_22 : N 1 jplan ≠ q_15 := g_nn ho_9 hq_18
    have e_17 : f_16 = va_up f q_15 (some (.inr (2, [.null, .int 0, .int 0, .int 0, .int 0, .int 0, .int 0, .int 0, .int 0]))) := e_17
    have hf_23 : f_16 q_15 = some (.inr (2, [.null, .int 0, .int 0, .int 0, .int 0, .int 0, .int 0, .int 0, .int 0])) := by rw [e_17]; exact va_up_self _ _ _
    have hf_24 : f_16 (N 0 0) = some (.inr (5, [.ref (N 0 1), .ref (N 0 2), .ref (N 0 3), .ref (N 0 4), .int (I 0 0), .int (I 1 0)])) := by rw [e_17, va_up_ne _ _ (hn_19)]; exact htg
    have hf_25 : f_16 (N 0 3) = some (.inr (0, lf_1)) := by rw [e_17, va_up_ne _ _ (hn_20)]; exact hlf_2
    have hf_26 : f_16 (N 0 4) = some (.inr (0, lf_3)) := by rw [e_17, va_up_ne _ _ (hn_21)]; exact hlf_4
    have hf_27 : f_16 (N 1 jplan) = some (.inr (3, [.int (nI jplan), .int (I 2 jplan), .int (I 3 jplan), .int (I 4 jplan)])) := by rw [e_17, va_up_ne _ _ (hn_22)]; exact ho_9
    refine lv_dup hx hb dX4_addKey_35 rfl ?_
    refine lv_aload_n hx hb dX4_addKey_36 rfl (lv_at hl 0 rfl) ?_
    refine g_callv hI (va_runIN (As := [.ref (N 1 jplan)]) (rest := [.ref q_15, .ref (N 0 3)]) ⟨hx, hb, hml, hown, hts⟩ (c_X1_init l D cy de f_16 q_15 (N 1 jplan) 0 0 0 0 0 0 0 0 (nI jplan) (I 2 jplan) (I 3 jplan) (I 4 jplan) hf_23 hf_27 H.size) ⟨va_cnB 1 hts gX4_addKey_X1_init_n75 rfl rfl rfl (nm_T75 hI.2.2.2.1) hw3 (by decide +kernel) ⟨Nat.le_of_ble_eq_true rfl, Nat.le_of_ble_eq_true rfl⟩, rfl, hw4⟩ (g_preS hI) rfl rfl hl.1 rfl (lv_room (Nat.le_of_ble_eq_true rfl)) dX4_addKey_37 ⟨Nat.le_of_ble_eq_true rfl, Nat.le_of_ble_eq_true rfl⟩) (fun f_29 H locs hw_30 hI => ?_)
    have e_31 := hw_30
    have e_31 : f_29 = va_up f_16 q_15 (some (.inr (2, [.ref (N 1 jplan), .int (I 2 jplan), .int 0, .int 0, .int 0, .int 0, .int 0, .int 0, .int 0]))) := e_31
    have hf_32 : f_29 q_15 = some (.inr (2, [.ref (N 1 jplan), .int (I 2 jplan), .int 0, .int 0, .int 0, .int 0, .int 0, .int 0, .int 0])) := by rw [e_31]; exact va_up_self _ _ _
    have hf_33 : f_29 (N 0 0) = some (.inr (5, [.ref (N 0 1), .ref (N 0 2), .ref (N 0 3), .ref (N 0 4), .int (I 0 0), .int (I 1 0)])) := by rw [e_31, va_up_ne _ _ (hn_19)]; exact hf_24
    have hf_34 : f_29 (N 0 3) = some (.inr (0, lf_1)) := by rw [e_31, va_up_ne _ _ (hn_20)]; exact hf_25
    have hf_35 : f_29 (N 0 4) = some (.inr (0, lf_3)) := by rw [e_31, va_up_ne _ _ (hn_21)]; exact hf_26
    have hf_36 : f_29 (N 1 jplan) = some (.inr (3, [.int (nI jplan), .int (I 2 jplan), .int (I 3 jplan), .int (I 4 jplan)])) := by rw [e_31, va_up_ne _ _ (hn_22)]; exact hf_27
    refine g_calli hI (va_runV (As := [.ref q_15]) (rest := []) ⟨hx, hb, hml, hown, hts⟩ (c_addK l D cy de f_29 N I f q_15 jplan (I 2 jplan) 0 0 0 0 0 0 0 hR (g_lt8 (gR_nk hR) c_14) hq_18 hjplan (by rw [e_31, e_17, g_uu]) H.size) (cwV 1 hts gX4_addKey_Jx4a65c_add_9ea2d rfl rfl rfl (by decide +kernel) ⟨Nat.le_of_ble_eq_true rfl, Nat.le_of_ble_eq_true rfl⟩) (g_preV hI hf_34 rfl) rfl rfl hl.1 rfl (lv_room (Nat.le_of_ble_eq_true rfl)) dX4_addKey_40 ⟨Nat.le_of_ble_eq_true rfl, Nat.le_of_ble_eq_true rfl⟩) (fun r_37 f_38 H locs hw_39 hI => ?_)
    obtain ⟨hr_42, ek_40, hR_41⟩ := hw_39
    rw [hr_42]
    have ht_43 : f_38 (N 0 0) = some (.inr (5, [.ref (N 0 1), .ref (N 0 2), .ref (N 0 3), .ref (N 0 4), .int ((iK I (N 0 7) (I 2 jplan) 0 0 0 0 0 0 0) 0 0), .int ((iK I (N 0 7) (I 2 jplan) 0 0 0 0 0 0 0) 1 0)])) := by have k := gR_tg hR_41; exact k
    obtain ⟨lf_44, hlf_45⟩ := gL_lk hR_41.2.2.2.2.1
    obtain ⟨lf_46, hlf_47⟩ := gL_lk hR_41.2.2.2.2.2
    refine lv_pop hx hb dX4_addKey_43 rfl ?_
    refine lv_aload_n hx hb dX4_addKey_44 rfl (lv_at hl 1 rfl) ?_
    refine g_get (ci := 5) (C := RX4) (T := TX4) (N := 6) hx hb hts hinX4 hown hI ht_43 rfl 2 (by decide) hw0 (fun _ h9 => h9) rfl dX4_addKey_45 ?_
    refine g_calli hI (va_runV (As := []) (rest := []) ⟨hx, hb, hml, hown, hts⟩ (c_Lsize l D cy de f_38 ((nKey N ek_40 q_15 jplan) 0 3) ((nKey N ek_40 q_15 jplan) 0 5) ((nKey N ek_40 q_15 jplan) 0 7) ((nKey N ek_40 q_15 jplan) 3) hR_41.2.2.2.2.1 H.size) (cwV 0 hts gX4_addKey_Jx4a65c_size_8abf5 rfl rfl rfl (by decide +kernel) ⟨Nat.le_of_ble_eq_true rfl, Nat.le_of_ble_eq_true rfl⟩) (g_preV hI hlf_45 rfl) rfl rfl hl.1 rfl (lv_room (Nat.le_of_ble_eq_true rfl)) dX4_addKey_48 ⟨Nat.le_of_ble_eq_true rfl, Nat.le_of_ble_eq_true rfl⟩) (fun r_48 f_49 H locs hw_50 hI => ?_)
    obtain ⟨e_51_r, e_51⟩ := hw_50
    rw [e_51_r]
    rw [e_51] at hI
    refine lv_iconst (v := 1) hx hb dX4_addKey_51 (by decide) ?_
    refine lv_isub hx hb dX4_addKey_52 ?_
    exact gx_iret hx hb hr hlocks hI ⟨jplan, hjplan, hkjplan, ⟨c_14, ⟨ek_40, q_15, (nI_pred (N 0 7)), hR_41⟩⟩⟩ (Nat.le_of_ble_eq_true rfl) (Nat.le_of_ble_eq_true rfl) dX4_addKey_53
  · refine gx_throw (px := _) hx hb hl0 hown (by decide) hw5 hw6 (st_68 hI.2.2.2.1) (hat_IS hts (fun w hw => List.mem_cons_of_mem _ (List.mem_append_left _ (List.mem_append_right _ hw))) hI.2.2.2.1) good_IS hI (by rw [hml]; exact hl.1) dX4_addKey_18 dX4_addKey_21 dX4_addKey_22 dX4_addKey_24 dX4_addKey_27 hout (Nat.le_of_ble_eq_true rfl) (Nat.le_of_ble_eq_true rfl) (Nat.le_of_ble_eq_true rfl) (Nat.le_of_ble_eq_true rfl) hlocks ?_ (Nat.le_of_ble_eq_true rfl) (Nat.le_of_ble_eq_true rfl)
    exact Or.inr ⟨jplan, hjplan, hkjplan, ⟨rfl, c_14⟩⟩

set_option maxHeartbeats 4000000 in
set_option maxRecDepth 100000 in
theorem c_X4_call (l : Launch) (hl0 : l.stackTraces = false) (D : va_G) (cy : Nat → ClassId) (de : Nat) (f : gFm) (N : gNm) (I : gMd) (key : Int32) (route : Int32) (size : Int32) (hR : gR cy de N I f) : gXi l yX4_call wsX4_call { frames := 7, cells := 5, slots := 225, locals := 211 } D cy de [.ref (N 0 0), .int key, .int route, .int size] f (fun r9 f9 => ∃ jkey, jkey < N 0 7 ∧ key = nI jkey ∧ ∃ jroute, jroute < 6 ∧ route = nI jroute ∧ (mIn size 1 9 = true) ∧ (nI (N 0 8) < 80) ∧ ((∃ ek_76, ∃ q_47, ((I 6 jroute) ≤ (I 7 jkey)) ∧ ((!decide ((I 9 jkey) + (if 0 < (I 8 jkey) - (I 10 jkey) then (I 8 jkey) - (I 10 jkey) else 0) < ((I 5 jroute) * size))) = true) ∧ r9 = 0 ∧ gR cy de (nCall N ek_76 q_47 jkey) (iC (iK I jkey ((I 7 jkey) - (I 6 jroute)) (I 8 jkey) ((I 9 jkey) - (if ((I 5 jroute) * size) < (I 9 jkey) then ((I 5 jroute) * size) else (I 9 jkey))) ((I 10 jkey) + (((I 5 jroute) * size) - (if ((I 5 jroute) * size) < (I 9 jkey) then ((I 5 jroute) * size) else (I 9 jkey)))) ((I 11 jkey) + ((I 5 jroute) * size)) ((I 12 jkey) + 1) (I 13 jkey) (I 14 jkey)) (N 0 8) ((I 5 jroute) * size) (I 6 jroute) ((I 0 0) + 20) (-1) 0 0) f9) ∨ (((I 6 jroute) ≤ (I 7 jkey)) ∧ ((!decide ((I 9 jkey) + (if 0 < (I 8 jkey) - (I 10 jkey) then (I 8 jkey) - (I 10 jkey) else 0) < ((I 5 jroute) * size))) = false) ∧ r9 = 2 ∧ f9 = f) ∨ ((¬ (I 6 jroute) ≤ (I 7 jkey)) ∧ r9 = 1 ∧ f9 = f))) (fun E9 => (E9 = "java/lang/IndexOutOfBoundsException" ∧ ¬ pI key (N 0 7)) ∨ ∃ jkey, jkey < N 0 7 ∧ key = nI jkey ∧ ((E9 = "java/lang/IllegalArgumentException" ∧ ¬ pI route (6)) ∨ ∃ jroute, jroute < 6 ∧ route = nI jroute ∧ ((E9 = "java/lang/IllegalArgumentException" ∧ ¬ (mIn size 1 9 = true)) ∨ (mIn size 1 9 = true) ∧ (E9 = "java/lang/IllegalStateException" ∧ ¬ (nI (N 0 8) < 80))))) 5 225 := by
  refine fun sz => vx_ofW (cc := cX4_call) (maxL := 7) (ret := (some .int)) (by decide) rfl ?_
  intro p e s m args below meth c s₁ B hml hout hv
  obtain ⟨rfl, hv⟩ := hv
  obtain ⟨rfl, hI⟩ := gP_I hv
  have hx := B.exec
  have hb := B.bytes
  have hr := B.returns
  have hts := atoms_spec (ws := wsX4_call) B.pre
  have hown : s.vm.findClass RX4 = some m.cls := findClass_of_methodNamed B.named
  have hlocks := B.notSynchronized
  have hinX0 : ∀ w ∈ wsX00, w ∈ wsX4_call := by decide +kernel
  have hinX1 : ∀ w ∈ wsX10, w ∈ wsX4_call := by decide +kernel
  have hinX3 : ∀ w ∈ wsX30, w ∈ wsX4_call := by decide +kernel
  have hinX4 : ∀ w ∈ wsX40, w ∈ wsX4_call := by decide +kernel
  have hw0 := hts (.fieldLink RX4 28 "TollGateway" "letThrough" "Ljava/util/ArrayList;") (by decide +kernel)
  have hw1 := hts (.initialized RX1) (by decide +kernel)
  have hw2 := hts (.instanceMethod yX1_canCover) (by decide +kernel)
  have hw3 := hts (.selects RX1 yX1_canCover yX1_canCover) (by decide +kernel)
  have hw4 := hts (.instanceMethod yX1_openHold) (by decide +kernel)
  have hw5 := hts (.selects RX1 yX1_openHold yX1_openHold) (by decide +kernel)
  have hw6 := hts (.classLink RX4 118 RX0) (by decide +kernel)
  have hw7 := hts (.instantiable RX0 7) (by decide +kernel)
  have hw8 := hts (.initialized RX0) (by decide +kernel)
  have hw9 := hts (.fieldLink RX4 120 "TollGateway" "tick" "I") (by decide +kernel)
  have hw10 := hts (.instanceMethod yX0_init) (by decide +kernel)
  have hw11 := hts (.classLink RX4 66 "java/lang/IllegalStateException") (by decide +kernel)
  have hw12 := hts (.initialized "java/lang/IllegalStateException") (by decide +kernel)
  have hl := lv_entry ([.ref (N 0 0), .int key, .int route, .int size]) (n := 7) (Nat.le_of_ble_eq_true rfl)
  rw [lg_entry_eq]
  generalize (lg_sl ([.ref (N 0 0), .int key, .int route, .int size]) ++ List.replicate (7 - (lg_sl ([.ref (N 0 0), .int key, .int route, .int size])).length) Slot.unset).toArray = ls at hl ⊢
  have hl : lv_has ls 7 [(0, .ref (N 0 0)), (1, .int key), (2, .int route), (3, .int size)] := hl
  have htg : f (N 0 0) = some (.inr (5, [.ref (N 0 1), .ref (N 0 2), .ref (N 0 3), .ref (N 0 4), .int (I 0 0), .int (I 1 0)])) := gR_tg hR
  obtain ⟨lf_1, hlf_2⟩ := gL_lk hR.2.2.2.2.1
  obtain ⟨lf_3, hlf_4⟩ := gL_lk hR.2.2.2.2.2
  refine lv_aload_n hx hb dX4_call_0 rfl (lv_at hl 0 rfl) ?_
  refine lv_iload_n hx hb dX4_call_1 rfl (lv_at hl 1 rfl) ?_
  refine gx_callq hI hout hlocks (fun E9 h9 => Or.inl h9) (Nat.le_of_ble_eq_true rfl) (Nat.le_of_ble_eq_true rfl) (vx_runV (As := [.int key]) (rest := []) ⟨hx, hb, hml, hown, hts⟩ (c_X4_keyAt l hl0 D cy de f N I key hR s.heap.size) (cwV 1 hts gX4_call_X4_keyAt rfl rfl rfl (by decide +kernel) ⟨Nat.le_of_ble_eq_true rfl, Nat.le_of_ble_eq_true rfl⟩) (g_preV hI htg rfl) rfl rfl hl.1 rfl (lv_room (Nat.le_of_ble_eq_true rfl)) dX4_call_2 ⟨Nat.le_of_ble_eq_true rfl, Nat.le_of_ble_eq_true rfl⟩) (fun r_5 f_6 H locs hw_7 hI => ?_)
  obtain ⟨jkey, hjkey, hkjkey, e_8_r, e_8⟩ := hw_7
  rw [e_8_r]
  rw [e_8] at hI
  have ho_9 : f (N 3 jkey) = some (.inr (2, [.ref (N 1 (N 5 jkey)), .int (I 7 jkey), .int (I 8 jkey), .int (I 9 jkey), .int (I 10 jkey), .int (I 11 jkey), .int (I 12 jkey), .int (I 13 jkey), .int (I 14 jkey)])) := gR_ke hR hjkey
  refine lv_astore (lv' := [(4, .ref (N 3 jkey)), (0, .ref (N 0 0)), (1, .int key), (2, .int route), (3, .int size)]) hx hb dX4_call_5 hl (by decide) rfl (fun ls hl => ?_)
  refine lv_aload_n hx hb dX4_call_7 rfl (lv_at hl 1 rfl) ?_
  refine lv_iload_n hx hb dX4_call_8 rfl (lv_at hl 3 rfl) ?_
  refine gx_callq hI hout hlocks (fun E9 h9 => Or.inr ⟨jkey, hjkey, hkjkey, Or.inl h9⟩) (Nat.le_of_ble_eq_true rfl) (Nat.le_of_ble_eq_true rfl) (vx_runV (As := [.int route]) (rest := []) ⟨hx, hb, hml, hown, hts⟩ (c_X4_routeAt l hl0 D cy de f N I route hR H.size) (cwV 1 hts gX4_call_X4_routeAt rfl rfl rfl (by decide +kernel) ⟨Nat.le_of_ble_eq_true rfl, Nat.le_of_ble_eq_true rfl⟩) (g_preV hI htg rfl) rfl rfl hl.1 rfl (lv_room (Nat.le_of_ble_eq_true rfl)) dX4_call_9 ⟨Nat.le_of_ble_eq_true rfl, Nat.le_of_ble_eq_true rfl⟩) (fun r_10 f_11 H locs hw_12 hI => ?_)
  obtain ⟨jroute, hjroute, hkjroute, e_13_r, e_13⟩ := hw_12
  rw [e_13_r]
  rw [e_13] at hI
  have ho_14 : f (N 2 jroute) = some (.inr (4, [.int (I 5 jroute), .int (I 6 jroute)])) := gR_ro hR hjroute
  refine lv_astore (lv' := [(5, .ref (N 2 jroute)), (4, .ref (N 3 jkey)), (0, .ref (N 0 0)), (1, .int key), (2, .int route), (3, .int size)]) hx hb dX4_call_12 hl (by decide) rfl (fun ls hl => ?_)
  refine lv_iload_n hx hb dX4_call_14 rfl (lv_at hl 5 rfl) ?_
  refine lv_iconst (v := 1) hx hb dX4_call_15 (by decide) ?_
  refine lv_bipush (v := 9) hx hb dX4_call_16 (by decide) ?_
  refine gx_callv hI hout hlocks (fun E9 h9 => Or.inr ⟨jkey, hjkey, hkjkey, Or.inr ⟨jroute, hjroute, hkjroute, Or.inl h9⟩⟩) (Nat.le_of_ble_eq_true rfl) (Nat.le_of_ble_eq_true rfl) (vx_runS (As := [.int size, .int 1, .int 9]) (rest := []) ⟨hx, hb, hml, hown, hts⟩ (c_X4_refuseOutside l hl0 D cy de f N I size 1 9 H.size) (va_cwS 3 hts gX4_call_X4_refuseOutside rfl rfl rfl (by decide +kernel) ⟨Nat.le_of_ble_eq_true rfl, Nat.le_of_ble_eq_true rfl⟩) (g_preS hI) rfl rfl hl.1 rfl (lv_room (Nat.le_of_ble_eq_true rfl)) dX4_call_18 ⟨Nat.le_of_ble_eq_true rfl, Nat.le_of_ble_eq_true rfl⟩) (fun f_16 H locs hw_17 hI => ?_)
  obtain ⟨hg_19, e_18⟩ := hw_17
  rw [e_18] at hI
  refine lv_aload_n hx hb dX4_call_21 rfl (lv_at hl 2 rfl) ?_
  refine g_get (ci := 5) (C := RX4) (T := TX4) (N := 6) hx hb hts hinX4 hown hI htg rfl 3 (by decide) hw0 (fun _ h9 => h9) rfl dX4_call_22 ?_
  refine g_calli hI (va_runV (As := []) (rest := []) ⟨hx, hb, hml, hown, hts⟩ (c_Lsize l D cy de f (N 0 4) (N 0 6) (N 0 8) (N 4) hR.2.2.2.2.2 H.size) (cwV 0 hts gX4_call_Jx4a65c_size_8abf5 rfl rfl rfl (by decide +kernel) ⟨Nat.le_of_ble_eq_true rfl, Nat.le_of_ble_eq_true rfl⟩) (g_preV hI hlf_4 rfl) rfl rfl hl.1 rfl (lv_room (Nat.le_of_ble_eq_true rfl)) dX4_call_25 ⟨Nat.le_of_ble_eq_true rfl, Nat.le_of_ble_eq_true rfl⟩) (fun r_20 f_21 H locs hw_22 hI => ?_)
  obtain ⟨e_23_r, e_23⟩ := hw_22
  rw [e_23_r]
  rw [e_23] at hI
  refine lv_bipush (v := 80) hx hb dX4_call_28 (by decide) ?_
  refine lv_icmp_lt (tgt := 43) hx hb dX4_call_30 (by decide) (fun c_24 => ?_) (fun c_24 => ?_)
  · refine lv_aload hx hb dX4_call_43 (lv_at hl 0 rfl) ?_
    refine g_getN (ci := 4) (C := RX3) (T := TX3) (N := 2) hx hb hts hinX3 hown hI ho_14 rfl 0 (by decide) (nf_T57 hI.2.2.2.1) (fun _ h9 => h9) rfl dX4_call_45 ?_
    refine lv_iload_n hx hb dX4_call_48 rfl (lv_at hl 5 rfl) ?_
    refine lv_imul hx hb dX4_call_49 ?_
    refine lv_istore (lv' := [(6, .int ((I 5 jroute) * size)), (5, .ref (N 2 jroute)), (4, .ref (N 3 jkey)), (0, .ref (N 0 0)), (1, .int key), (2, .int route), (3, .int size)]) hx hb dX4_call_50 hl (by decide) rfl (fun ls hl => ?_)
    refine lv_aload hx hb dX4_call_52 (lv_at hl 2 rfl) ?_
    refine g_getN (ci := 2) (C := RX1) (T := TX1) (N := 9) hx hb hts hinX1 hown hI ho_9 rfl 1 (by decide) (nf_T108 hI.2.2.2.1) (fun _ h9 => h9) rfl dX4_call_54 ?_
    refine lv_aload hx hb dX4_call_57 (lv_at hl 1 rfl) ?_
    refine g_getN (ci := 4) (C := RX3) (T := TX3) (N := 2) hx hb hts hinX3 hown hI ho_14 rfl 1 (by decide) (nf_T60 hI.2.2.2.1) (fun _ h9 => h9) rfl dX4_call_59 ?_
    refine lv_icmp_ge (tgt := 67) hx hb dX4_call_62 (by decide) (fun c_25 => ?_) (fun c_25 => ?_)
    · have c_25' := Int32.not_lt.mpr c_25
      refine lv_aload hx hb dX4_call_67 (lv_at hl 2 rfl) ?_
      refine lv_iload hx hb dX4_call_69 (lv_at hl 0 rfl) ?_
      refine g_calli hI (va_runVN (As := [.int ((I 5 jroute) * size)]) (rest := []) ⟨hx, hb, hml, hown, hts⟩ (c_X1_canCover l D cy de f (N 3 jkey) ((I 5 jroute) * size) (N 1 (N 5 jkey)) (I 7 jkey) (I 8 jkey) (I 9 jkey) (I 10 jkey) (I 11 jkey) (I 12 jkey) (I 13 jkey) (I 14 jkey) ho_9 H.size) ⟨va_cnB 1 hts gX4_call_X1_canCover_n111 rfl rfl rfl (nm_T111 hI.2.2.2.1) hw1 (by decide +kernel) ⟨Nat.le_of_ble_eq_true rfl, Nat.le_of_ble_eq_true rfl⟩, hw2, hw3⟩ (g_preV hI ho_9 rfl) rfl rfl hl.1 rfl (lv_room (Nat.le_of_ble_eq_true rfl)) dX4_call_71 ⟨Nat.le_of_ble_eq_true rfl, Nat.le_of_ble_eq_true rfl⟩) (fun r_26 f_27 H locs hw_28 hI => ?_)
      obtain ⟨rfl, e_29⟩ := hw_28
      rw [e_29] at hI
      refine g_b2i_ne (tgt := 79) hx hb dX4_call_74 (by decide) (fun c_30 => ?_) (fun c_30 => ?_)
      · refine lv_aload hx hb dX4_call_79 (lv_at hl 2 rfl) ?_
        refine lv_dup hx hb dX4_call_81 rfl ?_
        refine g_getN (ci := 2) (C := RX1) (T := TX1) (N := 9) hx hb hts hinX1 hown hI ho_9 rfl 1 (by decide) (nf_T108 hI.2.2.2.1) (fun _ h9 => h9) rfl dX4_call_82 ?_
        refine lv_aload hx hb dX4_call_85 (lv_at hl 1 rfl) ?_
        refine g_getN (ci := 4) (C := RX3) (T := TX3) (N := 2) hx hb hts hinX3 hown hI ho_14 rfl 1 (by decide) (nf_T60 hI.2.2.2.1) (fun _ h9 => h9) rfl dX4_call_87 ?_
        refine lv_isub hx hb dX4_call_90 ?_
        refine g_putN (ci := 2) (v := .int ((I 7 jkey) - (I 6 jroute))) (ty := .int) (C := RX1) (T := TX1) (N := 9) hx hb hts hinX1 tyX1 tyX1_ok nmX1 hown hI ho_9 rfl 1 (by decide) (nf_T108 hI.2.2.2.1) (fun _ h9 => h9) rfl (by decide +kernel) rfl rfl (Nat.le_of_ble_eq_true rfl) dX4_call_91 (fun f_31 H locs e_32 hI => ?_)
        have e_32 : f_31 = va_up f (N 3 jkey) (some (.inr (2, [.ref (N 1 (N 5 jkey)), .int ((I 7 jkey) - (I 6 jroute)), .int (I 8 jkey), .int (I 9 jkey), .int (I 10 jkey), .int (I 11 jkey), .int (I 12 jkey), .int (I 13 jkey), .int (I 14 jkey)]))) := e_32
        have hf_33 : f_31 (N 3 jkey) = some (.inr (2, [.ref (N 1 (N 5 jkey)), .int ((I 7 jkey) - (I 6 jroute)), .int (I 8 jkey), .int (I 9 jkey), .int (I 10 jkey), .int (I 11 jkey), .int (I 12 jkey), .int (I 13 jkey), .int (I 14 jkey)])) := by rw [e_32]; exact va_up_self _ _ _
        have hf_34 : f_31 (N 0 0) = some (.inr (5, [.ref (N 0 1), .ref (N 0 2), .ref (N 0 3), .ref (N 0 4), .int (I 0 0), .int (I 1 0)])) := by rw [e_32, va_up_ne _ _ (g_ne ho_9 htg (by decide))]; exact htg
        have hf_35 : f_31 (N 0 3) = some (.inr (0, lf_1)) := by rw [e_32, va_up_ne _ _ (g_ne ho_9 hlf_2 (by decide))]; exact hlf_2
        have hf_36 : f_31 (N 0 4) = some (.inr (0, lf_3)) := by rw [e_32, va_up_ne _ _ (g_ne ho_9 hlf_4 (by decide))]; exact hlf_4
        have hf_37 : f_31 (N 2 jroute) = some (.inr (4, [.int (I 5 jroute), .int (I 6 jroute)])) := by rw [e_32, va_up_ne _ _ (g_ne ho_9 ho_14 (by decide))]; exact ho_14
        refine lv_aload hx hb dX4_call_94 (lv_at hl 2 rfl) ?_
        refine lv_iload hx hb dX4_call_96 (lv_at hl 0 rfl) ?_
        refine g_callv hI (va_runVN (As := [.int ((I 5 jroute) * size)]) (rest := []) ⟨hx, hb, hml, hown, hts⟩ (c_X1_openHold l D cy de f_31 (N 3 jkey) ((I 5 jroute) * size) (N 1 (N 5 jkey)) ((I 7 jkey) - (I 6 jroute)) (I 8 jkey) (I 9 jkey) (I 10 jkey) (I 11 jkey) (I 12 jkey) (I 13 jkey) (I 14 jkey) hf_33 H.size) ⟨va_cnB 1 hts gX4_call_X1_openHold_n115 rfl rfl rfl (nm_T115 hI.2.2.2.1) hw1 (by decide +kernel) ⟨Nat.le_of_ble_eq_true rfl, Nat.le_of_ble_eq_true rfl⟩, hw4, hw5⟩ (g_preV hI hf_33 rfl) rfl rfl hl.1 rfl (lv_room (Nat.le_of_ble_eq_true rfl)) dX4_call_98 ⟨Nat.le_of_ble_eq_true rfl, Nat.le_of_ble_eq_true rfl⟩) (fun f_39 H locs hw_40 hI => ?_)
        have e_41 := hw_40
        have e_41 : f_39 = va_up f_31 (N 3 jkey) (some (.inr (2, [.ref (N 1 (N 5 jkey)), .int ((I 7 jkey) - (I 6 jroute)), .int (I 8 jkey), .int ((I 9 jkey) - (if ((I 5 jroute) * size) < (I 9 jkey) then ((I 5 jroute) * size) else (I 9 jkey))), .int ((I 10 jkey) + (((I 5 jroute) * size) - (if ((I 5 jroute) * size) < (I 9 jkey) then ((I 5 jroute) * size) else (I 9 jkey)))), .int ((I 11 jkey) + ((I 5 jroute) * size)), .int ((I 12 jkey) + 1), .int (I 13 jkey), .int (I 14 jkey)]))) := e_41
        have hf_42 : f_39 (N 3 jkey) = some (.inr (2, [.ref (N 1 (N 5 jkey)), .int ((I 7 jkey) - (I 6 jroute)), .int (I 8 jkey), .int ((I 9 jkey) - (if ((I 5 jroute) * size) < (I 9 jkey) then ((I 5 jroute) * size) else (I 9 jkey))), .int ((I 10 jkey) + (((I 5 jroute) * size) - (if ((I 5 jroute) * size) < (I 9 jkey) then ((I 5 jroute) * size) else (I 9 jkey)))), .int ((I 11 jkey) + ((I 5 jroute) * size)), .int ((I 12 jkey) + 1), .int (I 13 jkey), .int (I 14 jkey)])) := by rw [e_41]; exact va_up_self _ _ _
        have hf_43 : f_39 (N 0 0) = some (.inr (5, [.ref (N 0 1), .ref (N 0 2), .ref (N 0 3), .ref (N 0 4), .int (I 0 0), .int (I 1 0)])) := by rw [e_41, va_up_ne _ _ (g_ne hf_33 hf_34 (by decide))]; exact hf_34
        have hf_44 : f_39 (N 0 3) = some (.inr (0, lf_1)) := by rw [e_41, va_up_ne _ _ (g_ne hf_33 hf_35 (by decide))]; exact hf_35
        have hf_45 : f_39 (N 0 4) = some (.inr (0, lf_3)) := by rw [e_41, va_up_ne _ _ (g_ne hf_33 hf_36 (by decide))]; exact hf_36
        have hf_46 : f_39 (N 2 jroute) = some (.inr (4, [.int (I 5 jroute), .int (I 6 jroute)])) := by rw [e_41, va_up_ne _ _ (g_ne hf_33 hf_37 (by decide))]; exact hf_37
        refine lv_aload_n hx hb dX4_call_101 rfl (lv_at hl 3 rfl) ?_
        refine g_get (ci := 5) (C := RX4) (T := TX4) (N := 6) hx hb hts hinX4 hown hI hf_43 rfl 3 (by decide) hw0 (fun _ h9 => h9) rfl dX4_call_102 ?_
        have hR_51 : gR cy de N (iK I jkey ((I 7 jkey) - (I 6 jroute)) (I 8 jkey) ((I 9 jkey) - (if ((I 5 jroute) * size) < (I 9 jkey) then ((I 5 jroute) * size) else (I 9 jkey))) ((I 10 jkey) + (((I 5 jroute) * size) - (if ((I 5 jroute) * size) < (I 9 jkey) then ((I 5 jroute) * size) else (I 9 jkey)))) ((I 11 jkey) + ((I 5 jroute) * size)) ((I 12 jkey) + 1) (I 13 jkey) (I 14 jkey)) f_39 := (by rw [e_41, e_32]; first | exact gR_setK hR hjkey _ _ _ _ _ _ _ _ | (simp only [g_uu]; exact gR_setK hR hjkey _ _ _ _ _ _ _ _))
        refine g_new (ci := 1) (fs := [.null, .int 0, .int 0, .int 0, .int 0, .int 0, .int 0]) hx hb hts hinX0 tyX0 tyX0_ok hown hw6 hw7 hw8 hI rfl (by decide +kernel) (Nat.le_of_ble_eq_true rfl) (Nat.le_of_ble_eq_true rfl) dX4_call_105 (fun q_47 f_48 H hq_50 e_49 hI => ?_)
        have hn_52 : N 0 0 ≠ q_47 := g_nn hf_43 hq_50
        have hn_53 : N 0 3 ≠ q_47 := g_nn hf_44 hq_50
        have hn_54 : N 0 4 ≠ q_47 := g_nn hf_45 hq_50
        have hn_55 : N 3 jkey ≠ q_47 := g_nn hf_42 hq_50
        have hn_56 : N 2 jroute ≠ q_47 := g_nn hf_46 hq_50
        have e_49 : f_48 = va_up f_39 q_47 (some (.inr (1, [.null, .int 0, .int 0, .int 0, .int 0, .int 0, .int 0]))) := e_49
        have hf_57 : f_48 q_47 = some (.inr (1, [.null, .int 0, .int 0, .int 0, .int 0, .int 0, .int 0])) := by rw [e_49]; exact va_up_self _ _ _
        have hf_58 : f_48 (N 0 0) = some (.inr (5, [.ref (N 0 1), .ref (N 0 2), .ref (N 0 3), .ref (N 0 4), .int (I 0 0), .int (I 1 0)])) := by rw [e_49, va_up_ne _ _ (hn_52)]; exact hf_43
        have hf_59 : f_48 (N 0 3) = some (.inr (0, lf_1)) := by rw [e_49, va_up_ne _ _ (hn_53)]; exact hf_44
        have hf_60 : f_48 (N 0 4) = some (.inr (0, lf_3)) := by rw [e_49, va_up_ne _ _ (hn_54)]; exact hf_45
        have hf_61 : f_48 (N 3 jkey) = some (.inr (2, [.ref (N 1 (N 5 jkey)), .int ((I 7 jkey) - (I 6 jroute)), .int (I 8 jkey), .int ((I 9 jkey) - (if ((I 5 jroute) * size) < (I 9 jkey) then ((I 5 jroute) * size) else (I 9 jkey))), .int ((I 10 jkey) + (((I 5 jroute) * size) - (if ((I 5 jroute) * size) < (I 9 jkey) then ((I 5 jroute) * size) else (I 9 jkey)))), .int ((I 11 jkey) + ((I 5 jroute) * size)), .int ((I 12 jkey) + 1), .int (I 13 jkey), .int (I 14 jkey)])) := by rw [e_49, va_up_ne _ _ (hn_55)]; exact hf_42
        have hf_62 : f_48 (N 2 jroute) = some (.inr (4, [.int (I 5 jroute), .int (I 6 jroute)])) := by rw [e_49, va_up_ne _ _ (hn_56)]; exact hf_46
        refine lv_dup hx hb dX4_call_108 rfl ?_
        refine lv_aload hx hb dX4_call_109 (lv_at hl 2 rfl) ?_
        refine lv_iload hx hb dX4_call_111 (lv_at hl 0 rfl) ?_
        refine lv_aload hx hb dX4_call_113 (lv_at hl 1 rfl) ?_
        refine g_getN (ci := 4) (C := RX3) (T := TX3) (N := 2) hx hb hts hinX3 hown hI hf_62 rfl 1 (by decide) (nf_T60 hI.2.2.2.1) (fun _ h9 => h9) rfl dX4_call_115 ?_
        refine lv_aload_n hx hb dX4_call_118 rfl (lv_at hl 3 rfl) ?_
        refine g_get (ci := 5) (C := RX4) (T := TX4) (N := 6) hx hb hts hinX4 hown hI hf_58 rfl 4 (by decide) hw9 (fun _ h9 => h9) rfl dX4_call_119 ?_
        refine lv_bipush (v := 20) hx hb dX4_call_122 (by decide) ?_
        refine lv_iadd hx hb dX4_call_124 ?_
        refine g_callv hI (va_runIN (As := [.ref (N 3 jkey), .int ((I 5 jroute) * size), .int (I 6 jroute), .int ((I 0 0) + 20)]) (rest := [.ref q_47, .ref (N 0 4)]) ⟨hx, hb, hml, hown, hts⟩ (c_X0_init l D cy de f_48 q_47 (N 3 jkey) ((I 5 jroute) * size) (I 6 jroute) ((I 0 0) + 20) 0 0 0 0 0 0 hf_57 H.size) ⟨va_cnB 4 hts gX4_call_X0_init_n123 rfl rfl rfl (nm_T123 hI.2.2.2.1) hw8 (by decide +kernel) ⟨Nat.le_of_ble_eq_true rfl, Nat.le_of_ble_eq_true rfl⟩, rfl, hw10⟩ (g_preS hI) rfl rfl hl.1 rfl (lv_room (Nat.le_of_ble_eq_true rfl)) dX4_call_125 ⟨Nat.le_of_ble_eq_true rfl, Nat.le_of_ble_eq_true rfl⟩) (fun f_64 H locs hw_65 hI => ?_)
        have e_66 := hw_65
        have e_66 : f_64 = va_up f_48 q_47 (some (.inr (1, [.ref (N 3 jkey), .int ((I 5 jroute) * size), .int (I 6 jroute), .int ((I 0 0) + 20), .int (-1), .int 0, .int 0]))) := e_66
        have hf_67 : f_64 q_47 = some (.inr (1, [.ref (N 3 jkey), .int ((I 5 jroute) * size), .int (I 6 jroute), .int ((I 0 0) + 20), .int (-1), .int 0, .int 0])) := by rw [e_66]; exact va_up_self _ _ _
        have hf_68 : f_64 (N 0 0) = some (.inr (5, [.ref (N 0 1), .ref (N 0 2), .ref (N 0 3), .ref (N 0 4), .int (I 0 0), .int (I 1 0)])) := by rw [e_66, va_up_ne _ _ (hn_52)]; exact hf_58
        have hf_69 : f_64 (N 0 3) = some (.inr (0, lf_1)) := by rw [e_66, va_up_ne _ _ (hn_53)]; exact hf_59
        have hf_70 : f_64 (N 0 4) = some (.inr (0, lf_3)) := by rw [e_66, va_up_ne _ _ (hn_54)]; exact hf_60
        have hf_71 : f_64 (N 3 jkey) = some (.inr (2, [.ref (N 1 (N 5 jkey)), .int ((I 7 jkey) - (I 6 jroute)), .int (I 8 jkey), .int ((I 9 jkey) - (if ((I 5 jroute) * size) < (I 9 jkey) then ((I 5 jroute) * size) else (I 9 jkey))), .int ((I 10 jkey) + (((I 5 jroute) * size) - (if ((I 5 jroute) * size) < (I 9 jkey) then ((I 5 jroute) * size) else (I 9 jkey)))), .int ((I 11 jkey) + ((I 5 jroute) * size)), .int ((I 12 jkey) + 1), .int (I 13 jkey), .int (I 14 jkey)])) := by rw [e_66, va_up_ne _ _ (hn_55)]; exact hf_61
        have hf_72 : f_64 (N 2 jroute) = some (.inr (4, [.int (I 5 jroute), .int (I 6 jroute)])) := by rw [e_66, va_up_ne _ _ (hn_56)]; exact hf_62
        refine g_calli hI (va_runV (As := [.ref q_47]) (rest := []) ⟨hx, hb, hml, hown, hts⟩ (c_addC l D cy de f_64 N (iK I jkey ((I 7 jkey) - (I 6 jroute)) (I 8 jkey) ((I 9 jkey) - (if ((I 5 jroute) * size) < (I 9 jkey) then ((I 5 jroute) * size) else (I 9 jkey))) ((I 10 jkey) + (((I 5 jroute) * size) - (if ((I 5 jroute) * size) < (I 9 jkey) then ((I 5 jroute) * size) else (I 9 jkey)))) ((I 11 jkey) + ((I 5 jroute) * size)) ((I 12 jkey) + 1) (I 13 jkey) (I 14 jkey)) f_39 q_47 jkey ((I 5 jroute) * size) (I 6 jroute) ((I 0 0) + 20) (-1) 0 0 hR_51 (g_lt80 (gR_nc hR_51) c_24) hq_50 hjkey (by rw [e_66, e_49, g_uu]) H.size) (cwV 1 hts gX4_call_Jx4a65c_add_9ea2d rfl rfl rfl (by decide +kernel) ⟨Nat.le_of_ble_eq_true rfl, Nat.le_of_ble_eq_true rfl⟩) (g_preV hI hf_70 rfl) rfl rfl hl.1 rfl (lv_room (Nat.le_of_ble_eq_true rfl)) dX4_call_128 ⟨Nat.le_of_ble_eq_true rfl, Nat.le_of_ble_eq_true rfl⟩) (fun r_73 f_74 H locs hw_75 hI => ?_)
        obtain ⟨hr_78, ek_76, hR_77⟩ := hw_75
        rw [hr_78]
        have ht_79 : f_74 (N 0 0) = some (.inr (5, [.ref (N 0 1), .ref (N 0 2), .ref (N 0 3), .ref (N 0 4), .int ((iC (iK I jkey ((I 7 jkey) - (I 6 jroute)) (I 8 jkey) ((I 9 jkey) - (if ((I 5 jroute) * size) < (I 9 jkey) then ((I 5 jroute) * size) else (I 9 jkey))) ((I 10 jkey) + (((I 5 jroute) * size) - (if ((I 5 jroute) * size) < (I 9 jkey) then ((I 5 jroute) * size) else (I 9 jkey)))) ((I 11 jkey) + ((I 5 jroute) * size)) ((I 12 jkey) + 1) (I 13 jkey) (I 14 jkey)) (N 0 8) ((I 5 jroute) * size) (I 6 jroute) ((I 0 0) + 20) (-1) 0 0) 0 0), .int ((iC (iK I jkey ((I 7 jkey) - (I 6 jroute)) (I 8 jkey) ((I 9 jkey) - (if ((I 5 jroute) * size) < (I 9 jkey) then ((I 5 jroute) * size) else (I 9 jkey))) ((I 10 jkey) + (((I 5 jroute) * size) - (if ((I 5 jroute) * size) < (I 9 jkey) then ((I 5 jroute) * size) else (I 9 jkey)))) ((I 11 jkey) + ((I 5 jroute) * size)) ((I 12 jkey) + 1) (I 13 jkey) (I 14 jkey)) (N 0 8) ((I 5 jroute) * size) (I 6 jroute) ((I 0 0) + 20) (-1) 0 0) 1 0)])) := by have k := gR_tg hR_77; exact k
        obtain ⟨lf_80, hlf_81⟩ := gL_lk hR_77.2.2.2.2.1
        obtain ⟨lf_82, hlf_83⟩ := gL_lk hR_77.2.2.2.2.2
        refine lv_pop hx hb dX4_call_131 rfl ?_
        refine lv_iconst (v := 0) hx hb dX4_call_132 (by decide) ?_
        exact gx_iret hx hb hr hlocks hI ⟨jkey, hjkey, hkjkey, ⟨jroute, hjroute, hkjroute, ⟨hg_19, ⟨c_24, (Or.inl (⟨ek_76, q_47, c_25, c_30, rfl, hR_77⟩))⟩⟩⟩⟩ (Nat.le_of_ble_eq_true rfl) (Nat.le_of_ble_eq_true rfl) dX4_call_133
      · refine lv_iconst (v := 2) hx hb dX4_call_77 (by decide) ?_
        exact gx_iret hx hb hr hlocks hI ⟨jkey, hjkey, hkjkey, ⟨jroute, hjroute, hkjroute, ⟨hg_19, ⟨c_24, (Or.inr (Or.inl (⟨c_25, c_30, rfl, rfl⟩)))⟩⟩⟩⟩ (Nat.le_of_ble_eq_true rfl) (Nat.le_of_ble_eq_true rfl) dX4_call_78
    · have c_25' := Int32.not_le.mp c_25
      refine lv_iconst (v := 1) hx hb dX4_call_65 (by decide) ?_
      exact gx_iret hx hb hr hlocks hI ⟨jkey, hjkey, hkjkey, ⟨jroute, hjroute, hkjroute, ⟨hg_19, ⟨c_24, (Or.inr (Or.inr (⟨c_25, rfl, rfl⟩)))⟩⟩⟩⟩ (Nat.le_of_ble_eq_true rfl) (Nat.le_of_ble_eq_true rfl) dX4_call_66
  · refine gx_throw (px := _) hx hb hl0 hown (by decide) hw11 hw12 (st_106 hI.2.2.2.1) (hat_IS hts (fun w hw => List.mem_cons_of_mem _ (List.mem_append_left _ (List.mem_append_left _ (List.mem_append_right _ hw)))) hI.2.2.2.1) good_IS hI (by rw [hml]; exact hl.1) dX4_call_33 dX4_call_36 dX4_call_37 dX4_call_39 dX4_call_42 hout (Nat.le_of_ble_eq_true rfl) (Nat.le_of_ble_eq_true rfl) (Nat.le_of_ble_eq_true rfl) (Nat.le_of_ble_eq_true rfl) hlocks ?_ (Nat.le_of_ble_eq_true rfl) (Nat.le_of_ble_eq_true rfl)
    exact Or.inr ⟨jkey, hjkey, hkjkey, Or.inr ⟨jroute, hjroute, hkjroute, Or.inr ⟨hg_19, ⟨rfl, c_24⟩⟩⟩⟩
