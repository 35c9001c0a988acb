set_option maxHeartbeats 4000000 in
set_option maxRecDepth 100000 in
theorem c_X4_setPlan (l : Launch) (hl0 : l.stackTraces = false) (D : va_G) (cy : Nat → ClassId) (de : Nat) (f : gFm) (N : gNm) (I : gMd) (plan : Int32) (size : Int32) (refill : Int32) (slow : Int32) (hR : gR cy de N I f) : gXv l yX4_setPlan wsX4_setPlan { frames := 7, cells := 4, slots := 24, locals := 104 } D cy de [.ref (N 0 0), .int plan, .int size, .int refill, .int slow] f (fun f9 => ∃ jplan, jplan < 4 ∧ plan = nI jplan ∧ (mIn size 1 100 = true) ∧ (mIn refill 0 100 = true) ∧ (mIn slow 0 refill = true) ∧ (gR cy de N (iP I jplan size refill slow) f9)) (fun E9 => (E9 = "java/lang/IllegalArgumentException" ∧ ¬ pI plan (4)) ∨ ∃ jplan, jplan < 4 ∧ plan = nI jplan ∧ ((E9 = "java/lang/IllegalArgumentException" ∧ ¬ (mIn size 1 100 = true)) ∨ (mIn size 1 100 = true) ∧ ((E9 = "java/lang/IllegalArgumentException" ∧ ¬ (mIn refill 0 100 = true)) ∨ (mIn refill 0 100 = true) ∧ (E9 = "java/lang/IllegalArgumentException" ∧ ¬ (mIn slow 0 refill = true))))) 4 24 := by
  refine fun sz => vx_ofW (cc := cX4_setPlan) (maxL := 6) (ret := none) (by decide) rfl ?_
  intro p e s m args below meth c s₁ B hml hout hv
  obtain ⟨rfl, hv⟩ := hv
  obtain ⟨rfl, hI⟩ := gP_I hv
  have hx := B.exec
  have hb := B.bytes
  have hr := B.returns
  have hts := atoms_spec (ws := wsX4_setPlan) B.pre
  have hown : s.vm.findClass RX4 = some m.cls := findClass_of_methodNamed B.named
  have hlocks := B.notSynchronized
  have hinX2 : ∀ w ∈ wsX20, w ∈ wsX4_setPlan := by decide +kernel
  have hl := lv_entry ([.ref (N 0 0), .int plan, .int size, .int refill, .int slow]) (n := 6) (Nat.le_of_ble_eq_true rfl)
  rw [lg_entry_eq]
  generalize (lg_sl ([.ref (N 0 0), .int plan, .int size, .int refill, .int slow]) ++ List.replicate (6 - (lg_sl ([.ref (N 0 0), .int plan, .int size, .int refill, .int slow])).length) Slot.unset).toArray = ls at hl ⊢
  have hl : lv_has ls 6 [(0, .ref (N 0 0)), (1, .int plan), (2, .int size), (3, .int refill), (4, .int slow)] := hl
  have htg : f (N 0 0) = some (.inr (5, [.ref (N 0 1), .ref (N 0 2), .ref (N 0 3), .ref (N 0 4), .int (I 0 0), .int (I 1 0)])) := gR_tg hR
  refine lv_aload_n hx hb dX4_setPlan_0 rfl (lv_at hl 0 rfl) ?_
  refine lv_iload_n hx hb dX4_setPlan_1 rfl (lv_at hl 1 rfl) ?_
  refine gx_callq hI hout hlocks (fun E9 h9 => Or.inl h9) (Nat.le_of_ble_eq_true rfl) (Nat.le_of_ble_eq_true rfl) (vx_runV (As := [.int plan]) (rest := []) ⟨hx, hb, hml, hown, hts⟩ (c_X4_planAt l hl0 D cy de f N I plan hR s.heap.size) (cwV 1 hts gX4_setPlan_X4_planAt rfl rfl rfl (by decide +kernel) ⟨Nat.le_of_ble_eq_true rfl, Nat.le_of_ble_eq_true rfl⟩) (g_preV hI htg rfl) rfl rfl hl.1 rfl (lv_room (Nat.le_of_ble_eq_true rfl)) dX4_setPlan_2 ⟨Nat.le_of_ble_eq_true rfl, Nat.le_of_ble_eq_true rfl⟩) (fun r_1 f_2 H locs hw_3 hI => ?_)
  obtain ⟨jplan, hjplan, hkjplan, e_4_r, e_4⟩ := hw_3
  rw [e_4_r]
  rw [e_4] at hI
  have ho_5 : f (N 1 jplan) = some (.inr (3, [.int (nI jplan), .int (I 2 jplan), .int (I 3 jplan), .int (I 4 jplan)])) := gR_pl hR hjplan
  refine lv_astore (lv' := [(5, .ref (N 1 jplan)), (0, .ref (N 0 0)), (1, .int plan), (2, .int size), (3, .int refill), (4, .int slow)]) hx hb dX4_setPlan_5 hl (by decide) rfl (fun ls hl => ?_)
  refine lv_iload_n hx hb dX4_setPlan_7 rfl (lv_at hl 3 rfl) ?_
  refine lv_iconst (v := 1) hx hb dX4_setPlan_8 (by decide) ?_
  refine lv_bipush (v := 100) hx hb dX4_setPlan_9 (by decide) ?_
  refine gx_callv hI hout hlocks (fun E9 h9 => Or.inr ⟨jplan, hjplan, hkjplan, Or.inl h9⟩) (Nat.le_of_ble_eq_true rfl) (Nat.le_of_ble_eq_true rfl) (vx_runS (As := [.int size, .int 1, .int 100]) (rest := []) ⟨hx, hb, hml, hown, hts⟩ (c_X4_refuseOutside l hl0 D cy de f N I size 1 100 H.size) (va_cwS 3 hts gX4_setPlan_X4_refuseOutside rfl rfl rfl (by decide +kernel) ⟨Nat.le_of_ble_eq_true rfl, Nat.le_of_ble_eq_true rfl⟩) (g_preS hI) rfl rfl hl.1 rfl (lv_room (Nat.le_of_ble_eq_true rfl)) dX4_setPlan_11 ⟨Nat.le_of_ble_eq_true rfl, Nat.le_of_ble_eq_true rfl⟩) (fun f_7 H locs hw_8 hI => ?_)
  obtain ⟨hg_10, e_9⟩ := hw_8
  rw [e_9] at hI
  refine lv_iload_n hx hb dX4_setPlan_14 rfl (lv_at hl 4 rfl) ?_
  refine lv_iconst (v := 0) hx hb dX4_setPlan_15 (by decide) ?_
  refine lv_bipush (v := 100) hx hb dX4_setPlan_16 (by decide) ?_
  refine gx_callv hI hout hlocks (fun E9 h9 => Or.inr ⟨jplan, hjplan, hkjplan, Or.inr ⟨hg_10, Or.inl h9⟩⟩) (Nat.le_of_ble_eq_true rfl) (Nat.le_of_ble_eq_true rfl) (vx_runS (As := [.int refill, .int 0, .int 100]) (rest := []) ⟨hx, hb, hml, hown, hts⟩ (c_X4_refuseOutside l hl0 D cy de f N I refill 0 100 H.size) (va_cwS 3 hts gX4_setPlan_X4_refuseOutside rfl rfl rfl (by decide +kernel) ⟨Nat.le_of_ble_eq_true rfl, Nat.le_of_ble_eq_true rfl⟩) (g_preS hI) rfl rfl hl.1 rfl (lv_room (Nat.le_of_ble_eq_true rfl)) dX4_setPlan_18 ⟨Nat.le_of_ble_eq_true rfl, Nat.le_of_ble_eq_true rfl⟩) (fun f_12 H locs hw_13 hI => ?_)
  obtain ⟨hg_15, e_14⟩ := hw_13
  rw [e_14] at hI
  refine lv_iload hx hb dX4_setPlan_21 (lv_at hl 5 rfl) ?_
  refine lv_iconst (v := 0) hx hb dX4_setPlan_23 (by decide) ?_
  refine lv_iload_n hx hb dX4_setPlan_24 rfl (lv_at hl 4 rfl) ?_
  refine gx_callv hI hout hlocks (fun E9 h9 => Or.inr ⟨jplan, hjplan, hkjplan, Or.inr ⟨hg_10, Or.inr ⟨hg_15, h9⟩⟩⟩) (Nat.le_of_ble_eq_true rfl) (Nat.le_of_ble_eq_true rfl) (vx_runS (As := [.int slow, .int 0, .int refill]) (rest := []) ⟨hx, hb, hml, hown, hts⟩ (c_X4_refuseOutside l hl0 D cy de f N I slow 0 refill H.size) (va_cwS 3 hts gX4_setPlan_X4_refuseOutside rfl rfl rfl (by decide +kernel) ⟨Nat.le_of_ble_eq_true rfl, Nat.le_of_ble_eq_true rfl⟩) (g_preS hI) rfl rfl hl.1 rfl (lv_room (Nat.le_of_ble_eq_true rfl)) dX4_setPlan_25 ⟨Nat.le_of_ble_eq_true rfl, Nat.le_of_ble_eq_true rfl⟩) (fun f_17 H locs hw_18 hI => ?_)
  obtain ⟨hg_20, e_19⟩ := hw_18
  rw [e_19] at hI
  refine lv_aload hx hb dX4_setPlan_28 (lv_at hl 0 rfl) ?_
  refine lv_iload_n hx hb dX4_setPlan_30 rfl (lv_at hl 3 rfl) ?_
  refine g_putN (ci := 3) (v := .int size) (ty := .int) (C := RX2) (T := TX2) (N := 4) hx hb hts hinX2 tyX2 tyX2_ok nmX2 hown hI ho_5 rfl 1 (by decide) (nf_T43 hI.2.2.2.1) (fun _ h9 => h9) rfl (by decide +kernel) rfl rfl (Nat.le_of_ble_eq_true rfl) dX4_setPlan_31 (fun f_21 H locs e_22 hI => ?_)
  have e_22 : f_21 = va_up f (N 1 jplan) (some (.inr (3, [.int (nI jplan), .int size, .int (I 3 jplan), .int (I 4 jplan)]))) := e_22
  have hf_23 : f_21 (N 1 jplan) = some (.inr (3, [.int (nI jplan), .int size, .int (I 3 jplan), .int (I 4 jplan)])) := by rw [e_22]; exact va_up_self _ _ _
  have hf_24 : f_21 (N 0 0) = some (.inr (5, [.ref (N 0 1), .ref (N 0 2), .ref (N 0 3), .ref (N 0 4), .int (I 0 0), .int (I 1 0)])) := by rw [e_22, va_up_ne _ _ (g_ne ho_5 htg (by decide))]; exact htg
  refine lv_aload hx hb dX4_setPlan_34 (lv_at hl 0 rfl) ?_
  refine lv_iload_n hx hb dX4_setPlan_36 rfl (lv_at hl 4 rfl) ?_
  refine g_putN (ci := 3) (v := .int refill) (ty := .int) (C := RX2) (T := TX2) (N := 4) hx hb hts hinX2 tyX2 tyX2_ok nmX2 hown hI hf_23 rfl 2 (by decide) (nf_T47 hI.2.2.2.1) (fun _ h9 => h9) rfl (by decide +kernel) rfl rfl (Nat.le_of_ble_eq_true rfl) dX4_setPlan_37 (fun f_25 H locs e_26 hI => ?_)
  have e_26 : f_25 = va_up f_21 (N 1 jplan) (some (.inr (3, [.int (nI jplan), .int size, .int refill, .int (I 4 jplan)]))) := e_26
  have hf_27 : f_25 (N 1 jplan) = some (.inr (3, [.int (nI jplan), .int size, .int refill, .int (I 4 jplan)])) := by rw [e_26]; exact va_up_self _ _ _
  have hf_28 : f_25 (N 0 0) = some (.inr (5, [.ref (N 0 1), .ref (N 0 2), .ref (N 0 3), .ref (N 0 4), .int (I 0 0), .int (I 1 0)])) := by rw [e_26, va_up_ne _ _ (g_ne hf_23 hf_24 (by decide))]; exact hf_24
  refine lv_aload hx hb dX4_setPlan_40 (lv_at hl 0 rfl) ?_
  refine lv_iload hx hb dX4_setPlan_42 (lv_at hl 5 rfl) ?_
  refine g_putN (ci := 3) (v := .int slow) (ty := .int) (C := RX2) (T := TX2) (N := 4) hx hb hts hinX2 tyX2 tyX2_ok nmX2 hown hI hf_27 rfl 3 (by decide) (nf_T50 hI.2.2.2.1) (fun _ h9 => h9) rfl (by decide +kernel) rfl rfl (Nat.le_of_ble_eq_true rfl) dX4_setPlan_44 (fun f_29 H locs e_30 hI => ?_)
  have e_30 : f_29 = va_up f_25 (N 1 jplan) (some (.inr (3, [.int (nI jplan), .int size, .int refill, .int slow]))) := e_30
  have hf_31 : f_29 (N 1 jplan) = some (.inr (3, [.int (nI jplan), .int size, .int refill, .int slow])) := by rw [e_30]; exact va_up_self _ _ _
  have hf_32 : f_29 (N 0 0) = some (.inr (5, [.ref (N 0 1), .ref (N 0 2), .ref (N 0 3), .ref (N 0 4), .int (I 0 0), .int (I 1 0)])) := by rw [e_30, va_up_ne _ _ (g_ne hf_27 hf_28 (by decide))]; exact hf_28
  exact gx_vret hx hb hr hlocks hI ⟨jplan, hjplan, hkjplan, ⟨hg_10, ⟨hg_15, ⟨hg_20, (by rw [e_30, e_26, e_22]; first | exact gR_setP hR hjplan _ _ _ | (simp only [g_uu]; exact gR_setP hR hjplan _ _ _))⟩⟩⟩⟩ (Nat.le_of_ble_eq_true rfl) (Nat.le_of_ble_eq_true rfl) dX4_setPlan_47

set_option maxHeartbeats 4000000 in
set_option maxRecDepth 100000 in
theorem c_X4_setRoute (l : Launch) (hl0 : l.stackTraces = false) (D : va_G) (cy : Nat → ClassId) (de : Nat) (f : gFm) (N : gNm) (I : gMd) (route : Int32) (price : Int32) (weight : Int32) (hR : gR cy de N I f) : gXv l yX4_setRoute wsX4_setRoute { frames := 7, cells := 3, slots := 18, locals := 104 } D cy de [.ref (N 0 0), .int route, .int price, .int weight] f (fun f9 => ∃ jroute, jroute < 6 ∧ route = nI jroute ∧ (mIn price 0 1000 = true) ∧ (mIn weight 1 20 = true) ∧ (gR cy de N (iRt I jroute price weight) f9)) (fun E9 => (E9 = "java/lang/IllegalArgumentException" ∧ ¬ pI route (6)) ∨ ∃ jroute, jroute < 6 ∧ route = nI jroute ∧ ((E9 = "java/lang/IllegalArgumentException" ∧ ¬ (mIn price 0 1000 = true)) ∨ (mIn price 0 1000 = true) ∧ (E9 = "java/lang/IllegalArgumentException" ∧ ¬ (mIn weight 1 20 = true)))) 3 18 := by
  refine fun sz => vx_ofW (cc := cX4_setRoute) (maxL := 5) (ret := none) (by decide) rfl ?_
  intro p e s m args below meth c s₁ B hml hout hv
  obtain ⟨rfl, hv⟩ := hv
  obtain ⟨rfl, hI⟩ := gP_I hv
  have hx := B.exec
  have hb := B.bytes
  have hr := B.returns
  have hts := atoms_spec (ws := wsX4_setRoute) B.pre
  have hown : s.vm.findClass RX4 = some m.cls := findClass_of_methodNamed B.named
  have hlocks := B.notSynchronized
  have hinX3 : ∀ w ∈ wsX30, w ∈ wsX4_setRoute := by decide +kernel
  have hl := lv_entry ([.ref (N 0 0), .int route, .int price, .int weight]) (n := 5) (Nat.le_of_ble_eq_true rfl)
  rw [lg_entry_eq]
  generalize (lg_sl ([.ref (N 0 0), .int route, .int price, .int weight]) ++ List.replicate (5 - (lg_sl ([.ref (N 0 0), .int route, .int price, .int weight])).length) Slot.unset).toArray = ls at hl ⊢
  have hl : lv_has ls 5 [(0, .ref (N 0 0)), (1, .int route), (2, .int price), (3, .int weight)] := hl
  have htg : f (N 0 0) = some (.inr (5, [.ref (N 0 1), .ref (N 0 2), .ref (N 0 3), .ref (N 0 4), .int (I 0 0), .int (I 1 0)])) := gR_tg hR
  refine lv_aload_n hx hb dX4_setRoute_0 rfl (lv_at hl 0 rfl) ?_
  refine lv_iload_n hx hb dX4_setRoute_1 rfl (lv_at hl 1 rfl) ?_
  refine gx_callq hI hout hlocks (fun E9 h9 => Or.inl h9) (Nat.le_of_ble_eq_true rfl) (Nat.le_of_ble_eq_true rfl) (vx_runV (As := [.int route]) (rest := []) ⟨hx, hb, hml, hown, hts⟩ (c_X4_routeAt l hl0 D cy de f N I route hR s.heap.size) (cwV 1 hts gX4_setRoute_X4_routeAt rfl rfl rfl (by decide +kernel) ⟨Nat.le_of_ble_eq_true rfl, Nat.le_of_ble_eq_true rfl⟩) (g_preV hI htg rfl) rfl rfl hl.1 rfl (lv_room (Nat.le_of_ble_eq_true rfl)) dX4_setRoute_2 ⟨Nat.le_of_ble_eq_true rfl, Nat.le_of_ble_eq_true rfl⟩) (fun r_1 f_2 H locs hw_3 hI => ?_)
  obtain ⟨jroute, hjroute, hkjroute, e_4_r, e_4⟩ := hw_3
  rw [e_4_r]
  rw [e_4] at hI
  have ho_5 : f (N 2 jroute) = some (.inr (4, [.int (I 5 jroute), .int (I 6 jroute)])) := gR_ro hR hjroute
  refine lv_astore (lv' := [(4, .ref (N 2 jroute)), (0, .ref (N 0 0)), (1, .int route), (2, .int price), (3, .int weight)]) hx hb dX4_setRoute_5 hl (by decide) rfl (fun ls hl => ?_)
  refine lv_iload_n hx hb dX4_setRoute_7 rfl (lv_at hl 3 rfl) ?_
  refine lv_iconst (v := 0) hx hb dX4_setRoute_8 (by decide) ?_
  refine lv_sipush (v := 1000) hx hb dX4_setRoute_9 (by decide) ?_
  refine gx_callv hI hout hlocks (fun E9 h9 => Or.inr ⟨jroute, hjroute, hkjroute, Or.inl h9⟩) (Nat.le_of_ble_eq_true rfl) (Nat.le_of_ble_eq_true rfl) (vx_runS (As := [.int price, .int 0, .int 1000]) (rest := []) ⟨hx, hb, hml, hown, hts⟩ (c_X4_refuseOutside l hl0 D cy de f N I price 0 1000 H.size) (va_cwS 3 hts gX4_setRoute_X4_refuseOutside rfl rfl rfl (by decide +kernel) ⟨Nat.le_of_ble_eq_true rfl, Nat.le_of_ble_eq_true rfl⟩) (g_preS hI) rfl rfl hl.1 rfl (lv_room (Nat.le_of_ble_eq_true rfl)) dX4_setRoute_12 ⟨Nat.le_of_ble_eq_true rfl, Nat.le_of_ble_eq_true rfl⟩) (fun f_7 H locs hw_8 hI => ?_)
  obtain ⟨hg_10, e_9⟩ := hw_8
  rw [e_9] at hI
  refine lv_iload_n hx hb dX4_setRoute_15 rfl (lv_at hl 4 rfl) ?_
  refine lv_iconst (v := 1) hx hb dX4_setRoute_16 (by decide) ?_
  refine lv_bipush (v := 20) hx hb dX4_setRoute_17 (by decide) ?_
  refine gx_callv hI hout hlocks (fun E9 h9 => Or.inr ⟨jroute, hjroute, hkjroute, Or.inr ⟨hg_10, h9⟩⟩) (Nat.le_of_ble_eq_true rfl) (Nat.le_of_ble_eq_true rfl) (vx_runS (As := [.int weight, .int 1, .int 20]) (rest := []) ⟨hx, hb, hml, hown, hts⟩ (c_X4_refuseOutside l hl0 D cy de f N I weight 1 20 H.size) (va_cwS 3 hts gX4_setRoute_X4_refuseOutside rfl rfl rfl (by decide +kernel) ⟨Nat.le_of_ble_eq_true rfl, Nat.le_of_ble_eq_true rfl⟩) (g_preS hI) rfl rfl hl.1 rfl (lv_room (Nat.le_of_ble_eq_true rfl)) dX4_setRoute_19 ⟨Nat.le_of_ble_eq_true rfl, Nat.le_of_ble_eq_true rfl⟩) (fun f_12 H locs hw_13 hI => ?_)
  obtain ⟨hg_15, e_14⟩ := hw_13
  rw [e_14] at hI
  refine lv_aload hx hb dX4_setRoute_22 (lv_at hl 0 rfl) ?_
  refine lv_iload_n hx hb dX4_setRoute_24 rfl (lv_at hl 3 rfl) ?_
  refine g_putN (ci := 4) (v := .int price) (ty := .int) (C := RX3) (T := TX3) (N := 2) hx hb hts hinX3 tyX3 tyX3_ok nmX3 hown hI ho_5 rfl 0 (by decide) (nf_T57 hI.2.2.2.1) (fun _ h9 => h9) rfl (by decide +kernel) rfl rfl (Nat.le_of_ble_eq_true rfl) dX4_setRoute_25 (fun f_16 H locs e_17 hI => ?_)
  have e_17 : f_16 = va_up f (N 2 jroute) (some (.inr (4, [.int price, .int (I 6 jroute)]))) := e_17
  have hf_18 : f_16 (N 2 jroute) = some (.inr (4, [.int price, .int (I 6 jroute)])) := by rw [e_17]; exact va_up_self _ _ _
  have hf_19 : f_16 (N 0 0) = some (.inr (5, [.ref (N 0 1), .ref (N 0 2), .ref (N 0 3), .ref (N 0 4), .int (I 0 0), .int (I 1 0)])) := by rw [e_17, va_up_ne _ _ (g_ne ho_5 htg (by decide))]; exact htg
  refine lv_aload hx hb dX4_setRoute_28 (lv_at hl 0 rfl) ?_
  refine lv_iload_n hx hb dX4_setRoute_30 rfl (lv_at hl 4 rfl) ?_
  refine g_putN (ci := 4) (v := .int weight) (ty := .int) (C := RX3) (T := TX3) (N := 2) hx hb hts hinX3 tyX3 tyX3_ok nmX3 hown hI hf_18 rfl 1 (by decide) (nf_T60 hI.2.2.2.1) (fun _ h9 => h9) rfl (by decide +kernel) rfl rfl (Nat.le_of_ble_eq_true rfl) dX4_setRoute_31 (fun f_20 H locs e_21 hI => ?_)
  have e_21 : f_20 = va_up f_16 (N 2 jroute) (some (.inr (4, [.int price, .int weight]))) := e_21
  have hf_22 : f_20 (N 2 jroute) = some (.inr (4, [.int price, .int weight])) := by rw [e_21]; exact va_up_self _ _ _
  have hf_23 : f_20 (N 0 0) = some (.inr (5, [.ref (N 0 1), .ref (N 0 2), .ref (N 0 3), .ref (N 0 4), .int (I 0 0), .int (I 1 0)])) := by rw [e_21, va_up_ne _ _ (g_ne hf_18 hf_19 (by decide))]; exact hf_19
  exact gx_vret hx hb hr hlocks hI ⟨jroute, hjroute, hkjroute, ⟨hg_10, ⟨hg_15, (by rw [e_21, e_17]; first | exact gR_setR hR hjroute _ _ | (simp only [g_uu]; exact gR_setR hR hjroute _ _))⟩⟩⟩ (Nat.le_of_ble_eq_true rfl) (Nat.le_of_ble_eq_true rfl) dX4_setRoute_34

set_option maxHeartbeats 4000000 in
set_option maxRecDepth 100000 in
theorem c_X4_setTrust (l : Launch) (hl0 : l.stackTraces = false) (D : va_G) (cy : Nat → ClassId) (de : Nat) (f : gFm) (N : gNm) (I : gMd) (key : Int32) (line : Int32) (hR : gR cy de N I f) : gXi l yX4_setTrust wsX4_setTrust { frames := 7, cells := 2, slots := 12, locals := 104 } D cy de [.ref (N 0 0), .int key, .int line] f (fun r9 f9 => ∃ jkey, jkey < N 0 7 ∧ key = nI jkey ∧ (mIn line 0 10000 = true) ∧ (r9 = I 8 jkey ∧ gR cy de N (iK I jkey (I 7 jkey) line (I 9 jkey) (I 10 jkey) (I 11 jkey) (I 12 jkey) (I 13 jkey) (I 14 jkey)) f9)) (fun E9 => (E9 = "java/lang/IndexOutOfBoundsException" ∧ ¬ pI key (N 0 7)) ∨ ∃ jkey, jkey < N 0 7 ∧ key = nI jkey ∧ (E9 = "java/lang/IllegalArgumentException" ∧ ¬ (mIn line 0 10000 = true))) 2 12 := by
  refine fun sz => vx_ofW (cc := cX4_setTrust) (maxL := 5) (ret := (some .int)) (by decide) rfl ?_
  intro p e s m args below meth c s₁ B hml hout hv
  obtain ⟨rfl, hv⟩ := hv
  obtain ⟨rfl, hI⟩ := gP_I hv
  have hx := B.exec
  have hb := B.bytes
  have hr := B.returns
  have hts := atoms_spec (ws := wsX4_setTrust) B.pre
  have hown : s.vm.findClass RX4 = some m.cls := findClass_of_methodNamed B.named
  have hlocks := B.notSynchronized
  have hinX1 : ∀ w ∈ wsX10, w ∈ wsX4_setTrust := by decide +kernel
  have hl := lv_entry ([.ref (N 0 0), .int key, .int line]) (n := 5) (Nat.le_of_ble_eq_true rfl)
  rw [lg_entry_eq]
  generalize (lg_sl ([.ref (N 0 0), .int key, .int line]) ++ List.replicate (5 - (lg_sl ([.ref (N 0 0), .int key, .int line])).length) Slot.unset).toArray = ls at hl ⊢
  have hl : lv_has ls 5 [(0, .ref (N 0 0)), (1, .int key), (2, .int line)] := hl
  have htg : f (N 0 0) = some (.inr (5, [.ref (N 0 1), .ref (N 0 2), .ref (N 0 3), .ref (N 0 4), .int (I 0 0), .int (I 1 0)])) := gR_tg hR
  refine lv_aload_n hx hb dX4_setTrust_0 rfl (lv_at hl 0 rfl) ?_
  refine lv_iload_n hx hb dX4_setTrust_1 rfl (lv_at hl 1 rfl) ?_
  refine gx_callq hI hout hlocks (fun E9 h9 => Or.inl h9) (Nat.le_of_ble_eq_true rfl) (Nat.le_of_ble_eq_true rfl) (vx_runV (As := [.int key]) (rest := []) ⟨hx, hb, hml, hown, hts⟩ (c_X4_keyAt l hl0 D cy de f N I key hR s.heap.size) (cwV 1 hts gX4_setTrust_X4_keyAt rfl rfl rfl (by decide +kernel) ⟨Nat.le_of_ble_eq_true rfl, Nat.le_of_ble_eq_true rfl⟩) (g_preV hI htg rfl) rfl rfl hl.1 rfl (lv_room (Nat.le_of_ble_eq_true rfl)) dX4_setTrust_2 ⟨Nat.le_of_ble_eq_true rfl, Nat.le_of_ble_eq_true rfl⟩) (fun r_1 f_2 H locs hw_3 hI => ?_)
  obtain ⟨jkey, hjkey, hkjkey, e_4_r, e_4⟩ := hw_3
  rw [e_4_r]
  rw [e_4] at hI
  have ho_5 : f (N 3 jkey) = some (.inr (2, [.ref (N 1 (N 5 jkey)), .int (I 7 jkey), .int (I 8 jkey), .int (I 9 jkey), .int (I 10 jkey), .int (I 11 jkey), .int (I 12 jkey), .int (I 13 jkey), .int (I 14 jkey)])) := gR_ke hR hjkey
  refine lv_astore_n (lv' := [(3, .ref (N 3 jkey)), (0, .ref (N 0 0)), (1, .int key), (2, .int line)]) hx hb dX4_setTrust_5 rfl hl (by decide) rfl (fun ls hl => ?_)
  refine lv_iload_n hx hb dX4_setTrust_6 rfl (lv_at hl 3 rfl) ?_
  refine lv_iconst (v := 0) hx hb dX4_setTrust_7 (by decide) ?_
  refine lv_sipush (v := 10000) hx hb dX4_setTrust_8 (by decide) ?_
  refine gx_callv hI hout hlocks (fun E9 h9 => Or.inr ⟨jkey, hjkey, hkjkey, h9⟩) (Nat.le_of_ble_eq_true rfl) (Nat.le_of_ble_eq_true rfl) (vx_runS (As := [.int line, .int 0, .int 10000]) (rest := []) ⟨hx, hb, hml, hown, hts⟩ (c_X4_refuseOutside l hl0 D cy de f N I line 0 10000 H.size) (va_cwS 3 hts gX4_setTrust_X4_refuseOutside rfl rfl rfl (by decide +kernel) ⟨Nat.le_of_ble_eq_true rfl, Nat.le_of_ble_eq_true rfl⟩) (g_preS hI) rfl rfl hl.1 rfl (lv_room (Nat.le_of_ble_eq_true rfl)) dX4_setTrust_11 ⟨Nat.le_of_ble_eq_true rfl, Nat.le_of_ble_eq_true rfl⟩) (fun f_7 H locs hw_8 hI => ?_)
  obtain ⟨hg_10, e_9⟩ := hw_8
  rw [e_9] at hI
  refine lv_aload_n hx hb dX4_setTrust_14 rfl (lv_at hl 0 rfl) ?_
  refine g_getN (ci := 2) (C := RX1) (T := TX1) (N := 9) hx hb hts hinX1 hown hI ho_5 rfl 2 (by decide) (nf_T93 hI.2.2.2.1) (fun _ h9 => h9) rfl dX4_setTrust_15 ?_
  refine lv_istore (lv' := [(4, .int (I 8 jkey)), (3, .ref (N 3 jkey)), (0, .ref (N 0 0)), (1, .int key), (2, .int line)]) hx hb dX4_setTrust_18 hl (by decide) rfl (fun ls hl => ?_)
  refine lv_aload_n hx hb dX4_setTrust_20 rfl (lv_at hl 1 rfl) ?_
  refine lv_iload_n hx hb dX4_setTrust_21 rfl (lv_at hl 4 rfl) ?_
  refine g_putN (ci := 2) (v := .int line) (ty := .int) (C := RX1) (T := TX1) (N := 9) hx hb hts hinX1 tyX1 tyX1_ok nmX1 hown hI ho_5 rfl 2 (by decide) (nf_T93 hI.2.2.2.1) (fun _ h9 => h9) rfl (by decide +kernel) rfl rfl (Nat.le_of_ble_eq_true rfl) dX4_setTrust_22 (fun f_11 H locs e_12 hI => ?_)
  have e_12 : f_11 = va_up f (N 3 jkey) (some (.inr (2, [.ref (N 1 (N 5 jkey)), .int (I 7 jkey), .int line, .int (I 9 jkey), .int (I 10 jkey), .int (I 11 jkey), .int (I 12 jkey), .int (I 13 jkey), .int (I 14 jkey)]))) := e_12
  have hf_13 : f_11 (N 3 jkey) = some (.inr (2, [.ref (N 1 (N 5 jkey)), .int (I 7 jkey), .int line, .int (I 9 jkey), .int (I 10 jkey), .int (I 11 jkey), .int (I 12 jkey), .int (I 13 jkey), .int (I 14 jkey)])) := by rw [e_12]; exact va_up_self _ _ _
  have hf_14 : f_11 (N 0 0) = some (.inr (5, [.ref (N 0 1), .ref (N 0 2), .ref (N 0 3), .ref (N 0 4), .int (I 0 0), .int (I 1 0)])) := by rw [e_12, va_up_ne _ _ (g_ne ho_5 htg (by decide))]; exact htg
  refine lv_iload hx hb dX4_setTrust_25 (lv_at hl 0 rfl) ?_
  exact gx_iret hx hb hr hlocks hI ⟨jkey, hjkey, hkjkey, ⟨hg_10, ⟨rfl, (by rw [e_12]; first | exact gR_setK hR hjkey _ _ _ _ _ _ _ _ | (simp only [g_uu]; exact gR_setK hR hjkey _ _ _ _ _ _ _ _))⟩⟩⟩ (Nat.le_of_ble_eq_true rfl) (Nat.le_of_ble_eq_true rfl) dX4_setTrust_27

set_option maxHeartbeats 4000000 in
set_option maxRecDepth 100000 in
theorem c_X4_pay (l : Launch) (hl0 : l.stackTraces = false) (D : va_G) (cy : Nat → ClassId) (de : Nat) (f : gFm) (N : gNm) (I : gMd) (key : Int32) (money : Int32) (hR : gR cy de N I f) : gXi l yX4_pay wsX4_pay { frames := 7, cells := 2, slots := 12, locals := 104 } D cy de [.ref (N 0 0), .int key, .int money] f (fun r9 f9 => ∃ jkey, jkey < N 0 7 ∧ key = nI jkey ∧ (mIn money 1 100000 = true) ∧ (r9 = (I 9 jkey) + (money - (if money < (I 10 jkey) then money else (I 10 jkey))) ∧ gR cy de N (iK I jkey (I 7 jkey) (I 8 jkey) ((I 9 jkey) + (money - (if money < (I 10 jkey) then money else (I 10 jkey)))) ((I 10 jkey) - (if money < (I 10 jkey) then money else (I 10 jkey))) (I 11 jkey) (I 12 jkey) (I 13 jkey) ((I 14 jkey) + money)) f9)) (fun E9 => (E9 = "java/lang/IndexOutOfBoundsException" ∧ ¬ pI key (N 0 7)) ∨ ∃ jkey, jkey < N 0 7 ∧ key = nI jkey ∧ (E9 = "java/lang/IllegalArgumentException" ∧ ¬ (mIn money 1 100000 = true))) 2 12 := by
  refine fun sz => vx_ofW (cc := cX4_pay) (maxL := 4) (ret := (some .int)) (by decide) rfl ?_
  intro p e s m args below meth c s₁ B hml hout hv
  obtain ⟨rfl, hv⟩ := hv
  obtain ⟨rfl, hI⟩ := gP_I hv
  have hx := B.exec
  have hb := B.bytes
  have hr := B.returns
  have hts := atoms_spec (ws := wsX4_pay) B.pre
  have hown : s.vm.findClass RX4 = some m.cls := findClass_of_methodNamed B.named
  have hlocks := B.notSynchronized
  have hinX1 : ∀ w ∈ wsX10, w ∈ wsX4_pay := by decide +kernel
  have hw0 := hts (.constant RX4 96 (100000)) (by decide +kernel)
  have hw1 := hts (.initialized RX1) (by decide +kernel)
  have hw2 := hts (.instanceMethod yX1_receive) (by decide +kernel)
  have hw3 := hts (.selects RX1 yX1_receive yX1_receive) (by decide +kernel)
  have hl := lv_entry ([.ref (N 0 0), .int key, .int money]) (n := 4) (Nat.le_of_ble_eq_true rfl)
  rw [lg_entry_eq]
  generalize (lg_sl ([.ref (N 0 0), .int key, .int money]) ++ List.replicate (4 - (lg_sl ([.ref (N 0 0), .int key, .int money])).length) Slot.unset).toArray = ls at hl ⊢
  have hl : lv_has ls 4 [(0, .ref (N 0 0)), (1, .int key), (2, .int money)] := hl
  have htg : f (N 0 0) = some (.inr (5, [.ref (N 0 1), .ref (N 0 2), .ref (N 0 3), .ref (N 0 4), .int (I 0 0), .int (I 1 0)])) := gR_tg hR
  refine lv_aload_n hx hb dX4_pay_0 rfl (lv_at hl 0 rfl) ?_
  refine lv_iload_n hx hb dX4_pay_1 rfl (lv_at hl 1 rfl) ?_
  refine gx_callq hI hout hlocks (fun E9 h9 => Or.inl h9) (Nat.le_of_ble_eq_true rfl) (Nat.le_of_ble_eq_true rfl) (vx_runV (As := [.int key]) (rest := []) ⟨hx, hb, hml, hown, hts⟩ (c_X4_keyAt l hl0 D cy de f N I key hR s.heap.size) (cwV 1 hts gX4_pay_X4_keyAt rfl rfl rfl (by decide +kernel) ⟨Nat.le_of_ble_eq_true rfl, Nat.le_of_ble_eq_true rfl⟩) (g_preV hI htg rfl) rfl rfl hl.1 rfl (lv_room (Nat.le_of_ble_eq_true rfl)) dX4_pay_2 ⟨Nat.le_of_ble_eq_true rfl, Nat.le_of_ble_eq_true rfl⟩) (fun r_1 f_2 H locs hw_3 hI => ?_)
  obtain ⟨jkey, hjkey, hkjkey, e_4_r, e_4⟩ := hw_3
  rw [e_4_r]
  rw [e_4] at hI
  have ho_5 : f (N 3 jkey) = some (.inr (2, [.ref (N 1 (N 5 jkey)), .int (I 7 jkey), .int (I 8 jkey), .int (I 9 jkey), .int (I 10 jkey), .int (I 11 jkey), .int (I 12 jkey), .int (I 13 jkey), .int (I 14 jkey)])) := gR_ke hR hjkey
  refine lv_astore_n (lv' := [(3, .ref (N 3 jkey)), (0, .ref (N 0 0)), (1, .int key), (2, .int money)]) hx hb dX4_pay_5 rfl hl (by decide) rfl (fun ls hl => ?_)
  refine lv_iload_n hx hb dX4_pay_6 rfl (lv_at hl 3 rfl) ?_
  refine lv_iconst (v := 1) hx hb dX4_pay_7 (by decide) ?_
  refine lv_ldc (v := 100000) hx hb hown hw0 dX4_pay_8 ?_
  refine gx_callv hI hout hlocks (fun E9 h9 => Or.inr ⟨jkey, hjkey, hkjkey, h9⟩) (Nat.le_of_ble_eq_true rfl) (Nat.le_of_ble_eq_true rfl) (vx_runS (As := [.int money, .int 1, .int 100000]) (rest := []) ⟨hx, hb, hml, hown, hts⟩ (c_X4_refuseOutside l hl0 D cy de f N I money 1 100000 H.size) (va_cwS 3 hts gX4_pay_X4_refuseOutside rfl rfl rfl (by decide +kernel) ⟨Nat.le_of_ble_eq_true rfl, Nat.le_of_ble_eq_true rfl⟩) (g_preS hI) rfl rfl hl.1 rfl (lv_room (Nat.le_of_ble_eq_true rfl)) dX4_pay_10 ⟨Nat.le_of_ble_eq_true rfl, Nat.le_of_ble_eq_true rfl⟩) (fun f_7 H locs hw_8 hI => ?_)
  obtain ⟨hg_10, e_9⟩ := hw_8
  rw [e_9] at hI
  refine lv_aload_n hx hb dX4_pay_13 rfl (lv_at hl 0 rfl) ?_
  refine lv_dup hx hb dX4_pay_14 rfl ?_
  refine g_getN (ci := 2) (C := RX1) (T := TX1) (N := 9) hx hb hts hinX1 hown hI ho_5 rfl 8 (by decide) (nf_T97 hI.2.2.2.1) (fun _ h9 => h9) rfl dX4_pay_15 ?_
  refine lv_iload_n hx hb dX4_pay_18 rfl (lv_at hl 3 rfl) ?_
  refine lv_iadd hx hb dX4_pay_19 ?_
  refine g_putN (ci := 2) (v := .int ((I 14 jkey) + money)) (ty := .int) (C := RX1) (T := TX1) (N := 9) hx hb hts hinX1 tyX1 tyX1_ok nmX1 hown hI ho_5 rfl 8 (by decide) (nf_T97 hI.2.2.2.1) (fun _ h9 => h9) rfl (by decide +kernel) rfl rfl (Nat.le_of_ble_eq_true rfl) dX4_pay_20 (fun f_11 H locs e_12 hI => ?_)
  have e_12 : f_11 = va_up f (N 3 jkey) (some (.inr (2, [.ref (N 1 (N 5 jkey)), .int (I 7 jkey), .int (I 8 jkey), .int (I 9 jkey), .int (I 10 jkey), .int (I 11 jkey), .int (I 12 jkey), .int (I 13 jkey), .int ((I 14 jkey) + money)]))) := e_12
  have hf_13 : f_11 (N 3 jkey) = some (.inr (2, [.ref (N 1 (N 5 jkey)), .int (I 7 jkey), .int (I 8 jkey), .int (I 9 jkey), .int (I 10 jkey), .int (I 11 jkey), .int (I 12 jkey), .int (I 13 jkey), .int ((I 14 jkey) + money)])) := by rw [e_12]; exact va_up_self _ _ _
  have hf_14 : f_11 (N 0 0) = some (.inr (5, [.ref (N 0 1), .ref (N 0 2), .ref (N 0 3), .ref (N 0 4), .int (I 0 0), .int (I 1 0)])) := by rw [e_12, va_up_ne _ _ (g_ne ho_5 htg (by decide))]; exact htg
  refine lv_aload_n hx hb dX4_pay_23 rfl (lv_at hl 0 rfl) ?_
  refine lv_iload_n hx hb dX4_pay_24 rfl (lv_at hl 3 rfl) ?_
  refine g_callv hI (va_runVN (As := [.int money]) (rest := []) ⟨hx, hb, hml, hown, hts⟩ (c_X1_receive l D cy de f_11 (N 3 jkey) money (N 1 (N 5 jkey)) (I 7 jkey) (I 8 jkey) (I 9 jkey) (I 10 jkey) (I 11 jkey) (I 12 jkey) (I 13 jkey) ((I 14 jkey) + money) hf_13 H.size) ⟨va_cnB 1 hts gX4_pay_X1_receive_n100 rfl rfl rfl (nm_T100 hI.2.2.2.1) hw1 (by decide +kernel) ⟨Nat.le_of_ble_eq_true rfl, Nat.le_of_ble_eq_true rfl⟩, hw2, hw3⟩ (g_preV hI hf_13 rfl) rfl rfl hl.1 rfl (lv_room (Nat.le_of_ble_eq_true rfl)) dX4_pay_25 ⟨Nat.le_of_ble_eq_true rfl, Nat.le_of_ble_eq_true rfl⟩) (fun f_16 H locs hw_17 hI => ?_)
  have e_18 := hw_17
  have e_18 : f_16 = va_up f_11 (N 3 jkey) (some (.inr (2, [.ref (N 1 (N 5 jkey)), .int (I 7 jkey), .int (I 8 jkey), .int ((I 9 jkey) + (money - (if money < (I 10 jkey) then money else (I 10 jkey)))), .int ((I 10 jkey) - (if money < (I 10 jkey) then money else (I 10 jkey))), .int (I 11 jkey), .int (I 12 jkey), .int (I 13 jkey), .int ((I 14 jkey) + money)]))) := e_18
  have hf_19 : f_16 (N 3 jkey) = some (.inr (2, [.ref (N 1 (N 5 jkey)), .int (I 7 jkey), .int (I 8 jkey), .int ((I 9 jkey) + (money - (if money < (I 10 jkey) then money else (I 10 jkey)))), .int ((I 10 jkey) - (if money < (I 10 jkey) then money else (I 10 jkey))), .int (I 11 jkey), .int (I 12 jkey), .int (I 13 jkey), .int ((I 14 jkey) + money)])) := by rw [e_18]; exact va_up_self _ _ _
  have hf_20 : f_16 (N 0 0) = some (.inr (5, [.ref (N 0 1), .ref (N 0 2), .ref (N 0 3), .ref (N 0 4), .int (I 0 0), .int (I 1 0)])) := by rw [e_18, va_up_ne _ _ (g_ne hf_13 hf_14 (by decide))]; exact hf_14
  refine lv_aload_n hx hb dX4_pay_28 rfl (lv_at hl 0 rfl) ?_
  refine g_getN (ci := 2) (C := RX1) (T := TX1) (N := 9) hx hb hts hinX1 hown hI hf_19 rfl 3 (by decide) (nf_T103 hI.2.2.2.1) (fun _ h9 => h9) rfl dX4_pay_29 ?_
  exact gx_iret hx hb hr hlocks hI ⟨jkey, hjkey, hkjkey, ⟨hg_10, ⟨rfl, (by rw [e_18, e_12]; first | exact gR_setK hR hjkey _ _ _ _ _ _ _ _ | (simp only [g_uu]; exact gR_setK hR hjkey _ _ _ _ _ _ _ _))⟩⟩⟩ (Nat.le_of_ble_eq_true rfl) (Nat.le_of_ble_eq_true rfl) dX4_pay_32

set_option maxHeartbeats 4000000 in
set_option maxRecDepth 100000 in
theorem c_X4_credit (l : Launch) (hl0 : l.stackTraces = false) (D : va_G) (cy : Nat → ClassId) (de : Nat) (f : gFm) (N : gNm) (I : gMd) (key : Int32) (hR : gR cy de N I f) : gXi l yX4_credit wsX4_credit { frames := 7, cells := 1, slots := 6, locals := 103 } D cy de [.ref (N 0 0), .int key] f (fun r9 f9 => ∃ jkey, jkey < N 0 7 ∧ key = nI jkey ∧ (r9 = I 9 jkey ∧ f9 = f)) (fun E9 => E9 = "java/lang/IndexOutOfBoundsException" ∧ ¬ pI key (N 0 7)) 1 6 := by
  refine fun sz => vx_ofW (cc := cX4_credit) (maxL := 2) (ret := (some .int)) (by decide) rfl ?_
  intro p e s m args below meth c s₁ B hml hout hv
  obtain ⟨rfl, hv⟩ := hv
  obtain ⟨rfl, hI⟩ := gP_I hv
  have hx := B.exec
  have hb := B.bytes
  have hr := B.returns
  have hts := atoms_spec (ws := wsX4_credit) B.pre
  have hown : s.vm.findClass RX4 = some m.cls := findClass_of_methodNamed B.named
  have hlocks := B.notSynchronized
  have hinX1 : ∀ w ∈ wsX10, w ∈ wsX4_credit := by decide +kernel
  have hl := lv_entry ([.ref (N 0 0), .int key]) (n := 2) (Nat.le_of_ble_eq_true rfl)
  rw [lg_entry_eq]
  generalize (lg_sl ([.ref (N 0 0), .int key]) ++ List.replicate (2 - (lg_sl ([.ref (N 0 0), .int key])).length) Slot.unset).toArray = ls at hl ⊢
  have hl : lv_has ls 2 [(0, .ref (N 0 0)), (1, .int key)] := hl
  have htg : f (N 0 0) = some (.inr (5, [.ref (N 0 1), .ref (N 0 2), .ref (N 0 3), .ref (N 0 4), .int (I 0 0), .int (I 1 0)])) := gR_tg hR
  refine lv_aload_n hx hb dX4_credit_0 rfl (lv_at hl 0 rfl) ?_
  refine lv_iload_n hx hb dX4_credit_1 rfl (lv_at hl 1 rfl) ?_
  refine gx_callq hI hout hlocks (fun E9 h9 => h9) (Nat.le_of_ble_eq_true rfl) (Nat.le_of_ble_eq_true rfl) (vx_runV (As := [.int key]) (rest := []) ⟨hx, hb, hml, hown, hts⟩ (c_X4_keyAt l hl0 D cy de f N I key hR s.heap.size) (cwV 1 hts gX4_credit_X4_keyAt rfl rfl rfl (by decide +kernel) ⟨Nat.le_of_ble_eq_true rfl, Nat.le_of_ble_eq_true rfl⟩) (g_preV hI htg rfl) rfl rfl hl.1 rfl (lv_room (Nat.le_of_ble_eq_true rfl)) dX4_credit_2 ⟨Nat.le_of_ble_eq_true rfl, Nat.le_of_ble_eq_true rfl⟩) (fun r_1 f_2 H locs hw_3 hI => ?_)
  obtain ⟨jkey, hjkey, hkjkey, e_4_r, e_4⟩ := hw_3
  rw [e_4_r]
  rw [e_4] at hI
  have ho_5 : f (N 3 jkey) = some (.inr (2, [.ref (N 1 (N 5 jkey)), .int (I 7 jkey), .int (I 8 jkey), .int (I 9 jkey), .int (I 10 jkey), .int (I 11 jkey), .int (I 12 jkey), .int (I 13 jkey), .int (I 14 jkey)])) := gR_ke hR hjkey
  refine g_getN (ci := 2) (C := RX1) (T := TX1) (N := 9) hx hb hts hinX1 hown hI ho_5 rfl 3 (by decide) (nf_T103 hI.2.2.2.1) (fun _ h9 => h9) rfl dX4_credit_5 ?_
  exact gx_iret hx hb hr hlocks hI ⟨jkey, hjkey, hkjkey, ⟨rfl, rfl⟩⟩ (Nat.le_of_ble_eq_true rfl) (Nat.le_of_ble_eq_true rfl) dX4_credit_8

set_option maxHeartbeats 4000000 in
set_option maxRecDepth 100000 in
theorem c_X4_debt (l : Launch) (hl0 : l.stackTraces = false) (D : va_G) (cy : Nat → ClassId) (de : Nat) (f : gFm) (N : gNm) (I : gMd) (key : Int32) (hR : gR cy de N I f) : gXi l yX4_debt wsX4_debt { frames := 7, cells := 1, slots := 6, locals := 103 } D cy de [.ref (N 0 0), .int key] f (fun r9 f9 => ∃ jkey, jkey < N 0 7 ∧ key = nI jkey ∧ (r9 = I 10 jkey ∧ f9 = f)) (fun E9 => E9 = "java/lang/IndexOutOfBoundsException" ∧ ¬ pI key (N 0 7)) 1 6 := by
  refine fun sz => vx_ofW (cc := cX4_debt) (maxL := 2) (ret := (some .int)) (by decide) rfl ?_
  intro p e s m args below meth c s₁ B hml hout hv
  obtain ⟨rfl, hv⟩ := hv
  obtain ⟨rfl, hI⟩ := gP_I hv
  have hx := B.exec
  have hb := B.bytes
  have hr := B.returns
  have hts := atoms_spec (ws := wsX4_debt) B.pre
  have hown : s.vm.findClass RX4 = some m.cls := findClass_of_methodNamed B.named
  have hlocks := B.notSynchronized
  have hinX1 : ∀ w ∈ wsX10, w ∈ wsX4_debt := by decide +kernel
  have hl := lv_entry ([.ref (N 0 0), .int key]) (n := 2) (Nat.le_of_ble_eq_true rfl)
  rw [lg_entry_eq]
  generalize (lg_sl ([.ref (N 0 0), .int key]) ++ List.replicate (2 - (lg_sl ([.ref (N 0 0), .int key])).length) Slot.unset).toArray = ls at hl ⊢
  have hl : lv_has ls 2 [(0, .ref (N 0 0)), (1, .int key)] := hl
  have htg : f (N 0 0) = some (.inr (5, [.ref (N 0 1), .ref (N 0 2), .ref (N 0 3), .ref (N 0 4), .int (I 0 0), .int (I 1 0)])) := gR_tg hR
  refine lv_aload_n hx hb dX4_debt_0 rfl (lv_at hl 0 rfl) ?_
  refine lv_iload_n hx hb dX4_debt_1 rfl (lv_at hl 1 rfl) ?_
  refine gx_callq hI hout hlocks (fun E9 h9 => h9) (Nat.le_of_ble_eq_true rfl) (Nat.le_of_ble_eq_true rfl) (vx_runV (As := [.int key]) (rest := []) ⟨hx, hb, hml, hown, hts⟩ (c_X4_keyAt l hl0 D cy de f N I key hR s.heap.size) (cwV 1 hts gX4_debt_X4_keyAt rfl rfl rfl (by decide +kernel) ⟨Nat.le_of_ble_eq_true rfl, Nat.le_of_ble_eq_true rfl⟩) (g_preV hI htg rfl) rfl rfl hl.1 rfl (lv_room (Nat.le_of_ble_eq_true rfl)) dX4_debt_2 ⟨Nat.le_of_ble_eq_true rfl, Nat.le_of_ble_eq_true rfl⟩) (fun r_1 f_2 H locs hw_3 hI => ?_)
  obtain ⟨jkey, hjkey, hkjkey, e_4_r, e_4⟩ := hw_3
  rw [e_4_r]
  rw [e_4] at hI
  have ho_5 : f (N 3 jkey) = some (.inr (2, [.ref (N 1 (N 5 jkey)), .int (I 7 jkey), .int (I 8 jkey), .int (I 9 jkey), .int (I 10 jkey), .int (I 11 jkey), .int (I 12 jkey), .int (I 13 jkey), .int (I 14 jkey)])) := gR_ke hR hjkey
  refine g_getN (ci := 2) (C := RX1) (T := TX1) (N := 9) hx hb hts hinX1 hown hI ho_5 rfl 4 (by decide) (nf_T165 hI.2.2.2.1) (fun _ h9 => h9) rfl dX4_debt_5 ?_
  exact gx_iret hx hb hr hlocks hI ⟨jkey, hjkey, hkjkey, ⟨rfl, rfl⟩⟩ (Nat.le_of_ble_eq_true rfl) (Nat.le_of_ble_eq_true rfl) dX4_debt_8

set_option maxHeartbeats 4000000 in
set_option maxRecDepth 100000 in
theorem c_X4_held (l : Launch) (hl0 : l.stackTraces = false) (D : va_G) (cy : Nat → ClassId) (de : Nat) (f : gFm) (N : gNm) (I : gMd) (key : Int32) (hR : gR cy de N I f) : gXi l yX4_held wsX4_held { frames := 7, cells := 1, slots := 6, locals := 103 } D cy de [.ref (N 0 0), .int key] f (fun r9 f9 => ∃ jkey, jkey < N 0 7 ∧ key = nI jkey ∧ (r9 = I 11 jkey ∧ f9 = f)) (fun E9 => E9 = "java/lang/IndexOutOfBoundsException" ∧ ¬ pI key (N 0 7)) 1 6 := by
  refine fun sz => vx_ofW (cc := cX4_held) (maxL := 2) (ret := (some .int)) (by decide) rfl ?_
  intro p e s m args below meth c s₁ B hml hout hv
  obtain ⟨rfl, hv⟩ := hv
  obtain ⟨rfl, hI⟩ := gP_I hv
  have hx := B.exec
  have hb := B.bytes
  have hr := B.returns
  have hts := atoms_spec (ws := wsX4_held) B.pre
  have hown : s.vm.findClass RX4 = some m.cls := findClass_of_methodNamed B.named
  have hlocks := B.notSynchronized
  have hinX1 : ∀ w ∈ wsX10, w ∈ wsX4_held := by decide +kernel
  have hl := lv_entry ([.ref (N 0 0), .int key]) (n := 2) (Nat.le_of_ble_eq_true rfl)
  rw [lg_entry_eq]
  generalize (lg_sl ([.ref (N 0 0), .int key]) ++ List.replicate (2 - (lg_sl ([.ref (N 0 0), .int key])).length) Slot.unset).toArray = ls at hl ⊢
  have hl : lv_has ls 2 [(0, .ref (N 0 0)), (1, .int key)] := hl
  have htg : f (N 0 0) = some (.inr (5, [.ref (N 0 1), .ref (N 0 2), .ref (N 0 3), .ref (N 0 4), .int (I 0 0), .int (I 1 0)])) := gR_tg hR
  refine lv_aload_n hx hb dX4_held_0 rfl (lv_at hl 0 rfl) ?_
  refine lv_iload_n hx hb dX4_held_1 rfl (lv_at hl 1 rfl) ?_
  refine gx_callq hI hout hlocks (fun E9 h9 => h9) (Nat.le_of_ble_eq_true rfl) (Nat.le_of_ble_eq_true rfl) (vx_runV (As := [.int key]) (rest := []) ⟨hx, hb, hml, hown, hts⟩ (c_X4_keyAt l hl0 D cy de f N I key hR s.heap.size) (cwV 1 hts gX4_held_X4_keyAt rfl rfl rfl (by decide +kernel) ⟨Nat.le_of_ble_eq_true rfl, Nat.le_of_ble_eq_true rfl⟩) (g_preV hI htg rfl) rfl rfl hl.1 rfl (lv_room (Nat.le_of_ble_eq_true rfl)) dX4_held_2 ⟨Nat.le_of_ble_eq_true rfl, Nat.le_of_ble_eq_true rfl⟩) (fun r_1 f_2 H locs hw_3 hI => ?_)
  obtain ⟨jkey, hjkey, hkjkey, e_4_r, e_4⟩ := hw_3
  rw [e_4_r]
  rw [e_4] at hI
  have ho_5 : f (N 3 jkey) = some (.inr (2, [.ref (N 1 (N 5 jkey)), .int (I 7 jkey), .int (I 8 jkey), .int (I 9 jkey), .int (I 10 jkey), .int (I 11 jkey), .int (I 12 jkey), .int (I 13 jkey), .int (I 14 jkey)])) := gR_ke hR hjkey
  refine g_getN (ci := 2) (C := RX1) (T := TX1) (N := 9) hx hb hts hinX1 hown hI ho_5 rfl 5 (by decide) (nf_T168 hI.2.2.2.1) (fun _ h9 => h9) rfl dX4_held_5 ?_
  exact gx_iret hx hb hr hlocks hI ⟨jkey, hjkey, hkjkey, ⟨rfl, rfl⟩⟩ (Nat.le_of_ble_eq_true rfl) (Nat.le_of_ble_eq_true rfl) dX4_held_8

set_option maxHeartbeats 4000000 in
set_option maxRecDepth 100000 in
theorem c_X4_tokens (l : Launch) (hl0 : l.stackTraces = false) (D : va_G) (cy : Nat → ClassId) (de : Nat) (f : gFm) (N : gNm) (I : gMd) (key : Int32) (hR : gR cy de N I f) : gXi l yX4_tokens wsX4_tokens { frames := 7, cells := 1, slots := 6, locals := 103 } D cy de [.ref (N 0 0), .int key] f (fun r9 f9 => ∃ jkey, jkey < N 0 7 ∧ key = nI jkey ∧ (r9 = I 7 jkey ∧ f9 = f)) (fun E9 => E9 = "java/lang/IndexOutOfBoundsException" ∧ ¬ pI key (N 0 7)) 1 6 := by
  refine fun sz => vx_ofW (cc := cX4_tokens) (maxL := 2) (ret := (some .int)) (by decide) rfl ?_
  intro p e s m args below meth c s₁ B hml hout hv
  obtain ⟨rfl, hv⟩ := hv
  obtain ⟨rfl, hI⟩ := gP_I hv
  have hx := B.exec
  have hb := B.bytes
  have hr := B.returns
  have hts := atoms_spec (ws := wsX4_tokens) B.pre
  have hown : s.vm.findClass RX4 = some m.cls := findClass_of_methodNamed B.named
  have hlocks := B.notSynchronized
  have hinX1 : ∀ w ∈ wsX10, w ∈ wsX4_tokens := by decide +kernel
  have hl := lv_entry ([.ref (N 0 0), .int key]) (n := 2) (Nat.le_of_ble_eq_true rfl)
  rw [lg_entry_eq]
  generalize (lg_sl ([.ref (N 0 0), .int key]) ++ List.replicate (2 - (lg_sl ([.ref (N 0 0), .int key])).length) Slot.unset).toArray = ls at hl ⊢
  have hl : lv_has ls 2 [(0, .ref (N 0 0)), (1, .int key)] := hl
  have htg : f (N 0 0) = some (.inr (5, [.ref (N 0 1), .ref (N 0 2), .ref (N 0 3), .ref (N 0 4), .int (I 0 0), .int (I 1 0)])) := gR_tg hR
  refine lv_aload_n hx hb dX4_tokens_0 rfl (lv_at hl 0 rfl) ?_
  refine lv_iload_n hx hb dX4_tokens_1 rfl (lv_at hl 1 rfl) ?_
  refine gx_callq hI hout hlocks (fun E9 h9 => h9) (Nat.le_of_ble_eq_true rfl) (Nat.le_of_ble_eq_true rfl) (vx_runV (As := [.int key]) (rest := []) ⟨hx, hb, hml, hown, hts⟩ (c_X4_keyAt l hl0 D cy de f N I key hR s.heap.size) (cwV 1 hts gX4_tokens_X4_keyAt rfl rfl rfl (by decide +kernel) ⟨Nat.le_of_ble_eq_true rfl, Nat.le_of_ble_eq_true rfl⟩) (g_preV hI htg rfl) rfl rfl hl.1 rfl (lv_room (Nat.le_of_ble_eq_true rfl)) dX4_tokens_2 ⟨Nat.le_of_ble_eq_true rfl, Nat.le_of_ble_eq_true rfl⟩) (fun r_1 f_2 H locs hw_3 hI => ?_)
  obtain ⟨jkey, hjkey, hkjkey, e_4_r, e_4⟩ := hw_3
  rw [e_4_r]
  rw [e_4] at hI
  have ho_5 : f (N 3 jkey) = some (.inr (2, [.ref (N 1 (N 5 jkey)), .int (I 7 jkey), .int (I 8 jkey), .int (I 9 jkey), .int (I 10 jkey), .int (I 11 jkey), .int (I 12 jkey), .int (I 13 jkey), .int (I 14 jkey)])) := gR_ke hR hjkey
  refine g_getN (ci := 2) (C := RX1) (T := TX1) (N := 9) hx hb hts hinX1 hown hI ho_5 rfl 1 (by decide) (nf_T108 hI.2.2.2.1) (fun _ h9 => h9) rfl dX4_tokens_5 ?_
  exact gx_iret hx hb hr hlocks hI ⟨jkey, hjkey, hkjkey, ⟨rfl, rfl⟩⟩ (Nat.le_of_ble_eq_true rfl) (Nat.le_of_ble_eq_true rfl) dX4_tokens_8

set_option maxHeartbeats 4000000 in
set_option maxRecDepth 100000 in
theorem c_X4_isSlowed (l : Launch) (hl0 : l.stackTraces = false) (D : va_G) (cy : Nat → ClassId) (de : Nat) (f : gFm) (N : gNm) (I : gMd) (key : Int32) (hR : gR cy de N I f) : gXi l yX4_isSlowed wsX4_isSlowed { frames := 7, cells := 1, slots := 6, locals := 103 } D cy de [.ref (N 0 0), .int key] f (fun r9 f9 => ∃ jkey, jkey < N 0 7 ∧ key = nI jkey ∧ (r9 = b2i (decide ((I 9 jkey) = 0) && decide ((I 12 jkey) = 0)) ∧ f9 = f)) (fun E9 => E9 = "java/lang/IndexOutOfBoundsException" ∧ ¬ pI key (N 0 7)) 1 6 := by
  refine fun sz => vx_ofW (cc := cX4_isSlowed) (maxL := 2) (ret := (some .boolean)) (by decide) rfl ?_
  intro p e s m args below meth c s₁ B hml hout hv
  obtain ⟨rfl, hv⟩ := hv
  obtain ⟨rfl, hI⟩ := gP_I hv
  have hx := B.exec
  have hb := B.bytes
  have hr := B.returns
  have hts := atoms_spec (ws := wsX4_isSlowed) B.pre
  have hown : s.vm.findClass RX4 = some m.cls := findClass_of_methodNamed B.named
  have hlocks := B.notSynchronized
  have hw0 := hts (.initialized RX1) (by decide +kernel)
  have hw1 := hts (.instanceMethod yX1_refillsSlowly) (by decide +kernel)
  have hw2 := hts (.selects RX1 yX1_refillsSlowly yX1_refillsSlowly) (by decide +kernel)
  have hl := lv_entry ([.ref (N 0 0), .int key]) (n := 2) (Nat.le_of_ble_eq_true rfl)
  rw [lg_entry_eq]
  generalize (lg_sl ([.ref (N 0 0), .int key]) ++ List.replicate (2 - (lg_sl ([.ref (N 0 0), .int key])).length) Slot.unset).toArray = ls at hl ⊢
  have hl : lv_has ls 2 [(0, .ref (N 0 0)), (1, .int key)] := hl
  have htg : f (N 0 0) = some (.inr (5, [.ref (N 0 1), .ref (N 0 2), .ref (N 0 3), .ref (N 0 4), .int (I 0 0), .int (I 1 0)])) := gR_tg hR
  refine lv_aload_n hx hb dX4_isSlowed_0 rfl (lv_at hl 0 rfl) ?_
  refine lv_iload_n hx hb dX4_isSlowed_1 rfl (lv_at hl 1 rfl) ?_
  refine gx_callq hI hout hlocks (fun E9 h9 => h9) (Nat.le_of_ble_eq_true rfl) (Nat.le_of_ble_eq_true rfl) (vx_runV (As := [.int key]) (rest := []) ⟨hx, hb, hml, hown, hts⟩ (c_X4_keyAt l hl0 D cy de f N I key hR s.heap.size) (cwV 1 hts gX4_isSlowed_X4_keyAt rfl rfl rfl (by decide +kernel) ⟨Nat.le_of_ble_eq_true rfl, Nat.le_of_ble_eq_true rfl⟩) (g_preV hI htg rfl) rfl rfl hl.1 rfl (lv_room (Nat.le_of_ble_eq_true rfl)) dX4_isSlowed_2 ⟨Nat.le_of_ble_eq_true rfl, Nat.le_of_ble_eq_true rfl⟩) (fun r_1 f_2 H locs hw_3 hI => ?_)
  obtain ⟨jkey, hjkey, hkjkey, e_4_r, e_4⟩ := hw_3
  rw [e_4_r]
  rw [e_4] at hI
  have ho_5 : f (N 3 jkey) = some (.inr (2, [.ref (N 1 (N 5 jkey)), .int (I 7 jkey), .int (I 8 jkey), .int (I 9 jkey), .int (I 10 jkey), .int (I 11 jkey), .int (I 12 jkey), .int (I 13 jkey), .int (I 14 jkey)])) := gR_ke hR hjkey
  refine g_calli hI (va_runVN (As := []) (rest := []) ⟨hx, hb, hml, hown, hts⟩ (c_X1_refillsSlowly l D cy de f (N 3 jkey) (N 1 (N 5 jkey)) (I 7 jkey) (I 8 jkey) (I 9 jkey) (I 10 jkey) (I 11 jkey) (I 12 jkey) (I 13 jkey) (I 14 jkey) ho_5 H.size) ⟨va_cnB 0 hts gX4_isSlowed_X1_refillsSlowly_n171 rfl rfl rfl (nm_T171 hI.2.2.2.1) hw0 (by decide +kernel) ⟨Nat.le_of_ble_eq_true rfl, Nat.le_of_ble_eq_true rfl⟩, hw1, hw2⟩ (g_preV hI ho_5 rfl) rfl rfl hl.1 rfl (lv_room (Nat.le_of_ble_eq_true rfl)) dX4_isSlowed_5 ⟨Nat.le_of_ble_eq_true rfl, Nat.le_of_ble_eq_true rfl⟩) (fun r_6 f_7 H locs hw_8 hI => ?_)
  obtain ⟨rfl, e_9⟩ := hw_8
  rw [e_9] at hI
  exact gx_zret hx hb hr hlocks hI (b2i_nar _) ⟨jkey, hjkey, hkjkey, ⟨rfl, rfl⟩⟩ (Nat.le_of_ble_eq_true rfl) (Nat.le_of_ble_eq_true rfl) dX4_isSlowed_8

set_option maxHeartbeats 4000000 in
set_option maxRecDepth 100000 in
theorem c_X4_spent (l : Launch) (hl0 : l.stackTraces = false) (D : va_G) (cy : Nat → ClassId) (de : Nat) (f : gFm) (N : gNm) (I : gMd) (key : Int32) (hR : gR cy de N I f) : gXi l yX4_spent wsX4_spent { frames := 7, cells := 1, slots := 6, locals := 103 } D cy de [.ref (N 0 0), .int key] f (fun r9 f9 => ∃ jkey, jkey < N 0 7 ∧ key = nI jkey ∧ (r9 = I 13 jkey ∧ f9 = f)) (fun E9 => E9 = "java/lang/IndexOutOfBoundsException" ∧ ¬ pI key (N 0 7)) 1 6 := by
  refine fun sz => vx_ofW (cc := cX4_spent) (maxL := 2) (ret := (some .int)) (by decide) rfl ?_
  intro p e s m args below meth c s₁ B hml hout hv
  obtain ⟨rfl, hv⟩ := hv
  obtain ⟨rfl, hI⟩ := gP_I hv
  have hx := B.exec
  have hb := B.bytes
  have hr := B.returns
  have hts := atoms_spec (ws := wsX4_spent) B.pre
  have hown : s.vm.findClass RX4 = some m.cls := findClass_of_methodNamed B.named
  have hlocks := B.notSynchronized
  have hinX1 : ∀ w ∈ wsX10, w ∈ wsX4_spent := by decide +kernel
  have hl := lv_entry ([.ref (N 0 0), .int key]) (n := 2) (Nat.le_of_ble_eq_true rfl)
  rw [lg_entry_eq]
  generalize (lg_sl ([.ref (N 0 0), .int key]) ++ List.replicate (2 - (lg_sl ([.ref (N 0 0), .int key])).length) Slot.unset).toArray = ls at hl ⊢
  have hl : lv_has ls 2 [(0, .ref (N 0 0)), (1, .int key)] := hl
  have htg : f (N 0 0) = some (.inr (5, [.ref (N 0 1), .ref (N 0 2), .ref (N 0 3), .ref (N 0 4), .int (I 0 0), .int (I 1 0)])) := gR_tg hR
  refine lv_aload_n hx hb dX4_spent_0 rfl (lv_at hl 0 rfl) ?_
  refine lv_iload_n hx hb dX4_spent_1 rfl (lv_at hl 1 rfl) ?_
  refine gx_callq hI hout hlocks (fun E9 h9 => h9) (Nat.le_of_ble_eq_true rfl) (Nat.le_of_ble_eq_true rfl) (vx_runV (As := [.int key]) (rest := []) ⟨hx, hb, hml, hown, hts⟩ (c_X4_keyAt l hl0 D cy de f N I key hR s.heap.size) (cwV 1 hts gX4_spent_X4_keyAt rfl rfl rfl (by decide +kernel) ⟨Nat.le_of_ble_eq_true rfl, Nat.le_of_ble_eq_true rfl⟩) (g_preV hI htg rfl) rfl rfl hl.1 rfl (lv_room (Nat.le_of_ble_eq_true rfl)) dX4_spent_2 ⟨Nat.le_of_ble_eq_true rfl, Nat.le_of_ble_eq_true rfl⟩) (fun r_1 f_2 H locs hw_3 hI => ?_)
  obtain ⟨jkey, hjkey, hkjkey, e_4_r, e_4⟩ := hw_3
  rw [e_4_r]
  rw [e_4] at hI
  have ho_5 : f (N 3 jkey) = some (.inr (2, [.ref (N 1 (N 5 jkey)), .int (I 7 jkey), .int (I 8 jkey), .int (I 9 jkey), .int (I 10 jkey), .int (I 11 jkey), .int (I 12 jkey), .int (I 13 jkey), .int (I 14 jkey)])) := gR_ke hR hjkey
  refine g_getN (ci := 2) (C := RX1) (T := TX1) (N := 9) hx hb hts hinX1 hown hI ho_5 rfl 7 (by decide) (nf_T174 hI.2.2.2.1) (fun _ h9 => h9) rfl dX4_spent_5 ?_
  exact gx_iret hx hb hr hlocks hI ⟨jkey, hjkey, hkjkey, ⟨rfl, rfl⟩⟩ (Nat.le_of_ble_eq_true rfl) (Nat.le_of_ble_eq_true rfl) dX4_spent_8

set_option maxHeartbeats 4000000 in
set_option maxRecDepth 100000 in
theorem c_X4_paid (l : Launch) (hl0 : l.stackTraces = false) (D : va_G) (cy : Nat → ClassId) (de : Nat) (f : gFm) (N : gNm) (I : gMd) (key : Int32) (hR : gR cy de N I f) : gXi l yX4_paid wsX4_paid { frames := 7, cells := 1, slots := 6, locals := 103 } D cy de [.ref (N 0 0), .int key] f (fun r9 f9 => ∃ jkey, jkey < N 0 7 ∧ key = nI jkey ∧ (r9 = I 14 jkey ∧ f9 = f)) (fun E9 => E9 = "java/lang/IndexOutOfBoundsException" ∧ ¬ pI key (N 0 7)) 1 6 := by
  refine fun sz => vx_ofW (cc := cX4_paid) (maxL := 2) (ret := (some .int)) (by decide) rfl ?_
  intro p e s m args below meth c s₁ B hml hout hv
  obtain ⟨rfl, hv⟩ := hv
  obtain ⟨rfl, hI⟩ := gP_I hv
  have hx := B.exec
  have hb := B.bytes
  have hr := B.returns
  have hts := atoms_spec (ws := wsX4_paid) B.pre
  have hown : s.vm.findClass RX4 = some m.cls := findClass_of_methodNamed B.named
  have hlocks := B.notSynchronized
  have hinX1 : ∀ w ∈ wsX10, w ∈ wsX4_paid := by decide +kernel
  have hl := lv_entry ([.ref (N 0 0), .int key]) (n := 2) (Nat.le_of_ble_eq_true rfl)
  rw [lg_entry_eq]
  generalize (lg_sl ([.ref (N 0 0), .int key]) ++ List.replicate (2 - (lg_sl ([.ref (N 0 0), .int key])).length) Slot.unset).toArray = ls at hl ⊢
  have hl : lv_has ls 2 [(0, .ref (N 0 0)), (1, .int key)] := hl
  have htg : f (N 0 0) = some (.inr (5, [.ref (N 0 1), .ref (N 0 2), .ref (N 0 3), .ref (N 0 4), .int (I 0 0), .int (I 1 0)])) := gR_tg hR
  refine lv_aload_n hx hb dX4_paid_0 rfl (lv_at hl 0 rfl) ?_
  refine lv_iload_n hx hb dX4_paid_1 rfl (lv_at hl 1 rfl) ?_
  refine gx_callq hI hout hlocks (fun E9 h9 => h9) (Nat.le_of_ble_eq_true rfl) (Nat.le_of_ble_eq_true rfl) (vx_runV (As := [.int key]) (rest := []) ⟨hx, hb, hml, hown, hts⟩ (c_X4_keyAt l hl0 D cy de f N I key hR s.heap.size) (cwV 1 hts gX4_paid_X4_keyAt rfl rfl rfl (by decide +kernel) ⟨Nat.le_of_ble_eq_true rfl, Nat.le_of_ble_eq_true rfl⟩) (g_preV hI htg rfl) rfl rfl hl.1 rfl (lv_room (Nat.le_of_ble_eq_true rfl)) dX4_paid_2 ⟨Nat.le_of_ble_eq_true rfl, Nat.le_of_ble_eq_true rfl⟩) (fun r_1 f_2 H locs hw_3 hI => ?_)
  obtain ⟨jkey, hjkey, hkjkey, e_4_r, e_4⟩ := hw_3
  rw [e_4_r]
  rw [e_4] at hI
  have ho_5 : f (N 3 jkey) = some (.inr (2, [.ref (N 1 (N 5 jkey)), .int (I 7 jkey), .int (I 8 jkey), .int (I 9 jkey), .int (I 10 jkey), .int (I 11 jkey), .int (I 12 jkey), .int (I 13 jkey), .int (I 14 jkey)])) := gR_ke hR hjkey
  refine g_getN (ci := 2) (C := RX1) (T := TX1) (N := 9) hx hb hts hinX1 hown hI ho_5 rfl 8 (by decide) (nf_T97 hI.2.2.2.1) (fun _ h9 => h9) rfl dX4_paid_5 ?_
  exact gx_iret hx hb hr hlocks hI ⟨jkey, hjkey, hkjkey, ⟨rfl, rfl⟩⟩ (Nat.le_of_ble_eq_true rfl) (Nat.le_of_ble_eq_true rfl) dX4_paid_8

set_option maxHeartbeats 4000000 in
set_option maxRecDepth 100000 in
theorem c_X4_cost (l : Launch) (hl0 : l.stackTraces = false) (D : va_G) (cy : Nat → ClassId) (de : Nat) (f : gFm) (N : gNm) (I : gMd) (call : Int32) (hR : gR cy de N I f) : gXi l yX4_cost wsX4_cost { frames := 7, cells := 1, slots := 6, locals := 103 } D cy de [.ref (N 0 0), .int call] f (fun r9 f9 => ∃ jcall, jcall < N 0 8 ∧ call = nI jcall ∧ (r9 = I 18 jcall ∧ f9 = f)) (fun E9 => E9 = "java/lang/IndexOutOfBoundsException" ∧ ¬ pI call (N 0 8)) 1 6 := by
  refine fun sz => vx_ofW (cc := cX4_cost) (maxL := 2) (ret := (some .int)) (by decide) rfl ?_
  intro p e s m args below meth c s₁ B hml hout hv
  obtain ⟨rfl, hv⟩ := hv
  obtain ⟨rfl, hI⟩ := gP_I hv
  have hx := B.exec
  have hb := B.bytes
  have hr := B.returns
  have hts := atoms_spec (ws := wsX4_cost) B.pre
  have hown : s.vm.findClass RX4 = some m.cls := findClass_of_methodNamed B.named
  have hlocks := B.notSynchronized
  have hinX0 : ∀ w ∈ wsX00, w ∈ wsX4_cost := by decide +kernel
  have hl := lv_entry ([.ref (N 0 0), .int call]) (n := 2) (Nat.le_of_ble_eq_true rfl)
  rw [lg_entry_eq]
  generalize (lg_sl ([.ref (N 0 0), .int call]) ++ List.replicate (2 - (lg_sl ([.ref (N 0 0), .int call])).length) Slot.unset).toArray = ls at hl ⊢
  have hl : lv_has ls 2 [(0, .ref (N 0 0)), (1, .int call)] := hl
  have htg : f (N 0 0) = some (.inr (5, [.ref (N 0 1), .ref (N 0 2), .ref (N 0 3), .ref (N 0 4), .int (I 0 0), .int (I 1 0)])) := gR_tg hR
  refine lv_aload_n hx hb dX4_cost_0 rfl (lv_at hl 0 rfl) ?_
  refine lv_iload_n hx hb dX4_cost_1 rfl (lv_at hl 1 rfl) ?_
  refine gx_callq hI hout hlocks (fun E9 h9 => h9) (Nat.le_of_ble_eq_true rfl) (Nat.le_of_ble_eq_true rfl) (vx_runV (As := [.int call]) (rest := []) ⟨hx, hb, hml, hown, hts⟩ (c_X4_callAt l hl0 D cy de f N I call hR s.heap.size) (cwV 1 hts gX4_cost_X4_callAt rfl rfl rfl (by decide +kernel) ⟨Nat.le_of_ble_eq_true rfl, Nat.le_of_ble_eq_true rfl⟩) (g_preV hI htg rfl) rfl rfl hl.1 rfl (lv_room (Nat.le_of_ble_eq_true rfl)) dX4_cost_2 ⟨Nat.le_of_ble_eq_true rfl, Nat.le_of_ble_eq_true rfl⟩) (fun r_1 f_2 H locs hw_3 hI => ?_)
  obtain ⟨jcall, hjcall, hkjcall, e_4_r, e_4⟩ := hw_3
  rw [e_4_r]
  rw [e_4] at hI
  have ho_5 : f (N 4 jcall) = some (.inr (1, [.ref (N 3 (N 6 jcall)), .int (I 15 jcall), .int (I 16 jcall), .int (I 17 jcall), .int (I 18 jcall), .int (I 19 jcall), .int (I 20 jcall)])) := gR_ca hR hjcall
  have ho_6 : f (N 3 (N 6 jcall)) = some (.inr (2, [.ref (N 1 (N 5 (N 6 jcall))), .int (I 7 (N 6 jcall)), .int (I 8 (N 6 jcall)), .int (I 9 (N 6 jcall)), .int (I 10 (N 6 jcall)), .int (I 11 (N 6 jcall)), .int (I 12 (N 6 jcall)), .int (I 13 (N 6 jcall)), .int (I 14 (N 6 jcall))])) := gR_ke hR (gR_ck hR hjcall)
  refine g_getN (ci := 1) (C := RX0) (T := TX0) (N := 7) hx hb hts hinX0 hown hI ho_5 rfl 4 (by decide) (nf_T140 hI.2.2.2.1) (fun _ h9 => h9) rfl dX4_cost_5 ?_
  exact gx_iret hx hb hr hlocks hI ⟨jcall, hjcall, hkjcall, ⟨rfl, rfl⟩⟩ (Nat.le_of_ble_eq_true rfl) (Nat.le_of_ble_eq_true rfl) dX4_cost_8

set_option maxHeartbeats 4000000 in
set_option maxRecDepth 100000 in
theorem c_X4_now (l : Launch) (D : va_G) (cy : Nat → ClassId) (de : Nat) (f : gFm) (N : gNm) (I : gMd) (hR : gR cy de N I f) : gMi l yX4_now wsX4_now { frames := 0, cells := 0, slots := 0, locals := 0 } D cy de [.ref (N 0 0)] f (fun r9 f9 => (r9 = I 0 0 ∧ f9 = f)) 0 0 := by
  refine fun sz => Met.ofW (cc := cX4_now) (maxL := 1) (ret := (some .int)) (by decide) rfl ?_
  intro p e s m args below meth c s₁ B hml hv
  obtain ⟨rfl, hv⟩ := hv
  obtain ⟨rfl, hI⟩ := gP_I hv
  have hx := B.exec
  have hb := B.bytes
  have hr := B.returns
  have hts := atoms_spec (ws := wsX4_now) B.pre
  have hown : s.vm.findClass RX4 = some m.cls := findClass_of_methodNamed B.named
  have hlocks := B.notSynchronized
  have hinX4 : ∀ w ∈ wsX40, w ∈ wsX4_now := by decide +kernel
  have hw0 := hts (.fieldLink RX4 120 "TollGateway" "tick" "I") (by decide +kernel)
  have hl := lv_entry ([.ref (N 0 0)]) (n := 1) (Nat.le_of_ble_eq_true rfl)
  rw [lg_entry_eq]
  generalize (lg_sl ([.ref (N 0 0)]) ++ List.replicate (1 - (lg_sl ([.ref (N 0 0)])).length) Slot.unset).toArray = ls at hl ⊢
  have hl : lv_has ls 1 [(0, .ref (N 0 0))] := hl
  have htg : f (N 0 0) = some (.inr (5, [.ref (N 0 1), .ref (N 0 2), .ref (N 0 3), .ref (N 0 4), .int (I 0 0), .int (I 1 0)])) := gR_tg hR
  refine lv_aload_n hx hb dX4_now_0 rfl (lv_at hl 0 rfl) ?_
  refine g_get (ci := 5) (C := RX4) (T := TX4) (N := 6) hx hb hts hinX4 hown hI htg rfl 4 (by decide) hw0 (fun _ h9 => h9) rfl dX4_now_1 ?_
  exact g_iret hx hb hr hlocks hI ⟨rfl, rfl⟩ (Nat.le_of_ble_eq_true rfl) (Nat.le_of_ble_eq_true rfl) dX4_now_4

set_option maxHeartbeats 4000000 in
set_option maxRecDepth 100000 in
theorem c_X4_calls (l : Launch) (D : va_G) (cy : Nat → ClassId) (de : Nat) (f : gFm) (N : gNm) (I : gMd) (hR : gR cy de N I f) : gMi l yX4_calls wsX4_calls { frames := 1, cells := 0, slots := 0, locals := 20 } D cy de [.ref (N 0 0)] f (fun r9 f9 => (r9 = nI (N 0 8) ∧ f9 = f)) 0 0 := by
  refine fun sz => Met.ofW (cc := cX4_calls) (maxL := 1) (ret := (some .int)) (by decide) rfl ?_
  intro p e s m args below meth c s₁ B hml hv
  obtain ⟨rfl, hv⟩ := hv
  obtain ⟨rfl, hI⟩ := gP_I hv
  have hx := B.exec
  have hb := B.bytes
  have hr := B.returns
  have hts := atoms_spec (ws := wsX4_calls) B.pre
  have hown : s.vm.findClass RX4 = some m.cls := findClass_of_methodNamed B.named
  have hlocks := B.notSynchronized
  have hinX4 : ∀ w ∈ wsX40, w ∈ wsX4_calls := by decide +kernel
  have hw0 := hts (.fieldLink RX4 28 "TollGateway" "letThrough" "Ljava/util/ArrayList;") (by decide +kernel)
  have hl := lv_entry ([.ref (N 0 0)]) (n := 1) (Nat.le_of_ble_eq_true rfl)
  rw [lg_entry_eq]
  generalize (lg_sl ([.ref (N 0 0)]) ++ List.replicate (1 - (lg_sl ([.ref (N 0 0)])).length) Slot.unset).toArray = ls at hl ⊢
  have hl : lv_has ls 1 [(0, .ref (N 0 0))] := hl
  have htg : f (N 0 0) = some (.inr (5, [.ref (N 0 1), .ref (N 0 2), .ref (N 0 3), .ref (N 0 4), .int (I 0 0), .int (I 1 0)])) := gR_tg hR
  obtain ⟨lf_1, hlf_2⟩ := gL_lk hR.2.2.2.2.1
  obtain ⟨lf_3, hlf_4⟩ := gL_lk hR.2.2.2.2.2
  refine lv_aload_n hx hb dX4_calls_0 rfl (lv_at hl 0 rfl) ?_
  refine g_get (ci := 5) (C := RX4) (T := TX4) (N := 6) hx hb hts hinX4 hown hI htg rfl 3 (by decide) hw0 (fun _ h9 => h9) rfl dX4_calls_1 ?_
  refine g_calli hI (va_runV (As := []) (rest := []) ⟨hx, hb, hml, hown, hts⟩ (c_Lsize l D cy de f (N 0 4) (N 0 6) (N 0 8) (N 4) hR.2.2.2.2.2 s.heap.size) (cwV 0 hts gX4_calls_Jx4a65c_size_8abf5 rfl rfl rfl (by decide +kernel) ⟨Nat.le_of_ble_eq_true rfl, Nat.le_of_ble_eq_true rfl⟩) (g_preV hI hlf_4 rfl) rfl rfl hl.1 rfl (lv_room (Nat.le_of_ble_eq_true rfl)) dX4_calls_4 ⟨Nat.le_of_ble_eq_true rfl, Nat.le_of_ble_eq_true rfl⟩) (fun r_5 f_6 H locs hw_7 hI => ?_)
  obtain ⟨e_8_r, e_8⟩ := hw_7
  rw [e_8_r]
  rw [e_8] at hI
  exact g_iret hx hb hr hlocks hI ⟨rfl, rfl⟩ (Nat.le_of_ble_eq_true rfl) (Nat.le_of_ble_eq_true rfl) dX4_calls_7

set_option maxHeartbeats 4000000 in
set_option maxRecDepth 100000 in
theorem c_X4_end (l : Launch) (hl0 : l.stackTraces = false) (D : va_G) (cy : Nat → ClassId) (de : Nat) (f : gFm) (N : gNm) (I : gMd) (call : Int32) (oc : Int32) (hR : gR cy de N I f) : gXi l yX4_end wsX4_end { frames := 7, cells := 3, slots := 18, locals := 104 } D cy de [.ref (N 0 0), .int call, .int oc] f (fun r9 f9 => ∃ jcall, jcall < N 0 8 ∧ call = nI jcall ∧ (mIn oc 0 2 = true) ∧ ((!decide (I 18 jcall = -1)) = false) ∧ (r9 = (if oc = 0 then (I 15 jcall) else if oc = 1 then ((I 15 jcall) + 1) / 2 else 0) ∧ gR cy de N (iK (iC I jcall (I 15 jcall) (I 16 jcall) (I 17 jcall) (if oc = 0 then (I 15 jcall) else if oc = 1 then ((I 15 jcall) + 1) / 2 else 0) (I 0 0) (I 20 jcall)) (N 6 jcall) (I 7 (N 6 jcall)) (I 8 (N 6 jcall)) ((I 9 (N 6 jcall)) + (((I 15 jcall) - (if oc = 0 then (I 15 jcall) else if oc = 1 then ((I 15 jcall) + 1) / 2 else 0)) - (if ((I 15 jcall) - (if oc = 0 then (I 15 jcall) else if oc = 1 then ((I 15 jcall) + 1) / 2 else 0)) < (I 10 (N 6 jcall)) then ((I 15 jcall) - (if oc = 0 then (I 15 jcall) else if oc = 1 then ((I 15 jcall) + 1) / 2 else 0)) else (I 10 (N 6 jcall))))) ((I 10 (N 6 jcall)) - (if ((I 15 jcall) - (if oc = 0 then (I 15 jcall) else if oc = 1 then ((I 15 jcall) + 1) / 2 else 0)) < (I 10 (N 6 jcall)) then ((I 15 jcall) - (if oc = 0 then (I 15 jcall) else if oc = 1 then ((I 15 jcall) + 1) / 2 else 0)) else (I 10 (N 6 jcall)))) ((I 11 (N 6 jcall)) - (I 15 jcall)) ((I 12 (N 6 jcall)) - 1) ((I 13 (N 6 jcall)) + (if oc = 0 then (I 15 jcall) else if oc = 1 then ((I 15 jcall) + 1) / 2 else 0)) (I 14 (N 6 jcall))) f9)) (fun E9 => (E9 = "java/lang/IndexOutOfBoundsException" ∧ ¬ pI call (N 0 8)) ∨ ∃ jcall, jcall < N 0 8 ∧ call = nI jcall ∧ ((E9 = "java/lang/IllegalArgumentException" ∧ ¬ (mIn oc 0 2 = true)) ∨ (mIn oc 0 2 = true) ∧ (E9 = "java/lang/IllegalStateException" ∧ ¬ ((!decide (I 18 jcall = -1)) = false)))) 3 18 := by
  refine fun sz => vx_ofW (cc := cX4_end) (maxL := 4) (ret := (some .int)) (by decide) rfl ?_
  intro p e s m args below meth c s₁ B hml hout hv
  obtain ⟨rfl, hv⟩ := hv
  obtain ⟨rfl, hI⟩ := gP_I hv
  have hx := B.exec
  have hb := B.bytes
  have hr := B.returns
  have hts := atoms_spec (ws := wsX4_end) B.pre
  have hown : s.vm.findClass RX4 = some m.cls := findClass_of_methodNamed B.named
  have hlocks := B.notSynchronized
  have hinX0 : ∀ w ∈ wsX00, w ∈ wsX4_end := by decide +kernel
  have hinX4 : ∀ w ∈ wsX40, w ∈ wsX4_end := by decide +kernel
  have hw0 := hts (.initialized RX0) (by decide +kernel)
  have hw1 := hts (.instanceMethod yX0_hasEnded) (by decide +kernel)
  have hw2 := hts (.selects RX0 yX0_hasEnded yX0_hasEnded) (by decide +kernel)
  have hw3 := hts (.fieldLink RX4 120 "TollGateway" "tick" "I") (by decide +kernel)
  have hw4 := hts (.instanceMethod yX0_settle) (by decide +kernel)
  have hw5 := hts (.selects RX0 yX0_settle yX0_settle) (by decide +kernel)
  have hw6 := hts (.classLink RX4 66 "java/lang/IllegalStateException") (by decide +kernel)
  have hw7 := hts (.initialized "java/lang/IllegalStateException") (by decide +kernel)
  have hl := lv_entry ([.ref (N 0 0), .int call, .int oc]) (n := 4) (Nat.le_of_ble_eq_true rfl)
  rw [lg_entry_eq]
  generalize (lg_sl ([.ref (N 0 0), .int call, .int oc]) ++ List.replicate (4 - (lg_sl ([.ref (N 0 0), .int call, .int oc])).length) Slot.unset).toArray = ls at hl ⊢
  have hl : lv_has ls 4 [(0, .ref (N 0 0)), (1, .int call), (2, .int oc)] := hl
  have htg : f (N 0 0) = some (.inr (5, [.ref (N 0 1), .ref (N 0 2), .ref (N 0 3), .ref (N 0 4), .int (I 0 0), .int (I 1 0)])) := gR_tg hR
  refine lv_aload_n hx hb dX4_end_0 rfl (lv_at hl 0 rfl) ?_
  refine lv_iload_n hx hb dX4_end_1 rfl (lv_at hl 1 rfl) ?_
  refine gx_callq hI hout hlocks (fun E9 h9 => Or.inl h9) (Nat.le_of_ble_eq_true rfl) (Nat.le_of_ble_eq_true rfl) (vx_runV (As := [.int call]) (rest := []) ⟨hx, hb, hml, hown, hts⟩ (c_X4_callAt l hl0 D cy de f N I call hR s.heap.size) (cwV 1 hts gX4_end_X4_callAt rfl rfl rfl (by decide +kernel) ⟨Nat.le_of_ble_eq_true rfl, Nat.le_of_ble_eq_true rfl⟩) (g_preV hI htg rfl) rfl rfl hl.1 rfl (lv_room (Nat.le_of_ble_eq_true rfl)) dX4_end_2 ⟨Nat.le_of_ble_eq_true rfl, Nat.le_of_ble_eq_true rfl⟩) (fun r_1 f_2 H locs hw_3 hI => ?_)
  obtain ⟨jcall, hjcall, hkjcall, e_4_r, e_4⟩ := hw_3
  rw [e_4_r]
  rw [e_4] at hI
  have ho_5 : f (N 4 jcall) = some (.inr (1, [.ref (N 3 (N 6 jcall)), .int (I 15 jcall), .int (I 16 jcall), .int (I 17 jcall), .int (I 18 jcall), .int (I 19 jcall), .int (I 20 jcall)])) := gR_ca hR hjcall
  have ho_6 : f (N 3 (N 6 jcall)) = some (.inr (2, [.ref (N 1 (N 5 (N 6 jcall))), .int (I 7 (N 6 jcall)), .int (I 8 (N 6 jcall)), .int (I 9 (N 6 jcall)), .int (I 10 (N 6 jcall)), .int (I 11 (N 6 jcall)), .int (I 12 (N 6 jcall)), .int (I 13 (N 6 jcall)), .int (I 14 (N 6 jcall))])) := gR_ke hR (gR_ck hR hjcall)
  refine lv_astore_n (lv' := [(3, .ref (N 4 jcall)), (0, .ref (N 0 0)), (1, .int call), (2, .int oc)]) hx hb dX4_end_5 rfl hl (by decide) rfl (fun ls hl => ?_)
  refine lv_iload_n hx hb dX4_end_6 rfl (lv_at hl 3 rfl) ?_
  refine lv_iconst (v := 0) hx hb dX4_end_7 (by decide) ?_
  refine lv_iconst (v := 2) hx hb dX4_end_8 (by decide) ?_
  refine gx_callv hI hout hlocks (fun E9 h9 => Or.inr ⟨jcall, hjcall, hkjcall, Or.inl h9⟩) (Nat.le_of_ble_eq_true rfl) (Nat.le_of_ble_eq_true rfl) (vx_runS (As := [.int oc, .int 0, .int 2]) (rest := []) ⟨hx, hb, hml, hown, hts⟩ (c_X4_refuseOutside l hl0 D cy de f N I oc 0 2 H.size) (va_cwS 3 hts gX4_end_X4_refuseOutside rfl rfl rfl (by decide +kernel) ⟨Nat.le_of_ble_eq_true rfl, Nat.le_of_ble_eq_true rfl⟩) (g_preS hI) rfl rfl hl.1 rfl (lv_room (Nat.le_of_ble_eq_true rfl)) dX4_end_9 ⟨Nat.le_of_ble_eq_true rfl, Nat.le_of_ble_eq_true rfl⟩) (fun f_8 H locs hw_9 hI => ?_)
  obtain ⟨hg_11, e_10⟩ := hw_9
  rw [e_10] at hI
  refine lv_aload_n hx hb dX4_end_12 rfl (lv_at hl 0 rfl) ?_
  refine g_calli hI (va_runVN (As := []) (rest := []) ⟨hx, hb, hml, hown, hts⟩ (c_X0_hasEnded l D cy de f (N 4 jcall) (N 3 (N 6 jcall)) (I 15 jcall) (I 16 jcall) (I 17 jcall) (I 18 jcall) (I 19 jcall) (I 20 jcall) ho_5 H.size) ⟨va_cnB 0 hts gX4_end_X0_hasEnded_n130 rfl rfl rfl (nm_T130 hI.2.2.2.1) hw0 (by decide +kernel) ⟨Nat.le_of_ble_eq_true rfl, Nat.le_of_ble_eq_true rfl⟩, hw1, hw2⟩ (g_preV hI ho_5 rfl) rfl rfl hl.1 rfl (lv_room (Nat.le_of_ble_eq_true rfl)) dX4_end_13 ⟨Nat.le_of_ble_eq_true rfl, Nat.le_of_ble_eq_true rfl⟩) (fun r_12 f_13 H locs hw_14 hI => ?_)
  obtain ⟨rfl, e_15⟩ := hw_14
  rw [e_15] at hI
  refine g_b2i_eq (tgt := 29) hx hb dX4_end_16 (by decide) (fun c_16 => ?_) (fun c_16 => ?_)
  · refine lv_aload_n hx hb dX4_end_29 rfl (lv_at hl 0 rfl) ?_
    refine lv_iload_n hx hb dX4_end_30 rfl (lv_at hl 3 rfl) ?_
    refine lv_aload_n hx hb dX4_end_31 rfl (lv_at hl 1 rfl) ?_
    refine g_get (ci := 5) (C := RX4) (T := TX4) (N := 6) hx hb hts hinX4 hown hI htg rfl 4 (by decide) hw3 (fun _ h9 => h9) rfl dX4_end_32 ?_
    refine g_callv hI (va_runVN (As := [.int oc, .int (I 0 0)]) (rest := []) ⟨hx, hb, hml, hown, hts⟩ (c_X0_settle l D cy de f (N 4 jcall) oc (I 0 0) (N 3 (N 6 jcall)) (I 15 jcall) (I 16 jcall) (I 17 jcall) (I 18 jcall) (I 19 jcall) (I 20 jcall) (N 1 (N 5 (N 6 jcall))) (I 7 (N 6 jcall)) (I 8 (N 6 jcall)) (I 9 (N 6 jcall)) (I 10 (N 6 jcall)) (I 11 (N 6 jcall)) (I 12 (N 6 jcall)) (I 13 (N 6 jcall)) (I 14 (N 6 jcall)) ho_5 ho_6 H.size) ⟨va_cnB 2 hts gX4_end_X0_settle_n136 rfl rfl rfl (nm_T136 hI.2.2.2.1) hw0 (by decide +kernel) ⟨Nat.le_of_ble_eq_true rfl, Nat.le_of_ble_eq_true rfl⟩, hw4, hw5⟩ (g_preV hI ho_5 rfl) rfl rfl hl.1 rfl (lv_room (Nat.le_of_ble_eq_true rfl)) dX4_end_35 ⟨Nat.le_of_ble_eq_true rfl, Nat.le_of_ble_eq_true rfl⟩) (fun f_18 H locs hw_19 hI => ?_)
    have e_20 := hw_19
    obtain ⟨f_21, e_22⟩ : ∃ z, z = va_up f (N 4 jcall) (some (.inr (1, [.ref (N 3 (N 6 jcall)), .int (I 15 jcall), .int (I 16 jcall), .int (I 17 jcall), .int (if oc = 0 then (I 15 jcall) else if oc = 1 then ((I 15 jcall) + 1) / 2 else 0), .int (I 0 0), .int (I 20 jcall)]))) := ⟨_, rfl⟩
    rw [← e_22] at e_20
    have e_22 : f_21 = va_up f (N 4 jcall) (some (.inr (1, [.ref (N 3 (N 6 jcall)), .int (I 15 jcall), .int (I 16 jcall), .int (I 17 jcall), .int (if oc = 0 then (I 15 jcall) else if oc = 1 then ((I 15 jcall) + 1) / 2 else 0), .int (I 0 0), .int (I 20 jcall)]))) := e_22
    have hf_23 : f_21 (N 4 jcall) = some (.inr (1, [.ref (N 3 (N 6 jcall)), .int (I 15 jcall), .int (I 16 jcall), .int (I 17 jcall), .int (if oc = 0 then (I 15 jcall) else if oc = 1 then ((I 15 jcall) + 1) / 2 else 0), .int (I 0 0), .int (I 20 jcall)])) := by rw [e_22]; exact va_up_self _ _ _
    have hf_24 : f_21 (N 0 0) = some (.inr (5, [.ref (N 0 1), .ref (N 0 2), .ref (N 0 3), .ref (N 0 4), .int (I 0 0), .int (I 1 0)])) := by rw [e_22, va_up_ne _ _ (g_ne ho_5 htg (by decide))]; exact htg
    have hf_25 : f_21 (N 3 (N 6 jcall)) = some (.inr (2, [.ref (N 1 (N 5 (N 6 jcall))), .int (I 7 (N 6 jcall)), .int (I 8 (N 6 jcall)), .int (I 9 (N 6 jcall)), .int (I 10 (N 6 jcall)), .int (I 11 (N 6 jcall)), .int (I 12 (N 6 jcall)), .int (I 13 (N 6 jcall)), .int (I 14 (N 6 jcall))])) := by rw [e_22, va_up_ne _ _ (g_ne ho_5 ho_6 (by decide))]; exact ho_6
    have e_20 : f_18 = va_up f_21 (N 3 (N 6 jcall)) (some (.inr (2, [.ref (N 1 (N 5 (N 6 jcall))), .int (I 7 (N 6 jcall)), .int (I 8 (N 6 jcall)), .int ((I 9 (N 6 jcall)) + (((I 15 jcall) - (if oc = 0 then (I 15 jcall) else if oc = 1 then ((I 15 jcall) + 1) / 2 else 0)) - (if ((I 15 jcall) - (if oc = 0 then (I 15 jcall) else if oc = 1 then ((I 15 jcall) + 1) / 2 else 0)) < (I 10 (N 6 jcall)) then ((I 15 jcall) - (if oc = 0 then (I 15 jcall) else if oc = 1 then ((I 15 jcall) + 1) / 2 else 0)) else (I 10 (N 6 jcall))))), .int ((I 10 (N 6 jcall)) - (if ((I 15 jcall) - (if oc = 0 then (I 15 jcall) else if oc = 1 then ((I 15 jcall) + 1) / 2 else 0)) < (I 10 (N 6 jcall)) then ((I 15 jcall) - (if oc = 0 then (I 15 jcall) else if oc = 1 then ((I 15 jcall) + 1) / 2 else 0)) else (I 10 (N 6 jcall)))), .int ((I 11 (N 6 jcall)) - (I 15 jcall)), .int ((I 12 (N 6 jcall)) - 1), .int ((I 13 (N 6 jcall)) + (if oc = 0 then (I 15 jcall) else if oc = 1 then ((I 15 jcall) + 1) / 2 else 0)), .int (I 14 (N 6 jcall))]))) := e_20
    have hf_26 : f_18 (N 3 (N 6 jcall)) = some (.inr (2, [.ref (N 1 (N 5 (N 6 jcall))), .int (I 7 (N 6 jcall)), .int (I 8 (N 6 jcall)), .int ((I 9 (N 6 jcall)) + (((I 15 jcall) - (if oc = 0 then (I 15 jcall) else if oc = 1 then ((I 15 jcall) + 1) / 2 else 0)) - (if ((I 15 jcall) - (if oc = 0 then (I 15 jcall) else if oc = 1 then ((I 15 jcall) + 1) / 2 else 0)) < (I 10 (N 6 jcall)) then ((I 15 jcall) - (if oc = 0 then (I 15 jcall) else if oc = 1 then ((I 15 jcall) + 1) / 2 else 0)) else (I 10 (N 6 jcall))))), .int ((I 10 (N 6 jcall)) - (if ((I 15 jcall) - (if oc = 0 then (I 15 jcall) else if oc = 1 then ((I 15 jcall) + 1) / 2 else 0)) < (I 10 (N 6 jcall)) then ((I 15 jcall) - (if oc = 0 then (I 15 jcall) else if oc = 1 then ((I 15 jcall) + 1) / 2 else 0)) else (I 10 (N 6 jcall)))), .int ((I 11 (N 6 jcall)) - (I 15 jcall)), .int ((I 12 (N 6 jcall)) - 1), .int ((I 13 (N 6 jcall)) + (if oc = 0 then (I 15 jcall) else if oc = 1 then ((I 15 jcall) + 1) / 2 else 0)), .int (I 14 (N 6 jcall))])) := by rw [e_20]; exact va_up_self _ _ _
    have hf_27 : f_18 (N 0 0) = some (.inr (5, [.ref (N 0 1), .ref (N 0 2), .ref (N 0 3), .ref (N 0 4), .int (I 0 0), .int (I 1 0)])) := by rw [e_20, va_up_ne _ _ (g_ne hf_25 hf_24 (by decide))]; exact hf_24
    have hf_28 : f_18 (N 4 jcall) = some (.inr (1, [.ref (N 3 (N 6 jcall)), .int (I 15 jcall), .int (I 16 jcall), .int (I 17 jcall), .int (if oc = 0 then (I 15 jcall) else if oc = 1 then ((I 15 jcall) + 1) / 2 else 0), .int (I 0 0), .int (I 20 jcall)])) := by rw [e_20, va_up_ne _ _ (g_ne hf_25 hf_23 (by decide))]; exact hf_23
    refine lv_aload_n hx hb dX4_end_38 rfl (lv_at hl 0 rfl) ?_
    refine g_getN (ci := 1) (C := RX0) (T := TX0) (N := 7) hx hb hts hinX0 hown hI hf_28 rfl 4 (by decide) (nf_T140 hI.2.2.2.1) (fun _ h9 => h9) rfl dX4_end_39 ?_
    exact gx_iret hx hb hr hlocks hI ⟨jcall, hjcall, hkjcall, ⟨hg_11, ⟨c_16, ⟨rfl, (by rw [e_20, e_22]; first | exact gR_setK (gR_setC hR hjcall _ _ _ _ _ _) (gR_ck hR hjcall) _ _ _ _ _ _ _ _ | (simp only [g_uu]; exact gR_setK (gR_setC hR hjcall _ _ _ _ _ _) (gR_ck hR hjcall) _ _ _ _ _ _ _ _))⟩⟩⟩⟩ (Nat.le_of_ble_eq_true rfl) (Nat.le_of_ble_eq_true rfl) dX4_end_42
  · refine gx_throw (px := _) hx hb hl0 hown (by decide) hw6 hw7 (st_134 hI.2.2.2.1) (hat_IS hts (fun w hw => List.mem_cons_of_mem _ (List.mem_append_left _ (List.mem_append_left _ (List.mem_append_right _ hw)))) hI.2.2.2.1) good_IS hI (by rw [hml]; exact hl.1) dX4_end_19 dX4_end_22 dX4_end_23 dX4_end_25 dX4_end_28 hout (Nat.le_of_ble_eq_true rfl) (Nat.le_of_ble_eq_true rfl) (Nat.le_of_ble_eq_true rfl) (Nat.le_of_ble_eq_true rfl) hlocks ?_ (Nat.le_of_ble_eq_true rfl) (Nat.le_of_ble_eq_true rfl)
    exact Or.inr ⟨jcall, hjcall, hkjcall, Or.inr ⟨hg_11, ⟨rfl, (fun z => absurd (c_16.symm.trans z) (by decide))⟩⟩⟩

set_option maxHeartbeats 4000000 in
set_option maxRecDepth 100000 in
theorem c_X4_dispute (l : Launch) (hl0 : l.stackTraces = false) (D : va_G) (cy : Nat → ClassId) (de : Nat) (f : gFm) (N : gNm) (I : gMd) (call : Int32) (hR : gR cy de N I f) : gXi l yX4_dispute wsX4_dispute { frames := 7, cells := 2, slots := 12, locals := 103 } D cy de [.ref (N 0 0), .int call] f (fun r9 f9 => ∃ jcall, jcall < N 0 8 ∧ call = nI jcall ∧ ((!decide (I 18 jcall = -1)) = true) ∧ (I 20 jcall = 0) ∧ (I 0 0 - I 19 jcall ≤ 50) ∧ (r9 = (I 18 jcall) ∧ gR cy de N (iK (iC I jcall (I 15 jcall) (I 16 jcall) (I 17 jcall) 0 (I 19 jcall) 1) (N 6 jcall) ((I 7 (N 6 jcall)) + (I 16 jcall)) (I 8 (N 6 jcall)) ((I 9 (N 6 jcall)) + ((I 18 jcall) - (if (I 18 jcall) < (I 10 (N 6 jcall)) then (I 18 jcall) else (I 10 (N 6 jcall))))) ((I 10 (N 6 jcall)) - (if (I 18 jcall) < (I 10 (N 6 jcall)) then (I 18 jcall) else (I 10 (N 6 jcall)))) (I 11 (N 6 jcall)) (I 12 (N 6 jcall)) ((I 13 (N 6 jcall)) - (I 18 jcall)) (I 14 (N 6 jcall))) f9)) (fun E9 => (E9 = "java/lang/IndexOutOfBoundsException" ∧ ¬ pI call (N 0 8)) ∨ ∃ jcall, jcall < N 0 8 ∧ call = nI jcall ∧ ((E9 = "java/lang/IllegalStateException" ∧ ¬ ((!decide (I 18 jcall = -1)) = true)) ∨ ((!decide (I 18 jcall = -1)) = true) ∧ ((E9 = "java/lang/IllegalStateException" ∧ ¬ (I 20 jcall = 0)) ∨ (I 20 jcall = 0) ∧ (E9 = "java/lang/IllegalStateException" ∧ ¬ (I 0 0 - I 19 jcall ≤ 50))))) 2 12 := by
  refine fun sz => vx_ofW (cc := cX4_dispute) (maxL := 3) (ret := (some .int)) (by decide) rfl ?_
  intro p e s m args below meth c s₁ B hml hout hv
  obtain ⟨rfl, hv⟩ := hv
  obtain ⟨rfl, hI⟩ := gP_I hv
  have hx := B.exec
  have hb := B.bytes
  have hr := B.returns
  have hts := atoms_spec (ws := wsX4_dispute) B.pre
  have hown : s.vm.findClass RX4 = some m.cls := findClass_of_methodNamed B.named
  have hlocks := B.notSynchronized
  have hinX0 : ∀ w ∈ wsX00, w ∈ wsX4_dispute := by decide +kernel
  have hinX4 : ∀ w ∈ wsX40, w ∈ wsX4_dispute := by decide +kernel
  have hw0 := hts (.initialized RX0) (by decide +kernel)
  have hw1 := hts (.instanceMethod yX0_hasEnded) (by decide +kernel)
  have hw2 := hts (.selects RX0 yX0_hasEnded yX0_hasEnded) (by decide +kernel)
  have hw3 := hts (.fieldLink RX4 120 "TollGateway" "tick" "I") (by decide +kernel)
  have hw4 := hts (.instanceMethod yX0_giveBack) (by decide +kernel)
  have hw5 := hts (.selects RX0 yX0_giveBack yX0_giveBack) (by decide +kernel)
  have hw6 := hts (.classLink RX4 66 "java/lang/IllegalStateException") (by decide +kernel)
  have hw7 := hts (.initialized "java/lang/IllegalStateException") (by decide +kernel)
  have hl := lv_entry ([.ref (N 0 0), .int call]) (n := 3) (Nat.le_of_ble_eq_true rfl)
  rw [lg_entry_eq]
  generalize (lg_sl ([.ref (N 0 0), .int call]) ++ List.replicate (3 - (lg_sl ([.ref (N 0 0), .int call])).length) Slot.unset).toArray = ls at hl ⊢
  have hl : lv_has ls 3 [(0, .ref (N 0 0)), (1, .int call)] := hl
  have htg : f (N 0 0) = some (.inr (5, [.ref (N 0 1), .ref (N 0 2), .ref (N 0 3), .ref (N 0 4), .int (I 0 0), .int (I 1 0)])) := gR_tg hR
  refine lv_aload_n hx hb dX4_dispute_0 rfl (lv_at hl 0 rfl) ?_
  refine lv_iload_n hx hb dX4_dispute_1 rfl (lv_at hl 1 rfl) ?_
  refine gx_callq hI hout hlocks (fun E9 h9 => Or.inl h9) (Nat.le_of_ble_eq_true rfl) (Nat.le_of_ble_eq_true rfl) (vx_runV (As := [.int call]) (rest := []) ⟨hx, hb, hml, hown, hts⟩ (c_X4_callAt l hl0 D cy de f N I call hR s.heap.size) (cwV 1 hts gX4_dispute_X4_callAt rfl rfl rfl (by decide +kernel) ⟨Nat.le_of_ble_eq_true rfl, Nat.le_of_ble_eq_true rfl⟩) (g_preV hI htg rfl) rfl rfl hl.1 rfl (lv_room (Nat.le_of_ble_eq_true rfl)) dX4_dispute_2 ⟨Nat.le_of_ble_eq_true rfl, Nat.le_of_ble_eq_true rfl⟩) (fun r_1 f_2 H locs hw_3 hI => ?_)
  obtain ⟨jcall, hjcall, hkjcall, e_4_r, e_4⟩ := hw_3
  rw [e_4_r]
  rw [e_4] at hI
  have ho_5 : f (N 4 jcall) = some (.inr (1, [.ref (N 3 (N 6 jcall)), .int (I 15 jcall), .int (I 16 jcall), .int (I 17 jcall), .int (I 18 jcall), .int (I 19 jcall), .int (I 20 jcall)])) := gR_ca hR hjcall
  have ho_6 : f (N 3 (N 6 jcall)) = some (.inr (2, [.ref (N 1 (N 5 (N 6 jcall))), .int (I 7 (N 6 jcall)), .int (I 8 (N 6 jcall)), .int (I 9 (N 6 jcall)), .int (I 10 (N 6 jcall)), .int (I 11 (N 6 jcall)), .int (I 12 (N 6 jcall)), .int (I 13 (N 6 jcall)), .int (I 14 (N 6 jcall))])) := gR_ke hR (gR_ck hR hjcall)
  refine lv_astore_n (lv' := [(2, .ref (N 4 jcall)), (0, .ref (N 0 0)), (1, .int call)]) hx hb dX4_dispute_5 rfl hl (by decide) rfl (fun ls hl => ?_)
  refine lv_aload_n hx hb dX4_dispute_6 rfl (lv_at hl 0 rfl) ?_
  refine g_calli hI (va_runVN (As := []) (rest := []) ⟨hx, hb, hml, hown, hts⟩ (c_X0_hasEnded l D cy de f (N 4 jcall) (N 3 (N 6 jcall)) (I 15 jcall) (I 16 jcall) (I 17 jcall) (I 18 jcall) (I 19 jcall) (I 20 jcall) ho_5 H.size) ⟨va_cnB 0 hts gX4_dispute_X0_hasEnded_n130 rfl rfl rfl (nm_T130 hI.2.2.2.1) hw0 (by decide +kernel) ⟨Nat.le_of_ble_eq_true rfl, Nat.le_of_ble_eq_true rfl⟩, hw1, hw2⟩ (g_preV hI ho_5 rfl) rfl rfl hl.1 rfl (lv_room (Nat.le_of_ble_eq_true rfl)) dX4_dispute_7 ⟨Nat.le_of_ble_eq_true rfl, Nat.le_of_ble_eq_true rfl⟩) (fun r_7 f_8 H locs hw_9 hI => ?_)
  obtain ⟨rfl, e_10⟩ := hw_9
  rw [e_10] at hI
  refine g_b2i_ne (tgt := 23) hx hb dX4_dispute_10 (by decide) (fun c_11 => ?_) (fun c_11 => ?_)
  · refine lv_aload_n hx hb dX4_dispute_23 rfl (lv_at hl 0 rfl) ?_
    refine g_getN (ci := 1) (C := RX0) (T := TX0) (N := 7) hx hb hts hinX0 hown hI ho_5 rfl 6 (by decide) (nf_T145 hI.2.2.2.1) (fun _ h9 => h9) rfl dX4_dispute_24 ?_
    refine lv_if_eq (tgt := 40) hx hb dX4_dispute_27 (by decide) (fun c_12 => ?_) (fun c_12 => ?_)
    · refine lv_aload_n hx hb dX4_dispute_40 rfl (lv_at hl 1 rfl) ?_
      refine g_get (ci := 5) (C := RX4) (T := TX4) (N := 6) hx hb hts hinX4 hown hI htg rfl 4 (by decide) hw3 (fun _ h9 => h9) rfl dX4_dispute_41 ?_
      refine lv_aload_n hx hb dX4_dispute_44 rfl (lv_at hl 0 rfl) ?_
      refine g_getN (ci := 1) (C := RX0) (T := TX0) (N := 7) hx hb hts hinX0 hown hI ho_5 rfl 5 (by decide) (nf_T151 hI.2.2.2.1) (fun _ h9 => h9) rfl dX4_dispute_45 ?_
      refine lv_isub hx hb dX4_dispute_48 ?_
      refine lv_bipush (v := 50) hx hb dX4_dispute_49 (by decide) ?_
      refine lv_icmp_le (tgt := 64) hx hb dX4_dispute_51 (by decide) (fun c_13 => ?_) (fun c_13 => ?_)
      · have c_13' := Int32.not_lt.mpr c_13
        refine lv_aload_n hx hb dX4_dispute_64 rfl (lv_at hl 0 rfl) ?_
        refine g_calli hI (va_runVN (As := []) (rest := []) ⟨hx, hb, hml, hown, hts⟩ (c_X0_giveBack l D cy de f (N 4 jcall) (N 3 (N 6 jcall)) (I 15 jcall) (I 16 jcall) (I 17 jcall) (I 18 jcall) (I 19 jcall) (I 20 jcall) (N 1 (N 5 (N 6 jcall))) (I 7 (N 6 jcall)) (I 8 (N 6 jcall)) (I 9 (N 6 jcall)) (I 10 (N 6 jcall)) (I 11 (N 6 jcall)) (I 12 (N 6 jcall)) (I 13 (N 6 jcall)) (I 14 (N 6 jcall)) ho_5 ho_6 H.size) ⟨va_cnB 0 hts gX4_dispute_X0_giveBack_n156 rfl rfl rfl (nm_T156 hI.2.2.2.1) hw0 (by decide +kernel) ⟨Nat.le_of_ble_eq_true rfl, Nat.le_of_ble_eq_true rfl⟩, hw4, hw5⟩ (g_preV hI ho_5 rfl) rfl rfl hl.1 rfl (lv_room (Nat.le_of_ble_eq_true rfl)) dX4_dispute_65 ⟨Nat.le_of_ble_eq_true rfl, Nat.le_of_ble_eq_true rfl⟩) (fun r_14 f_15 H locs hw_16 hI => ?_)
        obtain ⟨rfl, e_17⟩ := hw_16
        obtain ⟨f_18, e_19⟩ : ∃ z, z = va_up f (N 4 jcall) (some (.inr (1, [.ref (N 3 (N 6 jcall)), .int (I 15 jcall), .int (I 16 jcall), .int (I 17 jcall), .int 0, .int (I 19 jcall), .int 1]))) := ⟨_, rfl⟩
        rw [← e_19] at e_17
        have e_19 : f_18 = va_up f (N 4 jcall) (some (.inr (1, [.ref (N 3 (N 6 jcall)), .int (I 15 jcall), .int (I 16 jcall), .int (I 17 jcall), .int 0, .int (I 19 jcall), .int 1]))) := e_19
        have hf_20 : f_18 (N 4 jcall) = some (.inr (1, [.ref (N 3 (N 6 jcall)), .int (I 15 jcall), .int (I 16 jcall), .int (I 17 jcall), .int 0, .int (I 19 jcall), .int 1])) := by rw [e_19]; exact va_up_self _ _ _
        have hf_21 : f_18 (N 0 0) = some (.inr (5, [.ref (N 0 1), .ref (N 0 2), .ref (N 0 3), .ref (N 0 4), .int (I 0 0), .int (I 1 0)])) := by rw [e_19, va_up_ne _ _ (g_ne ho_5 htg (by decide))]; exact htg
        have hf_22 : f_18 (N 3 (N 6 jcall)) = some (.inr (2, [.ref (N 1 (N 5 (N 6 jcall))), .int (I 7 (N 6 jcall)), .int (I 8 (N 6 jcall)), .int (I 9 (N 6 jcall)), .int (I 10 (N 6 jcall)), .int (I 11 (N 6 jcall)), .int (I 12 (N 6 jcall)), .int (I 13 (N 6 jcall)), .int (I 14 (N 6 jcall))])) := by rw [e_19, va_up_ne _ _ (g_ne ho_5 ho_6 (by decide))]; exact ho_6
        have e_17 : f_15 = va_up f_18 (N 3 (N 6 jcall)) (some (.inr (2, [.ref (N 1 (N 5 (N 6 jcall))), .int ((I 7 (N 6 jcall)) + (I 16 jcall)), .int (I 8 (N 6 jcall)), .int ((I 9 (N 6 jcall)) + ((I 18 jcall) - (if (I 18 jcall) < (I 10 (N 6 jcall)) then (I 18 jcall) else (I 10 (N 6 jcall))))), .int ((I 10 (N 6 jcall)) - (if (I 18 jcall) < (I 10 (N 6 jcall)) then (I 18 jcall) else (I 10 (N 6 jcall)))), .int (I 11 (N 6 jcall)), .int (I 12 (N 6 jcall)), .int ((I 13 (N 6 jcall)) - (I 18 jcall)), .int (I 14 (N 6 jcall))]))) := e_17
        have hf_23 : f_15 (N 3 (N 6 jcall)) = some (.inr (2, [.ref (N 1 (N 5 (N 6 jcall))), .int ((I 7 (N 6 jcall)) + (I 16 jcall)), .int (I 8 (N 6 jcall)), .int ((I 9 (N 6 jcall)) + ((I 18 jcall) - (if (I 18 jcall) < (I 10 (N 6 jcall)) then (I 18 jcall) else (I 10 (N 6 jcall))))), .int ((I 10 (N 6 jcall)) - (if (I 18 jcall) < (I 10 (N 6 jcall)) then (I 18 jcall) else (I 10 (N 6 jcall)))), .int (I 11 (N 6 jcall)), .int (I 12 (N 6 jcall)), .int ((I 13 (N 6 jcall)) - (I 18 jcall)), .int (I 14 (N 6 jcall))])) := by rw [e_17]; exact va_up_self _ _ _
        have hf_24 : f_15 (N 0 0) = some (.inr (5, [.ref (N 0 1), .ref (N 0 2), .ref (N 0 3), .ref (N 0 4), .int (I 0 0), .int (I 1 0)])) := by rw [e_17, va_up_ne _ _ (g_ne hf_22 hf_21 (by decide))]; exact hf_21
        have hf_25 : f_15 (N 4 jcall) = some (.inr (1, [.ref (N 3 (N 6 jcall)), .int (I 15 jcall), .int (I 16 jcall), .int (I 17 jcall), .int 0, .int (I 19 jcall), .int 1])) := by rw [e_17, va_up_ne _ _ (g_ne hf_22 hf_20 (by decide))]; exact hf_20
        exact gx_iret hx hb hr hlocks hI ⟨jcall, hjcall, hkjcall, ⟨c_11, ⟨c_12, ⟨c_13, ⟨rfl, (by rw [e_17, e_19]; first | exact gR_setK (gR_setC hR hjcall _ _ _ _ _ _) (gR_ck hR hjcall) _ _ _ _ _ _ _ _ | (simp only [g_uu]; exact gR_setK (gR_setC hR hjcall _ _ _ _ _ _) (gR_ck hR hjcall) _ _ _ _ _ _ _ _))⟩⟩⟩⟩⟩ (Nat.le_of_ble_eq_true rfl) (Nat.le_of_ble_eq_true rfl) dX4_dispute_68
      · have c_13' := Int32.not_le.mp c_13
        refine gx_throw (px := _) hx hb hl0 hown (by decide) hw6 hw7 (st_154 hI.2.2.2.1) (hat_IS hts (fun w hw => List.mem_cons_of_mem _ (List.mem_append_left _ (List.mem_append_right _ hw))) hI.2.2.2.1) good_IS hI (by rw [hml]; exact hl.1) dX4_dispute_54 dX4_dispute_57 dX4_dispute_58 dX4_dispute_60 dX4_dispute_63 hout (Nat.le_of_ble_eq_true rfl) (Nat.le_of_ble_eq_true rfl) (Nat.le_of_ble_eq_true rfl) (Nat.le_of_ble_eq_true rfl) hlocks ?_ (Nat.le_of_ble_eq_true rfl) (Nat.le_of_ble_eq_true rfl)
        exact Or.inr ⟨jcall, hjcall, hkjcall, Or.inr ⟨c_11, Or.inr ⟨c_12, ⟨rfl, c_13⟩⟩⟩⟩
    · refine gx_throw (px := _) hx hb hl0 hown (by decide) hw6 hw7 (st_149 hI.2.2.2.1) (hat_IS hts (fun w hw => List.mem_cons_of_mem _ (List.mem_append_left _ (List.mem_append_right _ hw))) hI.2.2.2.1) good_IS hI (by rw [hml]; exact hl.1) dX4_dispute_30 dX4_dispute_33 dX4_dispute_34 dX4_dispute_36 dX4_dispute_39 hout (Nat.le_of_ble_eq_true rfl) (Nat.le_of_ble_eq_true rfl) (Nat.le_of_ble_eq_true rfl) (Nat.le_of_ble_eq_true rfl) hlocks ?_ (Nat.le_of_ble_eq_true rfl) (Nat.le_of_ble_eq_true rfl)
      exact Or.inr ⟨jcall, hjcall, hkjcall, Or.inr ⟨c_11, Or.inl (⟨rfl, c_12⟩)⟩⟩
  · refine gx_throw (px := _) hx hb hl0 hown (by decide) hw6 hw7 (st_143 hI.2.2.2.1) (hat_IS hts (fun w hw => List.mem_cons_of_mem _ (List.mem_append_left _ (List.mem_append_right _ hw))) hI.2.2.2.1) good_IS hI (by rw [hml]; exact hl.1) dX4_dispute_13 dX4_dispute_16 dX4_dispute_17 dX4_dispute_19 dX4_dispute_22 hout (Nat.le_of_ble_eq_true rfl) (Nat.le_of_ble_eq_true rfl) (Nat.le_of_ble_eq_true rfl) (Nat.le_of_ble_eq_true rfl) hlocks ?_ (Nat.le_of_ble_eq_true rfl) (Nat.le_of_ble_eq_true rfl)
    exact Or.inr ⟨jcall, hjcall, hkjcall, Or.inl (⟨rfl, (fun z => absurd (c_11.symm.trans z) (by decide))⟩)⟩
