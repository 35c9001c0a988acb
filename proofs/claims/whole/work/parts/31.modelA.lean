theorem mNew_key {nk nc : Nat} {M : gMd} (hok : mOK nk nc M) (h : ¬ (M 6 0) = 8) : vp_in (M 6 0) 8 := by
  obtain ⟨h1, -, h2, -⟩ := hok
  rw [h2] at h ⊢
  have : nk ≠ 8 := fun e => h (by rw [e]; rfl)
  exact vp_in_nI (by omega) (by omega)
theorem mNew_cal {nk nc : Nat} {M : gMd} (hok : mOK nk nc M) (h : ¬ (M 13 0) = 80) : vp_in (M 13 0) 80 := by
  obtain ⟨-, h1, -, h2, -⟩ := hok
  rw [h2] at h ⊢
  have : nc ≠ 80 := fun e => h (by rw [e]; rfl)
  exact vp_in_nI (by omega) (by omega)

set_option maxHeartbeats 4000000 in
set_option maxRecDepth 100000 in
/-- thrown -/
theorem c_X5_thrown (l : Launch) (D : va_G) (cy : Nat → ClassId) (de : Nat) (f : gFm) (mm : Nat) (ma : Nat → Nat) (M : gMd) (hR : Rm cy mm ma M f) : gMi l yX5_thrown wsX5_thrown { frames := 0, cells := 0, slots := 0, locals := 0 } D cy de [.ref mm] f (fun r9 f9 => r9 = (M 0 0) ∧ Rm cy mm ma M f9) 0 0 := by
  refine fun sz => Met.ofW (cc := cX5_thrown) (maxL := 1) (ret := (some .int)) (by decide) rfl ?_
  intro p e s m args below meth c s₁ B hml hv
  obtain ⟨rfl, hv⟩ := hv
  obtain ⟨rfl, hI⟩ := gP_I hv
  have hx := B.exec
  have hb := B.bytes
  have hr := B.returns
  have hts := atoms_spec (ws := wsX5_thrown) B.pre
  have hown : s.vm.findClass RX5 = some m.cls := findClass_of_methodNamed B.named
  have hlocks := B.notSynchronized
  have hinX5 : ∀ w ∈ wsX50, w ∈ wsX5_thrown := by decide +kernel
  have hw0 := hts (.fieldLink RX5 68 "TollGatewayModel" "thrown" "I") (by decide +kernel)
  have hl := lv_entry ([.ref mm]) (n := 1) (Nat.le_of_ble_eq_true rfl)
  rw [lg_entry_eq]
  generalize (lg_sl ([.ref mm]) ++ List.replicate (1 - (lg_sl ([.ref mm])).length) Slot.unset).toArray = ls at hl ⊢
  have hl : lv_has ls 1 [(0, .ref mm)] := hl
  refine lv_aload_n hx hb dX5_thrown_0 rfl (lv_at hl 0 rfl) ?_
  refine m_get hx hb hts hinX5 hown hI hR 0 (by decide) hw0 rfl rfl dX5_thrown_1 ?_
  exact g_iret hx hb hr hlocks hI ⟨(by rfl), hR⟩ (Nat.le_of_ble_eq_true rfl) (Nat.le_of_ble_eq_true rfl) dX5_thrown_4

set_option maxHeartbeats 4000000 in
set_option maxRecDepth 100000 in
/-- goesWell -/
theorem c_X5_goesWell (l : Launch) (D : va_G) (cy : Nat → ClassId) (de : Nat) (f : gFm) (mm : Nat) (ma : Nat → Nat) (M : gMd) (t0 : Int32) (hR : Rm cy mm ma M f) : gMi l yX5_goesWell wsX5_goesWell { frames := 0, cells := 0, slots := 0, locals := 0 } D cy de [.ref mm, .int t0] f (fun r9 f9 => r9 = (b2i (decide (t0 = 0))) ∧ Rm cy mm ma (mWell M t0) f9) 0 0 := by
  refine fun sz => Met.ofW (cc := cX5_goesWell) (maxL := 2) (ret := (some .boolean)) (by decide) rfl ?_
  intro p e s m args below meth c s₁ B hml hv
  obtain ⟨rfl, hv⟩ := hv
  obtain ⟨rfl, hI⟩ := gP_I hv
  have hx := B.exec
  have hb := B.bytes
  have hr := B.returns
  have hts := atoms_spec (ws := wsX5_goesWell) B.pre
  have hown : s.vm.findClass RX5 = some m.cls := findClass_of_methodNamed B.named
  have hlocks := B.notSynchronized
  have hinX5 : ∀ w ∈ wsX50, w ∈ wsX5_goesWell := by decide +kernel
  have hw0 := hts (.fieldLink RX5 68 "TollGatewayModel" "thrown" "I") (by decide +kernel)
  have hl := lv_entry ([.ref mm, .int t0]) (n := 2) (Nat.le_of_ble_eq_true rfl)
  rw [lg_entry_eq]
  generalize (lg_sl ([.ref mm, .int t0]) ++ List.replicate (2 - (lg_sl ([.ref mm, .int t0])).length) Slot.unset).toArray = ls at hl ⊢
  have hl : lv_has ls 2 [(0, .ref mm), (1, .int t0)] := hl
  refine lv_aload_n hx hb dX5_goesWell_0 rfl (lv_at hl 0 rfl) ?_
  refine lv_iload_n hx hb dX5_goesWell_1 rfl (lv_at hl 1 rfl) ?_
  refine m_put hx hb hts hinX5 hown hI hR 0 (by decide) rfl hw0 rfl rfl (by decide +kernel) dX5_goesWell_2 (fun f_1 H locs hR hI => ?_)
  obtain ⟨M_2, eM_2⟩ : ∃ z, z = mw M 0 0 t0 := ⟨_, rfl⟩
  rw [← eM_2] at hR
  refine lv_iload_n hx hb dX5_goesWell_5 rfl (lv_at hl 1 rfl) ?_
  refine lv_if_ne (tgt := 13) hx hb dX5_goesWell_6 (by decide) (fun c_3 => ?_) (fun c_3 => ?_)
  · refine lv_iconst (v := 0) hx hb dX5_goesWell_13 (by decide) ?_
    exact g_zret hx hb hr hlocks hI rfl ⟨(by simp [c_3, b2i]), (by have hE : mWell M t0 = M_2 := (by subst eM_2; rfl); rw [hE]; exact hR)⟩ (Nat.le_of_ble_eq_true rfl) (Nat.le_of_ble_eq_true rfl) dX5_goesWell_14
  · refine lv_iconst (v := 1) hx hb dX5_goesWell_9 (by decide) ?_
    refine lv_goto (tgt := 14) hx hb dX5_goesWell_10 (by decide) ?_
    exact g_zret hx hb hr hlocks hI rfl ⟨(by simp [c_3, b2i]), (by have hE : mWell M t0 = M_2 := (by subst eM_2; rfl); rw [hE]; exact hR)⟩ (Nat.le_of_ble_eq_true rfl) (Nat.le_of_ble_eq_true rfl) dX5_goesWell_14

set_option maxHeartbeats 4000000 in
set_option maxRecDepth 100000 in
/-- in -/
theorem c_X5_in (l : Launch) (D : va_G) (cy : Nat → ClassId) (de : Nat) (f : gFm) (mm : Nat) (ma : Nat → Nat) (M : gMd) (v0 : Int32) (a0 : Int32) (b0 : Int32) (hR : Rm cy mm ma M f) : gMi l yX5_in wsX5_in { frames := 0, cells := 0, slots := 0, locals := 0 } D cy de [.int v0, .int a0, .int b0] f (fun r9 f9 => r9 = (b2i (mIn v0 a0 b0)) ∧ Rm cy mm ma M f9) 0 0 := by
  refine fun sz => Met.ofW (cc := cX5_in) (maxL := 3) (ret := (some .boolean)) (by decide) rfl ?_
  intro p e s m args below meth c s₁ B hml hv
  obtain ⟨rfl, hv⟩ := hv
  obtain ⟨rfl, hI⟩ := gP_I hv
  have hx := B.exec
  have hb := B.bytes
  have hr := B.returns
  have hts := atoms_spec (ws := wsX5_in) B.pre
  have hown : s.vm.findClass RX5 = some m.cls := findClass_of_methodNamed B.named
  have hlocks := B.notSynchronized
  have hl := lv_entry ([.int v0, .int a0, .int b0]) (n := 3) (Nat.le_of_ble_eq_true rfl)
  rw [lg_entry_eq]
  generalize (lg_sl ([.int v0, .int a0, .int b0]) ++ List.replicate (3 - (lg_sl ([.int v0, .int a0, .int b0])).length) Slot.unset).toArray = ls at hl ⊢
  have hl : lv_has ls 3 [(0, .int v0), (1, .int a0), (2, .int b0)] := hl
  refine lv_iload_n hx hb dX5_in_0 rfl (lv_at hl 0 rfl) ?_
  refine lv_iload_n hx hb dX5_in_1 rfl (lv_at hl 1 rfl) ?_
  refine lv_icmp_lt (tgt := 14) hx hb dX5_in_2 (by decide) (fun c_1 => ?_) (fun c_1 => ?_)
  · refine lv_iconst (v := 0) hx hb dX5_in_14 (by decide) ?_
    exact g_zret hx hb hr hlocks hI rfl ⟨(by simp only [mIn, c_1, if_true, if_false, ↓reduceIte, Bool.true_eq_false, Bool.false_eq_true, true_and, and_true, and_false, false_and, or_true, true_or, or_false, false_or, not_true_eq_false, not_false_eq_true, Bool.and_true, Bool.true_and, Bool.and_false, Bool.false_and, Bool.not_true, Bool.not_false, decide_true, decide_false, cond_true, cond_false, b2i]), hR⟩ (Nat.le_of_ble_eq_true rfl) (Nat.le_of_ble_eq_true rfl) dX5_in_15
  · refine lv_iload_n hx hb dX5_in_5 rfl (lv_at hl 0 rfl) ?_
    refine lv_iload_n hx hb dX5_in_6 rfl (lv_at hl 2 rfl) ?_
    refine lv_icmp_gt (tgt := 14) hx hb dX5_in_7 (by decide) (fun c_2 => ?_) (fun c_2 => ?_)
    · refine lv_iconst (v := 0) hx hb dX5_in_14 (by decide) ?_
      exact g_zret hx hb hr hlocks hI rfl ⟨(by simp only [mIn, c_1, c_2, if_true, if_false, ↓reduceIte, Bool.true_eq_false, Bool.false_eq_true, true_and, and_true, and_false, false_and, or_true, true_or, or_false, false_or, not_true_eq_false, not_false_eq_true, Bool.and_true, Bool.true_and, Bool.and_false, Bool.false_and, Bool.not_true, Bool.not_false, decide_true, decide_false, cond_true, cond_false, b2i]), hR⟩ (Nat.le_of_ble_eq_true rfl) (Nat.le_of_ble_eq_true rfl) dX5_in_15
    · refine lv_iconst (v := 1) hx hb dX5_in_10 (by decide) ?_
      refine lv_goto (tgt := 15) hx hb dX5_in_11 (by decide) ?_
      exact g_zret hx hb hr hlocks hI rfl ⟨(by simp only [mIn, c_1, c_2, if_true, if_false, ↓reduceIte, Bool.true_eq_false, Bool.false_eq_true, true_and, and_true, and_false, false_and, or_true, true_or, or_false, false_or, not_true_eq_false, not_false_eq_true, Bool.and_true, Bool.true_and, Bool.and_false, Bool.false_and, Bool.not_true, Bool.not_false, decide_true, decide_false, cond_true, cond_false, b2i]), hR⟩ (Nat.le_of_ble_eq_true rfl) (Nat.le_of_ble_eq_true rfl) dX5_in_15

set_option maxHeartbeats 4000000 in
set_option maxRecDepth 100000 in
/-- isPlan -/
theorem c_X5_isPlan (l : Launch) (D : va_G) (cy : Nat → ClassId) (de : Nat) (f : gFm) (mm : Nat) (ma : Nat → Nat) (M : gMd) (v0 : Int32) (hR : Rm cy mm ma M f) : gMi l yX5_isPlan wsX5_isPlan { frames := 1, cells := 0, slots := 0, locals := 22 } D cy de [.int v0] f (fun r9 f9 => r9 = (b2i (mIn v0 0 3)) ∧ Rm cy mm ma M f9) 0 0 := by
  refine fun sz => Met.ofW (cc := cX5_isPlan) (maxL := 1) (ret := (some .boolean)) (by decide) rfl ?_
  intro p e s m args below meth c s₁ B hml hv
  obtain ⟨rfl, hv⟩ := hv
  obtain ⟨rfl, hI⟩ := gP_I hv
  have hx := B.exec
  have hb := B.bytes
  have hr := B.returns
  have hts := atoms_spec (ws := wsX5_isPlan) B.pre
  have hown : s.vm.findClass RX5 = some m.cls := findClass_of_methodNamed B.named
  have hlocks := B.notSynchronized
  have hl := lv_entry ([.int v0]) (n := 1) (Nat.le_of_ble_eq_true rfl)
  rw [lg_entry_eq]
  generalize (lg_sl ([.int v0]) ++ List.replicate (1 - (lg_sl ([.int v0])).length) Slot.unset).toArray = ls at hl ⊢
  have hl : lv_has ls 1 [(0, .int v0)] := hl
  refine lv_iload_n hx hb dX5_isPlan_0 rfl (lv_at hl 0 rfl) ?_
  refine lv_iconst (v := 0) hx hb dX5_isPlan_1 (by decide) ?_
  refine lv_iconst (v := 3) hx hb dX5_isPlan_2 (by decide) ?_
  refine g_calli hI (va_runS (As := [.int v0, .int 0, .int 3]) (rest := []) ⟨hx, hb, hml, hown, hts⟩ (c_X5_in l D cy de f mm ma M v0 0 3 hR s.heap.size) (va_cwS 3 hts gX5_isPlan_X5_in rfl rfl rfl (by decide +kernel) ⟨Nat.le_of_ble_eq_true rfl, Nat.le_of_ble_eq_true rfl⟩) (g_preS hI) rfl rfl hl.1 rfl (lv_room (Nat.le_of_ble_eq_true rfl)) dX5_isPlan_3 ⟨Nat.le_of_ble_eq_true rfl, Nat.le_of_ble_eq_true rfl⟩) (fun r_1 f_2 H locs hw_3 hI => ?_)
  obtain ⟨rfl, hR⟩ := hw_3
  exact g_zret hx hb hr hlocks hI (b2i_nar _) ⟨(by rfl), hR⟩ (Nat.le_of_ble_eq_true rfl) (Nat.le_of_ble_eq_true rfl) dX5_isPlan_6

set_option maxHeartbeats 4000000 in
set_option maxRecDepth 100000 in
/-- isRoute -/
theorem c_X5_isRoute (l : Launch) (D : va_G) (cy : Nat → ClassId) (de : Nat) (f : gFm) (mm : Nat) (ma : Nat → Nat) (M : gMd) (v0 : Int32) (hR : Rm cy mm ma M f) : gMi l yX5_isRoute wsX5_isRoute { frames := 1, cells := 0, slots := 0, locals := 22 } D cy de [.int v0] f (fun r9 f9 => r9 = (b2i (mIn v0 0 5)) ∧ Rm cy mm ma M f9) 0 0 := by
  refine fun sz => Met.ofW (cc := cX5_isRoute) (maxL := 1) (ret := (some .boolean)) (by decide) rfl ?_
  intro p e s m args below meth c s₁ B hml hv
  obtain ⟨rfl, hv⟩ := hv
  obtain ⟨rfl, hI⟩ := gP_I hv
  have hx := B.exec
  have hb := B.bytes
  have hr := B.returns
  have hts := atoms_spec (ws := wsX5_isRoute) B.pre
  have hown : s.vm.findClass RX5 = some m.cls := findClass_of_methodNamed B.named
  have hlocks := B.notSynchronized
  have hl := lv_entry ([.int v0]) (n := 1) (Nat.le_of_ble_eq_true rfl)
  rw [lg_entry_eq]
  generalize (lg_sl ([.int v0]) ++ List.replicate (1 - (lg_sl ([.int v0])).length) Slot.unset).toArray = ls at hl ⊢
  have hl : lv_has ls 1 [(0, .int v0)] := hl
  refine lv_iload_n hx hb dX5_isRoute_0 rfl (lv_at hl 0 rfl) ?_
  refine lv_iconst (v := 0) hx hb dX5_isRoute_1 (by decide) ?_
  refine lv_iconst (v := 5) hx hb dX5_isRoute_2 (by decide) ?_
  refine g_calli hI (va_runS (As := [.int v0, .int 0, .int 5]) (rest := []) ⟨hx, hb, hml, hown, hts⟩ (c_X5_in l D cy de f mm ma M v0 0 5 hR s.heap.size) (va_cwS 3 hts gX5_isRoute_X5_in rfl rfl rfl (by decide +kernel) ⟨Nat.le_of_ble_eq_true rfl, Nat.le_of_ble_eq_true rfl⟩) (g_preS hI) rfl rfl hl.1 rfl (lv_room (Nat.le_of_ble_eq_true rfl)) dX5_isRoute_3 ⟨Nat.le_of_ble_eq_true rfl, Nat.le_of_ble_eq_true rfl⟩) (fun r_1 f_2 H locs hw_3 hI => ?_)
  obtain ⟨rfl, hR⟩ := hw_3
  exact g_zret hx hb hr hlocks hI (b2i_nar _) ⟨(by rfl), hR⟩ (Nat.le_of_ble_eq_true rfl) (Nat.le_of_ble_eq_true rfl) dX5_isRoute_6

set_option maxHeartbeats 4000000 in
set_option maxRecDepth 100000 in
/-- isKey -/
theorem c_X5_isKey (l : Launch) (D : va_G) (cy : Nat → ClassId) (de : Nat) (f : gFm) (mm : Nat) (ma : Nat → Nat) (M : gMd) (v0 : Int32) (hR : Rm cy mm ma M f) : gMi l yX5_isKey wsX5_isKey { frames := 1, cells := 0, slots := 0, locals := 22 } D cy de [.ref mm, .int v0] f (fun r9 f9 => r9 = (b2i (mIn v0 0 (M 6 0 - 1))) ∧ Rm cy mm ma M f9) 0 0 := by
  refine fun sz => Met.ofW (cc := cX5_isKey) (maxL := 2) (ret := (some .boolean)) (by decide) rfl ?_
  intro p e s m args below meth c s₁ B hml hv
  obtain ⟨rfl, hv⟩ := hv
  obtain ⟨rfl, hI⟩ := gP_I hv
  have hx := B.exec
  have hb := B.bytes
  have hr := B.returns
  have hts := atoms_spec (ws := wsX5_isKey) B.pre
  have hown : s.vm.findClass RX5 = some m.cls := findClass_of_methodNamed B.named
  have hlocks := B.notSynchronized
  have hinX5 : ∀ w ∈ wsX50, w ∈ wsX5_isKey := by decide +kernel
  have hw0 := hts (.fieldLink RX5 76 "TollGatewayModel" "keys" "I") (by decide +kernel)
  have hl := lv_entry ([.ref mm, .int v0]) (n := 2) (Nat.le_of_ble_eq_true rfl)
  rw [lg_entry_eq]
  generalize (lg_sl ([.ref mm, .int v0]) ++ List.replicate (2 - (lg_sl ([.ref mm, .int v0])).length) Slot.unset).toArray = ls at hl ⊢
  have hl : lv_has ls 2 [(0, .ref mm), (1, .int v0)] := hl
  refine lv_iload_n hx hb dX5_isKey_0 rfl (lv_at hl 1 rfl) ?_
  refine lv_iconst (v := 0) hx hb dX5_isKey_1 (by decide) ?_
  refine lv_aload_n hx hb dX5_isKey_2 rfl (lv_at hl 0 rfl) ?_
  refine m_get hx hb hts hinX5 hown hI hR 6 (by decide) hw0 rfl rfl dX5_isKey_3 ?_
  refine lv_iconst (v := 1) hx hb dX5_isKey_6 (by decide) ?_
  refine lv_isub hx hb dX5_isKey_7 ?_
  refine g_calli hI (va_runS (As := [.int v0, .int 0, .int ((M 6 0) - 1)]) (rest := []) ⟨hx, hb, hml, hown, hts⟩ (c_X5_in l D cy de f mm ma M v0 0 ((M 6 0) - 1) hR s.heap.size) (va_cwS 3 hts gX5_isKey_X5_in rfl rfl rfl (by decide +kernel) ⟨Nat.le_of_ble_eq_true rfl, Nat.le_of_ble_eq_true rfl⟩) (g_preS hI) rfl rfl hl.1 rfl (lv_room (Nat.le_of_ble_eq_true rfl)) dX5_isKey_8 ⟨Nat.le_of_ble_eq_true rfl, Nat.le_of_ble_eq_true rfl⟩) (fun r_1 f_2 H locs hw_3 hI => ?_)
  obtain ⟨rfl, hR⟩ := hw_3
  exact g_zret hx hb hr hlocks hI (b2i_nar _) ⟨(by rfl), hR⟩ (Nat.le_of_ble_eq_true rfl) (Nat.le_of_ble_eq_true rfl) dX5_isKey_11

set_option maxHeartbeats 4000000 in
set_option maxRecDepth 100000 in
/-- isCall -/
theorem c_X5_isCall (l : Launch) (D : va_G) (cy : Nat → ClassId) (de : Nat) (f : gFm) (mm : Nat) (ma : Nat → Nat) (M : gMd) (v0 : Int32) (hR : Rm cy mm ma M f) : gMi l yX5_isCall wsX5_isCall { frames := 1, cells := 0, slots := 0, locals := 22 } D cy de [.ref mm, .int v0] f (fun r9 f9 => r9 = (b2i (mIn v0 0 (M 13 0 - 1))) ∧ Rm cy mm ma M f9) 0 0 := by
  refine fun sz => Met.ofW (cc := cX5_isCall) (maxL := 2) (ret := (some .boolean)) (by decide) rfl ?_
  intro p e s m args below meth c s₁ B hml hv
  obtain ⟨rfl, hv⟩ := hv
  obtain ⟨rfl, hI⟩ := gP_I hv
  have hx := B.exec
  have hb := B.bytes
  have hr := B.returns
  have hts := atoms_spec (ws := wsX5_isCall) B.pre
  have hown : s.vm.findClass RX5 = some m.cls := findClass_of_methodNamed B.named
  have hlocks := B.notSynchronized
  have hinX5 : ∀ w ∈ wsX50, w ∈ wsX5_isCall := by decide +kernel
  have hw0 := hts (.fieldLink RX5 79 "TollGatewayModel" "calls" "I") (by decide +kernel)
  have hl := lv_entry ([.ref mm, .int v0]) (n := 2) (Nat.le_of_ble_eq_true rfl)
  rw [lg_entry_eq]
  generalize (lg_sl ([.ref mm, .int v0]) ++ List.replicate (2 - (lg_sl ([.ref mm, .int v0])).length) Slot.unset).toArray = ls at hl ⊢
  have hl : lv_has ls 2 [(0, .ref mm), (1, .int v0)] := hl
  refine lv_iload_n hx hb dX5_isCall_0 rfl (lv_at hl 1 rfl) ?_
  refine lv_iconst (v := 0) hx hb dX5_isCall_1 (by decide) ?_
  refine lv_aload_n hx hb dX5_isCall_2 rfl (lv_at hl 0 rfl) ?_
  refine m_get hx hb hts hinX5 hown hI hR 13 (by decide) hw0 rfl rfl dX5_isCall_3 ?_
  refine lv_iconst (v := 1) hx hb dX5_isCall_6 (by decide) ?_
  refine lv_isub hx hb dX5_isCall_7 ?_
  refine g_calli hI (va_runS (As := [.int v0, .int 0, .int ((M 13 0) - 1)]) (rest := []) ⟨hx, hb, hml, hown, hts⟩ (c_X5_in l D cy de f mm ma M v0 0 ((M 13 0) - 1) hR s.heap.size) (va_cwS 3 hts gX5_isCall_X5_in rfl rfl rfl (by decide +kernel) ⟨Nat.le_of_ble_eq_true rfl, Nat.le_of_ble_eq_true rfl⟩) (g_preS hI) rfl rfl hl.1 rfl (lv_room (Nat.le_of_ble_eq_true rfl)) dX5_isCall_8 ⟨Nat.le_of_ble_eq_true rfl, Nat.le_of_ble_eq_true rfl⟩) (fun r_1 f_2 H locs hw_3 hI => ?_)
  obtain ⟨rfl, hR⟩ := hw_3
  exact g_zret hx hb hr hlocks hI (b2i_nar _) ⟨(by rfl), hR⟩ (Nat.le_of_ble_eq_true rfl) (Nat.le_of_ble_eq_true rfl) dX5_isCall_11

set_option maxHeartbeats 4000000 in
set_option maxRecDepth 100000 in
/-- setPlan -/
theorem c_X5_setPlan (l : Launch) (D : va_G) (cy : Nat → ClassId) (de : Nat) (f : gFm) (mm : Nat) (ma : Nat → Nat) (M : gMd) (pl : Int32) (sz : Int32) (rf : Int32) (sl : Int32) (hR : Rm cy mm ma M f) : gMv l yX5_setPlan wsX5_setPlan { frames := 2, cells := 0, slots := 0, locals := 42 } D cy de [.ref mm, .int pl, .int sz, .int rf, .int sl] f (fun f9 => Rm cy mm ma (mSetPlan M pl sz rf sl) f9) 0 0 := by
  refine fun sz => Met.ofW (cc := cX5_setPlan) (maxL := 5) (ret := none) (by decide) rfl ?_
  intro p e s m args below meth c s₁ B hml hv
  obtain ⟨rfl, hv⟩ := hv
  obtain ⟨rfl, hI⟩ := gP_I hv
  have hx := B.exec
  have hb := B.bytes
  have hr := B.returns
  have hts := atoms_spec (ws := wsX5_setPlan) B.pre
  have hown : s.vm.findClass RX5 = some m.cls := findClass_of_methodNamed B.named
  have hlocks := B.notSynchronized
  have hinX5 : ∀ w ∈ wsX50, w ∈ wsX5_setPlan := by decide +kernel
  have hw0 := hts (.fieldLink RX5 7 "TollGatewayModel" "sizes" "[I") (by decide +kernel)
  have hw1 := hts (.fieldLink RX5 13 "TollGatewayModel" "refills" "[I") (by decide +kernel)
  have hw2 := hts (.fieldLink RX5 16 "TollGatewayModel" "slows" "[I") (by decide +kernel)
  have hl := lv_entry ([.ref mm, .int pl, .int sz, .int rf, .int sl]) (n := 5) (Nat.le_of_ble_eq_true rfl)
  rw [lg_entry_eq]
  generalize (lg_sl ([.ref mm, .int pl, .int sz, .int rf, .int sl]) ++ List.replicate (5 - (lg_sl ([.ref mm, .int pl, .int sz, .int rf, .int sl])).length) Slot.unset).toArray = ls at hl ⊢
  have hl : lv_has ls 5 [(0, .ref mm), (1, .int pl), (2, .int sz), (3, .int rf), (4, .int sl)] := hl
  refine lv_aload_n hx hb dX5_setPlan_0 rfl (lv_at hl 0 rfl) ?_
  refine lv_iload_n hx hb dX5_setPlan_1 rfl (lv_at hl 1 rfl) ?_
  refine g_calli hI (va_runS (As := [.int pl]) (rest := [.ref mm]) ⟨hx, hb, hml, hown, hts⟩ (c_X5_isPlan l D cy de f mm ma M pl hR s.heap.size) (va_cwS 1 hts gX5_setPlan_X5_isPlan rfl rfl rfl (by decide +kernel) ⟨Nat.le_of_ble_eq_true rfl, Nat.le_of_ble_eq_true rfl⟩) (g_preS hI) rfl rfl hl.1 rfl (lv_room (Nat.le_of_ble_eq_true rfl)) dX5_setPlan_2 ⟨Nat.le_of_ble_eq_true rfl, Nat.le_of_ble_eq_true rfl⟩) (fun r_1 f_2 H locs hw_3 hI => ?_)
  obtain ⟨rfl, hR⟩ := hw_3
  refine g_b2i_eq (tgt := 42) hx hb dX5_setPlan_5 (by decide) (fun c_4 => ?_) (fun c_4 => ?_)
  · refine lv_iconst (v := 1) hx hb dX5_setPlan_42 (by decide) ?_
    refine g_calli hI (va_runV (As := [.int 1]) (rest := []) ⟨hx, hb, hml, hown, hts⟩ (c_X5_goesWell l D cy de f_2 mm ma M 1 hR H.size) (cwV 1 hts gX5_setPlan_X5_goesWell rfl rfl rfl (by decide +kernel) ⟨Nat.le_of_ble_eq_true rfl, Nat.le_of_ble_eq_true rfl⟩) (g_preV hI hR.1 rfl) rfl rfl hl.1 rfl (lv_room (Nat.le_of_ble_eq_true rfl)) dX5_setPlan_43 ⟨Nat.le_of_ble_eq_true rfl, Nat.le_of_ble_eq_true rfl⟩) (fun r_5 f_6 H locs hw_7 hI => ?_)
    obtain ⟨rfl, hR⟩ := hw_7
    obtain ⟨M_8, eM_8⟩ : ∃ z, z = mWell M 1 := ⟨_, rfl⟩
    rw [← eM_8] at hR
    refine g_b2i_eq (tgt := 71) hx hb dX5_setPlan_46 (by decide) (fun _ => ?_) (fun z => absurd z (by decide))
    exact g_vret hx hb hr hlocks hI (by have hE : mSetPlan M pl sz rf sl = M_8 := (by simp only [mSetPlan, c_4, if_true, if_false, ↓reduceIte, Bool.true_eq_false, Bool.false_eq_true, true_and, and_true, and_false, false_and, or_true, true_or, or_false, false_or, not_true_eq_false, not_false_eq_true, Bool.and_true, Bool.true_and, Bool.and_false, Bool.false_and, Bool.not_true, Bool.not_false, decide_true, decide_false, cond_true, cond_false] <;> (subst eM_8; rfl)); rw [hE]; exact hR) (Nat.le_of_ble_eq_true rfl) (Nat.le_of_ble_eq_true rfl) dX5_setPlan_71
  · refine lv_iload_n hx hb dX5_setPlan_8 rfl (lv_at hl 2 rfl) ?_
    refine lv_iconst (v := 1) hx hb dX5_setPlan_9 (by decide) ?_
    refine lv_bipush (v := 100) hx hb dX5_setPlan_10 (by decide) ?_
    refine g_calli hI (va_runS (As := [.int sz, .int 1, .int 100]) (rest := [.ref mm]) ⟨hx, hb, hml, hown, hts⟩ (c_X5_in l D cy de f_2 mm ma M sz 1 100 hR H.size) (va_cwS 3 hts gX5_setPlan_X5_in rfl rfl rfl (by decide +kernel) ⟨Nat.le_of_ble_eq_true rfl, Nat.le_of_ble_eq_true rfl⟩) (g_preS hI) rfl rfl hl.1 rfl (lv_room (Nat.le_of_ble_eq_true rfl)) dX5_setPlan_12 ⟨Nat.le_of_ble_eq_true rfl, Nat.le_of_ble_eq_true rfl⟩) (fun r_10 f_11 H locs hw_12 hI => ?_)
    obtain ⟨rfl, hR⟩ := hw_12
    refine g_b2i_eq (tgt := 42) hx hb dX5_setPlan_15 (by decide) (fun c_13 => ?_) (fun c_13 => ?_)
    · refine lv_iconst (v := 1) hx hb dX5_setPlan_42 (by decide) ?_
      refine g_calli hI (va_runV (As := [.int 1]) (rest := []) ⟨hx, hb, hml, hown, hts⟩ (c_X5_goesWell l D cy de f_11 mm ma M 1 hR H.size) (cwV 1 hts gX5_setPlan_X5_goesWell rfl rfl rfl (by decide +kernel) ⟨Nat.le_of_ble_eq_true rfl, Nat.le_of_ble_eq_true rfl⟩) (g_preV hI hR.1 rfl) rfl rfl hl.1 rfl (lv_room (Nat.le_of_ble_eq_true rfl)) dX5_setPlan_43 ⟨Nat.le_of_ble_eq_true rfl, Nat.le_of_ble_eq_true rfl⟩) (fun r_14 f_15 H locs hw_16 hI => ?_)
      obtain ⟨rfl, hR⟩ := hw_16
      obtain ⟨M_17, eM_17⟩ : ∃ z, z = mWell M 1 := ⟨_, rfl⟩
      rw [← eM_17] at hR
      refine g_b2i_eq (tgt := 71) hx hb dX5_setPlan_46 (by decide) (fun _ => ?_) (fun z => absurd z (by decide))
      exact g_vret hx hb hr hlocks hI (by have hE : mSetPlan M pl sz rf sl = M_17 := (by simp only [mSetPlan, c_4, c_13, if_true, if_false, ↓reduceIte, Bool.true_eq_false, Bool.false_eq_true, true_and, and_true, and_false, false_and, or_true, true_or, or_false, false_or, not_true_eq_false, not_false_eq_true, Bool.and_true, Bool.true_and, Bool.and_false, Bool.false_and, Bool.not_true, Bool.not_false, decide_true, decide_false, cond_true, cond_false] <;> (subst eM_17; rfl)); rw [hE]; exact hR) (Nat.le_of_ble_eq_true rfl) (Nat.le_of_ble_eq_true rfl) dX5_setPlan_71
    · refine lv_iload_n hx hb dX5_setPlan_18 rfl (lv_at hl 3 rfl) ?_
      refine lv_iconst (v := 0) hx hb dX5_setPlan_19 (by decide) ?_
      refine lv_bipush (v := 100) hx hb dX5_setPlan_20 (by decide) ?_
      refine g_calli hI (va_runS (As := [.int rf, .int 0, .int 100]) (rest := [.ref mm]) ⟨hx, hb, hml, hown, hts⟩ (c_X5_in l D cy de f_11 mm ma M rf 0 100 hR H.size) (va_cwS 3 hts gX5_setPlan_X5_in rfl rfl rfl (by decide +kernel) ⟨Nat.le_of_ble_eq_true rfl, Nat.le_of_ble_eq_true rfl⟩) (g_preS hI) rfl rfl hl.1 rfl (lv_room (Nat.le_of_ble_eq_true rfl)) dX5_setPlan_22 ⟨Nat.le_of_ble_eq_true rfl, Nat.le_of_ble_eq_true rfl⟩) (fun r_19 f_20 H locs hw_21 hI => ?_)
      obtain ⟨rfl, hR⟩ := hw_21
      refine g_b2i_eq (tgt := 42) hx hb dX5_setPlan_25 (by decide) (fun c_22 => ?_) (fun c_22 => ?_)
      · refine lv_iconst (v := 1) hx hb dX5_setPlan_42 (by decide) ?_
        refine g_calli hI (va_runV (As := [.int 1]) (rest := []) ⟨hx, hb, hml, hown, hts⟩ (c_X5_goesWell l D cy de f_20 mm ma M 1 hR H.size) (cwV 1 hts gX5_setPlan_X5_goesWell rfl rfl rfl (by decide +kernel) ⟨Nat.le_of_ble_eq_true rfl, Nat.le_of_ble_eq_true rfl⟩) (g_preV hI hR.1 rfl) rfl rfl hl.1 rfl (lv_room (Nat.le_of_ble_eq_true rfl)) dX5_setPlan_43 ⟨Nat.le_of_ble_eq_true rfl, Nat.le_of_ble_eq_true rfl⟩) (fun r_23 f_24 H locs hw_25 hI => ?_)
        obtain ⟨rfl, hR⟩ := hw_25
        obtain ⟨M_26, eM_26⟩ : ∃ z, z = mWell M 1 := ⟨_, rfl⟩
        rw [← eM_26] at hR
        refine g_b2i_eq (tgt := 71) hx hb dX5_setPlan_46 (by decide) (fun _ => ?_) (fun z => absurd z (by decide))
        exact g_vret hx hb hr hlocks hI (by have hE : mSetPlan M pl sz rf sl = M_26 := (by simp only [mSetPlan, c_4, c_13, c_22, if_true, if_false, ↓reduceIte, Bool.true_eq_false, Bool.false_eq_true, true_and, and_true, and_false, false_and, or_true, true_or, or_false, false_or, not_true_eq_false, not_false_eq_true, Bool.and_true, Bool.true_and, Bool.and_false, Bool.false_and, Bool.not_true, Bool.not_false, decide_true, decide_false, cond_true, cond_false] <;> (subst eM_26; rfl)); rw [hE]; exact hR) (Nat.le_of_ble_eq_true rfl) (Nat.le_of_ble_eq_true rfl) dX5_setPlan_71
      · refine lv_iload hx hb dX5_setPlan_28 (lv_at hl 4 rfl) ?_
        refine lv_iconst (v := 0) hx hb dX5_setPlan_30 (by decide) ?_
        refine lv_iload_n hx hb dX5_setPlan_31 rfl (lv_at hl 3 rfl) ?_
        refine g_calli hI (va_runS (As := [.int sl, .int 0, .int rf]) (rest := [.ref mm]) ⟨hx, hb, hml, hown, hts⟩ (c_X5_in l D cy de f_20 mm ma M sl 0 rf hR H.size) (va_cwS 3 hts gX5_setPlan_X5_in rfl rfl rfl (by decide +kernel) ⟨Nat.le_of_ble_eq_true rfl, Nat.le_of_ble_eq_true rfl⟩) (g_preS hI) rfl rfl hl.1 rfl (lv_room (Nat.le_of_ble_eq_true rfl)) dX5_setPlan_32 ⟨Nat.le_of_ble_eq_true rfl, Nat.le_of_ble_eq_true rfl⟩) (fun r_28 f_29 H locs hw_30 hI => ?_)
        obtain ⟨rfl, hR⟩ := hw_30
        refine g_b2i_eq (tgt := 42) hx hb dX5_setPlan_35 (by decide) (fun c_31 => ?_) (fun c_31 => ?_)
        · refine lv_iconst (v := 1) hx hb dX5_setPlan_42 (by decide) ?_
          refine g_calli hI (va_runV (As := [.int 1]) (rest := []) ⟨hx, hb, hml, hown, hts⟩ (c_X5_goesWell l D cy de f_29 mm ma M 1 hR H.size) (cwV 1 hts gX5_setPlan_X5_goesWell rfl rfl rfl (by decide +kernel) ⟨Nat.le_of_ble_eq_true rfl, Nat.le_of_ble_eq_true rfl⟩) (g_preV hI hR.1 rfl) rfl rfl hl.1 rfl (lv_room (Nat.le_of_ble_eq_true rfl)) dX5_setPlan_43 ⟨Nat.le_of_ble_eq_true rfl, Nat.le_of_ble_eq_true rfl⟩) (fun r_32 f_33 H locs hw_34 hI => ?_)
          obtain ⟨rfl, hR⟩ := hw_34
          obtain ⟨M_35, eM_35⟩ : ∃ z, z = mWell M 1 := ⟨_, rfl⟩
          rw [← eM_35] at hR
          refine g_b2i_eq (tgt := 71) hx hb dX5_setPlan_46 (by decide) (fun _ => ?_) (fun z => absurd z (by decide))
          exact g_vret hx hb hr hlocks hI (by have hE : mSetPlan M pl sz rf sl = M_35 := (by simp only [mSetPlan, c_4, c_13, c_22, c_31, if_true, if_false, ↓reduceIte, Bool.true_eq_false, Bool.false_eq_true, true_and, and_true, and_false, false_and, or_true, true_or, or_false, false_or, not_true_eq_false, not_false_eq_true, Bool.and_true, Bool.true_and, Bool.and_false, Bool.false_and, Bool.not_true, Bool.not_false, decide_true, decide_false, cond_true, cond_false] <;> (subst eM_35; rfl)); rw [hE]; exact hR) (Nat.le_of_ble_eq_true rfl) (Nat.le_of_ble_eq_true rfl) dX5_setPlan_71
        · refine lv_iconst (v := 0) hx hb dX5_setPlan_38 (by decide) ?_
          refine lv_goto (tgt := 43) hx hb dX5_setPlan_39 (by decide) ?_
          refine g_calli hI (va_runV (As := [.int 0]) (rest := []) ⟨hx, hb, hml, hown, hts⟩ (c_X5_goesWell l D cy de f_29 mm ma M 0 hR H.size) (cwV 1 hts gX5_setPlan_X5_goesWell rfl rfl rfl (by decide +kernel) ⟨Nat.le_of_ble_eq_true rfl, Nat.le_of_ble_eq_true rfl⟩) (g_preV hI hR.1 rfl) rfl rfl hl.1 rfl (lv_room (Nat.le_of_ble_eq_true rfl)) dX5_setPlan_43 ⟨Nat.le_of_ble_eq_true rfl, Nat.le_of_ble_eq_true rfl⟩) (fun r_37 f_38 H locs hw_39 hI => ?_)
          obtain ⟨rfl, hR⟩ := hw_39
          obtain ⟨M_40, eM_40⟩ : ∃ z, z = mWell M 0 := ⟨_, rfl⟩
          rw [← eM_40] at hR
          refine g_b2i_eq (tgt := 71) hx hb dX5_setPlan_46 (by decide) (fun z => absurd z (by decide)) (fun _ => ?_)
          refine lv_aload_n hx hb dX5_setPlan_49 rfl (lv_at hl 0 rfl) ?_
          refine m_get hx hb hts hinX5 hown hI hR 1 (by decide) hw0 rfl rfl dX5_setPlan_50 ?_
          refine lv_iload_n hx hb dX5_setPlan_53 rfl (lv_at hl 1 rfl) ?_
          refine lv_iload_n hx hb dX5_setPlan_54 rfl (lv_at hl 2 rfl) ?_
          refine m_iast hx hb hI hR 1 rfl rfl (mIn_3 c_4) dX5_setPlan_55 (fun f_42 H locs hR hI => ?_)
          obtain ⟨M_43, eM_43⟩ : ∃ z, z = mw M_40 1 (ix pl) sz := ⟨_, rfl⟩
          rw [← eM_43] at hR
          refine lv_aload_n hx hb dX5_setPlan_56 rfl (lv_at hl 0 rfl) ?_
          refine m_get hx hb hts hinX5 hown hI hR 2 (by decide) hw1 rfl rfl dX5_setPlan_57 ?_
          refine lv_iload_n hx hb dX5_setPlan_60 rfl (lv_at hl 1 rfl) ?_
          refine lv_iload_n hx hb dX5_setPlan_61 rfl (lv_at hl 3 rfl) ?_
          refine m_iast hx hb hI hR 2 rfl rfl (mIn_3 c_4) dX5_setPlan_62 (fun f_44 H locs hR hI => ?_)
          obtain ⟨M_45, eM_45⟩ : ∃ z, z = mw M_43 2 (ix pl) rf := ⟨_, rfl⟩
          rw [← eM_45] at hR
          refine lv_aload_n hx hb dX5_setPlan_63 rfl (lv_at hl 0 rfl) ?_
          refine m_get hx hb hts hinX5 hown hI hR 3 (by decide) hw2 rfl rfl dX5_setPlan_64 ?_
          refine lv_iload_n hx hb dX5_setPlan_67 rfl (lv_at hl 1 rfl) ?_
          refine lv_iload hx hb dX5_setPlan_68 (lv_at hl 4 rfl) ?_
          refine m_iast hx hb hI hR 3 rfl rfl (mIn_3 c_4) dX5_setPlan_70 (fun f_46 H locs hR hI => ?_)
          obtain ⟨M_47, eM_47⟩ : ∃ z, z = mw M_45 3 (ix pl) sl := ⟨_, rfl⟩
          rw [← eM_47] at hR
          exact g_vret hx hb hr hlocks hI (by have hE : mSetPlan M pl sz rf sl = M_47 := (by simp only [mSetPlan, c_4, c_13, c_22, c_31, if_true, if_false, ↓reduceIte, Bool.true_eq_false, Bool.false_eq_true, true_and, and_true, and_false, false_and, or_true, true_or, or_false, false_or, not_true_eq_false, not_false_eq_true, Bool.and_true, Bool.true_and, Bool.and_false, Bool.false_and, Bool.not_true, Bool.not_false, decide_true, decide_false, cond_true, cond_false] <;> (subst eM_47; subst eM_45; subst eM_43; subst eM_40; rfl)); rw [hE]; exact hR) (Nat.le_of_ble_eq_true rfl) (Nat.le_of_ble_eq_true rfl) dX5_setPlan_71

set_option maxHeartbeats 4000000 in
set_option maxRecDepth 100000 in
/-- setRoute -/
theorem c_X5_setRoute (l : Launch) (D : va_G) (cy : Nat → ClassId) (de : Nat) (f : gFm) (mm : Nat) (ma : Nat → Nat) (M : gMd) (ro : Int32) (pr : Int32) (wt : Int32) (hR : Rm cy mm ma M f) : gMv l yX5_setRoute wsX5_setRoute { frames := 2, cells := 0, slots := 0, locals := 42 } D cy de [.ref mm, .int ro, .int pr, .int wt] f (fun f9 => Rm cy mm ma (mSetRoute M ro pr wt) f9) 0 0 := by
  refine fun sz => Met.ofW (cc := cX5_setRoute) (maxL := 4) (ret := none) (by decide) rfl ?_
  intro p e s m args below meth c s₁ B hml hv
  obtain ⟨rfl, hv⟩ := hv
  obtain ⟨rfl, hI⟩ := gP_I hv
  have hx := B.exec
  have hb := B.bytes
  have hr := B.returns
  have hts := atoms_spec (ws := wsX5_setRoute) B.pre
  have hown : s.vm.findClass RX5 = some m.cls := findClass_of_methodNamed B.named
  have hlocks := B.notSynchronized
  have hinX5 : ∀ w ∈ wsX50, w ∈ wsX5_setRoute := by decide +kernel
  have hw0 := hts (.fieldLink RX5 19 "TollGatewayModel" "prices" "[I") (by decide +kernel)
  have hw1 := hts (.fieldLink RX5 22 "TollGatewayModel" "weights" "[I") (by decide +kernel)
  have hl := lv_entry ([.ref mm, .int ro, .int pr, .int wt]) (n := 4) (Nat.le_of_ble_eq_true rfl)
  rw [lg_entry_eq]
  generalize (lg_sl ([.ref mm, .int ro, .int pr, .int wt]) ++ List.replicate (4 - (lg_sl ([.ref mm, .int ro, .int pr, .int wt])).length) Slot.unset).toArray = ls at hl ⊢
  have hl : lv_has ls 4 [(0, .ref mm), (1, .int ro), (2, .int pr), (3, .int wt)] := hl
  refine lv_aload_n hx hb dX5_setRoute_0 rfl (lv_at hl 0 rfl) ?_
  refine lv_iload_n hx hb dX5_setRoute_1 rfl (lv_at hl 1 rfl) ?_
  refine g_calli hI (va_runS (As := [.int ro]) (rest := [.ref mm]) ⟨hx, hb, hml, hown, hts⟩ (c_X5_isRoute l D cy de f mm ma M ro hR s.heap.size) (va_cwS 1 hts gX5_setRoute_X5_isRoute rfl rfl rfl (by decide +kernel) ⟨Nat.le_of_ble_eq_true rfl, Nat.le_of_ble_eq_true rfl⟩) (g_preS hI) rfl rfl hl.1 rfl (lv_room (Nat.le_of_ble_eq_true rfl)) dX5_setRoute_2 ⟨Nat.le_of_ble_eq_true rfl, Nat.le_of_ble_eq_true rfl⟩) (fun r_1 f_2 H locs hw_3 hI => ?_)
  obtain ⟨rfl, hR⟩ := hw_3
  refine g_b2i_eq (tgt := 33) hx hb dX5_setRoute_5 (by decide) (fun c_4 => ?_) (fun c_4 => ?_)
  · refine lv_iconst (v := 1) hx hb dX5_setRoute_33 (by decide) ?_
    refine g_calli hI (va_runV (As := [.int 1]) (rest := []) ⟨hx, hb, hml, hown, hts⟩ (c_X5_goesWell l D cy de f_2 mm ma M 1 hR H.size) (cwV 1 hts gX5_setRoute_X5_goesWell rfl rfl rfl (by decide +kernel) ⟨Nat.le_of_ble_eq_true rfl, Nat.le_of_ble_eq_true rfl⟩) (g_preV hI hR.1 rfl) rfl rfl hl.1 rfl (lv_room (Nat.le_of_ble_eq_true rfl)) dX5_setRoute_34 ⟨Nat.le_of_ble_eq_true rfl, Nat.le_of_ble_eq_true rfl⟩) (fun r_5 f_6 H locs hw_7 hI => ?_)
    obtain ⟨rfl, hR⟩ := hw_7
    obtain ⟨M_8, eM_8⟩ : ∃ z, z = mWell M 1 := ⟨_, rfl⟩
    rw [← eM_8] at hR
    refine g_b2i_eq (tgt := 54) hx hb dX5_setRoute_37 (by decide) (fun _ => ?_) (fun z => absurd z (by decide))
    exact g_vret hx hb hr hlocks hI (by have hE : mSetRoute M ro pr wt = M_8 := (by simp only [mSetRoute, c_4, if_true, if_false, ↓reduceIte, Bool.true_eq_false, Bool.false_eq_true, true_and, and_true, and_false, false_and, or_true, true_or, or_false, false_or, not_true_eq_false, not_false_eq_true, Bool.and_true, Bool.true_and, Bool.and_false, Bool.false_and, Bool.not_true, Bool.not_false, decide_true, decide_false, cond_true, cond_false] <;> (subst eM_8; rfl)); rw [hE]; exact hR) (Nat.le_of_ble_eq_true rfl) (Nat.le_of_ble_eq_true rfl) dX5_setRoute_54
  · refine lv_iload_n hx hb dX5_setRoute_8 rfl (lv_at hl 2 rfl) ?_
    refine lv_iconst (v := 0) hx hb dX5_setRoute_9 (by decide) ?_
    refine lv_sipush (v := 1000) hx hb dX5_setRoute_10 (by decide) ?_
    refine g_calli hI (va_runS (As := [.int pr, .int 0, .int 1000]) (rest := [.ref mm]) ⟨hx, hb, hml, hown, hts⟩ (c_X5_in l D cy de f_2 mm ma M pr 0 1000 hR H.size) (va_cwS 3 hts gX5_setRoute_X5_in rfl rfl rfl (by decide +kernel) ⟨Nat.le_of_ble_eq_true rfl, Nat.le_of_ble_eq_true rfl⟩) (g_preS hI) rfl rfl hl.1 rfl (lv_room (Nat.le_of_ble_eq_true rfl)) dX5_setRoute_13 ⟨Nat.le_of_ble_eq_true rfl, Nat.le_of_ble_eq_true rfl⟩) (fun r_10 f_11 H locs hw_12 hI => ?_)
    obtain ⟨rfl, hR⟩ := hw_12
    refine g_b2i_eq (tgt := 33) hx hb dX5_setRoute_16 (by decide) (fun c_13 => ?_) (fun c_13 => ?_)
    · refine lv_iconst (v := 1) hx hb dX5_setRoute_33 (by decide) ?_
      refine g_calli hI (va_runV (As := [.int 1]) (rest := []) ⟨hx, hb, hml, hown, hts⟩ (c_X5_goesWell l D cy de f_11 mm ma M 1 hR H.size) (cwV 1 hts gX5_setRoute_X5_goesWell rfl rfl rfl (by decide +kernel) ⟨Nat.le_of_ble_eq_true rfl, Nat.le_of_ble_eq_true rfl⟩) (g_preV hI hR.1 rfl) rfl rfl hl.1 rfl (lv_room (Nat.le_of_ble_eq_true rfl)) dX5_setRoute_34 ⟨Nat.le_of_ble_eq_true rfl, Nat.le_of_ble_eq_true rfl⟩) (fun r_14 f_15 H locs hw_16 hI => ?_)
      obtain ⟨rfl, hR⟩ := hw_16
      obtain ⟨M_17, eM_17⟩ : ∃ z, z = mWell M 1 := ⟨_, rfl⟩
      rw [← eM_17] at hR
      refine g_b2i_eq (tgt := 54) hx hb dX5_setRoute_37 (by decide) (fun _ => ?_) (fun z => absurd z (by decide))
      exact g_vret hx hb hr hlocks hI (by have hE : mSetRoute M ro pr wt = M_17 := (by simp only [mSetRoute, c_4, c_13, if_true, if_false, ↓reduceIte, Bool.true_eq_false, Bool.false_eq_true, true_and, and_true, and_false, false_and, or_true, true_or, or_false, false_or, not_true_eq_false, not_false_eq_true, Bool.and_true, Bool.true_and, Bool.and_false, Bool.false_and, Bool.not_true, Bool.not_false, decide_true, decide_false, cond_true, cond_false] <;> (subst eM_17; rfl)); rw [hE]; exact hR) (Nat.le_of_ble_eq_true rfl) (Nat.le_of_ble_eq_true rfl) dX5_setRoute_54
    · refine lv_iload_n hx hb dX5_setRoute_19 rfl (lv_at hl 3 rfl) ?_
      refine lv_iconst (v := 1) hx hb dX5_setRoute_20 (by decide) ?_
      refine lv_bipush (v := 20) hx hb dX5_setRoute_21 (by decide) ?_
      refine g_calli hI (va_runS (As := [.int wt, .int 1, .int 20]) (rest := [.ref mm]) ⟨hx, hb, hml, hown, hts⟩ (c_X5_in l D cy de f_11 mm ma M wt 1 20 hR H.size) (va_cwS 3 hts gX5_setRoute_X5_in rfl rfl rfl (by decide +kernel) ⟨Nat.le_of_ble_eq_true rfl, Nat.le_of_ble_eq_true rfl⟩) (g_preS hI) rfl rfl hl.1 rfl (lv_room (Nat.le_of_ble_eq_true rfl)) dX5_setRoute_23 ⟨Nat.le_of_ble_eq_true rfl, Nat.le_of_ble_eq_true rfl⟩) (fun r_19 f_20 H locs hw_21 hI => ?_)
      obtain ⟨rfl, hR⟩ := hw_21
      refine g_b2i_eq (tgt := 33) hx hb dX5_setRoute_26 (by decide) (fun c_22 => ?_) (fun c_22 => ?_)
      · refine lv_iconst (v := 1) hx hb dX5_setRoute_33 (by decide) ?_
        refine g_calli hI (va_runV (As := [.int 1]) (rest := []) ⟨hx, hb, hml, hown, hts⟩ (c_X5_goesWell l D cy de f_20 mm ma M 1 hR H.size) (cwV 1 hts gX5_setRoute_X5_goesWell rfl rfl rfl (by decide +kernel) ⟨Nat.le_of_ble_eq_true rfl, Nat.le_of_ble_eq_true rfl⟩) (g_preV hI hR.1 rfl) rfl rfl hl.1 rfl (lv_room (Nat.le_of_ble_eq_true rfl)) dX5_setRoute_34 ⟨Nat.le_of_ble_eq_true rfl, Nat.le_of_ble_eq_true rfl⟩) (fun r_23 f_24 H locs hw_25 hI => ?_)
        obtain ⟨rfl, hR⟩ := hw_25
        obtain ⟨M_26, eM_26⟩ : ∃ z, z = mWell M 1 := ⟨_, rfl⟩
        rw [← eM_26] at hR
        refine g_b2i_eq (tgt := 54) hx hb dX5_setRoute_37 (by decide) (fun _ => ?_) (fun z => absurd z (by decide))
        exact g_vret hx hb hr hlocks hI (by have hE : mSetRoute M ro pr wt = M_26 := (by simp only [mSetRoute, c_4, c_13, c_22, if_true, if_false, ↓reduceIte, Bool.true_eq_false, Bool.false_eq_true, true_and, and_true, and_false, false_and, or_true, true_or, or_false, false_or, not_true_eq_false, not_false_eq_true, Bool.and_true, Bool.true_and, Bool.and_false, Bool.false_and, Bool.not_true, Bool.not_false, decide_true, decide_false, cond_true, cond_false] <;> (subst eM_26; rfl)); rw [hE]; exact hR) (Nat.le_of_ble_eq_true rfl) (Nat.le_of_ble_eq_true rfl) dX5_setRoute_54
      · refine lv_iconst (v := 0) hx hb dX5_setRoute_29 (by decide) ?_
        refine lv_goto (tgt := 34) hx hb dX5_setRoute_30 (by decide) ?_
        refine g_calli hI (va_runV (As := [.int 0]) (rest := []) ⟨hx, hb, hml, hown, hts⟩ (c_X5_goesWell l D cy de f_20 mm ma M 0 hR H.size) (cwV 1 hts gX5_setRoute_X5_goesWell rfl rfl rfl (by decide +kernel) ⟨Nat.le_of_ble_eq_true rfl, Nat.le_of_ble_eq_true rfl⟩) (g_preV hI hR.1 rfl) rfl rfl hl.1 rfl (lv_room (Nat.le_of_ble_eq_true rfl)) dX5_setRoute_34 ⟨Nat.le_of_ble_eq_true rfl, Nat.le_of_ble_eq_true rfl⟩) (fun r_28 f_29 H locs hw_30 hI => ?_)
        obtain ⟨rfl, hR⟩ := hw_30
        obtain ⟨M_31, eM_31⟩ : ∃ z, z = mWell M 0 := ⟨_, rfl⟩
        rw [← eM_31] at hR
        refine g_b2i_eq (tgt := 54) hx hb dX5_setRoute_37 (by decide) (fun z => absurd z (by decide)) (fun _ => ?_)
        refine lv_aload_n hx hb dX5_setRoute_40 rfl (lv_at hl 0 rfl) ?_
        refine m_get hx hb hts hinX5 hown hI hR 4 (by decide) hw0 rfl rfl dX5_setRoute_41 ?_
        refine lv_iload_n hx hb dX5_setRoute_44 rfl (lv_at hl 1 rfl) ?_
        refine lv_iload_n hx hb dX5_setRoute_45 rfl (lv_at hl 2 rfl) ?_
        refine m_iast hx hb hI hR 4 rfl rfl (mIn_5 c_4) dX5_setRoute_46 (fun f_33 H locs hR hI => ?_)
        obtain ⟨M_34, eM_34⟩ : ∃ z, z = mw M_31 4 (ix ro) pr := ⟨_, rfl⟩
        rw [← eM_34] at hR
        refine lv_aload_n hx hb dX5_setRoute_47 rfl (lv_at hl 0 rfl) ?_
        refine m_get hx hb hts hinX5 hown hI hR 5 (by decide) hw1 rfl rfl dX5_setRoute_48 ?_
        refine lv_iload_n hx hb dX5_setRoute_51 rfl (lv_at hl 1 rfl) ?_
        refine lv_iload_n hx hb dX5_setRoute_52 rfl (lv_at hl 3 rfl) ?_
        refine m_iast hx hb hI hR 5 rfl rfl (mIn_5 c_4) dX5_setRoute_53 (fun f_35 H locs hR hI => ?_)
        obtain ⟨M_36, eM_36⟩ : ∃ z, z = mw M_34 5 (ix ro) wt := ⟨_, rfl⟩
        rw [← eM_36] at hR
        exact g_vret hx hb hr hlocks hI (by have hE : mSetRoute M ro pr wt = M_36 := (by simp only [mSetRoute, c_4, c_13, c_22, if_true, if_false, ↓reduceIte, Bool.true_eq_false, Bool.false_eq_true, true_and, and_true, and_false, false_and, or_true, true_or, or_false, false_or, not_true_eq_false, not_false_eq_true, Bool.and_true, Bool.true_and, Bool.and_false, Bool.false_and, Bool.not_true, Bool.not_false, decide_true, decide_false, cond_true, cond_false] <;> (subst eM_36; subst eM_34; subst eM_31; rfl)); rw [hE]; exact hR) (Nat.le_of_ble_eq_true rfl) (Nat.le_of_ble_eq_true rfl) dX5_setRoute_54

set_option maxHeartbeats 4000000 in
set_option maxRecDepth 100000 in
/-- addKey -/
theorem c_X5_addKey (l : Launch) (D : va_G) (cy : Nat → ClassId) (de : Nat) (f : gFm) (mm : Nat) (ma : Nat → Nat) (M : gMd) (pl : Int32) (nk nc : Nat) (hok : mOK nk nc M) (hR : Rm cy mm ma M f) : gMi l yX5_addKey wsX5_addKey { frames := 2, cells := 0, slots := 0, locals := 42 } D cy de [.ref mm, .int pl] f (fun r9 f9 => r9 = ((mAddKey M pl).1) ∧ Rm cy mm ma ((mAddKey M pl).2) f9) 0 0 := by
  refine fun sz => Met.ofW (cc := cX5_addKey) (maxL := 2) (ret := (some .int)) (by decide) rfl ?_
  intro p e s m args below meth c s₁ B hml hv
  obtain ⟨rfl, hv⟩ := hv
  obtain ⟨rfl, hI⟩ := gP_I hv
  have hx := B.exec
  have hb := B.bytes
  have hr := B.returns
  have hts := atoms_spec (ws := wsX5_addKey) B.pre
  have hown : s.vm.findClass RX5 = some m.cls := findClass_of_methodNamed B.named
  have hlocks := B.notSynchronized
  have hinX5 : ∀ w ∈ wsX50, w ∈ wsX5_addKey := by decide +kernel
  have hw0 := hts (.fieldLink RX5 76 "TollGatewayModel" "keys" "I") (by decide +kernel)
  have hw1 := hts (.fieldLink RX5 25 "TollGatewayModel" "plans" "[I") (by decide +kernel)
  have hw2 := hts (.fieldLink RX5 37 "TollGatewayModel" "tokens" "[I") (by decide +kernel)
  have hw3 := hts (.fieldLink RX5 7 "TollGatewayModel" "sizes" "[I") (by decide +kernel)
  have hl := lv_entry ([.ref mm, .int pl]) (n := 2) (Nat.le_of_ble_eq_true rfl)
  rw [lg_entry_eq]
  generalize (lg_sl ([.ref mm, .int pl]) ++ List.replicate (2 - (lg_sl ([.ref mm, .int pl])).length) Slot.unset).toArray = ls at hl ⊢
  have hl : lv_has ls 2 [(0, .ref mm), (1, .int pl)] := hl
  refine lv_aload_n hx hb dX5_addKey_0 rfl (lv_at hl 0 rfl) ?_
  refine lv_iload_n hx hb dX5_addKey_1 rfl (lv_at hl 1 rfl) ?_
  refine g_calli hI (va_runS (As := [.int pl]) (rest := [.ref mm]) ⟨hx, hb, hml, hown, hts⟩ (c_X5_isPlan l D cy de f mm ma M pl hR s.heap.size) (va_cwS 1 hts gX5_addKey_X5_isPlan rfl rfl rfl (by decide +kernel) ⟨Nat.le_of_ble_eq_true rfl, Nat.le_of_ble_eq_true rfl⟩) (g_preS hI) rfl rfl hl.1 rfl (lv_room (Nat.le_of_ble_eq_true rfl)) dX5_addKey_2 ⟨Nat.le_of_ble_eq_true rfl, Nat.le_of_ble_eq_true rfl⟩) (fun r_1 f_2 H locs hw_3 hI => ?_)
  obtain ⟨rfl, hR⟩ := hw_3
  refine g_b2i_ne (tgt := 12) hx hb dX5_addKey_5 (by decide) (fun c_4 => ?_) (fun c_4 => ?_)
  · refine lv_aload_n hx hb dX5_addKey_12 rfl (lv_at hl 0 rfl) ?_
    refine m_get hx hb hts hinX5 hown hI hR 6 (by decide) hw0 rfl rfl dX5_addKey_13 ?_
    refine lv_bipush (v := 8) hx hb dX5_addKey_16 (by decide) ?_
    refine lv_icmp_ne (tgt := 25) hx hb dX5_addKey_18 (by decide) (fun c_5 => ?_) (fun c_5 => ?_)
    · refine lv_iconst (v := 0) hx hb dX5_addKey_25 (by decide) ?_
      refine g_calli hI (va_runV (As := [.int 0]) (rest := []) ⟨hx, hb, hml, hown, hts⟩ (c_X5_goesWell l D cy de f_2 mm ma M 0 hR H.size) (cwV 1 hts gX5_addKey_X5_goesWell rfl rfl rfl (by decide +kernel) ⟨Nat.le_of_ble_eq_true rfl, Nat.le_of_ble_eq_true rfl⟩) (g_preV hI hR.1 rfl) rfl rfl hl.1 rfl (lv_room (Nat.le_of_ble_eq_true rfl)) dX5_addKey_26 ⟨Nat.le_of_ble_eq_true rfl, Nat.le_of_ble_eq_true rfl⟩) (fun r_6 f_7 H locs hw_8 hI => ?_)
      obtain ⟨rfl, hR⟩ := hw_8
      obtain ⟨M_9, eM_9⟩ : ∃ z, z = mWell M 0 := ⟨_, rfl⟩
      rw [← eM_9] at hR
      refine g_b2i_ne (tgt := 34) hx hb dX5_addKey_29 (by decide) (fun _ => ?_) (fun z => absurd z (by decide))
      refine lv_aload_n hx hb dX5_addKey_34 rfl (lv_at hl 0 rfl) ?_
      refine m_get hx hb hts hinX5 hown hI hR 7 (by decide) hw1 rfl rfl dX5_addKey_35 ?_
      refine lv_aload_n hx hb dX5_addKey_38 rfl (lv_at hl 0 rfl) ?_
      refine m_get hx hb hts hinX5 hown hI hR 6 (by decide) hw0 rfl rfl dX5_addKey_39 ?_
      refine lv_iload_n hx hb dX5_addKey_42 rfl (lv_at hl 1 rfl) ?_
      refine m_iast hx hb hI hR 7 rfl rfl (by subst eM_9; exact (show vp_in (M 6 0) 8 from (mNew_key hok c_5))) dX5_addKey_43 (fun f_11 H locs hR hI => ?_)
      obtain ⟨M_12, eM_12⟩ : ∃ z, z = mw M_9 7 (ix (M_9 6 0)) pl := ⟨_, rfl⟩
      rw [← eM_12] at hR
      refine lv_aload_n hx hb dX5_addKey_44 rfl (lv_at hl 0 rfl) ?_
      refine m_get hx hb hts hinX5 hown hI hR 11 (by decide) hw2 rfl rfl dX5_addKey_45 ?_
      refine lv_aload_n hx hb dX5_addKey_48 rfl (lv_at hl 0 rfl) ?_
      refine m_get hx hb hts hinX5 hown hI hR 6 (by decide) hw0 rfl rfl dX5_addKey_49 ?_
      refine lv_aload_n hx hb dX5_addKey_52 rfl (lv_at hl 0 rfl) ?_
      refine m_get hx hb hts hinX5 hown hI hR 1 (by decide) hw3 rfl rfl dX5_addKey_53 ?_
      refine lv_iload_n hx hb dX5_addKey_56 rfl (lv_at hl 1 rfl) ?_
      refine m_iald hx hb hI hR 1 rfl rfl (mIn_3 c_4) dX5_addKey_57 ?_
      refine m_iast hx hb hI hR 11 rfl rfl (by subst eM_12; subst eM_9; exact (show vp_in (M 6 0) 8 from (mNew_key hok c_5))) dX5_addKey_58 (fun f_13 H locs hR hI => ?_)
      obtain ⟨M_14, eM_14⟩ : ∃ z, z = mw M_12 11 (ix (M_12 6 0)) (M_12 1 (ix pl)) := ⟨_, rfl⟩
      rw [← eM_14] at hR
      refine lv_aload_n hx hb dX5_addKey_59 rfl (lv_at hl 0 rfl) ?_
      refine lv_dup hx hb dX5_addKey_60 rfl ?_
      refine m_get hx hb hts hinX5 hown hI hR 6 (by decide) hw0 rfl rfl dX5_addKey_61 ?_
      refine lv_iconst (v := 1) hx hb dX5_addKey_64 (by decide) ?_
      refine lv_iadd hx hb dX5_addKey_65 ?_
      refine m_put hx hb hts hinX5 hown hI hR 6 (by decide) rfl hw0 rfl rfl (by decide +kernel) dX5_addKey_66 (fun f_15 H locs hR hI => ?_)
      obtain ⟨M_16, eM_16⟩ : ∃ z, z = mw M_14 6 0 ((M_14 6 0) + 1) := ⟨_, rfl⟩
      rw [← eM_16] at hR
      refine lv_aload_n hx hb dX5_addKey_69 rfl (lv_at hl 0 rfl) ?_
      refine m_get hx hb hts hinX5 hown hI hR 6 (by decide) hw0 rfl rfl dX5_addKey_70 ?_
      refine lv_iconst (v := 1) hx hb dX5_addKey_73 (by decide) ?_
      refine lv_isub hx hb dX5_addKey_74 ?_
      exact g_iret hx hb hr hlocks hI (by have hE : (mAddKey M pl) = ((M_16 6 0) - 1, M_16) := (by simp only [mAddKey, c_4, c_5, if_true, if_false, ↓reduceIte, Bool.true_eq_false, Bool.false_eq_true, true_and, and_true, and_false, false_and, or_true, true_or, or_false, false_or, not_true_eq_false, not_false_eq_true, Bool.and_true, Bool.true_and, Bool.and_false, Bool.false_and, Bool.not_true, Bool.not_false, decide_true, decide_false, cond_true, cond_false] <;> (subst eM_16; subst eM_14; subst eM_12; subst eM_9; rfl)); exact ⟨by rw [hE], by rw [hE]; exact hR⟩) (Nat.le_of_ble_eq_true rfl) (Nat.le_of_ble_eq_true rfl) dX5_addKey_75
    · refine lv_iconst (v := 2) hx hb dX5_addKey_21 (by decide) ?_
      refine lv_goto (tgt := 26) hx hb dX5_addKey_22 (by decide) ?_
      refine g_calli hI (va_runV (As := [.int 2]) (rest := []) ⟨hx, hb, hml, hown, hts⟩ (c_X5_goesWell l D cy de f_2 mm ma M 2 hR H.size) (cwV 1 hts gX5_addKey_X5_goesWell rfl rfl rfl (by decide +kernel) ⟨Nat.le_of_ble_eq_true rfl, Nat.le_of_ble_eq_true rfl⟩) (g_preV hI hR.1 rfl) rfl rfl hl.1 rfl (lv_room (Nat.le_of_ble_eq_true rfl)) dX5_addKey_26 ⟨Nat.le_of_ble_eq_true rfl, Nat.le_of_ble_eq_true rfl⟩) (fun r_17 f_18 H locs hw_19 hI => ?_)
      obtain ⟨rfl, hR⟩ := hw_19
      obtain ⟨M_20, eM_20⟩ : ∃ z, z = mWell M 2 := ⟨_, rfl⟩
      rw [← eM_20] at hR
      refine g_b2i_ne (tgt := 34) hx hb dX5_addKey_29 (by decide) (fun z => absurd z (by decide)) (fun _ => ?_)
      refine lv_iconst (v := 0) hx hb dX5_addKey_32 (by decide) ?_
      exact g_iret hx hb hr hlocks hI (by have hE : (mAddKey M pl) = (0, M_20) := (by simp only [mAddKey, c_4, c_5, if_true, if_false, ↓reduceIte, Bool.true_eq_false, Bool.false_eq_true, true_and, and_true, and_false, false_and, or_true, true_or, or_false, false_or, not_true_eq_false, not_false_eq_true, Bool.and_true, Bool.true_and, Bool.and_false, Bool.false_and, Bool.not_true, Bool.not_false, decide_true, decide_false, cond_true, cond_false] <;> (subst eM_20; rfl)); exact ⟨by rw [hE], by rw [hE]; exact hR⟩) (Nat.le_of_ble_eq_true rfl) (Nat.le_of_ble_eq_true rfl) dX5_addKey_33
  · refine lv_iconst (v := 1) hx hb dX5_addKey_8 (by decide) ?_
    refine lv_goto (tgt := 26) hx hb dX5_addKey_9 (by decide) ?_
    refine g_calli hI (va_runV (As := [.int 1]) (rest := []) ⟨hx, hb, hml, hown, hts⟩ (c_X5_goesWell l D cy de f_2 mm ma M 1 hR H.size) (cwV 1 hts gX5_addKey_X5_goesWell rfl rfl rfl (by decide +kernel) ⟨Nat.le_of_ble_eq_true rfl, Nat.le_of_ble_eq_true rfl⟩) (g_preV hI hR.1 rfl) rfl rfl hl.1 rfl (lv_room (Nat.le_of_ble_eq_true rfl)) dX5_addKey_26 ⟨Nat.le_of_ble_eq_true rfl, Nat.le_of_ble_eq_true rfl⟩) (fun r_22 f_23 H locs hw_24 hI => ?_)
    obtain ⟨rfl, hR⟩ := hw_24
    obtain ⟨M_25, eM_25⟩ : ∃ z, z = mWell M 1 := ⟨_, rfl⟩
    rw [← eM_25] at hR
    refine g_b2i_ne (tgt := 34) hx hb dX5_addKey_29 (by decide) (fun z => absurd z (by decide)) (fun _ => ?_)
    refine lv_iconst (v := 0) hx hb dX5_addKey_32 (by decide) ?_
    exact g_iret hx hb hr hlocks hI (by have hE : (mAddKey M pl) = (0, M_25) := (by simp only [mAddKey, c_4, if_true, if_false, ↓reduceIte, Bool.true_eq_false, Bool.false_eq_true, true_and, and_true, and_false, false_and, or_true, true_or, or_false, false_or, not_true_eq_false, not_false_eq_true, Bool.and_true, Bool.true_and, Bool.and_false, Bool.false_and, Bool.not_true, Bool.not_false, decide_true, decide_false, cond_true, cond_false] <;> (subst eM_25; rfl)); exact ⟨by rw [hE], by rw [hE]; exact hR⟩) (Nat.le_of_ble_eq_true rfl) (Nat.le_of_ble_eq_true rfl) dX5_addKey_33

set_option maxHeartbeats 4000000 in
set_option maxRecDepth 100000 in
/-- setKeyPlan -/
theorem c_X5_setKeyPlan (l : Launch) (D : va_G) (cy : Nat → ClassId) (de : Nat) (f : gFm) (mm : Nat) (ma : Nat → Nat) (M : gMd) (key : Int32) (pl : Int32) (nk nc : Nat) (hok : mOK nk nc M) (hR : Rm cy mm ma M f) : gMi l yX5_setKeyPlan wsX5_setKeyPlan { frames := 2, cells := 0, slots := 0, locals := 43 } D cy de [.ref mm, .int key, .int pl] f (fun r9 f9 => r9 = ((mSetKeyPlan M key pl).1) ∧ Rm cy mm ma ((mSetKeyPlan M key pl).2) f9) 0 0 := by
  refine fun sz => Met.ofW (cc := cX5_setKeyPlan) (maxL := 4) (ret := (some .int)) (by decide) rfl ?_
  intro p e s m args below meth c s₁ B hml hv
  obtain ⟨rfl, hv⟩ := hv
  obtain ⟨rfl, hI⟩ := gP_I hv
  have hx := B.exec
  have hb := B.bytes
  have hr := B.returns
  have hts := atoms_spec (ws := wsX5_setKeyPlan) B.pre
  have hown : s.vm.findClass RX5 = some m.cls := findClass_of_methodNamed B.named
  have hlocks := B.notSynchronized
  have hinX5 : ∀ w ∈ wsX50, w ∈ wsX5_setKeyPlan := by decide +kernel
  have hw0 := hts (.fieldLink RX5 25 "TollGatewayModel" "plans" "[I") (by decide +kernel)
  have hl := lv_entry ([.ref mm, .int key, .int pl]) (n := 4) (Nat.le_of_ble_eq_true rfl)
  rw [lg_entry_eq]
  generalize (lg_sl ([.ref mm, .int key, .int pl]) ++ List.replicate (4 - (lg_sl ([.ref mm, .int key, .int pl])).length) Slot.unset).toArray = ls at hl ⊢
  have hl : lv_has ls 4 [(0, .ref mm), (1, .int key), (2, .int pl)] := hl
  refine lv_aload_n hx hb dX5_setKeyPlan_0 rfl (lv_at hl 0 rfl) ?_
  refine lv_aload_n hx hb dX5_setKeyPlan_1 rfl (lv_at hl 0 rfl) ?_
  refine lv_iload_n hx hb dX5_setKeyPlan_2 rfl (lv_at hl 1 rfl) ?_
  refine g_calli hI (va_runV (As := [.int key]) (rest := [.ref mm]) ⟨hx, hb, hml, hown, hts⟩ (c_X5_isKey l D cy de f mm ma M key hR s.heap.size) (cwV 1 hts gX5_setKeyPlan_X5_isKey rfl rfl rfl (by decide +kernel) ⟨Nat.le_of_ble_eq_true rfl, Nat.le_of_ble_eq_true rfl⟩) (g_preV hI hR.1 rfl) rfl rfl hl.1 rfl (lv_room (Nat.le_of_ble_eq_true rfl)) dX5_setKeyPlan_3 ⟨Nat.le_of_ble_eq_true rfl, Nat.le_of_ble_eq_true rfl⟩) (fun r_1 f_2 H locs hw_3 hI => ?_)
  obtain ⟨rfl, hR⟩ := hw_3
  refine g_b2i_ne (tgt := 13) hx hb dX5_setKeyPlan_6 (by decide) (fun c_4 => ?_) (fun c_4 => ?_)
  · refine lv_iload_n hx hb dX5_setKeyPlan_13 rfl (lv_at hl 2 rfl) ?_
    refine g_calli hI (va_runS (As := [.int pl]) (rest := [.ref mm]) ⟨hx, hb, hml, hown, hts⟩ (c_X5_isPlan l D cy de f_2 mm ma M pl hR H.size) (va_cwS 1 hts gX5_setKeyPlan_X5_isPlan rfl rfl rfl (by decide +kernel) ⟨Nat.le_of_ble_eq_true rfl, Nat.le_of_ble_eq_true rfl⟩) (g_preS hI) rfl rfl hl.1 rfl (lv_room (Nat.le_of_ble_eq_true rfl)) dX5_setKeyPlan_14 ⟨Nat.le_of_ble_eq_true rfl, Nat.le_of_ble_eq_true rfl⟩) (fun r_5 f_6 H locs hw_7 hI => ?_)
    obtain ⟨rfl, hR⟩ := hw_7
    refine g_b2i_eq (tgt := 24) hx hb dX5_setKeyPlan_17 (by decide) (fun c_8 => ?_) (fun c_8 => ?_)
    · refine lv_iconst (v := 2) hx hb dX5_setKeyPlan_24 (by decide) ?_
      refine g_calli hI (va_runV (As := [.int 2]) (rest := []) ⟨hx, hb, hml, hown, hts⟩ (c_X5_goesWell l D cy de f_6 mm ma M 2 hR H.size) (cwV 1 hts gX5_setKeyPlan_X5_goesWell rfl rfl rfl (by decide +kernel) ⟨Nat.le_of_ble_eq_true rfl, Nat.le_of_ble_eq_true rfl⟩) (g_preV hI hR.1 rfl) rfl rfl hl.1 rfl (lv_room (Nat.le_of_ble_eq_true rfl)) dX5_setKeyPlan_25 ⟨Nat.le_of_ble_eq_true rfl, Nat.le_of_ble_eq_true rfl⟩) (fun r_9 f_10 H locs hw_11 hI => ?_)
      obtain ⟨rfl, hR⟩ := hw_11
      obtain ⟨M_12, eM_12⟩ : ∃ z, z = mWell M 2 := ⟨_, rfl⟩
      rw [← eM_12] at hR
      refine g_b2i_ne (tgt := 33) hx hb dX5_setKeyPlan_28 (by decide) (fun z => absurd z (by decide)) (fun _ => ?_)
      refine lv_iconst (v := 0) hx hb dX5_setKeyPlan_31 (by decide) ?_
      exact g_iret hx hb hr hlocks hI (by have hE : (mSetKeyPlan M key pl) = (0, M_12) := (by simp only [mSetKeyPlan, c_4, c_8, if_true, if_false, ↓reduceIte, Bool.true_eq_false, Bool.false_eq_true, true_and, and_true, and_false, false_and, or_true, true_or, or_false, false_or, not_true_eq_false, not_false_eq_true, Bool.and_true, Bool.true_and, Bool.and_false, Bool.false_and, Bool.not_true, Bool.not_false, decide_true, decide_false, cond_true, cond_false] <;> (subst eM_12; rfl)); exact ⟨by rw [hE], by rw [hE]; exact hR⟩) (Nat.le_of_ble_eq_true rfl) (Nat.le_of_ble_eq_true rfl) dX5_setKeyPlan_32
    · refine lv_iconst (v := 0) hx hb dX5_setKeyPlan_20 (by decide) ?_
      refine lv_goto (tgt := 25) hx hb dX5_setKeyPlan_21 (by decide) ?_
      refine g_calli hI (va_runV (As := [.int 0]) (rest := []) ⟨hx, hb, hml, hown, hts⟩ (c_X5_goesWell l D cy de f_6 mm ma M 0 hR H.size) (cwV 1 hts gX5_setKeyPlan_X5_goesWell rfl rfl rfl (by decide +kernel) ⟨Nat.le_of_ble_eq_true rfl, Nat.le_of_ble_eq_true rfl⟩) (g_preV hI hR.1 rfl) rfl rfl hl.1 rfl (lv_room (Nat.le_of_ble_eq_true rfl)) dX5_setKeyPlan_25 ⟨Nat.le_of_ble_eq_true rfl, Nat.le_of_ble_eq_true rfl⟩) (fun r_14 f_15 H locs hw_16 hI => ?_)
      obtain ⟨rfl, hR⟩ := hw_16
      obtain ⟨M_17, eM_17⟩ : ∃ z, z = mWell M 0 := ⟨_, rfl⟩
      rw [← eM_17] at hR
      refine g_b2i_ne (tgt := 33) hx hb dX5_setKeyPlan_28 (by decide) (fun _ => ?_) (fun z => absurd z (by decide))
      refine lv_aload_n hx hb dX5_setKeyPlan_33 rfl (lv_at hl 0 rfl) ?_
      refine m_get hx hb hts hinX5 hown hI hR 7 (by decide) hw0 rfl rfl dX5_setKeyPlan_34 ?_
      refine lv_iload_n hx hb dX5_setKeyPlan_37 rfl (lv_at hl 1 rfl) ?_
      refine m_iald hx hb hI hR 7 rfl rfl (mKey_in hok c_4) dX5_setKeyPlan_38 ?_
      refine lv_istore_n (lv' := [(3, .int (M_17 7 (ix key))), (0, .ref mm), (1, .int key), (2, .int pl)]) hx hb dX5_setKeyPlan_39 rfl hl (by decide) rfl (fun ls hl => ?_)
      refine lv_aload_n hx hb dX5_setKeyPlan_40 rfl (lv_at hl 1 rfl) ?_
      refine m_get hx hb hts hinX5 hown hI hR 7 (by decide) hw0 rfl rfl dX5_setKeyPlan_41 ?_
      refine lv_iload_n hx hb dX5_setKeyPlan_44 rfl (lv_at hl 2 rfl) ?_
      refine lv_iload_n hx hb dX5_setKeyPlan_45 rfl (lv_at hl 3 rfl) ?_
      refine m_iast hx hb hI hR 7 rfl rfl (mKey_in hok c_4) dX5_setKeyPlan_46 (fun f_19 H locs hR hI => ?_)
      obtain ⟨M_20, eM_20⟩ : ∃ z, z = mw M_17 7 (ix key) pl := ⟨_, rfl⟩
      rw [← eM_20] at hR
      refine lv_iload_n hx hb dX5_setKeyPlan_47 rfl (lv_at hl 0 rfl) ?_
      exact g_iret hx hb hr hlocks hI (by have hE : (mSetKeyPlan M key pl) = (M_17 7 (ix key), M_20) := (by simp only [mSetKeyPlan, c_4, c_8, if_true, if_false, ↓reduceIte, Bool.true_eq_false, Bool.false_eq_true, true_and, and_true, and_false, false_and, or_true, true_or, or_false, false_or, not_true_eq_false, not_false_eq_true, Bool.and_true, Bool.true_and, Bool.and_false, Bool.false_and, Bool.not_true, Bool.not_false, decide_true, decide_false, cond_true, cond_false] <;> (subst eM_20; subst eM_17; rfl)); exact ⟨by rw [hE], by rw [hE]; exact hR⟩) (Nat.le_of_ble_eq_true rfl) (Nat.le_of_ble_eq_true rfl) dX5_setKeyPlan_48
  · refine lv_iconst (v := 1) hx hb dX5_setKeyPlan_9 (by decide) ?_
    refine lv_goto (tgt := 25) hx hb dX5_setKeyPlan_10 (by decide) ?_
    refine g_calli hI (va_runV (As := [.int 1]) (rest := []) ⟨hx, hb, hml, hown, hts⟩ (c_X5_goesWell l D cy de f_2 mm ma M 1 hR H.size) (cwV 1 hts gX5_setKeyPlan_X5_goesWell rfl rfl rfl (by decide +kernel) ⟨Nat.le_of_ble_eq_true rfl, Nat.le_of_ble_eq_true rfl⟩) (g_preV hI hR.1 rfl) rfl rfl hl.1 rfl (lv_room (Nat.le_of_ble_eq_true rfl)) dX5_setKeyPlan_25 ⟨Nat.le_of_ble_eq_true rfl, Nat.le_of_ble_eq_true rfl⟩) (fun r_21 f_22 H locs hw_23 hI => ?_)
    obtain ⟨rfl, hR⟩ := hw_23
    obtain ⟨M_24, eM_24⟩ : ∃ z, z = mWell M 1 := ⟨_, rfl⟩
    rw [← eM_24] at hR
    refine g_b2i_ne (tgt := 33) hx hb dX5_setKeyPlan_28 (by decide) (fun z => absurd z (by decide)) (fun _ => ?_)
    refine lv_iconst (v := 0) hx hb dX5_setKeyPlan_31 (by decide) ?_
    exact g_iret hx hb hr hlocks hI (by have hE : (mSetKeyPlan M key pl) = (0, M_24) := (by simp only [mSetKeyPlan, c_4, if_true, if_false, ↓reduceIte, Bool.true_eq_false, Bool.false_eq_true, true_and, and_true, and_false, false_and, or_true, true_or, or_false, false_or, not_true_eq_false, not_false_eq_true, Bool.and_true, Bool.true_and, Bool.and_false, Bool.false_and, Bool.not_true, Bool.not_false, decide_true, decide_false, cond_true, cond_false] <;> (subst eM_24; rfl)); exact ⟨by rw [hE], by rw [hE]; exact hR⟩) (Nat.le_of_ble_eq_true rfl) (Nat.le_of_ble_eq_true rfl) dX5_setKeyPlan_32

set_option maxHeartbeats 4000000 in
set_option maxRecDepth 100000 in
/-- setTrust -/
theorem c_X5_setTrust (l : Launch) (D : va_G) (cy : Nat → ClassId) (de : Nat) (f : gFm) (mm : Nat) (ma : Nat → Nat) (M : gMd) (key : Int32) (line : Int32) (nk nc : Nat) (hok : mOK nk nc M) (hR : Rm cy mm ma M f) : gMi l yX5_setTrust wsX5_setTrust { frames := 2, cells := 0, slots := 0, locals := 43 } D cy de [.ref mm, .int key, .int line] f (fun r9 f9 => r9 = ((mSetTrust M key line).1) ∧ Rm cy mm ma ((mSetTrust M key line).2) f9) 0 0 := by
  refine fun sz => Met.ofW (cc := cX5_setTrust) (maxL := 4) (ret := (some .int)) (by decide) rfl ?_
  intro p e s m args below meth c s₁ B hml hv
  obtain ⟨rfl, hv⟩ := hv
  obtain ⟨rfl, hI⟩ := gP_I hv
  have hx := B.exec
  have hb := B.bytes
  have hr := B.returns
  have hts := atoms_spec (ws := wsX5_setTrust) B.pre
  have hown : s.vm.findClass RX5 = some m.cls := findClass_of_methodNamed B.named
  have hlocks := B.notSynchronized
  have hinX5 : ∀ w ∈ wsX50, w ∈ wsX5_setTrust := by decide +kernel
  have hw0 := hts (.fieldLink RX5 31 "TollGatewayModel" "lines" "[I") (by decide +kernel)
  have hl := lv_entry ([.ref mm, .int key, .int line]) (n := 4) (Nat.le_of_ble_eq_true rfl)
  rw [lg_entry_eq]
  generalize (lg_sl ([.ref mm, .int key, .int line]) ++ List.replicate (4 - (lg_sl ([.ref mm, .int key, .int line])).length) Slot.unset).toArray = ls at hl ⊢
  have hl : lv_has ls 4 [(0, .ref mm), (1, .int key), (2, .int line)] := hl
  refine lv_aload_n hx hb dX5_setTrust_0 rfl (lv_at hl 0 rfl) ?_
  refine lv_aload_n hx hb dX5_setTrust_1 rfl (lv_at hl 0 rfl) ?_
  refine lv_iload_n hx hb dX5_setTrust_2 rfl (lv_at hl 1 rfl) ?_
  refine g_calli hI (va_runV (As := [.int key]) (rest := [.ref mm]) ⟨hx, hb, hml, hown, hts⟩ (c_X5_isKey l D cy de f mm ma M key hR s.heap.size) (cwV 1 hts gX5_setTrust_X5_isKey rfl rfl rfl (by decide +kernel) ⟨Nat.le_of_ble_eq_true rfl, Nat.le_of_ble_eq_true rfl⟩) (g_preV hI hR.1 rfl) rfl rfl hl.1 rfl (lv_room (Nat.le_of_ble_eq_true rfl)) dX5_setTrust_3 ⟨Nat.le_of_ble_eq_true rfl, Nat.le_of_ble_eq_true rfl⟩) (fun r_1 f_2 H locs hw_3 hI => ?_)
  obtain ⟨rfl, hR⟩ := hw_3
  refine g_b2i_ne (tgt := 13) hx hb dX5_setTrust_6 (by decide) (fun c_4 => ?_) (fun c_4 => ?_)
  · refine lv_iload_n hx hb dX5_setTrust_13 rfl (lv_at hl 2 rfl) ?_
    refine lv_iconst (v := 0) hx hb dX5_setTrust_14 (by decide) ?_
    refine lv_sipush (v := 10000) hx hb dX5_setTrust_15 (by decide) ?_
    refine g_calli hI (va_runS (As := [.int line, .int 0, .int 10000]) (rest := [.ref mm]) ⟨hx, hb, hml, hown, hts⟩ (c_X5_in l D cy de f_2 mm ma M line 0 10000 hR H.size) (va_cwS 3 hts gX5_setTrust_X5_in rfl rfl rfl (by decide +kernel) ⟨Nat.le_of_ble_eq_true rfl, Nat.le_of_ble_eq_true rfl⟩) (g_preS hI) rfl rfl hl.1 rfl (lv_room (Nat.le_of_ble_eq_true rfl)) dX5_setTrust_18 ⟨Nat.le_of_ble_eq_true rfl, Nat.le_of_ble_eq_true rfl⟩) (fun r_5 f_6 H locs hw_7 hI => ?_)
    obtain ⟨rfl, hR⟩ := hw_7
    refine g_b2i_eq (tgt := 28) hx hb dX5_setTrust_21 (by decide) (fun c_8 => ?_) (fun c_8 => ?_)
    · refine lv_iconst (v := 2) hx hb dX5_setTrust_28 (by decide) ?_
      refine g_calli hI (va_runV (As := [.int 2]) (rest := []) ⟨hx, hb, hml, hown, hts⟩ (c_X5_goesWell l D cy de f_6 mm ma M 2 hR H.size) (cwV 1 hts gX5_setTrust_X5_goesWell rfl rfl rfl (by decide +kernel) ⟨Nat.le_of_ble_eq_true rfl, Nat.le_of_ble_eq_true rfl⟩) (g_preV hI hR.1 rfl) rfl rfl hl.1 rfl (lv_room (Nat.le_of_ble_eq_true rfl)) dX5_setTrust_29 ⟨Nat.le_of_ble_eq_true rfl, Nat.le_of_ble_eq_true rfl⟩) (fun r_9 f_10 H locs hw_11 hI => ?_)
      obtain ⟨rfl, hR⟩ := hw_11
      obtain ⟨M_12, eM_12⟩ : ∃ z, z = mWell M 2 := ⟨_, rfl⟩
      rw [← eM_12] at hR
      refine g_b2i_ne (tgt := 37) hx hb dX5_setTrust_32 (by decide) (fun z => absurd z (by decide)) (fun _ => ?_)
      refine lv_iconst (v := 0) hx hb dX5_setTrust_35 (by decide) ?_
      exact g_iret hx hb hr hlocks hI (by have hE : (mSetTrust M key line) = (0, M_12) := (by simp only [mSetTrust, c_4, c_8, if_true, if_false, ↓reduceIte, Bool.true_eq_false, Bool.false_eq_true, true_and, and_true, and_false, false_and, or_true, true_or, or_false, false_or, not_true_eq_false, not_false_eq_true, Bool.and_true, Bool.true_and, Bool.and_false, Bool.false_and, Bool.not_true, Bool.not_false, decide_true, decide_false, cond_true, cond_false] <;> (subst eM_12; rfl)); exact ⟨by rw [hE], by rw [hE]; exact hR⟩) (Nat.le_of_ble_eq_true rfl) (Nat.le_of_ble_eq_true rfl) dX5_setTrust_36
    · refine lv_iconst (v := 0) hx hb dX5_setTrust_24 (by decide) ?_
      refine lv_goto (tgt := 29) hx hb dX5_setTrust_25 (by decide) ?_
      refine g_calli hI (va_runV (As := [.int 0]) (rest := []) ⟨hx, hb, hml, hown, hts⟩ (c_X5_goesWell l D cy de f_6 mm ma M 0 hR H.size) (cwV 1 hts gX5_setTrust_X5_goesWell rfl rfl rfl (by decide +kernel) ⟨Nat.le_of_ble_eq_true rfl, Nat.le_of_ble_eq_true rfl⟩) (g_preV hI hR.1 rfl) rfl rfl hl.1 rfl (lv_room (Nat.le_of_ble_eq_true rfl)) dX5_setTrust_29 ⟨Nat.le_of_ble_eq_true rfl, Nat.le_of_ble_eq_true rfl⟩) (fun r_14 f_15 H locs hw_16 hI => ?_)
      obtain ⟨rfl, hR⟩ := hw_16
      obtain ⟨M_17, eM_17⟩ : ∃ z, z = mWell M 0 := ⟨_, rfl⟩
      rw [← eM_17] at hR
      refine g_b2i_ne (tgt := 37) hx hb dX5_setTrust_32 (by decide) (fun _ => ?_) (fun z => absurd z (by decide))
      refine lv_aload_n hx hb dX5_setTrust_37 rfl (lv_at hl 0 rfl) ?_
      refine m_get hx hb hts hinX5 hown hI hR 9 (by decide) hw0 rfl rfl dX5_setTrust_38 ?_
      refine lv_iload_n hx hb dX5_setTrust_41 rfl (lv_at hl 1 rfl) ?_
      refine m_iald hx hb hI hR 9 rfl rfl (mKey_in hok c_4) dX5_setTrust_42 ?_
      refine lv_istore_n (lv' := [(3, .int (M_17 9 (ix key))), (0, .ref mm), (1, .int key), (2, .int line)]) hx hb dX5_setTrust_43 rfl hl (by decide) rfl (fun ls hl => ?_)
      refine lv_aload_n hx hb dX5_setTrust_44 rfl (lv_at hl 1 rfl) ?_
      refine m_get hx hb hts hinX5 hown hI hR 9 (by decide) hw0 rfl rfl dX5_setTrust_45 ?_
      refine lv_iload_n hx hb dX5_setTrust_48 rfl (lv_at hl 2 rfl) ?_
      refine lv_iload_n hx hb dX5_setTrust_49 rfl (lv_at hl 3 rfl) ?_
      refine m_iast hx hb hI hR 9 rfl rfl (mKey_in hok c_4) dX5_setTrust_50 (fun f_19 H locs hR hI => ?_)
      obtain ⟨M_20, eM_20⟩ : ∃ z, z = mw M_17 9 (ix key) line := ⟨_, rfl⟩
      rw [← eM_20] at hR
      refine lv_iload_n hx hb dX5_setTrust_51 rfl (lv_at hl 0 rfl) ?_
      exact g_iret hx hb hr hlocks hI (by have hE : (mSetTrust M key line) = (M_17 9 (ix key), M_20) := (by simp only [mSetTrust, c_4, c_8, if_true, if_false, ↓reduceIte, Bool.true_eq_false, Bool.false_eq_true, true_and, and_true, and_false, false_and, or_true, true_or, or_false, false_or, not_true_eq_false, not_false_eq_true, Bool.and_true, Bool.true_and, Bool.and_false, Bool.false_and, Bool.not_true, Bool.not_false, decide_true, decide_false, cond_true, cond_false] <;> (subst eM_20; subst eM_17; rfl)); exact ⟨by rw [hE], by rw [hE]; exact hR⟩) (Nat.le_of_ble_eq_true rfl) (Nat.le_of_ble_eq_true rfl) dX5_setTrust_52
  · refine lv_iconst (v := 1) hx hb dX5_setTrust_9 (by decide) ?_
    refine lv_goto (tgt := 29) hx hb dX5_setTrust_10 (by decide) ?_
    refine g_calli hI (va_runV (As := [.int 1]) (rest := []) ⟨hx, hb, hml, hown, hts⟩ (c_X5_goesWell l D cy de f_2 mm ma M 1 hR H.size) (cwV 1 hts gX5_setTrust_X5_goesWell rfl rfl rfl (by decide +kernel) ⟨Nat.le_of_ble_eq_true rfl, Nat.le_of_ble_eq_true rfl⟩) (g_preV hI hR.1 rfl) rfl rfl hl.1 rfl (lv_room (Nat.le_of_ble_eq_true rfl)) dX5_setTrust_29 ⟨Nat.le_of_ble_eq_true rfl, Nat.le_of_ble_eq_true rfl⟩) (fun r_21 f_22 H locs hw_23 hI => ?_)
    obtain ⟨rfl, hR⟩ := hw_23
    obtain ⟨M_24, eM_24⟩ : ∃ z, z = mWell M 1 := ⟨_, rfl⟩
    rw [← eM_24] at hR
    refine g_b2i_ne (tgt := 37) hx hb dX5_setTrust_32 (by decide) (fun z => absurd z (by decide)) (fun _ => ?_)
    refine lv_iconst (v := 0) hx hb dX5_setTrust_35 (by decide) ?_
    exact g_iret hx hb hr hlocks hI (by have hE : (mSetTrust M key line) = (0, M_24) := (by simp only [mSetTrust, c_4, if_true, if_false, ↓reduceIte, Bool.true_eq_false, Bool.false_eq_true, true_and, and_true, and_false, false_and, or_true, true_or, or_false, false_or, not_true_eq_false, not_false_eq_true, Bool.and_true, Bool.true_and, Bool.and_false, Bool.false_and, Bool.not_true, Bool.not_false, decide_true, decide_false, cond_true, cond_false] <;> (subst eM_24; rfl)); exact ⟨by rw [hE], by rw [hE]; exact hR⟩) (Nat.le_of_ble_eq_true rfl) (Nat.le_of_ble_eq_true rfl) dX5_setTrust_36

set_option maxHeartbeats 4000000 in
set_option maxRecDepth 100000 in
/-- give -/
theorem c_X5_give (l : Launch) (D : va_G) (cy : Nat → ClassId) (de : Nat) (f : gFm) (mm : Nat) (ma : Nat → Nat) (M : gMd) (key : Int32) (mny : Int32) (hR : Rm cy mm ma M f) (h1 : vp_in key 8) : gMv l yX5_give wsX5_give { frames := 0, cells := 0, slots := 0, locals := 0 } D cy de [.ref mm, .int key, .int mny] f (fun f9 => Rm cy mm ma (mGive M key mny) f9) 0 0 := by
  refine fun sz => Met.ofW (cc := cX5_give) (maxL := 4) (ret := none) (by decide) rfl ?_
  intro p e s m args below meth c s₁ B hml hv
  obtain ⟨rfl, hv⟩ := hv
  obtain ⟨rfl, hI⟩ := gP_I hv
  have hx := B.exec
  have hb := B.bytes
  have hr := B.returns
  have hts := atoms_spec (ws := wsX5_give) B.pre
  have hown : s.vm.findClass RX5 = some m.cls := findClass_of_methodNamed B.named
  have hlocks := B.notSynchronized
  have hinX5 : ∀ w ∈ wsX50, w ∈ wsX5_give := by decide +kernel
  have hw0 := hts (.fieldLink RX5 34 "TollGatewayModel" "debts" "[I") (by decide +kernel)
  have hw1 := hts (.fieldLink RX5 28 "TollGatewayModel" "credits" "[I") (by decide +kernel)
  have hl := lv_entry ([.ref mm, .int key, .int mny]) (n := 4) (Nat.le_of_ble_eq_true rfl)
  rw [lg_entry_eq]
  generalize (lg_sl ([.ref mm, .int key, .int mny]) ++ List.replicate (4 - (lg_sl ([.ref mm, .int key, .int mny])).length) Slot.unset).toArray = ls at hl ⊢
  have hl : lv_has ls 4 [(0, .ref mm), (1, .int key), (2, .int mny)] := hl
  refine lv_iload_n hx hb dX5_give_0 rfl (lv_at hl 2 rfl) ?_
  refine lv_aload_n hx hb dX5_give_1 rfl (lv_at hl 0 rfl) ?_
  refine m_get hx hb hts hinX5 hown hI hR 10 (by decide) hw0 rfl rfl dX5_give_2 ?_
  refine lv_iload_n hx hb dX5_give_5 rfl (lv_at hl 1 rfl) ?_
  refine m_iald hx hb hI hR 10 rfl rfl h1 dX5_give_6 ?_
  refine lv_icmp_ge (tgt := 14) hx hb dX5_give_7 (by decide) (fun c_1 => ?_) (fun c_1 => ?_)
  · have c_1' := Int32.not_lt.mpr c_1
    refine lv_aload_n hx hb dX5_give_14 rfl (lv_at hl 0 rfl) ?_
    refine m_get hx hb hts hinX5 hown hI hR 10 (by decide) hw0 rfl rfl dX5_give_15 ?_
    refine lv_iload_n hx hb dX5_give_18 rfl (lv_at hl 1 rfl) ?_
    refine m_iald hx hb hI hR 10 rfl rfl h1 dX5_give_19 ?_
    refine lv_istore_n (lv' := [(3, .int (M 10 (ix key))), (0, .ref mm), (1, .int key), (2, .int mny)]) hx hb dX5_give_20 rfl hl (by decide) rfl (fun ls hl => ?_)
    refine lv_aload_n hx hb dX5_give_21 rfl (lv_at hl 1 rfl) ?_
    refine m_get hx hb hts hinX5 hown hI hR 10 (by decide) hw0 rfl rfl dX5_give_22 ?_
    refine lv_iload_n hx hb dX5_give_25 rfl (lv_at hl 2 rfl) ?_
    refine lv_dup2_11 hx hb dX5_give_26 rfl rfl ?_
    refine m_iald hx hb hI hR 10 rfl rfl h1 dX5_give_27 ?_
    refine lv_iload_n hx hb dX5_give_28 rfl (lv_at hl 0 rfl) ?_
    refine lv_isub hx hb dX5_give_29 ?_
    refine m_iast hx hb hI hR 10 rfl rfl h1 dX5_give_30 (fun f_2 H locs hR hI => ?_)
    obtain ⟨M_3, eM_3⟩ : ∃ z, z = mw M 10 (ix key) ((M 10 (ix key)) - (M 10 (ix key))) := ⟨_, rfl⟩
    rw [← eM_3] at hR
    refine lv_aload_n hx hb dX5_give_31 rfl (lv_at hl 1 rfl) ?_
    refine m_get hx hb hts hinX5 hown hI hR 8 (by decide) hw1 rfl rfl dX5_give_32 ?_
    refine lv_iload_n hx hb dX5_give_35 rfl (lv_at hl 2 rfl) ?_
    refine lv_dup2_11 hx hb dX5_give_36 rfl rfl ?_
    refine m_iald hx hb hI hR 8 rfl rfl h1 dX5_give_37 ?_
    refine lv_iload_n hx hb dX5_give_38 rfl (lv_at hl 3 rfl) ?_
    refine lv_iload_n hx hb dX5_give_39 rfl (lv_at hl 0 rfl) ?_
    refine lv_isub hx hb dX5_give_40 ?_
    refine lv_iadd hx hb dX5_give_41 ?_
    refine m_iast hx hb hI hR 8 rfl rfl h1 dX5_give_42 (fun f_4 H locs hR hI => ?_)
    obtain ⟨M_5, eM_5⟩ : ∃ z, z = mw M_3 8 (ix key) ((M_3 8 (ix key)) + (mny - (M 10 (ix key)))) := ⟨_, rfl⟩
    rw [← eM_5] at hR
    exact g_vret hx hb hr hlocks hI (by have hE : mGive M key mny = M_5 := (by simp only [mGive, c_1, c_1', if_true, if_false, ↓reduceIte, Bool.true_eq_false, Bool.false_eq_true, true_and, and_true, and_false, false_and, or_true, true_or, or_false, false_or, not_true_eq_false, not_false_eq_true, Bool.and_true, Bool.true_and, Bool.and_false, Bool.false_and, Bool.not_true, Bool.not_false, decide_true, decide_false, cond_true, cond_false] <;> (subst eM_5; subst eM_3; rfl)); rw [hE]; exact hR) (Nat.le_of_ble_eq_true rfl) (Nat.le_of_ble_eq_true rfl) dX5_give_43
  · have c_1' := Int32.not_le.mp c_1
    refine lv_iload_n hx hb dX5_give_10 rfl (lv_at hl 2 rfl) ?_
    refine lv_goto (tgt := 20) hx hb dX5_give_11 (by decide) ?_
    refine lv_istore_n (lv' := [(3, .int mny), (0, .ref mm), (1, .int key), (2, .int mny)]) hx hb dX5_give_20 rfl hl (by decide) rfl (fun ls hl => ?_)
    refine lv_aload_n hx hb dX5_give_21 rfl (lv_at hl 1 rfl) ?_
    refine m_get hx hb hts hinX5 hown hI hR 10 (by decide) hw0 rfl rfl dX5_give_22 ?_
    refine lv_iload_n hx hb dX5_give_25 rfl (lv_at hl 2 rfl) ?_
    refine lv_dup2_11 hx hb dX5_give_26 rfl rfl ?_
    refine m_iald hx hb hI hR 10 rfl rfl h1 dX5_give_27 ?_
    refine lv_iload_n hx hb dX5_give_28 rfl (lv_at hl 0 rfl) ?_
    refine lv_isub hx hb dX5_give_29 ?_
    refine m_iast hx hb hI hR 10 rfl rfl h1 dX5_give_30 (fun f_6 H locs hR hI => ?_)
    obtain ⟨M_7, eM_7⟩ : ∃ z, z = mw M 10 (ix key) ((M 10 (ix key)) - mny) := ⟨_, rfl⟩
    rw [← eM_7] at hR
    refine lv_aload_n hx hb dX5_give_31 rfl (lv_at hl 1 rfl) ?_
    refine m_get hx hb hts hinX5 hown hI hR 8 (by decide) hw1 rfl rfl dX5_give_32 ?_
    refine lv_iload_n hx hb dX5_give_35 rfl (lv_at hl 2 rfl) ?_
    refine lv_dup2_11 hx hb dX5_give_36 rfl rfl ?_
    refine m_iald hx hb hI hR 8 rfl rfl h1 dX5_give_37 ?_
    refine lv_iload_n hx hb dX5_give_38 rfl (lv_at hl 3 rfl) ?_
    refine lv_iload_n hx hb dX5_give_39 rfl (lv_at hl 0 rfl) ?_
    refine lv_isub hx hb dX5_give_40 ?_
    refine lv_iadd hx hb dX5_give_41 ?_
    refine m_iast hx hb hI hR 8 rfl rfl h1 dX5_give_42 (fun f_8 H locs hR hI => ?_)
    obtain ⟨M_9, eM_9⟩ : ∃ z, z = mw M_7 8 (ix key) ((M_7 8 (ix key)) + (mny - mny)) := ⟨_, rfl⟩
    rw [← eM_9] at hR
    exact g_vret hx hb hr hlocks hI (by have hE : mGive M key mny = M_9 := (by simp only [mGive, c_1, c_1', if_true, if_false, ↓reduceIte, Bool.true_eq_false, Bool.false_eq_true, true_and, and_true, and_false, false_and, or_true, true_or, or_false, false_or, not_true_eq_false, not_false_eq_true, Bool.and_true, Bool.true_and, Bool.and_false, Bool.false_and, Bool.not_true, Bool.not_false, decide_true, decide_false, cond_true, cond_false] <;> (subst eM_9; subst eM_7; rfl)); rw [hE]; exact hR) (Nat.le_of_ble_eq_true rfl) (Nat.le_of_ble_eq_true rfl) dX5_give_43

set_option maxHeartbeats 4000000 in
set_option maxRecDepth 100000 in
/-- pay -/
theorem c_X5_pay (l : Launch) (D : va_G) (cy : Nat → ClassId) (de : Nat) (f : gFm) (mm : Nat) (ma : Nat → Nat) (M : gMd) (key : Int32) (mny : Int32) (nk nc : Nat) (hok : mOK nk nc M) (hR : Rm cy mm ma M f) : gMi l yX5_pay wsX5_pay { frames := 2, cells := 0, slots := 0, locals := 43 } D cy de [.ref mm, .int key, .int mny] f (fun r9 f9 => r9 = ((mPay M key mny).1) ∧ Rm cy mm ma ((mPay M key mny).2) f9) 0 0 := by
  refine fun sz => Met.ofW (cc := cX5_pay) (maxL := 3) (ret := (some .int)) (by decide) rfl ?_
  intro p e s m args below meth c s₁ B hml hv
  obtain ⟨rfl, hv⟩ := hv
  obtain ⟨rfl, hI⟩ := gP_I hv
  have hx := B.exec
  have hb := B.bytes
  have hr := B.returns
  have hts := atoms_spec (ws := wsX5_pay) B.pre
  have hown : s.vm.findClass RX5 = some m.cls := findClass_of_methodNamed B.named
  have hlocks := B.notSynchronized
  have hinX5 : ∀ w ∈ wsX50, w ∈ wsX5_pay := by decide +kernel
  have hw0 := hts (.constant RX5 95 (100000)) (by decide +kernel)
  have hw1 := hts (.fieldLink RX5 40 "TollGatewayModel" "paid" "[I") (by decide +kernel)
  have hw2 := hts (.fieldLink RX5 28 "TollGatewayModel" "credits" "[I") (by decide +kernel)
  have hl := lv_entry ([.ref mm, .int key, .int mny]) (n := 3) (Nat.le_of_ble_eq_true rfl)
  rw [lg_entry_eq]
  generalize (lg_sl ([.ref mm, .int key, .int mny]) ++ List.replicate (3 - (lg_sl ([.ref mm, .int key, .int mny])).length) Slot.unset).toArray = ls at hl ⊢
  have hl : lv_has ls 3 [(0, .ref mm), (1, .int key), (2, .int mny)] := hl
  refine lv_aload_n hx hb dX5_pay_0 rfl (lv_at hl 0 rfl) ?_
  refine lv_aload_n hx hb dX5_pay_1 rfl (lv_at hl 0 rfl) ?_
  refine lv_iload_n hx hb dX5_pay_2 rfl (lv_at hl 1 rfl) ?_
  refine g_calli hI (va_runV (As := [.int key]) (rest := [.ref mm]) ⟨hx, hb, hml, hown, hts⟩ (c_X5_isKey l D cy de f mm ma M key hR s.heap.size) (cwV 1 hts gX5_pay_X5_isKey rfl rfl rfl (by decide +kernel) ⟨Nat.le_of_ble_eq_true rfl, Nat.le_of_ble_eq_true rfl⟩) (g_preV hI hR.1 rfl) rfl rfl hl.1 rfl (lv_room (Nat.le_of_ble_eq_true rfl)) dX5_pay_3 ⟨Nat.le_of_ble_eq_true rfl, Nat.le_of_ble_eq_true rfl⟩) (fun r_1 f_2 H locs hw_3 hI => ?_)
  obtain ⟨rfl, hR⟩ := hw_3
  refine g_b2i_ne (tgt := 13) hx hb dX5_pay_6 (by decide) (fun c_4 => ?_) (fun c_4 => ?_)
  · refine lv_iload_n hx hb dX5_pay_13 rfl (lv_at hl 2 rfl) ?_
    refine lv_iconst (v := 1) hx hb dX5_pay_14 (by decide) ?_
    refine lv_ldc (v := 100000) hx hb hown hw0 dX5_pay_15 ?_
    refine g_calli hI (va_runS (As := [.int mny, .int 1, .int 100000]) (rest := [.ref mm]) ⟨hx, hb, hml, hown, hts⟩ (c_X5_in l D cy de f_2 mm ma M mny 1 100000 hR H.size) (va_cwS 3 hts gX5_pay_X5_in rfl rfl rfl (by decide +kernel) ⟨Nat.le_of_ble_eq_true rfl, Nat.le_of_ble_eq_true rfl⟩) (g_preS hI) rfl rfl hl.1 rfl (lv_room (Nat.le_of_ble_eq_true rfl)) dX5_pay_17 ⟨Nat.le_of_ble_eq_true rfl, Nat.le_of_ble_eq_true rfl⟩) (fun r_5 f_6 H locs hw_7 hI => ?_)
    obtain ⟨rfl, hR⟩ := hw_7
    refine g_b2i_eq (tgt := 27) hx hb dX5_pay_20 (by decide) (fun c_8 => ?_) (fun c_8 => ?_)
    · refine lv_iconst (v := 2) hx hb dX5_pay_27 (by decide) ?_
      refine g_calli hI (va_runV (As := [.int 2]) (rest := []) ⟨hx, hb, hml, hown, hts⟩ (c_X5_goesWell l D cy de f_6 mm ma M 2 hR H.size) (cwV 1 hts gX5_pay_X5_goesWell rfl rfl rfl (by decide +kernel) ⟨Nat.le_of_ble_eq_true rfl, Nat.le_of_ble_eq_true rfl⟩) (g_preV hI hR.1 rfl) rfl rfl hl.1 rfl (lv_room (Nat.le_of_ble_eq_true rfl)) dX5_pay_28 ⟨Nat.le_of_ble_eq_true rfl, Nat.le_of_ble_eq_true rfl⟩) (fun r_9 f_10 H locs hw_11 hI => ?_)
      obtain ⟨rfl, hR⟩ := hw_11
      obtain ⟨M_12, eM_12⟩ : ∃ z, z = mWell M 2 := ⟨_, rfl⟩
      rw [← eM_12] at hR
      refine g_b2i_ne (tgt := 36) hx hb dX5_pay_31 (by decide) (fun z => absurd z (by decide)) (fun _ => ?_)
      refine lv_iconst (v := 0) hx hb dX5_pay_34 (by decide) ?_
      exact g_iret hx hb hr hlocks hI (by have hE : (mPay M key mny) = (0, M_12) := (by simp only [mPay, c_4, c_8, if_true, if_false, ↓reduceIte, Bool.true_eq_false, Bool.false_eq_true, true_and, and_true, and_false, false_and, or_true, true_or, or_false, false_or, not_true_eq_false, not_false_eq_true, Bool.and_true, Bool.true_and, Bool.and_false, Bool.false_and, Bool.not_true, Bool.not_false, decide_true, decide_false, cond_true, cond_false] <;> (subst eM_12; rfl)); exact ⟨by rw [hE], by rw [hE]; exact hR⟩) (Nat.le_of_ble_eq_true rfl) (Nat.le_of_ble_eq_true rfl) dX5_pay_35
    · refine lv_iconst (v := 0) hx hb dX5_pay_23 (by decide) ?_
      refine lv_goto (tgt := 28) hx hb dX5_pay_24 (by decide) ?_
      refine g_calli hI (va_runV (As := [.int 0]) (rest := []) ⟨hx, hb, hml, hown, hts⟩ (c_X5_goesWell l D cy de f_6 mm ma M 0 hR H.size) (cwV 1 hts gX5_pay_X5_goesWell rfl rfl rfl (by decide +kernel) ⟨Nat.le_of_ble_eq_true rfl, Nat.le_of_ble_eq_true rfl⟩) (g_preV hI hR.1 rfl) rfl rfl hl.1 rfl (lv_room (Nat.le_of_ble_eq_true rfl)) dX5_pay_28 ⟨Nat.le_of_ble_eq_true rfl, Nat.le_of_ble_eq_true rfl⟩) (fun r_14 f_15 H locs hw_16 hI => ?_)
      obtain ⟨rfl, hR⟩ := hw_16
      obtain ⟨M_17, eM_17⟩ : ∃ z, z = mWell M 0 := ⟨_, rfl⟩
      rw [← eM_17] at hR
      refine g_b2i_ne (tgt := 36) hx hb dX5_pay_31 (by decide) (fun _ => ?_) (fun z => absurd z (by decide))
      refine lv_aload_n hx hb dX5_pay_36 rfl (lv_at hl 0 rfl) ?_
      refine lv_iload_n hx hb dX5_pay_37 rfl (lv_at hl 1 rfl) ?_
      refine lv_iload_n hx hb dX5_pay_38 rfl (lv_at hl 2 rfl) ?_
      refine g_callv hI (va_runV (As := [.int key, .int mny]) (rest := []) ⟨hx, hb, hml, hown, hts⟩ (c_X5_give l D cy de f_15 mm ma M_17 key mny hR (mKey_in hok c_4) H.size) (cwV 2 hts gX5_pay_X5_give rfl rfl rfl (by decide +kernel) ⟨Nat.le_of_ble_eq_true rfl, Nat.le_of_ble_eq_true rfl⟩) (g_preV hI hR.1 rfl) rfl rfl hl.1 rfl (lv_room (Nat.le_of_ble_eq_true rfl)) dX5_pay_39 ⟨Nat.le_of_ble_eq_true rfl, Nat.le_of_ble_eq_true rfl⟩) (fun f_20 H locs hw_21 hI => ?_)
      have hR := hw_21
      obtain ⟨M_22, eM_22⟩ : ∃ z, z = mGive M_17 key mny := ⟨_, rfl⟩
      rw [← eM_22] at hR
      refine lv_aload_n hx hb dX5_pay_42 rfl (lv_at hl 0 rfl) ?_
      refine m_get hx hb hts hinX5 hown hI hR 12 (by decide) hw1 rfl rfl dX5_pay_43 ?_
      refine lv_iload_n hx hb dX5_pay_46 rfl (lv_at hl 1 rfl) ?_
      refine lv_dup2_11 hx hb dX5_pay_47 rfl rfl ?_
      refine m_iald hx hb hI hR 12 rfl rfl (mKey_in hok c_4) dX5_pay_48 ?_
      refine lv_iload_n hx hb dX5_pay_49 rfl (lv_at hl 2 rfl) ?_
      refine lv_iadd hx hb dX5_pay_50 ?_
      refine m_iast hx hb hI hR 12 rfl rfl (mKey_in hok c_4) dX5_pay_51 (fun f_23 H locs hR hI => ?_)
      obtain ⟨M_24, eM_24⟩ : ∃ z, z = mw M_22 12 (ix key) ((M_22 12 (ix key)) + mny) := ⟨_, rfl⟩
      rw [← eM_24] at hR
      refine lv_aload_n hx hb dX5_pay_52 rfl (lv_at hl 0 rfl) ?_
      refine m_get hx hb hts hinX5 hown hI hR 8 (by decide) hw2 rfl rfl dX5_pay_53 ?_
      refine lv_iload_n hx hb dX5_pay_56 rfl (lv_at hl 1 rfl) ?_
      refine m_iald hx hb hI hR 8 rfl rfl (mKey_in hok c_4) dX5_pay_57 ?_
      exact g_iret hx hb hr hlocks hI (by have hE : (mPay M key mny) = (M_24 8 (ix key), M_24) := (by simp only [mPay, c_4, c_8, if_true, if_false, ↓reduceIte, Bool.true_eq_false, Bool.false_eq_true, true_and, and_true, and_false, false_and, or_true, true_or, or_false, false_or, not_true_eq_false, not_false_eq_true, Bool.and_true, Bool.true_and, Bool.and_false, Bool.false_and, Bool.not_true, Bool.not_false, decide_true, decide_false, cond_true, cond_false] <;> (subst eM_24; subst eM_22; subst eM_17; rfl)); exact ⟨by rw [hE], by rw [hE]; exact hR⟩) (Nat.le_of_ble_eq_true rfl) (Nat.le_of_ble_eq_true rfl) dX5_pay_58
  · refine lv_iconst (v := 1) hx hb dX5_pay_9 (by decide) ?_
    refine lv_goto (tgt := 28) hx hb dX5_pay_10 (by decide) ?_
    refine g_calli hI (va_runV (As := [.int 1]) (rest := []) ⟨hx, hb, hml, hown, hts⟩ (c_X5_goesWell l D cy de f_2 mm ma M 1 hR H.size) (cwV 1 hts gX5_pay_X5_goesWell rfl rfl rfl (by decide +kernel) ⟨Nat.le_of_ble_eq_true rfl, Nat.le_of_ble_eq_true rfl⟩) (g_preV hI hR.1 rfl) rfl rfl hl.1 rfl (lv_room (Nat.le_of_ble_eq_true rfl)) dX5_pay_28 ⟨Nat.le_of_ble_eq_true rfl, Nat.le_of_ble_eq_true rfl⟩) (fun r_25 f_26 H locs hw_27 hI => ?_)
    obtain ⟨rfl, hR⟩ := hw_27
    obtain ⟨M_28, eM_28⟩ : ∃ z, z = mWell M 1 := ⟨_, rfl⟩
    rw [← eM_28] at hR
    refine g_b2i_ne (tgt := 36) hx hb dX5_pay_31 (by decide) (fun z => absurd z (by decide)) (fun _ => ?_)
    refine lv_iconst (v := 0) hx hb dX5_pay_34 (by decide) ?_
    exact g_iret hx hb hr hlocks hI (by have hE : (mPay M key mny) = (0, M_28) := (by simp only [mPay, c_4, if_true, if_false, ↓reduceIte, Bool.true_eq_false, Bool.false_eq_true, true_and, and_true, and_false, false_and, or_true, true_or, or_false, false_or, not_true_eq_false, not_false_eq_true, Bool.and_true, Bool.true_and, Bool.and_false, Bool.false_and, Bool.not_true, Bool.not_false, decide_true, decide_false, cond_true, cond_false] <;> (subst eM_28; rfl)); exact ⟨by rw [hE], by rw [hE]; exact hR⟩) (Nat.le_of_ble_eq_true rfl) (Nat.le_of_ble_eq_true rfl) dX5_pay_35

set_option maxHeartbeats 4000000 in
set_option maxRecDepth 100000 in
/-- leftOf -/
theorem c_X5_leftOf (l : Launch) (D : va_G) (cy : Nat → ClassId) (de : Nat) (f : gFm) (mm : Nat) (ma : Nat → Nat) (M : gMd) (key : Int32) (hR : Rm cy mm ma M f) (h1 : vp_in key 8) : gMi l yX5_leftOf wsX5_leftOf { frames := 0, cells := 0, slots := 0, locals := 0 } D cy de [.ref mm, .int key] f (fun r9 f9 => r9 = (mLeft M key) ∧ Rm cy mm ma M f9) 0 0 := by
  refine fun sz => Met.ofW (cc := cX5_leftOf) (maxL := 2) (ret := (some .int)) (by decide) rfl ?_
  intro p e s m args below meth c s₁ B hml hv
  obtain ⟨rfl, hv⟩ := hv
  obtain ⟨rfl, hI⟩ := gP_I hv
  have hx := B.exec
  have hb := B.bytes
  have hr := B.returns
  have hts := atoms_spec (ws := wsX5_leftOf) B.pre
  have hown : s.vm.findClass RX5 = some m.cls := findClass_of_methodNamed B.named
  have hlocks := B.notSynchronized
  have hinX5 : ∀ w ∈ wsX50, w ∈ wsX5_leftOf := by decide +kernel
  have hw0 := hts (.fieldLink RX5 31 "TollGatewayModel" "lines" "[I") (by decide +kernel)
  have hw1 := hts (.fieldLink RX5 34 "TollGatewayModel" "debts" "[I") (by decide +kernel)
  have hl := lv_entry ([.ref mm, .int key]) (n := 2) (Nat.le_of_ble_eq_true rfl)
  rw [lg_entry_eq]
  generalize (lg_sl ([.ref mm, .int key]) ++ List.replicate (2 - (lg_sl ([.ref mm, .int key])).length) Slot.unset).toArray = ls at hl ⊢
  have hl : lv_has ls 2 [(0, .ref mm), (1, .int key)] := hl
  refine lv_aload_n hx hb dX5_leftOf_0 rfl (lv_at hl 0 rfl) ?_
  refine m_get hx hb hts hinX5 hown hI hR 9 (by decide) hw0 rfl rfl dX5_leftOf_1 ?_
  refine lv_iload_n hx hb dX5_leftOf_4 rfl (lv_at hl 1 rfl) ?_
  refine m_iald hx hb hI hR 9 rfl rfl h1 dX5_leftOf_5 ?_
  refine lv_aload_n hx hb dX5_leftOf_6 rfl (lv_at hl 0 rfl) ?_
  refine m_get hx hb hts hinX5 hown hI hR 10 (by decide) hw1 rfl rfl dX5_leftOf_7 ?_
  refine lv_iload_n hx hb dX5_leftOf_10 rfl (lv_at hl 1 rfl) ?_
  refine m_iald hx hb hI hR 10 rfl rfl h1 dX5_leftOf_11 ?_
  refine lv_icmp_le (tgt := 31) hx hb dX5_leftOf_12 (by decide) (fun c_1 => ?_) (fun c_1 => ?_)
  · have c_1' := Int32.not_lt.mpr c_1
    refine lv_iconst (v := 0) hx hb dX5_leftOf_31 (by decide) ?_
    exact g_iret hx hb hr hlocks hI ⟨(by simp only [mLeft, c_1, c_1', if_true, if_false, ↓reduceIte, Bool.true_eq_false, Bool.false_eq_true, true_and, and_true, and_false, false_and, or_true, true_or, or_false, false_or, not_true_eq_false, not_false_eq_true, Bool.and_true, Bool.true_and, Bool.and_false, Bool.false_and, Bool.not_true, Bool.not_false, decide_true, decide_false, cond_true, cond_false, b2i]), hR⟩ (Nat.le_of_ble_eq_true rfl) (Nat.le_of_ble_eq_true rfl) dX5_leftOf_32
  · have c_1' := Int32.not_le.mp c_1
    refine lv_aload_n hx hb dX5_leftOf_15 rfl (lv_at hl 0 rfl) ?_
    refine m_get hx hb hts hinX5 hown hI hR 9 (by decide) hw0 rfl rfl dX5_leftOf_16 ?_
    refine lv_iload_n hx hb dX5_leftOf_19 rfl (lv_at hl 1 rfl) ?_
    refine m_iald hx hb hI hR 9 rfl rfl h1 dX5_leftOf_20 ?_
    refine lv_aload_n hx hb dX5_leftOf_21 rfl (lv_at hl 0 rfl) ?_
    refine m_get hx hb hts hinX5 hown hI hR 10 (by decide) hw1 rfl rfl dX5_leftOf_22 ?_
    refine lv_iload_n hx hb dX5_leftOf_25 rfl (lv_at hl 1 rfl) ?_
    refine m_iald hx hb hI hR 10 rfl rfl h1 dX5_leftOf_26 ?_
    refine lv_isub hx hb dX5_leftOf_27 ?_
    refine lv_goto (tgt := 32) hx hb dX5_leftOf_28 (by decide) ?_
    exact g_iret hx hb hr hlocks hI ⟨(by simp only [mLeft, c_1, c_1', if_true, if_false, ↓reduceIte, Bool.true_eq_false, Bool.false_eq_true, true_and, and_true, and_false, false_and, or_true, true_or, or_false, false_or, not_true_eq_false, not_false_eq_true, Bool.and_true, Bool.true_and, Bool.and_false, Bool.false_and, Bool.not_true, Bool.not_false, decide_true, decide_false, cond_true, cond_false, b2i]), hR⟩ (Nat.le_of_ble_eq_true rfl) (Nat.le_of_ble_eq_true rfl) dX5_leftOf_32

set_option maxHeartbeats 4000000 in
set_option maxRecDepth 100000 in
/-- call -/
theorem c_X5_call (l : Launch) (D : va_G) (cy : Nat → ClassId) (de : Nat) (f : gFm) (mm : Nat) (ma : Nat → Nat) (M : gMd) (key : Int32) (ro : Int32) (sz : Int32) (nk nc : Nat) (hok : mOK nk nc M) (hR : Rm cy mm ma M f) : gMi l yX5_call wsX5_call { frames := 2, cells := 0, slots := 0, locals := 43 } D cy de [.ref mm, .int key, .int ro, .int sz] f (fun r9 f9 => r9 = ((mCall M key ro sz).1) ∧ Rm cy mm ma ((mCall M key ro sz).2) f9) 0 0 := by
  refine fun sz => Met.ofW (cc := cX5_call) (maxL := 7) (ret := (some .int)) (by decide) rfl ?_
  intro p e s m args below meth c s₁ B hml hv
  obtain ⟨rfl, hv⟩ := hv
  obtain ⟨rfl, hI⟩ := gP_I hv
  have hx := B.exec
  have hb := B.bytes
  have hr := B.returns
  have hts := atoms_spec (ws := wsX5_call) B.pre
  have hown : s.vm.findClass RX5 = some m.cls := findClass_of_methodNamed B.named
  have hlocks := B.notSynchronized
  have hinX5 : ∀ w ∈ wsX50, w ∈ wsX5_call := by decide +kernel
  have hw0 := hts (.fieldLink RX5 79 "TollGatewayModel" "calls" "I") (by decide +kernel)
  have hw1 := hts (.fieldLink RX5 19 "TollGatewayModel" "prices" "[I") (by decide +kernel)
  have hw2 := hts (.fieldLink RX5 37 "TollGatewayModel" "tokens" "[I") (by decide +kernel)
  have hw3 := hts (.fieldLink RX5 22 "TollGatewayModel" "weights" "[I") (by decide +kernel)
  have hw4 := hts (.fieldLink RX5 28 "TollGatewayModel" "credits" "[I") (by decide +kernel)
  have hw5 := hts (.fieldLink RX5 34 "TollGatewayModel" "debts" "[I") (by decide +kernel)
  have hw6 := hts (.fieldLink RX5 43 "TollGatewayModel" "callers" "[I") (by decide +kernel)
  have hw7 := hts (.fieldLink RX5 46 "TollGatewayModel" "worths" "[I") (by decide +kernel)
  have hw8 := hts (.fieldLink RX5 49 "TollGatewayModel" "took" "[I") (by decide +kernel)
  have hw9 := hts (.fieldLink RX5 52 "TollGatewayModel" "begun" "[I") (by decide +kernel)
  have hw10 := hts (.fieldLink RX5 104 "TollGatewayModel" "tick" "I") (by decide +kernel)
  have hl := lv_entry ([.ref mm, .int key, .int ro, .int sz]) (n := 7) (Nat.le_of_ble_eq_true rfl)
  rw [lg_entry_eq]
  generalize (lg_sl ([.ref mm, .int key, .int ro, .int sz]) ++ List.replicate (7 - (lg_sl ([.ref mm, .int key, .int ro, .int sz])).length) Slot.unset).toArray = ls at hl ⊢
  have hl : lv_has ls 7 [(0, .ref mm), (1, .int key), (2, .int ro), (3, .int sz)] := hl
  refine lv_iload_n hx hb dX5_call_0 rfl (lv_at hl 2 rfl) ?_
  refine g_calli hI (va_runS (As := [.int ro]) (rest := []) ⟨hx, hb, hml, hown, hts⟩ (c_X5_isRoute l D cy de f mm ma M ro hR s.heap.size) (va_cwS 1 hts gX5_call_X5_isRoute rfl rfl rfl (by decide +kernel) ⟨Nat.le_of_ble_eq_true rfl, Nat.le_of_ble_eq_true rfl⟩) (g_preS hI) rfl rfl hl.1 rfl (lv_room (Nat.le_of_ble_eq_true rfl)) dX5_call_1 ⟨Nat.le_of_ble_eq_true rfl, Nat.le_of_ble_eq_true rfl⟩) (fun r_1 f_2 H locs hw_3 hI => ?_)
  obtain ⟨rfl, hR⟩ := hw_3
  refine g_b2i_eq (tgt := 21) hx hb dX5_call_4 (by decide) (fun c_4 => ?_) (fun c_4 => ?_)
  · refine lv_iconst (v := 0) hx hb dX5_call_21 (by decide) ?_
    refine lv_istore (lv' := [(4, .int 0), (0, .ref mm), (1, .int key), (2, .int ro), (3, .int sz)]) hx hb dX5_call_22 hl (by decide) rfl (fun ls hl => ?_)
    refine lv_aload_n hx hb dX5_call_24 rfl (lv_at hl 1 rfl) ?_
    refine lv_aload_n hx hb dX5_call_25 rfl (lv_at hl 1 rfl) ?_
    refine lv_iload_n hx hb dX5_call_26 rfl (lv_at hl 2 rfl) ?_
    refine g_calli hI (va_runV (As := [.int key]) (rest := [.ref mm]) ⟨hx, hb, hml, hown, hts⟩ (c_X5_isKey l D cy de f_2 mm ma M key hR H.size) (cwV 1 hts gX5_call_X5_isKey rfl rfl rfl (by decide +kernel) ⟨Nat.le_of_ble_eq_true rfl, Nat.le_of_ble_eq_true rfl⟩) (g_preV hI hR.1 rfl) rfl rfl hl.1 rfl (lv_room (Nat.le_of_ble_eq_true rfl)) dX5_call_27 ⟨Nat.le_of_ble_eq_true rfl, Nat.le_of_ble_eq_true rfl⟩) (fun r_5 f_6 H locs hw_7 hI => ?_)
    obtain ⟨rfl, hR⟩ := hw_7
    refine g_b2i_ne (tgt := 37) hx hb dX5_call_30 (by decide) (fun c_8 => ?_) (fun c_8 => ?_)
    · refine lv_iload hx hb dX5_call_37 (lv_at hl 0 rfl) ?_
      refine lv_if_ne (tgt := 46) hx hb dX5_call_39 (by decide) (fun z => absurd z (by decide)) (fun _ => ?_)
      refine lv_iconst (v := 2) hx hb dX5_call_42 (by decide) ?_
      refine lv_goto (tgt := 60) hx hb dX5_call_43 (by decide) ?_
      refine g_calli hI (va_runV (As := [.int 2]) (rest := []) ⟨hx, hb, hml, hown, hts⟩ (c_X5_goesWell l D cy de f_6 mm ma M 2 hR H.size) (cwV 1 hts gX5_call_X5_goesWell rfl rfl rfl (by decide +kernel) ⟨Nat.le_of_ble_eq_true rfl, Nat.le_of_ble_eq_true rfl⟩) (g_preV hI hR.1 rfl) rfl rfl hl.1 rfl (lv_room (Nat.le_of_ble_eq_true rfl)) dX5_call_60 ⟨Nat.le_of_ble_eq_true rfl, Nat.le_of_ble_eq_true rfl⟩) (fun r_10 f_11 H locs hw_12 hI => ?_)
      obtain ⟨rfl, hR⟩ := hw_12
      obtain ⟨M_13, eM_13⟩ : ∃ z, z = mWell M 2 := ⟨_, rfl⟩
      rw [← eM_13] at hR
      refine g_b2i_ne (tgt := 68) hx hb dX5_call_63 (by decide) (fun z => absurd z (by decide)) (fun _ => ?_)
      refine lv_iconst (v := 0) hx hb dX5_call_66 (by decide) ?_
      exact g_iret hx hb hr hlocks hI (by have hE : (mCall M key ro sz) = (0, M_13) := (by simp only [mCall, c_4, c_8, if_true, if_false, ↓reduceIte, Bool.true_eq_false, Bool.false_eq_true, true_and, and_true, and_false, false_and, or_true, true_or, or_false, false_or, not_true_eq_false, not_false_eq_true, Bool.and_true, Bool.true_and, Bool.and_false, Bool.false_and, Bool.not_true, Bool.not_false, decide_true, decide_false, cond_true, cond_false] <;> (subst eM_13; rfl)); exact ⟨by rw [hE], by rw [hE]; exact hR⟩) (Nat.le_of_ble_eq_true rfl) (Nat.le_of_ble_eq_true rfl) dX5_call_67
    · refine lv_iconst (v := 1) hx hb dX5_call_33 (by decide) ?_
      refine lv_goto (tgt := 60) hx hb dX5_call_34 (by decide) ?_
      refine g_calli hI (va_runV (As := [.int 1]) (rest := []) ⟨hx, hb, hml, hown, hts⟩ (c_X5_goesWell l D cy de f_6 mm ma M 1 hR H.size) (cwV 1 hts gX5_call_X5_goesWell rfl rfl rfl (by decide +kernel) ⟨Nat.le_of_ble_eq_true rfl, Nat.le_of_ble_eq_true rfl⟩) (g_preV hI hR.1 rfl) rfl rfl hl.1 rfl (lv_room (Nat.le_of_ble_eq_true rfl)) dX5_call_60 ⟨Nat.le_of_ble_eq_true rfl, Nat.le_of_ble_eq_true rfl⟩) (fun r_15 f_16 H locs hw_17 hI => ?_)
      obtain ⟨rfl, hR⟩ := hw_17
      obtain ⟨M_18, eM_18⟩ : ∃ z, z = mWell M 1 := ⟨_, rfl⟩
      rw [← eM_18] at hR
      refine g_b2i_ne (tgt := 68) hx hb dX5_call_63 (by decide) (fun z => absurd z (by decide)) (fun _ => ?_)
      refine lv_iconst (v := 0) hx hb dX5_call_66 (by decide) ?_
      exact g_iret hx hb hr hlocks hI (by have hE : (mCall M key ro sz) = (0, M_18) := (by simp only [mCall, c_4, c_8, if_true, if_false, ↓reduceIte, Bool.true_eq_false, Bool.false_eq_true, true_and, and_true, and_false, false_and, or_true, true_or, or_false, false_or, not_true_eq_false, not_false_eq_true, Bool.and_true, Bool.true_and, Bool.and_false, Bool.false_and, Bool.not_true, Bool.not_false, decide_true, decide_false, cond_true, cond_false] <;> (subst eM_18; rfl)); exact ⟨by rw [hE], by rw [hE]; exact hR⟩) (Nat.le_of_ble_eq_true rfl) (Nat.le_of_ble_eq_true rfl) dX5_call_67
  · refine lv_iload_n hx hb dX5_call_7 rfl (lv_at hl 3 rfl) ?_
    refine lv_iconst (v := 1) hx hb dX5_call_8 (by decide) ?_
    refine lv_bipush (v := 9) hx hb dX5_call_9 (by decide) ?_
    refine g_calli hI (va_runS (As := [.int sz, .int 1, .int 9]) (rest := []) ⟨hx, hb, hml, hown, hts⟩ (c_X5_in l D cy de f_2 mm ma M sz 1 9 hR H.size) (va_cwS 3 hts gX5_call_X5_in rfl rfl rfl (by decide +kernel) ⟨Nat.le_of_ble_eq_true rfl, Nat.le_of_ble_eq_true rfl⟩) (g_preS hI) rfl rfl hl.1 rfl (lv_room (Nat.le_of_ble_eq_true rfl)) dX5_call_11 ⟨Nat.le_of_ble_eq_true rfl, Nat.le_of_ble_eq_true rfl⟩) (fun r_20 f_21 H locs hw_22 hI => ?_)
    obtain ⟨rfl, hR⟩ := hw_22
    refine g_b2i_eq (tgt := 21) hx hb dX5_call_14 (by decide) (fun c_23 => ?_) (fun c_23 => ?_)
    · refine lv_iconst (v := 0) hx hb dX5_call_21 (by decide) ?_
      refine lv_istore (lv' := [(4, .int 0), (0, .ref mm), (1, .int key), (2, .int ro), (3, .int sz)]) hx hb dX5_call_22 hl (by decide) rfl (fun ls hl => ?_)
      refine lv_aload_n hx hb dX5_call_24 rfl (lv_at hl 1 rfl) ?_
      refine lv_aload_n hx hb dX5_call_25 rfl (lv_at hl 1 rfl) ?_
      refine lv_iload_n hx hb dX5_call_26 rfl (lv_at hl 2 rfl) ?_
      refine g_calli hI (va_runV (As := [.int key]) (rest := [.ref mm]) ⟨hx, hb, hml, hown, hts⟩ (c_X5_isKey l D cy de f_21 mm ma M key hR H.size) (cwV 1 hts gX5_call_X5_isKey rfl rfl rfl (by decide +kernel) ⟨Nat.le_of_ble_eq_true rfl, Nat.le_of_ble_eq_true rfl⟩) (g_preV hI hR.1 rfl) rfl rfl hl.1 rfl (lv_room (Nat.le_of_ble_eq_true rfl)) dX5_call_27 ⟨Nat.le_of_ble_eq_true rfl, Nat.le_of_ble_eq_true rfl⟩) (fun r_24 f_25 H locs hw_26 hI => ?_)
      obtain ⟨rfl, hR⟩ := hw_26
      refine g_b2i_ne (tgt := 37) hx hb dX5_call_30 (by decide) (fun c_27 => ?_) (fun c_27 => ?_)
      · refine lv_iload hx hb dX5_call_37 (lv_at hl 0 rfl) ?_
        refine lv_if_ne (tgt := 46) hx hb dX5_call_39 (by decide) (fun z => absurd z (by decide)) (fun _ => ?_)
        refine lv_iconst (v := 2) hx hb dX5_call_42 (by decide) ?_
        refine lv_goto (tgt := 60) hx hb dX5_call_43 (by decide) ?_
        refine g_calli hI (va_runV (As := [.int 2]) (rest := []) ⟨hx, hb, hml, hown, hts⟩ (c_X5_goesWell l D cy de f_25 mm ma M 2 hR H.size) (cwV 1 hts gX5_call_X5_goesWell rfl rfl rfl (by decide +kernel) ⟨Nat.le_of_ble_eq_true rfl, Nat.le_of_ble_eq_true rfl⟩) (g_preV hI hR.1 rfl) rfl rfl hl.1 rfl (lv_room (Nat.le_of_ble_eq_true rfl)) dX5_call_60 ⟨Nat.le_of_ble_eq_true rfl, Nat.le_of_ble_eq_true rfl⟩) (fun r_29 f_30 H locs hw_31 hI => ?_)
        obtain ⟨rfl, hR⟩ := hw_31
        obtain ⟨M_32, eM_32⟩ : ∃ z, z = mWell M 2 := ⟨_, rfl⟩
        rw [← eM_32] at hR
        refine g_b2i_ne (tgt := 68) hx hb dX5_call_63 (by decide) (fun z => absurd z (by decide)) (fun _ => ?_)
        refine lv_iconst (v := 0) hx hb dX5_call_66 (by decide) ?_
        exact g_iret hx hb hr hlocks hI (by have hE : (mCall M key ro sz) = (0, M_32) := (by simp only [mCall, c_4, c_23, c_27, if_true, if_false, ↓reduceIte, Bool.true_eq_false, Bool.false_eq_true, true_and, and_true, and_false, false_and, or_true, true_or, or_false, false_or, not_true_eq_false, not_false_eq_true, Bool.and_true, Bool.true_and, Bool.and_false, Bool.false_and, Bool.not_true, Bool.not_false, decide_true, decide_false, cond_true, cond_false] <;> (subst eM_32; rfl)); exact ⟨by rw [hE], by rw [hE]; exact hR⟩) (Nat.le_of_ble_eq_true rfl) (Nat.le_of_ble_eq_true rfl) dX5_call_67
      · refine lv_iconst (v := 1) hx hb dX5_call_33 (by decide) ?_
        refine lv_goto (tgt := 60) hx hb dX5_call_34 (by decide) ?_
        refine g_calli hI (va_runV (As := [.int 1]) (rest := []) ⟨hx, hb, hml, hown, hts⟩ (c_X5_goesWell l D cy de f_25 mm ma M 1 hR H.size) (cwV 1 hts gX5_call_X5_goesWell rfl rfl rfl (by decide +kernel) ⟨Nat.le_of_ble_eq_true rfl, Nat.le_of_ble_eq_true rfl⟩) (g_preV hI hR.1 rfl) rfl rfl hl.1 rfl (lv_room (Nat.le_of_ble_eq_true rfl)) dX5_call_60 ⟨Nat.le_of_ble_eq_true rfl, Nat.le_of_ble_eq_true rfl⟩) (fun r_34 f_35 H locs hw_36 hI => ?_)
        obtain ⟨rfl, hR⟩ := hw_36
        obtain ⟨M_37, eM_37⟩ : ∃ z, z = mWell M 1 := ⟨_, rfl⟩
        rw [← eM_37] at hR
        refine g_b2i_ne (tgt := 68) hx hb dX5_call_63 (by decide) (fun z => absurd z (by decide)) (fun _ => ?_)
        refine lv_iconst (v := 0) hx hb dX5_call_66 (by decide) ?_
        exact g_iret hx hb hr hlocks hI (by have hE : (mCall M key ro sz) = (0, M_37) := (by simp only [mCall, c_4, c_23, c_27, if_true, if_false, ↓reduceIte, Bool.true_eq_false, Bool.false_eq_true, true_and, and_true, and_false, false_and, or_true, true_or, or_false, false_or, not_true_eq_false, not_false_eq_true, Bool.and_true, Bool.true_and, Bool.and_false, Bool.false_and, Bool.not_true, Bool.not_false, decide_true, decide_false, cond_true, cond_false] <;> (subst eM_37; rfl)); exact ⟨by rw [hE], by rw [hE]; exact hR⟩) (Nat.le_of_ble_eq_true rfl) (Nat.le_of_ble_eq_true rfl) dX5_call_67
    · refine lv_iconst (v := 1) hx hb dX5_call_17 (by decide) ?_
      refine lv_goto (tgt := 22) hx hb dX5_call_18 (by decide) ?_
      refine lv_istore (lv' := [(4, .int 1), (0, .ref mm), (1, .int key), (2, .int ro), (3, .int sz)]) hx hb dX5_call_22 hl (by decide) rfl (fun ls hl => ?_)
      refine lv_aload_n hx hb dX5_call_24 rfl (lv_at hl 1 rfl) ?_
      refine lv_aload_n hx hb dX5_call_25 rfl (lv_at hl 1 rfl) ?_
      refine lv_iload_n hx hb dX5_call_26 rfl (lv_at hl 2 rfl) ?_
      refine g_calli hI (va_runV (As := [.int key]) (rest := [.ref mm]) ⟨hx, hb, hml, hown, hts⟩ (c_X5_isKey l D cy de f_21 mm ma M key hR H.size) (cwV 1 hts gX5_call_X5_isKey rfl rfl rfl (by decide +kernel) ⟨Nat.le_of_ble_eq_true rfl, Nat.le_of_ble_eq_true rfl⟩) (g_preV hI hR.1 rfl) rfl rfl hl.1 rfl (lv_room (Nat.le_of_ble_eq_true rfl)) dX5_call_27 ⟨Nat.le_of_ble_eq_true rfl, Nat.le_of_ble_eq_true rfl⟩) (fun r_39 f_40 H locs hw_41 hI => ?_)
      obtain ⟨rfl, hR⟩ := hw_41
      refine g_b2i_ne (tgt := 37) hx hb dX5_call_30 (by decide) (fun c_42 => ?_) (fun c_42 => ?_)
      · refine lv_iload hx hb dX5_call_37 (lv_at hl 0 rfl) ?_
        refine lv_if_ne (tgt := 46) hx hb dX5_call_39 (by decide) (fun _ => ?_) (fun z => absurd z (by decide))
        refine lv_aload_n hx hb dX5_call_46 rfl (lv_at hl 1 rfl) ?_
        refine m_get hx hb hts hinX5 hown hI hR 13 (by decide) hw0 rfl rfl dX5_call_47 ?_
        refine lv_bipush (v := 80) hx hb dX5_call_50 (by decide) ?_
        refine lv_icmp_ne (tgt := 59) hx hb dX5_call_52 (by decide) (fun c_44 => ?_) (fun c_44 => ?_)
        · refine lv_iconst (v := 0) hx hb dX5_call_59 (by decide) ?_
          refine g_calli hI (va_runV (As := [.int 0]) (rest := []) ⟨hx, hb, hml, hown, hts⟩ (c_X5_goesWell l D cy de f_40 mm ma M 0 hR H.size) (cwV 1 hts gX5_call_X5_goesWell rfl rfl rfl (by decide +kernel) ⟨Nat.le_of_ble_eq_true rfl, Nat.le_of_ble_eq_true rfl⟩) (g_preV hI hR.1 rfl) rfl rfl hl.1 rfl (lv_room (Nat.le_of_ble_eq_true rfl)) dX5_call_60 ⟨Nat.le_of_ble_eq_true rfl, Nat.le_of_ble_eq_true rfl⟩) (fun r_45 f_46 H locs hw_47 hI => ?_)
          obtain ⟨rfl, hR⟩ := hw_47
          obtain ⟨M_48, eM_48⟩ : ∃ z, z = mWell M 0 := ⟨_, rfl⟩
          rw [← eM_48] at hR
          refine g_b2i_ne (tgt := 68) hx hb dX5_call_63 (by decide) (fun _ => ?_) (fun z => absurd z (by decide))
          refine lv_aload_n hx hb dX5_call_68 rfl (lv_at hl 1 rfl) ?_
          refine m_get hx hb hts hinX5 hown hI hR 4 (by decide) hw1 rfl rfl dX5_call_69 ?_
          refine lv_iload_n hx hb dX5_call_72 rfl (lv_at hl 3 rfl) ?_
          refine m_iald hx hb hI hR 4 rfl rfl (mIn_5 c_4) dX5_call_73 ?_
          refine lv_iload_n hx hb dX5_call_74 rfl (lv_at hl 4 rfl) ?_
          refine lv_imul hx hb dX5_call_75 ?_
          refine lv_istore (lv' := [(5, .int ((M_48 4 (ix ro)) * sz)), (4, .int 1), (0, .ref mm), (1, .int key), (2, .int ro), (3, .int sz)]) hx hb dX5_call_76 hl (by decide) rfl (fun ls hl => ?_)
          refine lv_aload_n hx hb dX5_call_78 rfl (lv_at hl 2 rfl) ?_
          refine m_get hx hb hts hinX5 hown hI hR 11 (by decide) hw2 rfl rfl dX5_call_79 ?_
          refine lv_iload_n hx hb dX5_call_82 rfl (lv_at hl 3 rfl) ?_
          refine m_iald hx hb hI hR 11 rfl rfl (mKey_in hok c_42) dX5_call_83 ?_
          refine lv_aload_n hx hb dX5_call_84 rfl (lv_at hl 2 rfl) ?_
          refine m_get hx hb hts hinX5 hown hI hR 5 (by decide) hw3 rfl rfl dX5_call_85 ?_
          refine lv_iload_n hx hb dX5_call_88 rfl (lv_at hl 4 rfl) ?_
          refine m_iald hx hb hI hR 5 rfl rfl (mIn_5 c_4) dX5_call_89 ?_
          refine lv_icmp_ge (tgt := 95) hx hb dX5_call_90 (by decide) (fun c_50 => ?_) (fun c_50 => ?_)
          · have c_50' := Int32.not_lt.mpr c_50
            refine lv_aload_n hx hb dX5_call_95 rfl (lv_at hl 2 rfl) ?_
            refine m_get hx hb hts hinX5 hown hI hR 8 (by decide) hw4 rfl rfl dX5_call_96 ?_
            refine lv_iload_n hx hb dX5_call_99 rfl (lv_at hl 3 rfl) ?_
            refine m_iald hx hb hI hR 8 rfl rfl (mKey_in hok c_42) dX5_call_100 ?_
            refine lv_iload hx hb dX5_call_101 (lv_at hl 0 rfl) ?_
            refine lv_icmp_ge (tgt := 125) hx hb dX5_call_103 (by decide) (fun c_51 => ?_) (fun c_51 => ?_)
            · have c_51' := Int32.not_lt.mpr c_51
              refine lv_aload_n hx hb dX5_call_125 rfl (lv_at hl 2 rfl) ?_
              refine m_get hx hb hts hinX5 hown hI hR 8 (by decide) hw4 rfl rfl dX5_call_126 ?_
              refine lv_iload_n hx hb dX5_call_129 rfl (lv_at hl 3 rfl) ?_
              refine m_iald hx hb hI hR 8 rfl rfl (mKey_in hok c_42) dX5_call_130 ?_
              refine lv_iload hx hb dX5_call_131 (lv_at hl 0 rfl) ?_
              refine lv_icmp_ge (tgt := 145) hx hb dX5_call_133 (by decide) (fun _ => ?_) (fun z => absurd (Int32.not_le.mp z) c_51')
              refine lv_iload hx hb dX5_call_145 (lv_at hl 0 rfl) ?_
              refine lv_istore (lv' := [(6, .int ((M_48 4 (ix ro)) * sz)), (5, .int ((M_48 4 (ix ro)) * sz)), (4, .int 1), (0, .ref mm), (1, .int key), (2, .int ro), (3, .int sz)]) hx hb dX5_call_147 hl (by decide) rfl (fun ls hl => ?_)
              refine lv_aload_n hx hb dX5_call_149 rfl (lv_at hl 3 rfl) ?_
              refine m_get hx hb hts hinX5 hown hI hR 8 (by decide) hw4 rfl rfl dX5_call_150 ?_
              refine lv_iload_n hx hb dX5_call_153 rfl (lv_at hl 4 rfl) ?_
              refine lv_dup2_11 hx hb dX5_call_154 rfl rfl ?_
              refine m_iald hx hb hI hR 8 rfl rfl (mKey_in hok c_42) dX5_call_155 ?_
              refine lv_iload hx hb dX5_call_156 (lv_at hl 0 rfl) ?_
              refine lv_isub hx hb dX5_call_158 ?_
              refine m_iast hx hb hI hR 8 rfl rfl (mKey_in hok c_42) dX5_call_159 (fun f_53 H locs hR hI => ?_)
              obtain ⟨M_54, eM_54⟩ : ∃ z, z = mw M_48 8 (ix key) ((M_48 8 (ix key)) - ((M_48 4 (ix ro)) * sz)) := ⟨_, rfl⟩
              rw [← eM_54] at hR
              refine lv_aload_n hx hb dX5_call_160 rfl (lv_at hl 3 rfl) ?_
              refine m_get hx hb hts hinX5 hown hI hR 10 (by decide) hw5 rfl rfl dX5_call_161 ?_
              refine lv_iload_n hx hb dX5_call_164 rfl (lv_at hl 4 rfl) ?_
              refine lv_dup2_11 hx hb dX5_call_165 rfl rfl ?_
              refine m_iald hx hb hI hR 10 rfl rfl (mKey_in hok c_42) dX5_call_166 ?_
              refine lv_iload hx hb dX5_call_167 (lv_at hl 1 rfl) ?_
              refine lv_iload hx hb dX5_call_169 (lv_at hl 0 rfl) ?_
              refine lv_isub hx hb dX5_call_171 ?_
              refine lv_iadd hx hb dX5_call_172 ?_
              refine m_iast hx hb hI hR 10 rfl rfl (mKey_in hok c_42) dX5_call_173 (fun f_55 H locs hR hI => ?_)
              obtain ⟨M_56, eM_56⟩ : ∃ z, z = mw M_54 10 (ix key) ((M_54 10 (ix key)) + (((M_48 4 (ix ro)) * sz) - ((M_48 4 (ix ro)) * sz))) := ⟨_, rfl⟩
              rw [← eM_56] at hR
              refine lv_aload_n hx hb dX5_call_174 rfl (lv_at hl 3 rfl) ?_
              refine m_get hx hb hts hinX5 hown hI hR 11 (by decide) hw2 rfl rfl dX5_call_175 ?_
              refine lv_iload_n hx hb dX5_call_178 rfl (lv_at hl 4 rfl) ?_
              refine lv_dup2_11 hx hb dX5_call_179 rfl rfl ?_
              refine m_iald hx hb hI hR 11 rfl rfl (mKey_in hok c_42) dX5_call_180 ?_
              refine lv_aload_n hx hb dX5_call_181 rfl (lv_at hl 3 rfl) ?_
              refine m_get hx hb hts hinX5 hown hI hR 5 (by decide) hw3 rfl rfl dX5_call_182 ?_
              refine lv_iload_n hx hb dX5_call_185 rfl (lv_at hl 5 rfl) ?_
              refine m_iald hx hb hI hR 5 rfl rfl (mIn_5 c_4) dX5_call_186 ?_
              refine lv_isub hx hb dX5_call_187 ?_
              refine m_iast hx hb hI hR 11 rfl rfl (mKey_in hok c_42) dX5_call_188 (fun f_57 H locs hR hI => ?_)
              obtain ⟨M_58, eM_58⟩ : ∃ z, z = mw M_56 11 (ix key) ((M_56 11 (ix key)) - (M_56 5 (ix ro))) := ⟨_, rfl⟩
              rw [← eM_58] at hR
              refine lv_aload_n hx hb dX5_call_189 rfl (lv_at hl 3 rfl) ?_
              refine m_get hx hb hts hinX5 hown hI hR 14 (by decide) hw6 rfl rfl dX5_call_190 ?_
              refine lv_aload_n hx hb dX5_call_193 rfl (lv_at hl 3 rfl) ?_
              refine m_get hx hb hts hinX5 hown hI hR 13 (by decide) hw0 rfl rfl dX5_call_194 ?_
              refine lv_iload_n hx hb dX5_call_197 rfl (lv_at hl 4 rfl) ?_
              refine m_iast hx hb hI hR 14 rfl rfl (by subst eM_58; subst eM_56; subst eM_54; subst eM_48; exact (show vp_in (M 13 0) 80 from (mNew_cal hok c_44))) dX5_call_198 (fun f_59 H locs hR hI => ?_)
              obtain ⟨M_60, eM_60⟩ : ∃ z, z = mw M_58 14 (ix (M_58 13 0)) key := ⟨_, rfl⟩
              rw [← eM_60] at hR
              refine lv_aload_n hx hb dX5_call_199 rfl (lv_at hl 3 rfl) ?_
              refine m_get hx hb hts hinX5 hown hI hR 15 (by decide) hw7 rfl rfl dX5_call_200 ?_
              refine lv_aload_n hx hb dX5_call_203 rfl (lv_at hl 3 rfl) ?_
              refine m_get hx hb hts hinX5 hown hI hR 13 (by decide) hw0 rfl rfl dX5_call_204 ?_
              refine lv_iload hx hb dX5_call_207 (lv_at hl 1 rfl) ?_
              refine m_iast hx hb hI hR 15 rfl rfl (by subst eM_60; subst eM_58; subst eM_56; subst eM_54; subst eM_48; exact (show vp_in (M 13 0) 80 from (mNew_cal hok c_44))) dX5_call_209 (fun f_61 H locs hR hI => ?_)
              obtain ⟨M_62, eM_62⟩ : ∃ z, z = mw M_60 15 (ix (M_60 13 0)) ((M_48 4 (ix ro)) * sz) := ⟨_, rfl⟩
              rw [← eM_62] at hR
              refine lv_aload_n hx hb dX5_call_210 rfl (lv_at hl 3 rfl) ?_
              refine m_get hx hb hts hinX5 hown hI hR 16 (by decide) hw8 rfl rfl dX5_call_211 ?_
              refine lv_aload_n hx hb dX5_call_214 rfl (lv_at hl 3 rfl) ?_
              refine m_get hx hb hts hinX5 hown hI hR 13 (by decide) hw0 rfl rfl dX5_call_215 ?_
              refine lv_aload_n hx hb dX5_call_218 rfl (lv_at hl 3 rfl) ?_
              refine m_get hx hb hts hinX5 hown hI hR 5 (by decide) hw3 rfl rfl dX5_call_219 ?_
              refine lv_iload_n hx hb dX5_call_222 rfl (lv_at hl 5 rfl) ?_
              refine m_iald hx hb hI hR 5 rfl rfl (mIn_5 c_4) dX5_call_223 ?_
              refine m_iast hx hb hI hR 16 rfl rfl (by subst eM_62; subst eM_60; subst eM_58; subst eM_56; subst eM_54; subst eM_48; exact (show vp_in (M 13 0) 80 from (mNew_cal hok c_44))) dX5_call_224 (fun f_63 H locs hR hI => ?_)
              obtain ⟨M_64, eM_64⟩ : ∃ z, z = mw M_62 16 (ix (M_62 13 0)) (M_62 5 (ix ro)) := ⟨_, rfl⟩
              rw [← eM_64] at hR
              refine lv_aload_n hx hb dX5_call_225 rfl (lv_at hl 3 rfl) ?_
              refine m_get hx hb hts hinX5 hown hI hR 17 (by decide) hw9 rfl rfl dX5_call_226 ?_
              refine lv_aload_n hx hb dX5_call_229 rfl (lv_at hl 3 rfl) ?_
              refine m_get hx hb hts hinX5 hown hI hR 13 (by decide) hw0 rfl rfl dX5_call_230 ?_
              refine lv_aload_n hx hb dX5_call_233 rfl (lv_at hl 3 rfl) ?_
              refine m_get hx hb hts hinX5 hown hI hR 22 (by decide) hw10 rfl rfl dX5_call_234 ?_
              refine m_iast hx hb hI hR 17 rfl rfl (by subst eM_64; subst eM_62; subst eM_60; subst eM_58; subst eM_56; subst eM_54; subst eM_48; exact (show vp_in (M 13 0) 80 from (mNew_cal hok c_44))) dX5_call_237 (fun f_65 H locs hR hI => ?_)
              obtain ⟨M_66, eM_66⟩ : ∃ z, z = mw M_64 17 (ix (M_64 13 0)) (M_64 22 0) := ⟨_, rfl⟩
              rw [← eM_66] at hR
              refine lv_aload_n hx hb dX5_call_238 rfl (lv_at hl 3 rfl) ?_
              refine lv_dup hx hb dX5_call_239 rfl ?_
              refine m_get hx hb hts hinX5 hown hI hR 13 (by decide) hw0 rfl rfl dX5_call_240 ?_
              refine lv_iconst (v := 1) hx hb dX5_call_243 (by decide) ?_
              refine lv_iadd hx hb dX5_call_244 ?_
              refine m_put hx hb hts hinX5 hown hI hR 13 (by decide) rfl hw0 rfl rfl (by decide +kernel) dX5_call_245 (fun f_67 H locs hR hI => ?_)
              obtain ⟨M_68, eM_68⟩ : ∃ z, z = mw M_66 13 0 ((M_66 13 0) + 1) := ⟨_, rfl⟩
              rw [← eM_68] at hR
              refine lv_iconst (v := 0) hx hb dX5_call_248 (by decide) ?_
              exact g_iret hx hb hr hlocks hI (by have hE : (mCall M key ro sz) = (0, M_68) := (by subst eM_48; simp only [mCall, c_4, c_23, c_42, c_44, c_50, c_50', c_51, c_51', if_true, if_false, ↓reduceIte, Bool.true_eq_false, Bool.false_eq_true, true_and, and_true, and_false, false_and, or_true, true_or, or_false, false_or, not_true_eq_false, not_false_eq_true, Bool.and_true, Bool.true_and, Bool.and_false, Bool.false_and, Bool.not_true, Bool.not_false, decide_true, decide_false, cond_true, cond_false] <;> (subst eM_68; subst eM_66; subst eM_64; subst eM_62; subst eM_60; subst eM_58; subst eM_56; subst eM_54; rfl)); exact ⟨by rw [hE], by rw [hE]; exact hR⟩) (Nat.le_of_ble_eq_true rfl) (Nat.le_of_ble_eq_true rfl) dX5_call_249
            · have c_51' := Int32.not_le.mp c_51
              refine lv_aload_n hx hb dX5_call_106 rfl (lv_at hl 2 rfl) ?_
              refine m_get hx hb hts hinX5 hown hI hR 8 (by decide) hw4 rfl rfl dX5_call_107 ?_
              refine lv_iload_n hx hb dX5_call_110 rfl (lv_at hl 3 rfl) ?_
              refine m_iald hx hb hI hR 8 rfl rfl (mKey_in hok c_42) dX5_call_111 ?_
              refine lv_aload_n hx hb dX5_call_112 rfl (lv_at hl 2 rfl) ?_
              refine lv_iload_n hx hb dX5_call_113 rfl (lv_at hl 3 rfl) ?_
              refine g_calli hI (va_runV (As := [.int key]) (rest := [.int (M_48 8 (ix key))]) ⟨hx, hb, hml, hown, hts⟩ (c_X5_leftOf l D cy de f_46 mm ma M_48 key hR (mKey_in hok c_42) H.size) (cwV 1 hts gX5_call_X5_leftOf rfl rfl rfl (by decide +kernel) ⟨Nat.le_of_ble_eq_true rfl, Nat.le_of_ble_eq_true rfl⟩) (g_preV hI hR.1 rfl) rfl rfl hl.1 rfl (lv_room (Nat.le_of_ble_eq_true rfl)) dX5_call_114 ⟨Nat.le_of_ble_eq_true rfl, Nat.le_of_ble_eq_true rfl⟩) (fun r_69 f_70 H locs hw_71 hI => ?_)
              obtain ⟨rfl, hR⟩ := hw_71
              refine lv_iadd hx hb dX5_call_117 ?_
              refine lv_iload hx hb dX5_call_118 (lv_at hl 0 rfl) ?_
              refine lv_icmp_ge (tgt := 125) hx hb dX5_call_120 (by decide) (fun c_72 => ?_) (fun c_72 => ?_)
              · have c_72' := Int32.not_lt.mpr c_72
                refine lv_aload_n hx hb dX5_call_125 rfl (lv_at hl 2 rfl) ?_
                refine m_get hx hb hts hinX5 hown hI hR 8 (by decide) hw4 rfl rfl dX5_call_126 ?_
                refine lv_iload_n hx hb dX5_call_129 rfl (lv_at hl 3 rfl) ?_
                refine m_iald hx hb hI hR 8 rfl rfl (mKey_in hok c_42) dX5_call_130 ?_
                refine lv_iload hx hb dX5_call_131 (lv_at hl 0 rfl) ?_
                refine lv_icmp_ge (tgt := 145) hx hb dX5_call_133 (by decide) (fun z => absurd c_51' (Int32.not_lt.mpr z)) (fun _ => ?_)
                refine lv_aload_n hx hb dX5_call_136 rfl (lv_at hl 2 rfl) ?_
                refine m_get hx hb hts hinX5 hown hI hR 8 (by decide) hw4 rfl rfl dX5_call_137 ?_
                refine lv_iload_n hx hb dX5_call_140 rfl (lv_at hl 3 rfl) ?_
                refine m_iald hx hb hI hR 8 rfl rfl (mKey_in hok c_42) dX5_call_141 ?_
                refine lv_goto (tgt := 147) hx hb dX5_call_142 (by decide) ?_
                refine lv_istore (lv' := [(6, .int (M_48 8 (ix key))), (5, .int ((M_48 4 (ix ro)) * sz)), (4, .int 1), (0, .ref mm), (1, .int key), (2, .int ro), (3, .int sz)]) hx hb dX5_call_147 hl (by decide) rfl (fun ls hl => ?_)
                refine lv_aload_n hx hb dX5_call_149 rfl (lv_at hl 3 rfl) ?_
                refine m_get hx hb hts hinX5 hown hI hR 8 (by decide) hw4 rfl rfl dX5_call_150 ?_
                refine lv_iload_n hx hb dX5_call_153 rfl (lv_at hl 4 rfl) ?_
                refine lv_dup2_11 hx hb dX5_call_154 rfl rfl ?_
                refine m_iald hx hb hI hR 8 rfl rfl (mKey_in hok c_42) dX5_call_155 ?_
                refine lv_iload hx hb dX5_call_156 (lv_at hl 0 rfl) ?_
                refine lv_isub hx hb dX5_call_158 ?_
                refine m_iast hx hb hI hR 8 rfl rfl (mKey_in hok c_42) dX5_call_159 (fun f_74 H locs hR hI => ?_)
                obtain ⟨M_75, eM_75⟩ : ∃ z, z = mw M_48 8 (ix key) ((M_48 8 (ix key)) - (M_48 8 (ix key))) := ⟨_, rfl⟩
                rw [← eM_75] at hR
                refine lv_aload_n hx hb dX5_call_160 rfl (lv_at hl 3 rfl) ?_
                refine m_get hx hb hts hinX5 hown hI hR 10 (by decide) hw5 rfl rfl dX5_call_161 ?_
                refine lv_iload_n hx hb dX5_call_164 rfl (lv_at hl 4 rfl) ?_
                refine lv_dup2_11 hx hb dX5_call_165 rfl rfl ?_
                refine m_iald hx hb hI hR 10 rfl rfl (mKey_in hok c_42) dX5_call_166 ?_
                refine lv_iload hx hb dX5_call_167 (lv_at hl 1 rfl) ?_
                refine lv_iload hx hb dX5_call_169 (lv_at hl 0 rfl) ?_
                refine lv_isub hx hb dX5_call_171 ?_
                refine lv_iadd hx hb dX5_call_172 ?_
                refine m_iast hx hb hI hR 10 rfl rfl (mKey_in hok c_42) dX5_call_173 (fun f_76 H locs hR hI => ?_)
                obtain ⟨M_77, eM_77⟩ : ∃ z, z = mw M_75 10 (ix key) ((M_75 10 (ix key)) + (((M_48 4 (ix ro)) * sz) - (M_48 8 (ix key)))) := ⟨_, rfl⟩
                rw [← eM_77] at hR
                refine lv_aload_n hx hb dX5_call_174 rfl (lv_at hl 3 rfl) ?_
                refine m_get hx hb hts hinX5 hown hI hR 11 (by decide) hw2 rfl rfl dX5_call_175 ?_
                refine lv_iload_n hx hb dX5_call_178 rfl (lv_at hl 4 rfl) ?_
                refine lv_dup2_11 hx hb dX5_call_179 rfl rfl ?_
                refine m_iald hx hb hI hR 11 rfl rfl (mKey_in hok c_42) dX5_call_180 ?_
                refine lv_aload_n hx hb dX5_call_181 rfl (lv_at hl 3 rfl) ?_
                refine m_get hx hb hts hinX5 hown hI hR 5 (by decide) hw3 rfl rfl dX5_call_182 ?_
                refine lv_iload_n hx hb dX5_call_185 rfl (lv_at hl 5 rfl) ?_
                refine m_iald hx hb hI hR 5 rfl rfl (mIn_5 c_4) dX5_call_186 ?_
                refine lv_isub hx hb dX5_call_187 ?_
                refine m_iast hx hb hI hR 11 rfl rfl (mKey_in hok c_42) dX5_call_188 (fun f_78 H locs hR hI => ?_)
                obtain ⟨M_79, eM_79⟩ : ∃ z, z = mw M_77 11 (ix key) ((M_77 11 (ix key)) - (M_77 5 (ix ro))) := ⟨_, rfl⟩
                rw [← eM_79] at hR
                refine lv_aload_n hx hb dX5_call_189 rfl (lv_at hl 3 rfl) ?_
                refine m_get hx hb hts hinX5 hown hI hR 14 (by decide) hw6 rfl rfl dX5_call_190 ?_
                refine lv_aload_n hx hb dX5_call_193 rfl (lv_at hl 3 rfl) ?_
                refine m_get hx hb hts hinX5 hown hI hR 13 (by decide) hw0 rfl rfl dX5_call_194 ?_
                refine lv_iload_n hx hb dX5_call_197 rfl (lv_at hl 4 rfl) ?_
                refine m_iast hx hb hI hR 14 rfl rfl (by subst eM_79; subst eM_77; subst eM_75; subst eM_48; exact (show vp_in (M 13 0) 80 from (mNew_cal hok c_44))) dX5_call_198 (fun f_80 H locs hR hI => ?_)
                obtain ⟨M_81, eM_81⟩ : ∃ z, z = mw M_79 14 (ix (M_79 13 0)) key := ⟨_, rfl⟩
                rw [← eM_81] at hR
                refine lv_aload_n hx hb dX5_call_199 rfl (lv_at hl 3 rfl) ?_
                refine m_get hx hb hts hinX5 hown hI hR 15 (by decide) hw7 rfl rfl dX5_call_200 ?_
                refine lv_aload_n hx hb dX5_call_203 rfl (lv_at hl 3 rfl) ?_
                refine m_get hx hb hts hinX5 hown hI hR 13 (by decide) hw0 rfl rfl dX5_call_204 ?_
                refine lv_iload hx hb dX5_call_207 (lv_at hl 1 rfl) ?_
                refine m_iast hx hb hI hR 15 rfl rfl (by subst eM_81; subst eM_79; subst eM_77; subst eM_75; subst eM_48; exact (show vp_in (M 13 0) 80 from (mNew_cal hok c_44))) dX5_call_209 (fun f_82 H locs hR hI => ?_)
                obtain ⟨M_83, eM_83⟩ : ∃ z, z = mw M_81 15 (ix (M_81 13 0)) ((M_48 4 (ix ro)) * sz) := ⟨_, rfl⟩
                rw [← eM_83] at hR
                refine lv_aload_n hx hb dX5_call_210 rfl (lv_at hl 3 rfl) ?_
                refine m_get hx hb hts hinX5 hown hI hR 16 (by decide) hw8 rfl rfl dX5_call_211 ?_
                refine lv_aload_n hx hb dX5_call_214 rfl (lv_at hl 3 rfl) ?_
                refine m_get hx hb hts hinX5 hown hI hR 13 (by decide) hw0 rfl rfl dX5_call_215 ?_
                refine lv_aload_n hx hb dX5_call_218 rfl (lv_at hl 3 rfl) ?_
                refine m_get hx hb hts hinX5 hown hI hR 5 (by decide) hw3 rfl rfl dX5_call_219 ?_
                refine lv_iload_n hx hb dX5_call_222 rfl (lv_at hl 5 rfl) ?_
                refine m_iald hx hb hI hR 5 rfl rfl (mIn_5 c_4) dX5_call_223 ?_
                refine m_iast hx hb hI hR 16 rfl rfl (by subst eM_83; subst eM_81; subst eM_79; subst eM_77; subst eM_75; subst eM_48; exact (show vp_in (M 13 0) 80 from (mNew_cal hok c_44))) dX5_call_224 (fun f_84 H locs hR hI => ?_)
                obtain ⟨M_85, eM_85⟩ : ∃ z, z = mw M_83 16 (ix (M_83 13 0)) (M_83 5 (ix ro)) := ⟨_, rfl⟩
                rw [← eM_85] at hR
                refine lv_aload_n hx hb dX5_call_225 rfl (lv_at hl 3 rfl) ?_
                refine m_get hx hb hts hinX5 hown hI hR 17 (by decide) hw9 rfl rfl dX5_call_226 ?_
                refine lv_aload_n hx hb dX5_call_229 rfl (lv_at hl 3 rfl) ?_
                refine m_get hx hb hts hinX5 hown hI hR 13 (by decide) hw0 rfl rfl dX5_call_230 ?_
                refine lv_aload_n hx hb dX5_call_233 rfl (lv_at hl 3 rfl) ?_
                refine m_get hx hb hts hinX5 hown hI hR 22 (by decide) hw10 rfl rfl dX5_call_234 ?_
                refine m_iast hx hb hI hR 17 rfl rfl (by subst eM_85; subst eM_83; subst eM_81; subst eM_79; subst eM_77; subst eM_75; subst eM_48; exact (show vp_in (M 13 0) 80 from (mNew_cal hok c_44))) dX5_call_237 (fun f_86 H locs hR hI => ?_)
                obtain ⟨M_87, eM_87⟩ : ∃ z, z = mw M_85 17 (ix (M_85 13 0)) (M_85 22 0) := ⟨_, rfl⟩
                rw [← eM_87] at hR
                refine lv_aload_n hx hb dX5_call_238 rfl (lv_at hl 3 rfl) ?_
                refine lv_dup hx hb dX5_call_239 rfl ?_
                refine m_get hx hb hts hinX5 hown hI hR 13 (by decide) hw0 rfl rfl dX5_call_240 ?_
                refine lv_iconst (v := 1) hx hb dX5_call_243 (by decide) ?_
                refine lv_iadd hx hb dX5_call_244 ?_
                refine m_put hx hb hts hinX5 hown hI hR 13 (by decide) rfl hw0 rfl rfl (by decide +kernel) dX5_call_245 (fun f_88 H locs hR hI => ?_)
                obtain ⟨M_89, eM_89⟩ : ∃ z, z = mw M_87 13 0 ((M_87 13 0) + 1) := ⟨_, rfl⟩
                rw [← eM_89] at hR
                refine lv_iconst (v := 0) hx hb dX5_call_248 (by decide) ?_
                exact g_iret hx hb hr hlocks hI (by have hE : (mCall M key ro sz) = (0, M_89) := (by subst eM_48; simp only [mCall, c_4, c_23, c_42, c_44, c_50, c_50', c_51, c_51', c_72, c_72', if_true, if_false, ↓reduceIte, Bool.true_eq_false, Bool.false_eq_true, true_and, and_true, and_false, false_and, or_true, true_or, or_false, false_or, not_true_eq_false, not_false_eq_true, Bool.and_true, Bool.true_and, Bool.and_false, Bool.false_and, Bool.not_true, Bool.not_false, decide_true, decide_false, cond_true, cond_false] <;> (subst eM_89; subst eM_87; subst eM_85; subst eM_83; subst eM_81; subst eM_79; subst eM_77; subst eM_75; rfl)); exact ⟨by rw [hE], by rw [hE]; exact hR⟩) (Nat.le_of_ble_eq_true rfl) (Nat.le_of_ble_eq_true rfl) dX5_call_249
              · have c_72' := Int32.not_le.mp c_72
                refine lv_iconst (v := 2) hx hb dX5_call_123 (by decide) ?_
                exact g_iret hx hb hr hlocks hI (by have hE : (mCall M key ro sz) = (2, M_48) := (by subst eM_48; simp only [mCall, c_4, c_23, c_42, c_44, c_50, c_50', c_51, c_51', c_72, c_72', if_true, if_false, ↓reduceIte, Bool.true_eq_false, Bool.false_eq_true, true_and, and_true, and_false, false_and, or_true, true_or, or_false, false_or, not_true_eq_false, not_false_eq_true, Bool.and_true, Bool.true_and, Bool.and_false, Bool.false_and, Bool.not_true, Bool.not_false, decide_true, decide_false, cond_true, cond_false] <;> (rfl)); exact ⟨by rw [hE], by rw [hE]; exact hR⟩) (Nat.le_of_ble_eq_true rfl) (Nat.le_of_ble_eq_true rfl) dX5_call_124
          · have c_50' := Int32.not_le.mp c_50
            refine lv_iconst (v := 1) hx hb dX5_call_93 (by decide) ?_
            exact g_iret hx hb hr hlocks hI (by have hE : (mCall M key ro sz) = (1, M_48) := (by subst eM_48; simp only [mCall, c_4, c_23, c_42, c_44, c_50, c_50', if_true, if_false, ↓reduceIte, Bool.true_eq_false, Bool.false_eq_true, true_and, and_true, and_false, false_and, or_true, true_or, or_false, false_or, not_true_eq_false, not_false_eq_true, Bool.and_true, Bool.true_and, Bool.and_false, Bool.false_and, Bool.not_true, Bool.not_false, decide_true, decide_false, cond_true, cond_false] <;> (rfl)); exact ⟨by rw [hE], by rw [hE]; exact hR⟩) (Nat.le_of_ble_eq_true rfl) (Nat.le_of_ble_eq_true rfl) dX5_call_94
        · refine lv_iconst (v := 3) hx hb dX5_call_55 (by decide) ?_
          refine lv_goto (tgt := 60) hx hb dX5_call_56 (by decide) ?_
          refine g_calli hI (va_runV (As := [.int 3]) (rest := []) ⟨hx, hb, hml, hown, hts⟩ (c_X5_goesWell l D cy de f_40 mm ma M 3 hR H.size) (cwV 1 hts gX5_call_X5_goesWell rfl rfl rfl (by decide +kernel) ⟨Nat.le_of_ble_eq_true rfl, Nat.le_of_ble_eq_true rfl⟩) (g_preV hI hR.1 rfl) rfl rfl hl.1 rfl (lv_room (Nat.le_of_ble_eq_true rfl)) dX5_call_60 ⟨Nat.le_of_ble_eq_true rfl, Nat.le_of_ble_eq_true rfl⟩) (fun r_90 f_91 H locs hw_92 hI => ?_)
          obtain ⟨rfl, hR⟩ := hw_92
          obtain ⟨M_93, eM_93⟩ : ∃ z, z = mWell M 3 := ⟨_, rfl⟩
          rw [← eM_93] at hR
          refine g_b2i_ne (tgt := 68) hx hb dX5_call_63 (by decide) (fun z => absurd z (by decide)) (fun _ => ?_)
          refine lv_iconst (v := 0) hx hb dX5_call_66 (by decide) ?_
          exact g_iret hx hb hr hlocks hI (by have hE : (mCall M key ro sz) = (0, M_93) := (by simp only [mCall, c_4, c_23, c_42, c_44, if_true, if_false, ↓reduceIte, Bool.true_eq_false, Bool.false_eq_true, true_and, and_true, and_false, false_and, or_true, true_or, or_false, false_or, not_true_eq_false, not_false_eq_true, Bool.and_true, Bool.true_and, Bool.and_false, Bool.false_and, Bool.not_true, Bool.not_false, decide_true, decide_false, cond_true, cond_false] <;> (subst eM_93; rfl)); exact ⟨by rw [hE], by rw [hE]; exact hR⟩) (Nat.le_of_ble_eq_true rfl) (Nat.le_of_ble_eq_true rfl) dX5_call_67
      · refine lv_iconst (v := 1) hx hb dX5_call_33 (by decide) ?_
        refine lv_goto (tgt := 60) hx hb dX5_call_34 (by decide) ?_
        refine g_calli hI (va_runV (As := [.int 1]) (rest := []) ⟨hx, hb, hml, hown, hts⟩ (c_X5_goesWell l D cy de f_40 mm ma M 1 hR H.size) (cwV 1 hts gX5_call_X5_goesWell rfl rfl rfl (by decide +kernel) ⟨Nat.le_of_ble_eq_true rfl, Nat.le_of_ble_eq_true rfl⟩) (g_preV hI hR.1 rfl) rfl rfl hl.1 rfl (lv_room (Nat.le_of_ble_eq_true rfl)) dX5_call_60 ⟨Nat.le_of_ble_eq_true rfl, Nat.le_of_ble_eq_true rfl⟩) (fun r_95 f_96 H locs hw_97 hI => ?_)
        obtain ⟨rfl, hR⟩ := hw_97
        obtain ⟨M_98, eM_98⟩ : ∃ z, z = mWell M 1 := ⟨_, rfl⟩
        rw [← eM_98] at hR
        refine g_b2i_ne (tgt := 68) hx hb dX5_call_63 (by decide) (fun z => absurd z (by decide)) (fun _ => ?_)
        refine lv_iconst (v := 0) hx hb dX5_call_66 (by decide) ?_
        exact g_iret hx hb hr hlocks hI (by have hE : (mCall M key ro sz) = (0, M_98) := (by simp only [mCall, c_4, c_23, c_42, if_true, if_false, ↓reduceIte, Bool.true_eq_false, Bool.false_eq_true, true_and, and_true, and_false, false_and, or_true, true_or, or_false, false_or, not_true_eq_false, not_false_eq_true, Bool.and_true, Bool.true_and, Bool.and_false, Bool.false_and, Bool.not_true, Bool.not_false, decide_true, decide_false, cond_true, cond_false] <;> (subst eM_98; rfl)); exact ⟨by rw [hE], by rw [hE]; exact hR⟩) (Nat.le_of_ble_eq_true rfl) (Nat.le_of_ble_eq_true rfl) dX5_call_67

set_option maxHeartbeats 4000000 in
set_option maxRecDepth 100000 in
/-- settle -/
theorem c_X5_settle (l : Launch) (D : va_G) (cy : Nat → ClassId) (de : Nat) (f : gFm) (mm : Nat) (ma : Nat → Nat) (M : gMd) (cal : Int32) (cost : Int32) (hR : Rm cy mm ma M f) (h1 : vp_in cal 80) (h2 : vp_in (M 14 (ix cal)) 8) : gMv l yX5_settle wsX5_settle { frames := 1, cells := 0, slots := 0, locals := 23 } D cy de [.ref mm, .int cal, .int cost] f (fun f9 => Rm cy mm ma (mSettle M cal cost) f9) 0 0 := by
  refine fun sz => Met.ofW (cc := cX5_settle) (maxL := 3) (ret := none) (by decide) rfl ?_
  intro p e s m args below meth c s₁ B hml hv
  obtain ⟨rfl, hv⟩ := hv
  obtain ⟨rfl, hI⟩ := gP_I hv
  have hx := B.exec
  have hb := B.bytes
  have hr := B.returns
  have hts := atoms_spec (ws := wsX5_settle) B.pre
  have hown : s.vm.findClass RX5 = some m.cls := findClass_of_methodNamed B.named
  have hlocks := B.notSynchronized
  have hinX5 : ∀ w ∈ wsX50, w ∈ wsX5_settle := by decide +kernel
  have hw0 := hts (.fieldLink RX5 61 "TollGatewayModel" "hasEnded" "[Z") (by decide +kernel)
  have hw1 := hts (.fieldLink RX5 55 "TollGatewayModel" "costs" "[I") (by decide +kernel)
  have hw2 := hts (.fieldLink RX5 58 "TollGatewayModel" "endedAt" "[I") (by decide +kernel)
  have hw3 := hts (.fieldLink RX5 104 "TollGatewayModel" "tick" "I") (by decide +kernel)
  have hw4 := hts (.fieldLink RX5 43 "TollGatewayModel" "callers" "[I") (by decide +kernel)
  have hw5 := hts (.fieldLink RX5 46 "TollGatewayModel" "worths" "[I") (by decide +kernel)
  have hl := lv_entry ([.ref mm, .int cal, .int cost]) (n := 3) (Nat.le_of_ble_eq_true rfl)
  rw [lg_entry_eq]
  generalize (lg_sl ([.ref mm, .int cal, .int cost]) ++ List.replicate (3 - (lg_sl ([.ref mm, .int cal, .int cost])).length) Slot.unset).toArray = ls at hl ⊢
  have hl : lv_has ls 3 [(0, .ref mm), (1, .int cal), (2, .int cost)] := hl
  refine lv_aload_n hx hb dX5_settle_0 rfl (lv_at hl 0 rfl) ?_
  refine m_get hx hb hts hinX5 hown hI hR 20 (by decide) hw0 rfl rfl dX5_settle_1 ?_
  refine lv_iload_n hx hb dX5_settle_4 rfl (lv_at hl 1 rfl) ?_
  refine lv_iconst (v := 1) hx hb dX5_settle_5 (by decide) ?_
  refine m_zast hx hb hI hR 20 rfl rfl rfl h1 dX5_settle_6 (fun f_1 H locs hR hI => ?_)
  obtain ⟨M_2, eM_2⟩ : ∃ z, z = mw M 20 (ix cal) 1 := ⟨_, rfl⟩
  rw [← eM_2] at hR
  refine lv_aload_n hx hb dX5_settle_7 rfl (lv_at hl 0 rfl) ?_
  refine m_get hx hb hts hinX5 hown hI hR 18 (by decide) hw1 rfl rfl dX5_settle_8 ?_
  refine lv_iload_n hx hb dX5_settle_11 rfl (lv_at hl 1 rfl) ?_
  refine lv_iload_n hx hb dX5_settle_12 rfl (lv_at hl 2 rfl) ?_
  refine m_iast hx hb hI hR 18 rfl rfl h1 dX5_settle_13 (fun f_3 H locs hR hI => ?_)
  obtain ⟨M_4, eM_4⟩ : ∃ z, z = mw M_2 18 (ix cal) cost := ⟨_, rfl⟩
  rw [← eM_4] at hR
  refine lv_aload_n hx hb dX5_settle_14 rfl (lv_at hl 0 rfl) ?_
  refine m_get hx hb hts hinX5 hown hI hR 19 (by decide) hw2 rfl rfl dX5_settle_15 ?_
  refine lv_iload_n hx hb dX5_settle_18 rfl (lv_at hl 1 rfl) ?_
  refine lv_aload_n hx hb dX5_settle_19 rfl (lv_at hl 0 rfl) ?_
  refine m_get hx hb hts hinX5 hown hI hR 22 (by decide) hw3 rfl rfl dX5_settle_20 ?_
  refine m_iast hx hb hI hR 19 rfl rfl h1 dX5_settle_23 (fun f_5 H locs hR hI => ?_)
  obtain ⟨M_6, eM_6⟩ : ∃ z, z = mw M_4 19 (ix cal) (M_4 22 0) := ⟨_, rfl⟩
  rw [← eM_6] at hR
  refine lv_aload_n hx hb dX5_settle_24 rfl (lv_at hl 0 rfl) ?_
  refine lv_aload_n hx hb dX5_settle_25 rfl (lv_at hl 0 rfl) ?_
  refine m_get hx hb hts hinX5 hown hI hR 14 (by decide) hw4 rfl rfl dX5_settle_26 ?_
  refine lv_iload_n hx hb dX5_settle_29 rfl (lv_at hl 1 rfl) ?_
  refine m_iald hx hb hI hR 14 rfl rfl h1 dX5_settle_30 ?_
  refine lv_aload_n hx hb dX5_settle_31 rfl (lv_at hl 0 rfl) ?_
  refine m_get hx hb hts hinX5 hown hI hR 15 (by decide) hw5 rfl rfl dX5_settle_32 ?_
  refine lv_iload_n hx hb dX5_settle_35 rfl (lv_at hl 1 rfl) ?_
  refine m_iald hx hb hI hR 15 rfl rfl h1 dX5_settle_36 ?_
  refine lv_iload_n hx hb dX5_settle_37 rfl (lv_at hl 2 rfl) ?_
  refine lv_isub hx hb dX5_settle_38 ?_
  refine g_callv hI (va_runV (As := [.int (M_6 14 (ix cal)), .int ((M_6 15 (ix cal)) - cost)]) (rest := []) ⟨hx, hb, hml, hown, hts⟩ (c_X5_give l D cy de f_5 mm ma M_6 (M_6 14 (ix cal)) ((M_6 15 (ix cal)) - cost) hR (by subst eM_6; subst eM_4; subst eM_2; exact (show vp_in (M 14 (ix cal)) 8 from h2)) H.size) (cwV 2 hts gX5_settle_X5_give rfl rfl rfl (by decide +kernel) ⟨Nat.le_of_ble_eq_true rfl, Nat.le_of_ble_eq_true rfl⟩) (g_preV hI hR.1 rfl) rfl rfl hl.1 rfl (lv_room (Nat.le_of_ble_eq_true rfl)) dX5_settle_39 ⟨Nat.le_of_ble_eq_true rfl, Nat.le_of_ble_eq_true rfl⟩) (fun f_8 H locs hw_9 hI => ?_)
  have hR := hw_9
  obtain ⟨M_10, eM_10⟩ : ∃ z, z = mGive M_6 (M_6 14 (ix cal)) ((M_6 15 (ix cal)) - cost) := ⟨_, rfl⟩
  rw [← eM_10] at hR
  exact g_vret hx hb hr hlocks hI (by have hE : mSettle M cal cost = M_10 := (by subst eM_10; subst eM_6; subst eM_4; subst eM_2; rfl); rw [hE]; exact hR) (Nat.le_of_ble_eq_true rfl) (Nat.le_of_ble_eq_true rfl) dX5_settle_42

set_option maxHeartbeats 4000000 in
set_option maxRecDepth 100000 in
/-- end -/
theorem c_X5_end (l : Launch) (D : va_G) (cy : Nat → ClassId) (de : Nat) (f : gFm) (mm : Nat) (ma : Nat → Nat) (M : gMd) (cal : Int32) (oc : Int32) (nk nc : Nat) (hok : mOK nk nc M) (hR : Rm cy mm ma M f) : gMi l yX5_end wsX5_end { frames := 2, cells := 0, slots := 0, locals := 45 } D cy de [.ref mm, .int cal, .int oc] f (fun r9 f9 => r9 = ((mEnd M cal oc).1) ∧ Rm cy mm ma ((mEnd M cal oc).2) f9) 0 0 := by
  refine fun sz => Met.ofW (cc := cX5_end) (maxL := 5) (ret := (some .int)) (by decide) rfl ?_
  intro p e s m args below meth c s₁ B hml hv
  obtain ⟨rfl, hv⟩ := hv
  obtain ⟨rfl, hI⟩ := gP_I hv
  have hx := B.exec
  have hb := B.bytes
  have hr := B.returns
  have hts := atoms_spec (ws := wsX5_end) B.pre
  have hown : s.vm.findClass RX5 = some m.cls := findClass_of_methodNamed B.named
  have hlocks := B.notSynchronized
  have hinX5 : ∀ w ∈ wsX50, w ∈ wsX5_end := by decide +kernel
  have hw0 := hts (.fieldLink RX5 61 "TollGatewayModel" "hasEnded" "[Z") (by decide +kernel)
  have hw1 := hts (.fieldLink RX5 46 "TollGatewayModel" "worths" "[I") (by decide +kernel)
  have hw2 := hts (.fieldLink RX5 55 "TollGatewayModel" "costs" "[I") (by decide +kernel)
  have hl := lv_entry ([.ref mm, .int cal, .int oc]) (n := 5) (Nat.le_of_ble_eq_true rfl)
  rw [lg_entry_eq]
  generalize (lg_sl ([.ref mm, .int cal, .int oc]) ++ List.replicate (5 - (lg_sl ([.ref mm, .int cal, .int oc])).length) Slot.unset).toArray = ls at hl ⊢
  have hl : lv_has ls 5 [(0, .ref mm), (1, .int cal), (2, .int oc)] := hl
  refine lv_aload_n hx hb dX5_end_0 rfl (lv_at hl 0 rfl) ?_
  refine lv_iload_n hx hb dX5_end_1 rfl (lv_at hl 1 rfl) ?_
  refine g_calli hI (va_runV (As := [.int cal]) (rest := []) ⟨hx, hb, hml, hown, hts⟩ (c_X5_isCall l D cy de f mm ma M cal hR s.heap.size) (cwV 1 hts gX5_end_X5_isCall rfl rfl rfl (by decide +kernel) ⟨Nat.le_of_ble_eq_true rfl, Nat.le_of_ble_eq_true rfl⟩) (g_preV hI hR.1 rfl) rfl rfl hl.1 rfl (lv_room (Nat.le_of_ble_eq_true rfl)) dX5_end_2 ⟨Nat.le_of_ble_eq_true rfl, Nat.le_of_ble_eq_true rfl⟩) (fun r_1 f_2 H locs hw_3 hI => ?_)
  obtain ⟨rfl, hR⟩ := hw_3
  refine lv_istore_n (lv' := [(3, .int (b2i (mIn cal 0 (M 13 0 - 1)))), (0, .ref mm), (1, .int cal), (2, .int oc)]) hx hb dX5_end_5 rfl hl (by decide) rfl (fun ls hl => ?_)
  refine lv_aload_n hx hb dX5_end_6 rfl (lv_at hl 1 rfl) ?_
  refine lv_iload_n hx hb dX5_end_7 rfl (lv_at hl 0 rfl) ?_
  refine g_b2i_ne (tgt := 15) hx hb dX5_end_8 (by decide) (fun c_4 => ?_) (fun c_4 => ?_)
  · refine lv_iload_n hx hb dX5_end_15 rfl (lv_at hl 3 rfl) ?_
    refine lv_iconst (v := 0) hx hb dX5_end_16 (by decide) ?_
    refine lv_iconst (v := 2) hx hb dX5_end_17 (by decide) ?_
    refine g_calli hI (va_runS (As := [.int oc, .int 0, .int 2]) (rest := [.ref mm]) ⟨hx, hb, hml, hown, hts⟩ (c_X5_in l D cy de f_2 mm ma M oc 0 2 hR H.size) (va_cwS 3 hts gX5_end_X5_in rfl rfl rfl (by decide +kernel) ⟨Nat.le_of_ble_eq_true rfl, Nat.le_of_ble_eq_true rfl⟩) (g_preS hI) rfl rfl hl.1 rfl (lv_room (Nat.le_of_ble_eq_true rfl)) dX5_end_18 ⟨Nat.le_of_ble_eq_true rfl, Nat.le_of_ble_eq_true rfl⟩) (fun r_5 f_6 H locs hw_7 hI => ?_)
    obtain ⟨rfl, hR⟩ := hw_7
    refine g_b2i_ne (tgt := 28) hx hb dX5_end_21 (by decide) (fun c_8 => ?_) (fun c_8 => ?_)
    · refine lv_aload_n hx hb dX5_end_28 rfl (lv_at hl 1 rfl) ?_
      refine m_get hx hb hts hinX5 hown hI hR 20 (by decide) hw0 rfl rfl dX5_end_29 ?_
      refine lv_iload_n hx hb dX5_end_32 rfl (lv_at hl 2 rfl) ?_
      refine m_zald hx hb hI hR 20 rfl rfl (mCal_in hok c_4) dX5_end_33 ?_
      refine lv_if_eq (tgt := 41) hx hb dX5_end_34 (by decide) (fun c_9 => ?_) (fun c_9 => ?_)
      · refine lv_iconst (v := 0) hx hb dX5_end_41 (by decide) ?_
        refine g_calli hI (va_runV (As := [.int 0]) (rest := []) ⟨hx, hb, hml, hown, hts⟩ (c_X5_goesWell l D cy de f_6 mm ma M 0 hR H.size) (cwV 1 hts gX5_end_X5_goesWell rfl rfl rfl (by decide +kernel) ⟨Nat.le_of_ble_eq_true rfl, Nat.le_of_ble_eq_true rfl⟩) (g_preV hI hR.1 rfl) rfl rfl hl.1 rfl (lv_room (Nat.le_of_ble_eq_true rfl)) dX5_end_42 ⟨Nat.le_of_ble_eq_true rfl, Nat.le_of_ble_eq_true rfl⟩) (fun r_10 f_11 H locs hw_12 hI => ?_)
        obtain ⟨rfl, hR⟩ := hw_12
        obtain ⟨M_13, eM_13⟩ : ∃ z, z = mWell M 0 := ⟨_, rfl⟩
        rw [← eM_13] at hR
        refine g_b2i_ne (tgt := 50) hx hb dX5_end_45 (by decide) (fun _ => ?_) (fun z => absurd z (by decide))
        refine lv_aload_n hx hb dX5_end_50 rfl (lv_at hl 1 rfl) ?_
        refine m_get hx hb hts hinX5 hown hI hR 15 (by decide) hw1 rfl rfl dX5_end_51 ?_
        refine lv_iload_n hx hb dX5_end_54 rfl (lv_at hl 2 rfl) ?_
        refine m_iald hx hb hI hR 15 rfl rfl (mCal_in hok c_4) dX5_end_55 ?_
        refine lv_istore (lv' := [(4, .int (M_13 15 (ix cal))), (3, .int (b2i (mIn cal 0 (M 13 0 - 1)))), (0, .ref mm), (1, .int cal), (2, .int oc)]) hx hb dX5_end_56 hl (by decide) rfl (fun ls hl => ?_)
        refine lv_aload_n hx hb dX5_end_58 rfl (lv_at hl 2 rfl) ?_
        refine lv_iload_n hx hb dX5_end_59 rfl (lv_at hl 3 rfl) ?_
        refine lv_iload_n hx hb dX5_end_60 rfl (lv_at hl 4 rfl) ?_
        refine lv_if_ne (tgt := 69) hx hb dX5_end_61 (by decide) (fun c_15 => ?_) (fun c_15 => ?_)
        · refine lv_iload_n hx hb dX5_end_69 rfl (lv_at hl 4 rfl) ?_
          refine lv_iconst (v := 1) hx hb dX5_end_70 (by decide) ?_
          refine lv_icmp_ne (tgt := 83) hx hb dX5_end_71 (by decide) (fun c_16 => ?_) (fun c_16 => ?_)
          · refine lv_iconst (v := 0) hx hb dX5_end_83 (by decide) ?_
            refine g_callv hI (va_runV (As := [.int cal, .int 0]) (rest := []) ⟨hx, hb, hml, hown, hts⟩ (c_X5_settle l D cy de f_11 mm ma M_13 cal 0 hR (mCal_in hok c_4) (by subst eM_13; exact (show vp_in (M 14 (ix cal)) 8 from (mCal_who hok c_4))) H.size) (cwV 2 hts gX5_end_X5_settle rfl rfl rfl (by decide +kernel) ⟨Nat.le_of_ble_eq_true rfl, Nat.le_of_ble_eq_true rfl⟩) (g_preV hI hR.1 rfl) rfl rfl hl.1 rfl (lv_room (Nat.le_of_ble_eq_true rfl)) dX5_end_84 ⟨Nat.le_of_ble_eq_true rfl, Nat.le_of_ble_eq_true rfl⟩) (fun f_18 H locs hw_19 hI => ?_)
            have hR := hw_19
            obtain ⟨M_20, eM_20⟩ : ∃ z, z = mSettle M_13 cal 0 := ⟨_, rfl⟩
            rw [← eM_20] at hR
            refine lv_aload_n hx hb dX5_end_87 rfl (lv_at hl 2 rfl) ?_
            refine m_get hx hb hts hinX5 hown hI hR 18 (by decide) hw2 rfl rfl dX5_end_88 ?_
            refine lv_iload_n hx hb dX5_end_91 rfl (lv_at hl 3 rfl) ?_
            refine m_iald hx hb hI hR 18 rfl rfl (mCal_in hok c_4) dX5_end_92 ?_
            exact g_iret hx hb hr hlocks hI (by have hE : (mEnd M cal oc) = (M_20 18 (ix cal), M_20) := (by simp only [mEnd, c_4, c_8, c_9, c_15, c_16, if_true, if_false, ↓reduceIte, Bool.true_eq_false, Bool.false_eq_true, true_and, and_true, and_false, false_and, or_true, true_or, or_false, false_or, not_true_eq_false, not_false_eq_true, Bool.and_true, Bool.true_and, Bool.and_false, Bool.false_and, Bool.not_true, Bool.not_false, decide_true, decide_false, cond_true, cond_false] <;> (subst eM_20; subst eM_13; rfl)); exact ⟨by rw [hE], by rw [hE]; exact hR⟩) (Nat.le_of_ble_eq_true rfl) (Nat.le_of_ble_eq_true rfl) dX5_end_93
          · refine lv_iload hx hb dX5_end_74 (lv_at hl 0 rfl) ?_
            refine lv_iconst (v := 1) hx hb dX5_end_76 (by decide) ?_
            refine lv_iadd hx hb dX5_end_77 ?_
            refine lv_iconst (v := 2) hx hb dX5_end_78 (by decide) ?_
            refine lv_idiv hx hb dX5_end_79 (by decide) ?_
            refine lv_goto (tgt := 84) hx hb dX5_end_80 (by decide) ?_
            refine g_callv hI (va_runV (As := [.int cal, .int (((M_13 15 (ix cal)) + 1) / 2)]) (rest := []) ⟨hx, hb, hml, hown, hts⟩ (c_X5_settle l D cy de f_11 mm ma M_13 cal (((M_13 15 (ix cal)) + 1) / 2) hR (mCal_in hok c_4) (by subst eM_13; exact (show vp_in (M 14 (ix cal)) 8 from (mCal_who hok c_4))) H.size) (cwV 2 hts gX5_end_X5_settle rfl rfl rfl (by decide +kernel) ⟨Nat.le_of_ble_eq_true rfl, Nat.le_of_ble_eq_true rfl⟩) (g_preV hI hR.1 rfl) rfl rfl hl.1 rfl (lv_room (Nat.le_of_ble_eq_true rfl)) dX5_end_84 ⟨Nat.le_of_ble_eq_true rfl, Nat.le_of_ble_eq_true rfl⟩) (fun f_22 H locs hw_23 hI => ?_)
            have hR := hw_23
            obtain ⟨M_24, eM_24⟩ : ∃ z, z = mSettle M_13 cal (((M_13 15 (ix cal)) + 1) / 2) := ⟨_, rfl⟩
            rw [← eM_24] at hR
            refine lv_aload_n hx hb dX5_end_87 rfl (lv_at hl 2 rfl) ?_
            refine m_get hx hb hts hinX5 hown hI hR 18 (by decide) hw2 rfl rfl dX5_end_88 ?_
            refine lv_iload_n hx hb dX5_end_91 rfl (lv_at hl 3 rfl) ?_
            refine m_iald hx hb hI hR 18 rfl rfl (mCal_in hok c_4) dX5_end_92 ?_
            exact g_iret hx hb hr hlocks hI (by have hE : (mEnd M cal oc) = (M_24 18 (ix cal), M_24) := (by simp only [mEnd, c_4, c_8, c_9, c_15, c_16, if_true, if_false, ↓reduceIte, Bool.true_eq_false, Bool.false_eq_true, true_and, and_true, and_false, false_and, or_true, true_or, or_false, false_or, not_true_eq_false, not_false_eq_true, Bool.and_true, Bool.true_and, Bool.and_false, Bool.false_and, Bool.not_true, Bool.not_false, decide_true, decide_false, cond_true, cond_false] <;> (subst eM_24; subst eM_13; rfl)); exact ⟨by rw [hE], by rw [hE]; exact hR⟩) (Nat.le_of_ble_eq_true rfl) (Nat.le_of_ble_eq_true rfl) dX5_end_93
        · refine lv_iload hx hb dX5_end_64 (lv_at hl 0 rfl) ?_
          refine lv_goto (tgt := 84) hx hb dX5_end_66 (by decide) ?_
          refine g_callv hI (va_runV (As := [.int cal, .int (M_13 15 (ix cal))]) (rest := []) ⟨hx, hb, hml, hown, hts⟩ (c_X5_settle l D cy de f_11 mm ma M_13 cal (M_13 15 (ix cal)) hR (mCal_in hok c_4) (by subst eM_13; exact (show vp_in (M 14 (ix cal)) 8 from (mCal_who hok c_4))) H.size) (cwV 2 hts gX5_end_X5_settle rfl rfl rfl (by decide +kernel) ⟨Nat.le_of_ble_eq_true rfl, Nat.le_of_ble_eq_true rfl⟩) (g_preV hI hR.1 rfl) rfl rfl hl.1 rfl (lv_room (Nat.le_of_ble_eq_true rfl)) dX5_end_84 ⟨Nat.le_of_ble_eq_true rfl, Nat.le_of_ble_eq_true rfl⟩) (fun f_26 H locs hw_27 hI => ?_)
          have hR := hw_27
          obtain ⟨M_28, eM_28⟩ : ∃ z, z = mSettle M_13 cal (M_13 15 (ix cal)) := ⟨_, rfl⟩
          rw [← eM_28] at hR
          refine lv_aload_n hx hb dX5_end_87 rfl (lv_at hl 2 rfl) ?_
          refine m_get hx hb hts hinX5 hown hI hR 18 (by decide) hw2 rfl rfl dX5_end_88 ?_
          refine lv_iload_n hx hb dX5_end_91 rfl (lv_at hl 3 rfl) ?_
          refine m_iald hx hb hI hR 18 rfl rfl (mCal_in hok c_4) dX5_end_92 ?_
          exact g_iret hx hb hr hlocks hI (by have hE : (mEnd M cal oc) = (M_28 18 (ix cal), M_28) := (by simp only [mEnd, c_4, c_8, c_9, c_15, if_true, if_false, ↓reduceIte, Bool.true_eq_false, Bool.false_eq_true, true_and, and_true, and_false, false_and, or_true, true_or, or_false, false_or, not_true_eq_false, not_false_eq_true, Bool.and_true, Bool.true_and, Bool.and_false, Bool.false_and, Bool.not_true, Bool.not_false, decide_true, decide_false, cond_true, cond_false] <;> (subst eM_28; subst eM_13; rfl)); exact ⟨by rw [hE], by rw [hE]; exact hR⟩) (Nat.le_of_ble_eq_true rfl) (Nat.le_of_ble_eq_true rfl) dX5_end_93
      · refine lv_iconst (v := 3) hx hb dX5_end_37 (by decide) ?_
        refine lv_goto (tgt := 42) hx hb dX5_end_38 (by decide) ?_
        refine g_calli hI (va_runV (As := [.int 3]) (rest := []) ⟨hx, hb, hml, hown, hts⟩ (c_X5_goesWell l D cy de f_6 mm ma M 3 hR H.size) (cwV 1 hts gX5_end_X5_goesWell rfl rfl rfl (by decide +kernel) ⟨Nat.le_of_ble_eq_true rfl, Nat.le_of_ble_eq_true rfl⟩) (g_preV hI hR.1 rfl) rfl rfl hl.1 rfl (lv_room (Nat.le_of_ble_eq_true rfl)) dX5_end_42 ⟨Nat.le_of_ble_eq_true rfl, Nat.le_of_ble_eq_true rfl⟩) (fun r_29 f_30 H locs hw_31 hI => ?_)
        obtain ⟨rfl, hR⟩ := hw_31
        obtain ⟨M_32, eM_32⟩ : ∃ z, z = mWell M 3 := ⟨_, rfl⟩
        rw [← eM_32] at hR
        refine g_b2i_ne (tgt := 50) hx hb dX5_end_45 (by decide) (fun z => absurd z (by decide)) (fun _ => ?_)
        refine lv_iconst (v := 0) hx hb dX5_end_48 (by decide) ?_
        exact g_iret hx hb hr hlocks hI (by have hE : (mEnd M cal oc) = (0, M_32) := (by simp only [mEnd, c_4, c_8, c_9, if_true, if_false, ↓reduceIte, Bool.true_eq_false, Bool.false_eq_true, true_and, and_true, and_false, false_and, or_true, true_or, or_false, false_or, not_true_eq_false, not_false_eq_true, Bool.and_true, Bool.true_and, Bool.and_false, Bool.false_and, Bool.not_true, Bool.not_false, decide_true, decide_false, cond_true, cond_false] <;> (subst eM_32; rfl)); exact ⟨by rw [hE], by rw [hE]; exact hR⟩) (Nat.le_of_ble_eq_true rfl) (Nat.le_of_ble_eq_true rfl) dX5_end_49
    · refine lv_iconst (v := 2) hx hb dX5_end_24 (by decide) ?_
      refine lv_goto (tgt := 42) hx hb dX5_end_25 (by decide) ?_
      refine g_calli hI (va_runV (As := [.int 2]) (rest := []) ⟨hx, hb, hml, hown, hts⟩ (c_X5_goesWell l D cy de f_6 mm ma M 2 hR H.size) (cwV 1 hts gX5_end_X5_goesWell rfl rfl rfl (by decide +kernel) ⟨Nat.le_of_ble_eq_true rfl, Nat.le_of_ble_eq_true rfl⟩) (g_preV hI hR.1 rfl) rfl rfl hl.1 rfl (lv_room (Nat.le_of_ble_eq_true rfl)) dX5_end_42 ⟨Nat.le_of_ble_eq_true rfl, Nat.le_of_ble_eq_true rfl⟩) (fun r_34 f_35 H locs hw_36 hI => ?_)
      obtain ⟨rfl, hR⟩ := hw_36
      obtain ⟨M_37, eM_37⟩ : ∃ z, z = mWell M 2 := ⟨_, rfl⟩
      rw [← eM_37] at hR
      refine g_b2i_ne (tgt := 50) hx hb dX5_end_45 (by decide) (fun z => absurd z (by decide)) (fun _ => ?_)
      refine lv_iconst (v := 0) hx hb dX5_end_48 (by decide) ?_
      exact g_iret hx hb hr hlocks hI (by have hE : (mEnd M cal oc) = (0, M_37) := (by simp only [mEnd, c_4, c_8, if_true, if_false, ↓reduceIte, Bool.true_eq_false, Bool.false_eq_true, true_and, and_true, and_false, false_and, or_true, true_or, or_false, false_or, not_true_eq_false, not_false_eq_true, Bool.and_true, Bool.true_and, Bool.and_false, Bool.false_and, Bool.not_true, Bool.not_false, decide_true, decide_false, cond_true, cond_false] <;> (subst eM_37; rfl)); exact ⟨by rw [hE], by rw [hE]; exact hR⟩) (Nat.le_of_ble_eq_true rfl) (Nat.le_of_ble_eq_true rfl) dX5_end_49
  · refine lv_iconst (v := 1) hx hb dX5_end_11 (by decide) ?_
    refine lv_goto (tgt := 42) hx hb dX5_end_12 (by decide) ?_
    refine g_calli hI (va_runV (As := [.int 1]) (rest := []) ⟨hx, hb, hml, hown, hts⟩ (c_X5_goesWell l D cy de f_2 mm ma M 1 hR H.size) (cwV 1 hts gX5_end_X5_goesWell rfl rfl rfl (by decide +kernel) ⟨Nat.le_of_ble_eq_true rfl, Nat.le_of_ble_eq_true rfl⟩) (g_preV hI hR.1 rfl) rfl rfl hl.1 rfl (lv_room (Nat.le_of_ble_eq_true rfl)) dX5_end_42 ⟨Nat.le_of_ble_eq_true rfl, Nat.le_of_ble_eq_true rfl⟩) (fun r_39 f_40 H locs hw_41 hI => ?_)
    obtain ⟨rfl, hR⟩ := hw_41
    obtain ⟨M_42, eM_42⟩ : ∃ z, z = mWell M 1 := ⟨_, rfl⟩
    rw [← eM_42] at hR
    refine g_b2i_ne (tgt := 50) hx hb dX5_end_45 (by decide) (fun z => absurd z (by decide)) (fun _ => ?_)
    refine lv_iconst (v := 0) hx hb dX5_end_48 (by decide) ?_
    exact g_iret hx hb hr hlocks hI (by have hE : (mEnd M cal oc) = (0, M_42) := (by simp only [mEnd, c_4, if_true, if_false, ↓reduceIte, Bool.true_eq_false, Bool.false_eq_true, true_and, and_true, and_false, false_and, or_true, true_or, or_false, false_or, not_true_eq_false, not_false_eq_true, Bool.and_true, Bool.true_and, Bool.and_false, Bool.false_and, Bool.not_true, Bool.not_false, decide_true, decide_false, cond_true, cond_false] <;> (subst eM_42; rfl)); exact ⟨by rw [hE], by rw [hE]; exact hR⟩) (Nat.le_of_ble_eq_true rfl) (Nat.le_of_ble_eq_true rfl) dX5_end_49

set_option maxHeartbeats 4000000 in
set_option maxRecDepth 100000 in
/-- dispute -/
theorem c_X5_dispute (l : Launch) (D : va_G) (cy : Nat → ClassId) (de : Nat) (f : gFm) (mm : Nat) (ma : Nat → Nat) (M : gMd) (cal : Int32) (nk nc : Nat) (hok : mOK nk nc M) (hR : Rm cy mm ma M f) : gMi l yX5_dispute wsX5_dispute { frames := 2, cells := 0, slots := 0, locals := 43 } D cy de [.ref mm, .int cal] f (fun r9 f9 => r9 = ((mDispute M cal).1) ∧ Rm cy mm ma ((mDispute M cal).2) f9) 0 0 := by
  refine fun sz => Met.ofW (cc := cX5_dispute) (maxL := 5) (ret := (some .int)) (by decide) rfl ?_
  intro p e s m args below meth c s₁ B hml hv
  obtain ⟨rfl, hv⟩ := hv
  obtain ⟨rfl, hI⟩ := gP_I hv
  have hx := B.exec
  have hb := B.bytes
  have hr := B.returns
  have hts := atoms_spec (ws := wsX5_dispute) B.pre
  have hown : s.vm.findClass RX5 = some m.cls := findClass_of_methodNamed B.named
  have hlocks := B.notSynchronized
  have hinX5 : ∀ w ∈ wsX50, w ∈ wsX5_dispute := by decide +kernel
  have hw0 := hts (.fieldLink RX5 61 "TollGatewayModel" "hasEnded" "[Z") (by decide +kernel)
  have hw1 := hts (.fieldLink RX5 65 "TollGatewayModel" "isDisputed" "[Z") (by decide +kernel)
  have hw2 := hts (.fieldLink RX5 104 "TollGatewayModel" "tick" "I") (by decide +kernel)
  have hw3 := hts (.fieldLink RX5 58 "TollGatewayModel" "endedAt" "[I") (by decide +kernel)
  have hw4 := hts (.fieldLink RX5 55 "TollGatewayModel" "costs" "[I") (by decide +kernel)
  have hw5 := hts (.fieldLink RX5 43 "TollGatewayModel" "callers" "[I") (by decide +kernel)
  have hw6 := hts (.fieldLink RX5 37 "TollGatewayModel" "tokens" "[I") (by decide +kernel)
  have hw7 := hts (.fieldLink RX5 49 "TollGatewayModel" "took" "[I") (by decide +kernel)
  have hl := lv_entry ([.ref mm, .int cal]) (n := 5) (Nat.le_of_ble_eq_true rfl)
  rw [lg_entry_eq]
  generalize (lg_sl ([.ref mm, .int cal]) ++ List.replicate (5 - (lg_sl ([.ref mm, .int cal])).length) Slot.unset).toArray = ls at hl ⊢
  have hl : lv_has ls 5 [(0, .ref mm), (1, .int cal)] := hl
  refine lv_aload_n hx hb dX5_dispute_0 rfl (lv_at hl 0 rfl) ?_
  refine lv_iload_n hx hb dX5_dispute_1 rfl (lv_at hl 1 rfl) ?_
  refine g_calli hI (va_runV (As := [.int cal]) (rest := []) ⟨hx, hb, hml, hown, hts⟩ (c_X5_isCall l D cy de f mm ma M cal hR s.heap.size) (cwV 1 hts gX5_dispute_X5_isCall rfl rfl rfl (by decide +kernel) ⟨Nat.le_of_ble_eq_true rfl, Nat.le_of_ble_eq_true rfl⟩) (g_preV hI hR.1 rfl) rfl rfl hl.1 rfl (lv_room (Nat.le_of_ble_eq_true rfl)) dX5_dispute_2 ⟨Nat.le_of_ble_eq_true rfl, Nat.le_of_ble_eq_true rfl⟩) (fun r_1 f_2 H locs hw_3 hI => ?_)
  obtain ⟨rfl, hR⟩ := hw_3
  refine lv_istore_n (lv' := [(2, .int (b2i (mIn cal 0 (M 13 0 - 1)))), (0, .ref mm), (1, .int cal)]) hx hb dX5_dispute_5 rfl hl (by decide) rfl (fun ls hl => ?_)
  refine lv_iload_n hx hb dX5_dispute_6 rfl (lv_at hl 0 rfl) ?_
  refine g_b2i_eq (tgt := 48) hx hb dX5_dispute_7 (by decide) (fun c_4 => ?_) (fun c_4 => ?_)
  · refine lv_iconst (v := 0) hx hb dX5_dispute_48 (by decide) ?_
    refine lv_istore_n (lv' := [(3, .int 0), (2, .int (b2i (mIn cal 0 (M 13 0 - 1)))), (0, .ref mm), (1, .int cal)]) hx hb dX5_dispute_49 rfl hl (by decide) rfl (fun ls hl => ?_)
    refine lv_aload_n hx hb dX5_dispute_50 rfl (lv_at hl 2 rfl) ?_
    refine lv_iload_n hx hb dX5_dispute_51 rfl (lv_at hl 1 rfl) ?_
    refine g_b2i_ne (tgt := 59) hx hb dX5_dispute_52 (by decide) (fun z => absurd (c_4.symm.trans z) (by decide)) (fun _ => ?_)
    refine lv_iconst (v := 1) hx hb dX5_dispute_55 (by decide) ?_
    refine lv_goto (tgt := 68) hx hb dX5_dispute_56 (by decide) ?_
    refine g_calli hI (va_runV (As := [.int 1]) (rest := []) ⟨hx, hb, hml, hown, hts⟩ (c_X5_goesWell l D cy de f_2 mm ma M 1 hR H.size) (cwV 1 hts gX5_dispute_X5_goesWell rfl rfl rfl (by decide +kernel) ⟨Nat.le_of_ble_eq_true rfl, Nat.le_of_ble_eq_true rfl⟩) (g_preV hI hR.1 rfl) rfl rfl hl.1 rfl (lv_room (Nat.le_of_ble_eq_true rfl)) dX5_dispute_68 ⟨Nat.le_of_ble_eq_true rfl, Nat.le_of_ble_eq_true rfl⟩) (fun r_6 f_7 H locs hw_8 hI => ?_)
    obtain ⟨rfl, hR⟩ := hw_8
    obtain ⟨M_9, eM_9⟩ : ∃ z, z = mWell M 1 := ⟨_, rfl⟩
    rw [← eM_9] at hR
    refine g_b2i_ne (tgt := 76) hx hb dX5_dispute_71 (by decide) (fun z => absurd z (by decide)) (fun _ => ?_)
    refine lv_iconst (v := 0) hx hb dX5_dispute_74 (by decide) ?_
    exact g_iret hx hb hr hlocks hI (by have hE : (mDispute M cal) = (0, M_9) := (by simp only [mDispute, c_4, if_true, if_false, ↓reduceIte, Bool.true_eq_false, Bool.false_eq_true, true_and, and_true, and_false, false_and, or_true, true_or, or_false, false_or, not_true_eq_false, not_false_eq_true, Bool.and_true, Bool.true_and, Bool.and_false, Bool.false_and, Bool.not_true, Bool.not_false, decide_true, decide_false, cond_true, cond_false] <;> (subst eM_9; rfl)); exact ⟨by rw [hE], by rw [hE]; exact hR⟩) (Nat.le_of_ble_eq_true rfl) (Nat.le_of_ble_eq_true rfl) dX5_dispute_75
  · refine lv_aload_n hx hb dX5_dispute_10 rfl (lv_at hl 1 rfl) ?_
    refine m_get hx hb hts hinX5 hown hI hR 20 (by decide) hw0 rfl rfl dX5_dispute_11 ?_
    refine lv_iload_n hx hb dX5_dispute_14 rfl (lv_at hl 2 rfl) ?_
    refine m_zald hx hb hI hR 20 rfl rfl (mCal_in hok c_4) dX5_dispute_15 ?_
    refine lv_if_eq (tgt := 48) hx hb dX5_dispute_16 (by decide) (fun c_11 => ?_) (fun c_11 => ?_)
    · refine lv_iconst (v := 0) hx hb dX5_dispute_48 (by decide) ?_
      refine lv_istore_n (lv' := [(3, .int 0), (2, .int (b2i (mIn cal 0 (M 13 0 - 1)))), (0, .ref mm), (1, .int cal)]) hx hb dX5_dispute_49 rfl hl (by decide) rfl (fun ls hl => ?_)
      refine lv_aload_n hx hb dX5_dispute_50 rfl (lv_at hl 2 rfl) ?_
      refine lv_iload_n hx hb dX5_dispute_51 rfl (lv_at hl 1 rfl) ?_
      refine g_b2i_ne (tgt := 59) hx hb dX5_dispute_52 (by decide) (fun _ => ?_) (fun z => absurd (c_4.symm.trans z) (by decide))
      refine lv_iload_n hx hb dX5_dispute_59 rfl (lv_at hl 0 rfl) ?_
      refine lv_if_eq (tgt := 67) hx hb dX5_dispute_60 (by decide) (fun _ => ?_) (fun z => absurd z (by decide))
      refine lv_iconst (v := 2) hx hb dX5_dispute_67 (by decide) ?_
      refine g_calli hI (va_runV (As := [.int 2]) (rest := []) ⟨hx, hb, hml, hown, hts⟩ (c_X5_goesWell l D cy de f_2 mm ma M 2 hR H.size) (cwV 1 hts gX5_dispute_X5_goesWell rfl rfl rfl (by decide +kernel) ⟨Nat.le_of_ble_eq_true rfl, Nat.le_of_ble_eq_true rfl⟩) (g_preV hI hR.1 rfl) rfl rfl hl.1 rfl (lv_room (Nat.le_of_ble_eq_true rfl)) dX5_dispute_68 ⟨Nat.le_of_ble_eq_true rfl, Nat.le_of_ble_eq_true rfl⟩) (fun r_14 f_15 H locs hw_16 hI => ?_)
      obtain ⟨rfl, hR⟩ := hw_16
      obtain ⟨M_17, eM_17⟩ : ∃ z, z = mWell M 2 := ⟨_, rfl⟩
      rw [← eM_17] at hR
      refine g_b2i_ne (tgt := 76) hx hb dX5_dispute_71 (by decide) (fun z => absurd z (by decide)) (fun _ => ?_)
      refine lv_iconst (v := 0) hx hb dX5_dispute_74 (by decide) ?_
      exact g_iret hx hb hr hlocks hI (by have hE : (mDispute M cal) = (0, M_17) := (by simp only [mDispute, c_4, c_11, if_true, if_false, ↓reduceIte, Bool.true_eq_false, Bool.false_eq_true, true_and, and_true, and_false, false_and, or_true, true_or, or_false, false_or, not_true_eq_false, not_false_eq_true, Bool.and_true, Bool.true_and, Bool.and_false, Bool.false_and, Bool.not_true, Bool.not_false, decide_true, decide_false, cond_true, cond_false] <;> (subst eM_17; rfl)); exact ⟨by rw [hE], by rw [hE]; exact hR⟩) (Nat.le_of_ble_eq_true rfl) (Nat.le_of_ble_eq_true rfl) dX5_dispute_75
    · refine lv_aload_n hx hb dX5_dispute_19 rfl (lv_at hl 1 rfl) ?_
      refine m_get hx hb hts hinX5 hown hI hR 21 (by decide) hw1 rfl rfl dX5_dispute_20 ?_
      refine lv_iload_n hx hb dX5_dispute_23 rfl (lv_at hl 2 rfl) ?_
      refine m_zald hx hb hI hR 21 rfl rfl (mCal_in hok c_4) dX5_dispute_24 ?_
      refine lv_if_ne (tgt := 48) hx hb dX5_dispute_25 (by decide) (fun c_19 => ?_) (fun c_19 => ?_)
      · refine lv_iconst (v := 0) hx hb dX5_dispute_48 (by decide) ?_
        refine lv_istore_n (lv' := [(3, .int 0), (2, .int (b2i (mIn cal 0 (M 13 0 - 1)))), (0, .ref mm), (1, .int cal)]) hx hb dX5_dispute_49 rfl hl (by decide) rfl (fun ls hl => ?_)
        refine lv_aload_n hx hb dX5_dispute_50 rfl (lv_at hl 2 rfl) ?_
        refine lv_iload_n hx hb dX5_dispute_51 rfl (lv_at hl 1 rfl) ?_
        refine g_b2i_ne (tgt := 59) hx hb dX5_dispute_52 (by decide) (fun _ => ?_) (fun z => absurd (c_4.symm.trans z) (by decide))
        refine lv_iload_n hx hb dX5_dispute_59 rfl (lv_at hl 0 rfl) ?_
        refine lv_if_eq (tgt := 67) hx hb dX5_dispute_60 (by decide) (fun _ => ?_) (fun z => absurd z (by decide))
        refine lv_iconst (v := 2) hx hb dX5_dispute_67 (by decide) ?_
        refine g_calli hI (va_runV (As := [.int 2]) (rest := []) ⟨hx, hb, hml, hown, hts⟩ (c_X5_goesWell l D cy de f_2 mm ma M 2 hR H.size) (cwV 1 hts gX5_dispute_X5_goesWell rfl rfl rfl (by decide +kernel) ⟨Nat.le_of_ble_eq_true rfl, Nat.le_of_ble_eq_true rfl⟩) (g_preV hI hR.1 rfl) rfl rfl hl.1 rfl (lv_room (Nat.le_of_ble_eq_true rfl)) dX5_dispute_68 ⟨Nat.le_of_ble_eq_true rfl, Nat.le_of_ble_eq_true rfl⟩) (fun r_22 f_23 H locs hw_24 hI => ?_)
        obtain ⟨rfl, hR⟩ := hw_24
        obtain ⟨M_25, eM_25⟩ : ∃ z, z = mWell M 2 := ⟨_, rfl⟩
        rw [← eM_25] at hR
        refine g_b2i_ne (tgt := 76) hx hb dX5_dispute_71 (by decide) (fun z => absurd z (by decide)) (fun _ => ?_)
        refine lv_iconst (v := 0) hx hb dX5_dispute_74 (by decide) ?_
        exact g_iret hx hb hr hlocks hI (by have hE : (mDispute M cal) = (0, M_25) := (by simp only [mDispute, c_4, c_11, c_19, if_true, if_false, ↓reduceIte, Bool.true_eq_false, Bool.false_eq_true, true_and, and_true, and_false, false_and, or_true, true_or, or_false, false_or, not_true_eq_false, not_false_eq_true, Bool.and_true, Bool.true_and, Bool.and_false, Bool.false_and, Bool.not_true, Bool.not_false, decide_true, decide_false, cond_true, cond_false] <;> (subst eM_25; rfl)); exact ⟨by rw [hE], by rw [hE]; exact hR⟩) (Nat.le_of_ble_eq_true rfl) (Nat.le_of_ble_eq_true rfl) dX5_dispute_75
      · refine lv_aload_n hx hb dX5_dispute_28 rfl (lv_at hl 1 rfl) ?_
        refine m_get hx hb hts hinX5 hown hI hR 22 (by decide) hw2 rfl rfl dX5_dispute_29 ?_
        refine lv_aload_n hx hb dX5_dispute_32 rfl (lv_at hl 1 rfl) ?_
        refine m_get hx hb hts hinX5 hown hI hR 19 (by decide) hw3 rfl rfl dX5_dispute_33 ?_
        refine lv_iload_n hx hb dX5_dispute_36 rfl (lv_at hl 2 rfl) ?_
        refine m_iald hx hb hI hR 19 rfl rfl (mCal_in hok c_4) dX5_dispute_37 ?_
        refine lv_isub hx hb dX5_dispute_38 ?_
        refine lv_bipush (v := 50) hx hb dX5_dispute_39 (by decide) ?_
        refine lv_icmp_gt (tgt := 48) hx hb dX5_dispute_41 (by decide) (fun c_27 => ?_) (fun c_27 => ?_)
        · refine lv_iconst (v := 0) hx hb dX5_dispute_48 (by decide) ?_
          refine lv_istore_n (lv' := [(3, .int 0), (2, .int (b2i (mIn cal 0 (M 13 0 - 1)))), (0, .ref mm), (1, .int cal)]) hx hb dX5_dispute_49 rfl hl (by decide) rfl (fun ls hl => ?_)
          refine lv_aload_n hx hb dX5_dispute_50 rfl (lv_at hl 2 rfl) ?_
          refine lv_iload_n hx hb dX5_dispute_51 rfl (lv_at hl 1 rfl) ?_
          refine g_b2i_ne (tgt := 59) hx hb dX5_dispute_52 (by decide) (fun _ => ?_) (fun z => absurd (c_4.symm.trans z) (by decide))
          refine lv_iload_n hx hb dX5_dispute_59 rfl (lv_at hl 0 rfl) ?_
          refine lv_if_eq (tgt := 67) hx hb dX5_dispute_60 (by decide) (fun _ => ?_) (fun z => absurd z (by decide))
          refine lv_iconst (v := 2) hx hb dX5_dispute_67 (by decide) ?_
          refine g_calli hI (va_runV (As := [.int 2]) (rest := []) ⟨hx, hb, hml, hown, hts⟩ (c_X5_goesWell l D cy de f_2 mm ma M 2 hR H.size) (cwV 1 hts gX5_dispute_X5_goesWell rfl rfl rfl (by decide +kernel) ⟨Nat.le_of_ble_eq_true rfl, Nat.le_of_ble_eq_true rfl⟩) (g_preV hI hR.1 rfl) rfl rfl hl.1 rfl (lv_room (Nat.le_of_ble_eq_true rfl)) dX5_dispute_68 ⟨Nat.le_of_ble_eq_true rfl, Nat.le_of_ble_eq_true rfl⟩) (fun r_30 f_31 H locs hw_32 hI => ?_)
          obtain ⟨rfl, hR⟩ := hw_32
          obtain ⟨M_33, eM_33⟩ : ∃ z, z = mWell M 2 := ⟨_, rfl⟩
          rw [← eM_33] at hR
          refine g_b2i_ne (tgt := 76) hx hb dX5_dispute_71 (by decide) (fun z => absurd z (by decide)) (fun _ => ?_)
          refine lv_iconst (v := 0) hx hb dX5_dispute_74 (by decide) ?_
          exact g_iret hx hb hr hlocks hI (by have hE : (mDispute M cal) = (0, M_33) := (by simp only [mDispute, c_4, c_11, c_19, c_27, if_true, if_false, ↓reduceIte, Bool.true_eq_false, Bool.false_eq_true, true_and, and_true, and_false, false_and, or_true, true_or, or_false, false_or, not_true_eq_false, not_false_eq_true, Bool.and_true, Bool.true_and, Bool.and_false, Bool.false_and, Bool.not_true, Bool.not_false, decide_true, decide_false, cond_true, cond_false] <;> (subst eM_33; rfl)); exact ⟨by rw [hE], by rw [hE]; exact hR⟩) (Nat.le_of_ble_eq_true rfl) (Nat.le_of_ble_eq_true rfl) dX5_dispute_75
        · refine lv_iconst (v := 1) hx hb dX5_dispute_44 (by decide) ?_
          refine lv_goto (tgt := 49) hx hb dX5_dispute_45 (by decide) ?_
          refine lv_istore_n (lv' := [(3, .int 1), (2, .int (b2i (mIn cal 0 (M 13 0 - 1)))), (0, .ref mm), (1, .int cal)]) hx hb dX5_dispute_49 rfl hl (by decide) rfl (fun ls hl => ?_)
          refine lv_aload_n hx hb dX5_dispute_50 rfl (lv_at hl 2 rfl) ?_
          refine lv_iload_n hx hb dX5_dispute_51 rfl (lv_at hl 1 rfl) ?_
          refine g_b2i_ne (tgt := 59) hx hb dX5_dispute_52 (by decide) (fun _ => ?_) (fun z => absurd (c_4.symm.trans z) (by decide))
          refine lv_iload_n hx hb dX5_dispute_59 rfl (lv_at hl 0 rfl) ?_
          refine lv_if_eq (tgt := 67) hx hb dX5_dispute_60 (by decide) (fun z => absurd z (by decide)) (fun _ => ?_)
          refine lv_iconst (v := 0) hx hb dX5_dispute_63 (by decide) ?_
          refine lv_goto (tgt := 68) hx hb dX5_dispute_64 (by decide) ?_
          refine g_calli hI (va_runV (As := [.int 0]) (rest := []) ⟨hx, hb, hml, hown, hts⟩ (c_X5_goesWell l D cy de f_2 mm ma M 0 hR H.size) (cwV 1 hts gX5_dispute_X5_goesWell rfl rfl rfl (by decide +kernel) ⟨Nat.le_of_ble_eq_true rfl, Nat.le_of_ble_eq_true rfl⟩) (g_preV hI hR.1 rfl) rfl rfl hl.1 rfl (lv_room (Nat.le_of_ble_eq_true rfl)) dX5_dispute_68 ⟨Nat.le_of_ble_eq_true rfl, Nat.le_of_ble_eq_true rfl⟩) (fun r_37 f_38 H locs hw_39 hI => ?_)
          obtain ⟨rfl, hR⟩ := hw_39
          obtain ⟨M_40, eM_40⟩ : ∃ z, z = mWell M 0 := ⟨_, rfl⟩
          rw [← eM_40] at hR
          refine g_b2i_ne (tgt := 76) hx hb dX5_dispute_71 (by decide) (fun _ => ?_) (fun z => absurd z (by decide))
          refine lv_aload_n hx hb dX5_dispute_76 rfl (lv_at hl 2 rfl) ?_
          refine m_get hx hb hts hinX5 hown hI hR 21 (by decide) hw1 rfl rfl dX5_dispute_77 ?_
          refine lv_iload_n hx hb dX5_dispute_80 rfl (lv_at hl 3 rfl) ?_
          refine lv_iconst (v := 1) hx hb dX5_dispute_81 (by decide) ?_
          refine m_zast hx hb hI hR 21 rfl rfl rfl (mCal_in hok c_4) dX5_dispute_82 (fun f_42 H locs hR hI => ?_)
          obtain ⟨M_43, eM_43⟩ : ∃ z, z = mw M_40 21 (ix cal) 1 := ⟨_, rfl⟩
          rw [← eM_43] at hR
          refine lv_aload_n hx hb dX5_dispute_83 rfl (lv_at hl 2 rfl) ?_
          refine m_get hx hb hts hinX5 hown hI hR 18 (by decide) hw4 rfl rfl dX5_dispute_84 ?_
          refine lv_iload_n hx hb dX5_dispute_87 rfl (lv_at hl 3 rfl) ?_
          refine m_iald hx hb hI hR 18 rfl rfl (mCal_in hok c_4) dX5_dispute_88 ?_
          refine lv_istore (lv' := [(4, .int (M_43 18 (ix cal))), (3, .int 1), (2, .int (b2i (mIn cal 0 (M 13 0 - 1)))), (0, .ref mm), (1, .int cal)]) hx hb dX5_dispute_89 hl (by decide) rfl (fun ls hl => ?_)
          refine lv_aload_n hx hb dX5_dispute_91 rfl (lv_at hl 3 rfl) ?_
          refine m_get hx hb hts hinX5 hown hI hR 18 (by decide) hw4 rfl rfl dX5_dispute_92 ?_
          refine lv_iload_n hx hb dX5_dispute_95 rfl (lv_at hl 4 rfl) ?_
          refine lv_iconst (v := 0) hx hb dX5_dispute_96 (by decide) ?_
          refine m_iast hx hb hI hR 18 rfl rfl (mCal_in hok c_4) dX5_dispute_97 (fun f_44 H locs hR hI => ?_)
          obtain ⟨M_45, eM_45⟩ : ∃ z, z = mw M_43 18 (ix cal) 0 := ⟨_, rfl⟩
          rw [← eM_45] at hR
          refine lv_aload_n hx hb dX5_dispute_98 rfl (lv_at hl 3 rfl) ?_
          refine lv_aload_n hx hb dX5_dispute_99 rfl (lv_at hl 3 rfl) ?_
          refine m_get hx hb hts hinX5 hown hI hR 14 (by decide) hw5 rfl rfl dX5_dispute_100 ?_
          refine lv_iload_n hx hb dX5_dispute_103 rfl (lv_at hl 4 rfl) ?_
          refine m_iald hx hb hI hR 14 rfl rfl (mCal_in hok c_4) dX5_dispute_104 ?_
          refine lv_iload hx hb dX5_dispute_105 (lv_at hl 0 rfl) ?_
          refine g_callv hI (va_runV (As := [.int (M_45 14 (ix cal)), .int (M_43 18 (ix cal))]) (rest := []) ⟨hx, hb, hml, hown, hts⟩ (c_X5_give l D cy de f_44 mm ma M_45 (M_45 14 (ix cal)) (M_43 18 (ix cal)) hR (by subst eM_45; subst eM_43; subst eM_40; exact (show vp_in (M 14 (ix cal)) 8 from (mCal_who hok c_4))) H.size) (cwV 2 hts gX5_dispute_X5_give rfl rfl rfl (by decide +kernel) ⟨Nat.le_of_ble_eq_true rfl, Nat.le_of_ble_eq_true rfl⟩) (g_preV hI hR.1 rfl) rfl rfl hl.1 rfl (lv_room (Nat.le_of_ble_eq_true rfl)) dX5_dispute_107 ⟨Nat.le_of_ble_eq_true rfl, Nat.le_of_ble_eq_true rfl⟩) (fun f_47 H locs hw_48 hI => ?_)
          have hR := hw_48
          obtain ⟨M_49, eM_49⟩ : ∃ z, z = mGive M_45 (M_45 14 (ix cal)) (M_43 18 (ix cal)) := ⟨_, rfl⟩
          rw [← eM_49] at hR
          refine lv_aload_n hx hb dX5_dispute_110 rfl (lv_at hl 3 rfl) ?_
          refine m_get hx hb hts hinX5 hown hI hR 11 (by decide) hw6 rfl rfl dX5_dispute_111 ?_
          refine lv_aload_n hx hb dX5_dispute_114 rfl (lv_at hl 3 rfl) ?_
          refine m_get hx hb hts hinX5 hown hI hR 14 (by decide) hw5 rfl rfl dX5_dispute_115 ?_
          refine lv_iload_n hx hb dX5_dispute_118 rfl (lv_at hl 4 rfl) ?_
          refine m_iald hx hb hI hR 14 rfl rfl (mCal_in hok c_4) dX5_dispute_119 ?_
          refine lv_dup2_11 hx hb dX5_dispute_120 rfl rfl ?_
          refine m_iald hx hb hI hR 11 rfl rfl (by subst eM_49; subst eM_45; subst eM_43; subst eM_40; exact (show vp_in (M 14 (ix cal)) 8 from (mCal_who hok c_4))) dX5_dispute_121 ?_
          refine lv_aload_n hx hb dX5_dispute_122 rfl (lv_at hl 3 rfl) ?_
          refine m_get hx hb hts hinX5 hown hI hR 16 (by decide) hw7 rfl rfl dX5_dispute_123 ?_
          refine lv_iload_n hx hb dX5_dispute_126 rfl (lv_at hl 4 rfl) ?_
          refine m_iald hx hb hI hR 16 rfl rfl (mCal_in hok c_4) dX5_dispute_127 ?_
          refine lv_iadd hx hb dX5_dispute_128 ?_
          refine m_iast hx hb hI hR 11 rfl rfl (by subst eM_49; subst eM_45; subst eM_43; subst eM_40; exact (show vp_in (M 14 (ix cal)) 8 from (mCal_who hok c_4))) dX5_dispute_129 (fun f_50 H locs hR hI => ?_)
          obtain ⟨M_51, eM_51⟩ : ∃ z, z = mw M_49 11 (ix (M_49 14 (ix cal))) ((M_49 11 (ix (M_49 14 (ix cal)))) + (M_49 16 (ix cal))) := ⟨_, rfl⟩
          rw [← eM_51] at hR
          refine lv_iload hx hb dX5_dispute_130 (lv_at hl 0 rfl) ?_
          exact g_iret hx hb hr hlocks hI (by have hE : (mDispute M cal) = (M_43 18 (ix cal), M_51) := (by simp only [mDispute, c_4, c_11, c_19, c_27, if_true, if_false, ↓reduceIte, Bool.true_eq_false, Bool.false_eq_true, true_and, and_true, and_false, false_and, or_true, true_or, or_false, false_or, not_true_eq_false, not_false_eq_true, Bool.and_true, Bool.true_and, Bool.and_false, Bool.false_and, Bool.not_true, Bool.not_false, decide_true, decide_false, cond_true, cond_false] <;> (subst eM_51; subst eM_49; subst eM_45; subst eM_43; subst eM_40; rfl)); exact ⟨by rw [hE], by rw [hE]; exact hR⟩) (Nat.le_of_ble_eq_true rfl) (Nat.le_of_ble_eq_true rfl) dX5_dispute_132

set_option maxHeartbeats 4000000 in
set_option maxRecDepth 100000 in
/-- now -/
theorem c_X5_now (l : Launch) (D : va_G) (cy : Nat → ClassId) (de : Nat) (f : gFm) (mm : Nat) (ma : Nat → Nat) (M : gMd) (hR : Rm cy mm ma M f) : gMi l yX5_now wsX5_now { frames := 0, cells := 0, slots := 0, locals := 0 } D cy de [.ref mm] f (fun r9 f9 => r9 = (mWell M 0 22 0) ∧ Rm cy mm ma (mWell M 0) f9) 0 0 := by
  refine fun sz => Met.ofW (cc := cX5_now) (maxL := 1) (ret := (some .int)) (by decide) rfl ?_
  intro p e s m args below meth c s₁ B hml hv
  obtain ⟨rfl, hv⟩ := hv
  obtain ⟨rfl, hI⟩ := gP_I hv
  have hx := B.exec
  have hb := B.bytes
  have hr := B.returns
  have hts := atoms_spec (ws := wsX5_now) B.pre
  have hown : s.vm.findClass RX5 = some m.cls := findClass_of_methodNamed B.named
  have hlocks := B.notSynchronized
  have hinX5 : ∀ w ∈ wsX50, w ∈ wsX5_now := by decide +kernel
  have hw0 := hts (.fieldLink RX5 68 "TollGatewayModel" "thrown" "I") (by decide +kernel)
  have hw1 := hts (.fieldLink RX5 104 "TollGatewayModel" "tick" "I") (by decide +kernel)
  have hl := lv_entry ([.ref mm]) (n := 1) (Nat.le_of_ble_eq_true rfl)
  rw [lg_entry_eq]
  generalize (lg_sl ([.ref mm]) ++ List.replicate (1 - (lg_sl ([.ref mm])).length) Slot.unset).toArray = ls at hl ⊢
  have hl : lv_has ls 1 [(0, .ref mm)] := hl
  refine lv_aload_n hx hb dX5_now_0 rfl (lv_at hl 0 rfl) ?_
  refine lv_iconst (v := 0) hx hb dX5_now_1 (by decide) ?_
  refine m_put hx hb hts hinX5 hown hI hR 0 (by decide) rfl hw0 rfl rfl (by decide +kernel) dX5_now_2 (fun f_1 H locs hR hI => ?_)
  obtain ⟨M_2, eM_2⟩ : ∃ z, z = mw M 0 0 0 := ⟨_, rfl⟩
  rw [← eM_2] at hR
  refine lv_aload_n hx hb dX5_now_5 rfl (lv_at hl 0 rfl) ?_
  refine m_get hx hb hts hinX5 hown hI hR 22 (by decide) hw1 rfl rfl dX5_now_6 ?_
  exact g_iret hx hb hr hlocks hI ⟨(by subst eM_2; rfl), (by have hE : mWell M 0 = M_2 := (by subst eM_2; rfl); rw [hE]; exact hR)⟩ (Nat.le_of_ble_eq_true rfl) (Nat.le_of_ble_eq_true rfl) dX5_now_9

set_option maxHeartbeats 4000000 in
set_option maxRecDepth 100000 in
/-- calls -/
theorem c_X5_calls (l : Launch) (D : va_G) (cy : Nat → ClassId) (de : Nat) (f : gFm) (mm : Nat) (ma : Nat → Nat) (M : gMd) (hR : Rm cy mm ma M f) : gMi l yX5_calls wsX5_calls { frames := 0, cells := 0, slots := 0, locals := 0 } D cy de [.ref mm] f (fun r9 f9 => r9 = (mWell M 0 13 0) ∧ Rm cy mm ma (mWell M 0) f9) 0 0 := by
  refine fun sz => Met.ofW (cc := cX5_calls) (maxL := 1) (ret := (some .int)) (by decide) rfl ?_
  intro p e s m args below meth c s₁ B hml hv
  obtain ⟨rfl, hv⟩ := hv
  obtain ⟨rfl, hI⟩ := gP_I hv
  have hx := B.exec
  have hb := B.bytes
  have hr := B.returns
  have hts := atoms_spec (ws := wsX5_calls) B.pre
  have hown : s.vm.findClass RX5 = some m.cls := findClass_of_methodNamed B.named
  have hlocks := B.notSynchronized
  have hinX5 : ∀ w ∈ wsX50, w ∈ wsX5_calls := by decide +kernel
  have hw0 := hts (.fieldLink RX5 68 "TollGatewayModel" "thrown" "I") (by decide +kernel)
  have hw1 := hts (.fieldLink RX5 79 "TollGatewayModel" "calls" "I") (by decide +kernel)
  have hl := lv_entry ([.ref mm]) (n := 1) (Nat.le_of_ble_eq_true rfl)
  rw [lg_entry_eq]
  generalize (lg_sl ([.ref mm]) ++ List.replicate (1 - (lg_sl ([.ref mm])).length) Slot.unset).toArray = ls at hl ⊢
  have hl : lv_has ls 1 [(0, .ref mm)] := hl
  refine lv_aload_n hx hb dX5_calls_0 rfl (lv_at hl 0 rfl) ?_
  refine lv_iconst (v := 0) hx hb dX5_calls_1 (by decide) ?_
  refine m_put hx hb hts hinX5 hown hI hR 0 (by decide) rfl hw0 rfl rfl (by decide +kernel) dX5_calls_2 (fun f_1 H locs hR hI => ?_)
  obtain ⟨M_2, eM_2⟩ : ∃ z, z = mw M 0 0 0 := ⟨_, rfl⟩
  rw [← eM_2] at hR
  refine lv_aload_n hx hb dX5_calls_5 rfl (lv_at hl 0 rfl) ?_
  refine m_get hx hb hts hinX5 hown hI hR 13 (by decide) hw1 rfl rfl dX5_calls_6 ?_
  exact g_iret hx hb hr hlocks hI ⟨(by subst eM_2; rfl), (by have hE : mWell M 0 = M_2 := (by subst eM_2; rfl); rw [hE]; exact hR)⟩ (Nat.le_of_ble_eq_true rfl) (Nat.le_of_ble_eq_true rfl) dX5_calls_9

set_option maxHeartbeats 4000000 in
set_option maxRecDepth 100000 in
/-- credit -/
theorem c_X5_credit (l : Launch) (D : va_G) (cy : Nat → ClassId) (de : Nat) (f : gFm) (mm : Nat) (ma : Nat → Nat) (M : gMd) (key : Int32) (nk nc : Nat) (hok : mOK nk nc M) (hR : Rm cy mm ma M f) : gMi l yX5_credit wsX5_credit { frames := 2, cells := 0, slots := 0, locals := 43 } D cy de [.ref mm, .int key] f (fun r9 f9 => r9 = ((mRd M key (fun N => N 8 (ix key))).1) ∧ Rm cy mm ma ((mRd M key (fun N => N 8 (ix key))).2) f9) 0 0 := by
  refine fun sz => Met.ofW (cc := cX5_credit) (maxL := 2) (ret := (some .int)) (by decide) rfl ?_
  intro p e s m args below meth c s₁ B hml hv
  obtain ⟨rfl, hv⟩ := hv
  obtain ⟨rfl, hI⟩ := gP_I hv
  have hx := B.exec
  have hb := B.bytes
  have hr := B.returns
  have hts := atoms_spec (ws := wsX5_credit) B.pre
  have hown : s.vm.findClass RX5 = some m.cls := findClass_of_methodNamed B.named
  have hlocks := B.notSynchronized
  have hinX5 : ∀ w ∈ wsX50, w ∈ wsX5_credit := by decide +kernel
  have hw0 := hts (.fieldLink RX5 28 "TollGatewayModel" "credits" "[I") (by decide +kernel)
  have hl := lv_entry ([.ref mm, .int key]) (n := 2) (Nat.le_of_ble_eq_true rfl)
  rw [lg_entry_eq]
  generalize (lg_sl ([.ref mm, .int key]) ++ List.replicate (2 - (lg_sl ([.ref mm, .int key])).length) Slot.unset).toArray = ls at hl ⊢
  have hl : lv_has ls 2 [(0, .ref mm), (1, .int key)] := hl
  refine lv_aload_n hx hb dX5_credit_0 rfl (lv_at hl 0 rfl) ?_
  refine lv_aload_n hx hb dX5_credit_1 rfl (lv_at hl 0 rfl) ?_
  refine lv_iload_n hx hb dX5_credit_2 rfl (lv_at hl 1 rfl) ?_
  refine g_calli hI (va_runV (As := [.int key]) (rest := [.ref mm]) ⟨hx, hb, hml, hown, hts⟩ (c_X5_isKey l D cy de f mm ma M key hR s.heap.size) (cwV 1 hts gX5_credit_X5_isKey rfl rfl rfl (by decide +kernel) ⟨Nat.le_of_ble_eq_true rfl, Nat.le_of_ble_eq_true rfl⟩) (g_preV hI hR.1 rfl) rfl rfl hl.1 rfl (lv_room (Nat.le_of_ble_eq_true rfl)) dX5_credit_3 ⟨Nat.le_of_ble_eq_true rfl, Nat.le_of_ble_eq_true rfl⟩) (fun r_1 f_2 H locs hw_3 hI => ?_)
  obtain ⟨rfl, hR⟩ := hw_3
  refine g_b2i_eq (tgt := 13) hx hb dX5_credit_6 (by decide) (fun c_4 => ?_) (fun c_4 => ?_)
  · refine lv_iconst (v := 1) hx hb dX5_credit_13 (by decide) ?_
    refine g_calli hI (va_runV (As := [.int 1]) (rest := []) ⟨hx, hb, hml, hown, hts⟩ (c_X5_goesWell l D cy de f_2 mm ma M 1 hR H.size) (cwV 1 hts gX5_credit_X5_goesWell rfl rfl rfl (by decide +kernel) ⟨Nat.le_of_ble_eq_true rfl, Nat.le_of_ble_eq_true rfl⟩) (g_preV hI hR.1 rfl) rfl rfl hl.1 rfl (lv_room (Nat.le_of_ble_eq_true rfl)) dX5_credit_14 ⟨Nat.le_of_ble_eq_true rfl, Nat.le_of_ble_eq_true rfl⟩) (fun r_5 f_6 H locs hw_7 hI => ?_)
    obtain ⟨rfl, hR⟩ := hw_7
    obtain ⟨M_8, eM_8⟩ : ∃ z, z = mWell M 1 := ⟨_, rfl⟩
    rw [← eM_8] at hR
    refine g_b2i_eq (tgt := 29) hx hb dX5_credit_17 (by decide) (fun _ => ?_) (fun z => absurd z (by decide))
    refine lv_iconst (v := 0) hx hb dX5_credit_29 (by decide) ?_
    exact g_iret hx hb hr hlocks hI (by have hE : (mRd M key (fun N => N 8 (ix key))) = (0, M_8) := (by simp only [mRd, c_4, if_true, if_false, ↓reduceIte, Bool.true_eq_false, Bool.false_eq_true, true_and, and_true, and_false, false_and, or_true, true_or, or_false, false_or, not_true_eq_false, not_false_eq_true, Bool.and_true, Bool.true_and, Bool.and_false, Bool.false_and, Bool.not_true, Bool.not_false, decide_true, decide_false, cond_true, cond_false] <;> (subst eM_8; rfl)); exact ⟨by rw [hE], by rw [hE]; exact hR⟩) (Nat.le_of_ble_eq_true rfl) (Nat.le_of_ble_eq_true rfl) dX5_credit_30
  · refine lv_iconst (v := 0) hx hb dX5_credit_9 (by decide) ?_
    refine lv_goto (tgt := 14) hx hb dX5_credit_10 (by decide) ?_
    refine g_calli hI (va_runV (As := [.int 0]) (rest := []) ⟨hx, hb, hml, hown, hts⟩ (c_X5_goesWell l D cy de f_2 mm ma M 0 hR H.size) (cwV 1 hts gX5_credit_X5_goesWell rfl rfl rfl (by decide +kernel) ⟨Nat.le_of_ble_eq_true rfl, Nat.le_of_ble_eq_true rfl⟩) (g_preV hI hR.1 rfl) rfl rfl hl.1 rfl (lv_room (Nat.le_of_ble_eq_true rfl)) dX5_credit_14 ⟨Nat.le_of_ble_eq_true rfl, Nat.le_of_ble_eq_true rfl⟩) (fun r_10 f_11 H locs hw_12 hI => ?_)
    obtain ⟨rfl, hR⟩ := hw_12
    obtain ⟨M_13, eM_13⟩ : ∃ z, z = mWell M 0 := ⟨_, rfl⟩
    rw [← eM_13] at hR
    refine g_b2i_eq (tgt := 29) hx hb dX5_credit_17 (by decide) (fun z => absurd z (by decide)) (fun _ => ?_)
    refine lv_aload_n hx hb dX5_credit_20 rfl (lv_at hl 0 rfl) ?_
    refine m_get hx hb hts hinX5 hown hI hR 8 (by decide) hw0 rfl rfl dX5_credit_21 ?_
    refine lv_iload_n hx hb dX5_credit_24 rfl (lv_at hl 1 rfl) ?_
    refine m_iald hx hb hI hR 8 rfl rfl (mKey_in hok c_4) dX5_credit_25 ?_
    refine lv_goto (tgt := 30) hx hb dX5_credit_26 (by decide) ?_
    exact g_iret hx hb hr hlocks hI (by have hE : (mRd M key (fun N => N 8 (ix key))) = (M_13 8 (ix key), M_13) := (by simp only [mRd, c_4, if_true, if_false, ↓reduceIte, Bool.true_eq_false, Bool.false_eq_true, true_and, and_true, and_false, false_and, or_true, true_or, or_false, false_or, not_true_eq_false, not_false_eq_true, Bool.and_true, Bool.true_and, Bool.and_false, Bool.false_and, Bool.not_true, Bool.not_false, decide_true, decide_false, cond_true, cond_false] <;> (subst eM_13; rfl)); exact ⟨by rw [hE], by rw [hE]; exact hR⟩) (Nat.le_of_ble_eq_true rfl) (Nat.le_of_ble_eq_true rfl) dX5_credit_30

set_option maxHeartbeats 4000000 in
set_option maxRecDepth 100000 in
/-- debt -/
theorem c_X5_debt (l : Launch) (D : va_G) (cy : Nat → ClassId) (de : Nat) (f : gFm) (mm : Nat) (ma : Nat → Nat) (M : gMd) (key : Int32) (nk nc : Nat) (hok : mOK nk nc M) (hR : Rm cy mm ma M f) : gMi l yX5_debt wsX5_debt { frames := 2, cells := 0, slots := 0, locals := 43 } D cy de [.ref mm, .int key] f (fun r9 f9 => r9 = ((mRd M key (fun N => N 10 (ix key))).1) ∧ Rm cy mm ma ((mRd M key (fun N => N 10 (ix key))).2) f9) 0 0 := by
  refine fun sz => Met.ofW (cc := cX5_debt) (maxL := 2) (ret := (some .int)) (by decide) rfl ?_
  intro p e s m args below meth c s₁ B hml hv
  obtain ⟨rfl, hv⟩ := hv
  obtain ⟨rfl, hI⟩ := gP_I hv
  have hx := B.exec
  have hb := B.bytes
  have hr := B.returns
  have hts := atoms_spec (ws := wsX5_debt) B.pre
  have hown : s.vm.findClass RX5 = some m.cls := findClass_of_methodNamed B.named
  have hlocks := B.notSynchronized
  have hinX5 : ∀ w ∈ wsX50, w ∈ wsX5_debt := by decide +kernel
  have hw0 := hts (.fieldLink RX5 34 "TollGatewayModel" "debts" "[I") (by decide +kernel)
  have hl := lv_entry ([.ref mm, .int key]) (n := 2) (Nat.le_of_ble_eq_true rfl)
  rw [lg_entry_eq]
  generalize (lg_sl ([.ref mm, .int key]) ++ List.replicate (2 - (lg_sl ([.ref mm, .int key])).length) Slot.unset).toArray = ls at hl ⊢
  have hl : lv_has ls 2 [(0, .ref mm), (1, .int key)] := hl
  refine lv_aload_n hx hb dX5_debt_0 rfl (lv_at hl 0 rfl) ?_
  refine lv_aload_n hx hb dX5_debt_1 rfl (lv_at hl 0 rfl) ?_
  refine lv_iload_n hx hb dX5_debt_2 rfl (lv_at hl 1 rfl) ?_
  refine g_calli hI (va_runV (As := [.int key]) (rest := [.ref mm]) ⟨hx, hb, hml, hown, hts⟩ (c_X5_isKey l D cy de f mm ma M key hR s.heap.size) (cwV 1 hts gX5_debt_X5_isKey rfl rfl rfl (by decide +kernel) ⟨Nat.le_of_ble_eq_true rfl, Nat.le_of_ble_eq_true rfl⟩) (g_preV hI hR.1 rfl) rfl rfl hl.1 rfl (lv_room (Nat.le_of_ble_eq_true rfl)) dX5_debt_3 ⟨Nat.le_of_ble_eq_true rfl, Nat.le_of_ble_eq_true rfl⟩) (fun r_1 f_2 H locs hw_3 hI => ?_)
  obtain ⟨rfl, hR⟩ := hw_3
  refine g_b2i_eq (tgt := 13) hx hb dX5_debt_6 (by decide) (fun c_4 => ?_) (fun c_4 => ?_)
  · refine lv_iconst (v := 1) hx hb dX5_debt_13 (by decide) ?_
    refine g_calli hI (va_runV (As := [.int 1]) (rest := []) ⟨hx, hb, hml, hown, hts⟩ (c_X5_goesWell l D cy de f_2 mm ma M 1 hR H.size) (cwV 1 hts gX5_debt_X5_goesWell rfl rfl rfl (by decide +kernel) ⟨Nat.le_of_ble_eq_true rfl, Nat.le_of_ble_eq_true rfl⟩) (g_preV hI hR.1 rfl) rfl rfl hl.1 rfl (lv_room (Nat.le_of_ble_eq_true rfl)) dX5_debt_14 ⟨Nat.le_of_ble_eq_true rfl, Nat.le_of_ble_eq_true rfl⟩) (fun r_5 f_6 H locs hw_7 hI => ?_)
    obtain ⟨rfl, hR⟩ := hw_7
    obtain ⟨M_8, eM_8⟩ : ∃ z, z = mWell M 1 := ⟨_, rfl⟩
    rw [← eM_8] at hR
    refine g_b2i_eq (tgt := 29) hx hb dX5_debt_17 (by decide) (fun _ => ?_) (fun z => absurd z (by decide))
    refine lv_iconst (v := 0) hx hb dX5_debt_29 (by decide) ?_
    exact g_iret hx hb hr hlocks hI (by have hE : (mRd M key (fun N => N 10 (ix key))) = (0, M_8) := (by simp only [mRd, c_4, if_true, if_false, ↓reduceIte, Bool.true_eq_false, Bool.false_eq_true, true_and, and_true, and_false, false_and, or_true, true_or, or_false, false_or, not_true_eq_false, not_false_eq_true, Bool.and_true, Bool.true_and, Bool.and_false, Bool.false_and, Bool.not_true, Bool.not_false, decide_true, decide_false, cond_true, cond_false] <;> (subst eM_8; rfl)); exact ⟨by rw [hE], by rw [hE]; exact hR⟩) (Nat.le_of_ble_eq_true rfl) (Nat.le_of_ble_eq_true rfl) dX5_debt_30
  · refine lv_iconst (v := 0) hx hb dX5_debt_9 (by decide) ?_
    refine lv_goto (tgt := 14) hx hb dX5_debt_10 (by decide) ?_
    refine g_calli hI (va_runV (As := [.int 0]) (rest := []) ⟨hx, hb, hml, hown, hts⟩ (c_X5_goesWell l D cy de f_2 mm ma M 0 hR H.size) (cwV 1 hts gX5_debt_X5_goesWell rfl rfl rfl (by decide +kernel) ⟨Nat.le_of_ble_eq_true rfl, Nat.le_of_ble_eq_true rfl⟩) (g_preV hI hR.1 rfl) rfl rfl hl.1 rfl (lv_room (Nat.le_of_ble_eq_true rfl)) dX5_debt_14 ⟨Nat.le_of_ble_eq_true rfl, Nat.le_of_ble_eq_true rfl⟩) (fun r_10 f_11 H locs hw_12 hI => ?_)
    obtain ⟨rfl, hR⟩ := hw_12
    obtain ⟨M_13, eM_13⟩ : ∃ z, z = mWell M 0 := ⟨_, rfl⟩
    rw [← eM_13] at hR
    refine g_b2i_eq (tgt := 29) hx hb dX5_debt_17 (by decide) (fun z => absurd z (by decide)) (fun _ => ?_)
    refine lv_aload_n hx hb dX5_debt_20 rfl (lv_at hl 0 rfl) ?_
    refine m_get hx hb hts hinX5 hown hI hR 10 (by decide) hw0 rfl rfl dX5_debt_21 ?_
    refine lv_iload_n hx hb dX5_debt_24 rfl (lv_at hl 1 rfl) ?_
    refine m_iald hx hb hI hR 10 rfl rfl (mKey_in hok c_4) dX5_debt_25 ?_
    refine lv_goto (tgt := 30) hx hb dX5_debt_26 (by decide) ?_
    exact g_iret hx hb hr hlocks hI (by have hE : (mRd M key (fun N => N 10 (ix key))) = (M_13 10 (ix key), M_13) := (by simp only [mRd, c_4, if_true, if_false, ↓reduceIte, Bool.true_eq_false, Bool.false_eq_true, true_and, and_true, and_false, false_and, or_true, true_or, or_false, false_or, not_true_eq_false, not_false_eq_true, Bool.and_true, Bool.true_and, Bool.and_false, Bool.false_and, Bool.not_true, Bool.not_false, decide_true, decide_false, cond_true, cond_false] <;> (subst eM_13; rfl)); exact ⟨by rw [hE], by rw [hE]; exact hR⟩) (Nat.le_of_ble_eq_true rfl) (Nat.le_of_ble_eq_true rfl) dX5_debt_30

set_option maxHeartbeats 4000000 in
set_option maxRecDepth 100000 in
/-- tokens -/
theorem c_X5_tokens (l : Launch) (D : va_G) (cy : Nat → ClassId) (de : Nat) (f : gFm) (mm : Nat) (ma : Nat → Nat) (M : gMd) (key : Int32) (nk nc : Nat) (hok : mOK nk nc M) (hR : Rm cy mm ma M f) : gMi l yX5_tokens wsX5_tokens { frames := 2, cells := 0, slots := 0, locals := 43 } D cy de [.ref mm, .int key] f (fun r9 f9 => r9 = ((mRd M key (fun N => N 11 (ix key))).1) ∧ Rm cy mm ma ((mRd M key (fun N => N 11 (ix key))).2) f9) 0 0 := by
  refine fun sz => Met.ofW (cc := cX5_tokens) (maxL := 2) (ret := (some .int)) (by decide) rfl ?_
  intro p e s m args below meth c s₁ B hml hv
  obtain ⟨rfl, hv⟩ := hv
  obtain ⟨rfl, hI⟩ := gP_I hv
  have hx := B.exec
  have hb := B.bytes
  have hr := B.returns
  have hts := atoms_spec (ws := wsX5_tokens) B.pre
  have hown : s.vm.findClass RX5 = some m.cls := findClass_of_methodNamed B.named
  have hlocks := B.notSynchronized
  have hinX5 : ∀ w ∈ wsX50, w ∈ wsX5_tokens := by decide +kernel
  have hw0 := hts (.fieldLink RX5 37 "TollGatewayModel" "tokens" "[I") (by decide +kernel)
  have hl := lv_entry ([.ref mm, .int key]) (n := 2) (Nat.le_of_ble_eq_true rfl)
  rw [lg_entry_eq]
  generalize (lg_sl ([.ref mm, .int key]) ++ List.replicate (2 - (lg_sl ([.ref mm, .int key])).length) Slot.unset).toArray = ls at hl ⊢
  have hl : lv_has ls 2 [(0, .ref mm), (1, .int key)] := hl
  refine lv_aload_n hx hb dX5_tokens_0 rfl (lv_at hl 0 rfl) ?_
  refine lv_aload_n hx hb dX5_tokens_1 rfl (lv_at hl 0 rfl) ?_
  refine lv_iload_n hx hb dX5_tokens_2 rfl (lv_at hl 1 rfl) ?_
  refine g_calli hI (va_runV (As := [.int key]) (rest := [.ref mm]) ⟨hx, hb, hml, hown, hts⟩ (c_X5_isKey l D cy de f mm ma M key hR s.heap.size) (cwV 1 hts gX5_tokens_X5_isKey rfl rfl rfl (by decide +kernel) ⟨Nat.le_of_ble_eq_true rfl, Nat.le_of_ble_eq_true rfl⟩) (g_preV hI hR.1 rfl) rfl rfl hl.1 rfl (lv_room (Nat.le_of_ble_eq_true rfl)) dX5_tokens_3 ⟨Nat.le_of_ble_eq_true rfl, Nat.le_of_ble_eq_true rfl⟩) (fun r_1 f_2 H locs hw_3 hI => ?_)
  obtain ⟨rfl, hR⟩ := hw_3
  refine g_b2i_eq (tgt := 13) hx hb dX5_tokens_6 (by decide) (fun c_4 => ?_) (fun c_4 => ?_)
  · refine lv_iconst (v := 1) hx hb dX5_tokens_13 (by decide) ?_
    refine g_calli hI (va_runV (As := [.int 1]) (rest := []) ⟨hx, hb, hml, hown, hts⟩ (c_X5_goesWell l D cy de f_2 mm ma M 1 hR H.size) (cwV 1 hts gX5_tokens_X5_goesWell rfl rfl rfl (by decide +kernel) ⟨Nat.le_of_ble_eq_true rfl, Nat.le_of_ble_eq_true rfl⟩) (g_preV hI hR.1 rfl) rfl rfl hl.1 rfl (lv_room (Nat.le_of_ble_eq_true rfl)) dX5_tokens_14 ⟨Nat.le_of_ble_eq_true rfl, Nat.le_of_ble_eq_true rfl⟩) (fun r_5 f_6 H locs hw_7 hI => ?_)
    obtain ⟨rfl, hR⟩ := hw_7
    obtain ⟨M_8, eM_8⟩ : ∃ z, z = mWell M 1 := ⟨_, rfl⟩
    rw [← eM_8] at hR
    refine g_b2i_eq (tgt := 29) hx hb dX5_tokens_17 (by decide) (fun _ => ?_) (fun z => absurd z (by decide))
    refine lv_iconst (v := 0) hx hb dX5_tokens_29 (by decide) ?_
    exact g_iret hx hb hr hlocks hI (by have hE : (mRd M key (fun N => N 11 (ix key))) = (0, M_8) := (by simp only [mRd, c_4, if_true, if_false, ↓reduceIte, Bool.true_eq_false, Bool.false_eq_true, true_and, and_true, and_false, false_and, or_true, true_or, or_false, false_or, not_true_eq_false, not_false_eq_true, Bool.and_true, Bool.true_and, Bool.and_false, Bool.false_and, Bool.not_true, Bool.not_false, decide_true, decide_false, cond_true, cond_false] <;> (subst eM_8; rfl)); exact ⟨by rw [hE], by rw [hE]; exact hR⟩) (Nat.le_of_ble_eq_true rfl) (Nat.le_of_ble_eq_true rfl) dX5_tokens_30
  · refine lv_iconst (v := 0) hx hb dX5_tokens_9 (by decide) ?_
    refine lv_goto (tgt := 14) hx hb dX5_tokens_10 (by decide) ?_
    refine g_calli hI (va_runV (As := [.int 0]) (rest := []) ⟨hx, hb, hml, hown, hts⟩ (c_X5_goesWell l D cy de f_2 mm ma M 0 hR H.size) (cwV 1 hts gX5_tokens_X5_goesWell rfl rfl rfl (by decide +kernel) ⟨Nat.le_of_ble_eq_true rfl, Nat.le_of_ble_eq_true rfl⟩) (g_preV hI hR.1 rfl) rfl rfl hl.1 rfl (lv_room (Nat.le_of_ble_eq_true rfl)) dX5_tokens_14 ⟨Nat.le_of_ble_eq_true rfl, Nat.le_of_ble_eq_true rfl⟩) (fun r_10 f_11 H locs hw_12 hI => ?_)
    obtain ⟨rfl, hR⟩ := hw_12
    obtain ⟨M_13, eM_13⟩ : ∃ z, z = mWell M 0 := ⟨_, rfl⟩
    rw [← eM_13] at hR
    refine g_b2i_eq (tgt := 29) hx hb dX5_tokens_17 (by decide) (fun z => absurd z (by decide)) (fun _ => ?_)
    refine lv_aload_n hx hb dX5_tokens_20 rfl (lv_at hl 0 rfl) ?_
    refine m_get hx hb hts hinX5 hown hI hR 11 (by decide) hw0 rfl rfl dX5_tokens_21 ?_
    refine lv_iload_n hx hb dX5_tokens_24 rfl (lv_at hl 1 rfl) ?_
    refine m_iald hx hb hI hR 11 rfl rfl (mKey_in hok c_4) dX5_tokens_25 ?_
    refine lv_goto (tgt := 30) hx hb dX5_tokens_26 (by decide) ?_
    exact g_iret hx hb hr hlocks hI (by have hE : (mRd M key (fun N => N 11 (ix key))) = (M_13 11 (ix key), M_13) := (by simp only [mRd, c_4, if_true, if_false, ↓reduceIte, Bool.true_eq_false, Bool.false_eq_true, true_and, and_true, and_false, false_and, or_true, true_or, or_false, false_or, not_true_eq_false, not_false_eq_true, Bool.and_true, Bool.true_and, Bool.and_false, Bool.false_and, Bool.not_true, Bool.not_false, decide_true, decide_false, cond_true, cond_false] <;> (subst eM_13; rfl)); exact ⟨by rw [hE], by rw [hE]; exact hR⟩) (Nat.le_of_ble_eq_true rfl) (Nat.le_of_ble_eq_true rfl) dX5_tokens_30

set_option maxHeartbeats 4000000 in
set_option maxRecDepth 100000 in
/-- paid -/
theorem c_X5_paid (l : Launch) (D : va_G) (cy : Nat → ClassId) (de : Nat) (f : gFm) (mm : Nat) (ma : Nat → Nat) (M : gMd) (key : Int32) (nk nc : Nat) (hok : mOK nk nc M) (hR : Rm cy mm ma M f) : gMi l yX5_paid wsX5_paid { frames := 2, cells := 0, slots := 0, locals := 43 } D cy de [.ref mm, .int key] f (fun r9 f9 => r9 = ((mRd M key (fun N => N 12 (ix key))).1) ∧ Rm cy mm ma ((mRd M key (fun N => N 12 (ix key))).2) f9) 0 0 := by
  refine fun sz => Met.ofW (cc := cX5_paid) (maxL := 2) (ret := (some .int)) (by decide) rfl ?_
  intro p e s m args below meth c s₁ B hml hv
  obtain ⟨rfl, hv⟩ := hv
  obtain ⟨rfl, hI⟩ := gP_I hv
  have hx := B.exec
  have hb := B.bytes
  have hr := B.returns
  have hts := atoms_spec (ws := wsX5_paid) B.pre
  have hown : s.vm.findClass RX5 = some m.cls := findClass_of_methodNamed B.named
  have hlocks := B.notSynchronized
  have hinX5 : ∀ w ∈ wsX50, w ∈ wsX5_paid := by decide +kernel
  have hw0 := hts (.fieldLink RX5 40 "TollGatewayModel" "paid" "[I") (by decide +kernel)
  have hl := lv_entry ([.ref mm, .int key]) (n := 2) (Nat.le_of_ble_eq_true rfl)
  rw [lg_entry_eq]
  generalize (lg_sl ([.ref mm, .int key]) ++ List.replicate (2 - (lg_sl ([.ref mm, .int key])).length) Slot.unset).toArray = ls at hl ⊢
  have hl : lv_has ls 2 [(0, .ref mm), (1, .int key)] := hl
  refine lv_aload_n hx hb dX5_paid_0 rfl (lv_at hl 0 rfl) ?_
  refine lv_aload_n hx hb dX5_paid_1 rfl (lv_at hl 0 rfl) ?_
  refine lv_iload_n hx hb dX5_paid_2 rfl (lv_at hl 1 rfl) ?_
  refine g_calli hI (va_runV (As := [.int key]) (rest := [.ref mm]) ⟨hx, hb, hml, hown, hts⟩ (c_X5_isKey l D cy de f mm ma M key hR s.heap.size) (cwV 1 hts gX5_paid_X5_isKey rfl rfl rfl (by decide +kernel) ⟨Nat.le_of_ble_eq_true rfl, Nat.le_of_ble_eq_true rfl⟩) (g_preV hI hR.1 rfl) rfl rfl hl.1 rfl (lv_room (Nat.le_of_ble_eq_true rfl)) dX5_paid_3 ⟨Nat.le_of_ble_eq_true rfl, Nat.le_of_ble_eq_true rfl⟩) (fun r_1 f_2 H locs hw_3 hI => ?_)
  obtain ⟨rfl, hR⟩ := hw_3
  refine g_b2i_eq (tgt := 13) hx hb dX5_paid_6 (by decide) (fun c_4 => ?_) (fun c_4 => ?_)
  · refine lv_iconst (v := 1) hx hb dX5_paid_13 (by decide) ?_
    refine g_calli hI (va_runV (As := [.int 1]) (rest := []) ⟨hx, hb, hml, hown, hts⟩ (c_X5_goesWell l D cy de f_2 mm ma M 1 hR H.size) (cwV 1 hts gX5_paid_X5_goesWell rfl rfl rfl (by decide +kernel) ⟨Nat.le_of_ble_eq_true rfl, Nat.le_of_ble_eq_true rfl⟩) (g_preV hI hR.1 rfl) rfl rfl hl.1 rfl (lv_room (Nat.le_of_ble_eq_true rfl)) dX5_paid_14 ⟨Nat.le_of_ble_eq_true rfl, Nat.le_of_ble_eq_true rfl⟩) (fun r_5 f_6 H locs hw_7 hI => ?_)
    obtain ⟨rfl, hR⟩ := hw_7
    obtain ⟨M_8, eM_8⟩ : ∃ z, z = mWell M 1 := ⟨_, rfl⟩
    rw [← eM_8] at hR
    refine g_b2i_eq (tgt := 29) hx hb dX5_paid_17 (by decide) (fun _ => ?_) (fun z => absurd z (by decide))
    refine lv_iconst (v := 0) hx hb dX5_paid_29 (by decide) ?_
    exact g_iret hx hb hr hlocks hI (by have hE : (mRd M key (fun N => N 12 (ix key))) = (0, M_8) := (by simp only [mRd, c_4, if_true, if_false, ↓reduceIte, Bool.true_eq_false, Bool.false_eq_true, true_and, and_true, and_false, false_and, or_true, true_or, or_false, false_or, not_true_eq_false, not_false_eq_true, Bool.and_true, Bool.true_and, Bool.and_false, Bool.false_and, Bool.not_true, Bool.not_false, decide_true, decide_false, cond_true, cond_false] <;> (subst eM_8; rfl)); exact ⟨by rw [hE], by rw [hE]; exact hR⟩) (Nat.le_of_ble_eq_true rfl) (Nat.le_of_ble_eq_true rfl) dX5_paid_30
  · refine lv_iconst (v := 0) hx hb dX5_paid_9 (by decide) ?_
    refine lv_goto (tgt := 14) hx hb dX5_paid_10 (by decide) ?_
    refine g_calli hI (va_runV (As := [.int 0]) (rest := []) ⟨hx, hb, hml, hown, hts⟩ (c_X5_goesWell l D cy de f_2 mm ma M 0 hR H.size) (cwV 1 hts gX5_paid_X5_goesWell rfl rfl rfl (by decide +kernel) ⟨Nat.le_of_ble_eq_true rfl, Nat.le_of_ble_eq_true rfl⟩) (g_preV hI hR.1 rfl) rfl rfl hl.1 rfl (lv_room (Nat.le_of_ble_eq_true rfl)) dX5_paid_14 ⟨Nat.le_of_ble_eq_true rfl, Nat.le_of_ble_eq_true rfl⟩) (fun r_10 f_11 H locs hw_12 hI => ?_)
    obtain ⟨rfl, hR⟩ := hw_12
    obtain ⟨M_13, eM_13⟩ : ∃ z, z = mWell M 0 := ⟨_, rfl⟩
    rw [← eM_13] at hR
    refine g_b2i_eq (tgt := 29) hx hb dX5_paid_17 (by decide) (fun z => absurd z (by decide)) (fun _ => ?_)
    refine lv_aload_n hx hb dX5_paid_20 rfl (lv_at hl 0 rfl) ?_
    refine m_get hx hb hts hinX5 hown hI hR 12 (by decide) hw0 rfl rfl dX5_paid_21 ?_
    refine lv_iload_n hx hb dX5_paid_24 rfl (lv_at hl 1 rfl) ?_
    refine m_iald hx hb hI hR 12 rfl rfl (mKey_in hok c_4) dX5_paid_25 ?_
    refine lv_goto (tgt := 30) hx hb dX5_paid_26 (by decide) ?_
    exact g_iret hx hb hr hlocks hI (by have hE : (mRd M key (fun N => N 12 (ix key))) = (M_13 12 (ix key), M_13) := (by simp only [mRd, c_4, if_true, if_false, ↓reduceIte, Bool.true_eq_false, Bool.false_eq_true, true_and, and_true, and_false, false_and, or_true, true_or, or_false, false_or, not_true_eq_false, not_false_eq_true, Bool.and_true, Bool.true_and, Bool.and_false, Bool.false_and, Bool.not_true, Bool.not_false, decide_true, decide_false, cond_true, cond_false] <;> (subst eM_13; rfl)); exact ⟨by rw [hE], by rw [hE]; exact hR⟩) (Nat.le_of_ble_eq_true rfl) (Nat.le_of_ble_eq_true rfl) dX5_paid_30

set_option maxHeartbeats 4000000 in
set_option maxRecDepth 100000 in
/-- cost -/
theorem c_X5_cost (l : Launch) (D : va_G) (cy : Nat → ClassId) (de : Nat) (f : gFm) (mm : Nat) (ma : Nat → Nat) (M : gMd) (cal : Int32) (nk nc : Nat) (hok : mOK nk nc M) (hR : Rm cy mm ma M f) : gMi l yX5_cost wsX5_cost { frames := 2, cells := 0, slots := 0, locals := 43 } D cy de [.ref mm, .int cal] f (fun r9 f9 => r9 = ((mCost M cal).1) ∧ Rm cy mm ma ((mCost M cal).2) f9) 0 0 := by
  refine fun sz => Met.ofW (cc := cX5_cost) (maxL := 2) (ret := (some .int)) (by decide) rfl ?_
  intro p e s m args below meth c s₁ B hml hv
  obtain ⟨rfl, hv⟩ := hv
  obtain ⟨rfl, hI⟩ := gP_I hv
  have hx := B.exec
  have hb := B.bytes
  have hr := B.returns
  have hts := atoms_spec (ws := wsX5_cost) B.pre
  have hown : s.vm.findClass RX5 = some m.cls := findClass_of_methodNamed B.named
  have hlocks := B.notSynchronized
  have hinX5 : ∀ w ∈ wsX50, w ∈ wsX5_cost := by decide +kernel
  have hw0 := hts (.fieldLink RX5 61 "TollGatewayModel" "hasEnded" "[Z") (by decide +kernel)
  have hw1 := hts (.fieldLink RX5 55 "TollGatewayModel" "costs" "[I") (by decide +kernel)
  have hl := lv_entry ([.ref mm, .int cal]) (n := 2) (Nat.le_of_ble_eq_true rfl)
  rw [lg_entry_eq]
  generalize (lg_sl ([.ref mm, .int cal]) ++ List.replicate (2 - (lg_sl ([.ref mm, .int cal])).length) Slot.unset).toArray = ls at hl ⊢
  have hl : lv_has ls 2 [(0, .ref mm), (1, .int cal)] := hl
  refine lv_aload_n hx hb dX5_cost_0 rfl (lv_at hl 0 rfl) ?_
  refine lv_aload_n hx hb dX5_cost_1 rfl (lv_at hl 0 rfl) ?_
  refine lv_iload_n hx hb dX5_cost_2 rfl (lv_at hl 1 rfl) ?_
  refine g_calli hI (va_runV (As := [.int cal]) (rest := [.ref mm]) ⟨hx, hb, hml, hown, hts⟩ (c_X5_isCall l D cy de f mm ma M cal hR s.heap.size) (cwV 1 hts gX5_cost_X5_isCall rfl rfl rfl (by decide +kernel) ⟨Nat.le_of_ble_eq_true rfl, Nat.le_of_ble_eq_true rfl⟩) (g_preV hI hR.1 rfl) rfl rfl hl.1 rfl (lv_room (Nat.le_of_ble_eq_true rfl)) dX5_cost_3 ⟨Nat.le_of_ble_eq_true rfl, Nat.le_of_ble_eq_true rfl⟩) (fun r_1 f_2 H locs hw_3 hI => ?_)
  obtain ⟨rfl, hR⟩ := hw_3
  refine g_b2i_eq (tgt := 13) hx hb dX5_cost_6 (by decide) (fun c_4 => ?_) (fun c_4 => ?_)
  · refine lv_iconst (v := 1) hx hb dX5_cost_13 (by decide) ?_
    refine g_calli hI (va_runV (As := [.int 1]) (rest := []) ⟨hx, hb, hml, hown, hts⟩ (c_X5_goesWell l D cy de f_2 mm ma M 1 hR H.size) (cwV 1 hts gX5_cost_X5_goesWell rfl rfl rfl (by decide +kernel) ⟨Nat.le_of_ble_eq_true rfl, Nat.le_of_ble_eq_true rfl⟩) (g_preV hI hR.1 rfl) rfl rfl hl.1 rfl (lv_room (Nat.le_of_ble_eq_true rfl)) dX5_cost_14 ⟨Nat.le_of_ble_eq_true rfl, Nat.le_of_ble_eq_true rfl⟩) (fun r_5 f_6 H locs hw_7 hI => ?_)
    obtain ⟨rfl, hR⟩ := hw_7
    obtain ⟨M_8, eM_8⟩ : ∃ z, z = mWell M 1 := ⟨_, rfl⟩
    rw [← eM_8] at hR
    refine g_b2i_ne (tgt := 22) hx hb dX5_cost_17 (by decide) (fun z => absurd z (by decide)) (fun _ => ?_)
    refine lv_iconst (v := 0) hx hb dX5_cost_20 (by decide) ?_
    exact g_iret hx hb hr hlocks hI (by have hE : (mCost M cal) = (0, M_8) := (by simp only [mCost, c_4, if_true, if_false, ↓reduceIte, Bool.true_eq_false, Bool.false_eq_true, true_and, and_true, and_false, false_and, or_true, true_or, or_false, false_or, not_true_eq_false, not_false_eq_true, Bool.and_true, Bool.true_and, Bool.and_false, Bool.false_and, Bool.not_true, Bool.not_false, decide_true, decide_false, cond_true, cond_false] <;> (subst eM_8; rfl)); exact ⟨by rw [hE], by rw [hE]; exact hR⟩) (Nat.le_of_ble_eq_true rfl) (Nat.le_of_ble_eq_true rfl) dX5_cost_21
  · refine lv_iconst (v := 0) hx hb dX5_cost_9 (by decide) ?_
    refine lv_goto (tgt := 14) hx hb dX5_cost_10 (by decide) ?_
    refine g_calli hI (va_runV (As := [.int 0]) (rest := []) ⟨hx, hb, hml, hown, hts⟩ (c_X5_goesWell l D cy de f_2 mm ma M 0 hR H.size) (cwV 1 hts gX5_cost_X5_goesWell rfl rfl rfl (by decide +kernel) ⟨Nat.le_of_ble_eq_true rfl, Nat.le_of_ble_eq_true rfl⟩) (g_preV hI hR.1 rfl) rfl rfl hl.1 rfl (lv_room (Nat.le_of_ble_eq_true rfl)) dX5_cost_14 ⟨Nat.le_of_ble_eq_true rfl, Nat.le_of_ble_eq_true rfl⟩) (fun r_10 f_11 H locs hw_12 hI => ?_)
    obtain ⟨rfl, hR⟩ := hw_12
    obtain ⟨M_13, eM_13⟩ : ∃ z, z = mWell M 0 := ⟨_, rfl⟩
    rw [← eM_13] at hR
    refine g_b2i_ne (tgt := 22) hx hb dX5_cost_17 (by decide) (fun _ => ?_) (fun z => absurd z (by decide))
    refine lv_aload_n hx hb dX5_cost_22 rfl (lv_at hl 0 rfl) ?_
    refine m_get hx hb hts hinX5 hown hI hR 20 (by decide) hw0 rfl rfl dX5_cost_23 ?_
    refine lv_iload_n hx hb dX5_cost_26 rfl (lv_at hl 1 rfl) ?_
    refine m_zald hx hb hI hR 20 rfl rfl (mCal_in hok c_4) dX5_cost_27 ?_
    refine lv_if_eq (tgt := 40) hx hb dX5_cost_28 (by decide) (fun c_15 => ?_) (fun c_15 => ?_)
    · refine lv_iconst (v := -1) hx hb dX5_cost_40 (by decide) ?_
      exact g_iret hx hb hr hlocks hI (by have hE : (mCost M cal) = ((-1), M_13) := (by subst eM_13; simp only [mCost, c_4, c_15, if_true, if_false, ↓reduceIte, Bool.true_eq_false, Bool.false_eq_true, true_and, and_true, and_false, false_and, or_true, true_or, or_false, false_or, not_true_eq_false, not_false_eq_true, Bool.and_true, Bool.true_and, Bool.and_false, Bool.false_and, Bool.not_true, Bool.not_false, decide_true, decide_false, cond_true, cond_false] <;> (rfl)); exact ⟨by rw [hE], by rw [hE]; exact hR⟩) (Nat.le_of_ble_eq_true rfl) (Nat.le_of_ble_eq_true rfl) dX5_cost_41
    · refine lv_aload_n hx hb dX5_cost_31 rfl (lv_at hl 0 rfl) ?_
      refine m_get hx hb hts hinX5 hown hI hR 18 (by decide) hw1 rfl rfl dX5_cost_32 ?_
      refine lv_iload_n hx hb dX5_cost_35 rfl (lv_at hl 1 rfl) ?_
      refine m_iald hx hb hI hR 18 rfl rfl (mCal_in hok c_4) dX5_cost_36 ?_
      refine lv_goto (tgt := 41) hx hb dX5_cost_37 (by decide) ?_
      exact g_iret hx hb hr hlocks hI (by have hE : (mCost M cal) = (M_13 18 (ix cal), M_13) := (by subst eM_13; simp only [mCost, c_4, c_15, if_true, if_false, ↓reduceIte, Bool.true_eq_false, Bool.false_eq_true, true_and, and_true, and_false, false_and, or_true, true_or, or_false, false_or, not_true_eq_false, not_false_eq_true, Bool.and_true, Bool.true_and, Bool.and_false, Bool.false_and, Bool.not_true, Bool.not_false, decide_true, decide_false, cond_true, cond_false] <;> (rfl)); exact ⟨by rw [hE], by rw [hE]; exact hR⟩) (Nat.le_of_ble_eq_true rfl) (Nat.le_of_ble_eq_true rfl) dX5_cost_41
