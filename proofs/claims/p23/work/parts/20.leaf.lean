set_option maxHeartbeats 4000000 in
set_option maxRecDepth 100000 in
/-- Key.receive -/
theorem c_X1_receive (l : Launch) (D : va_G) (cy : Nat → ClassId) (de : Nat) (f : gFm) (a : Nat) (mny : Int32) (pa : Nat) (t : Int32) (ln : Int32) (cr : Int32) (db : Int32) (hd : Int32) (op : Int32) (sp : Int32) (pd : Int32) (ha : f a = some (.inr (2, [.ref pa, .int t, .int ln, .int cr, .int db, .int hd, .int op, .int sp, .int pd]))) : gMv l yX1_receive wsX1_receive { frames := 1, cells := 0, slots := 0, locals := 13 } D cy de [.ref a, .int mny] f (fun f9 => f9 = va_up f a (some (.inr (2, [.ref pa, .int t, .int ln, .int (cr + (mny - (if mny < db then mny else db))), .int (db - (if mny < db then mny else db)), .int hd, .int op, .int sp, .int pd])))) 0 0 := by
  refine fun sz => Met.ofW (cc := cX1_receive) (maxL := 3) (ret := none) (by decide) rfl ?_
  intro p e s m args below meth c s₁ B hml hv
  obtain ⟨rfl, hv⟩ := hv
  obtain ⟨rfl, hI⟩ := gP_I hv
  have hx := B.exec
  have hb := B.bytes
  have hr := B.returns
  have hts := atoms_spec (ws := wsX1_receive) B.pre
  have hown : s.vm.findClass RX1 = some m.cls := findClass_of_methodNamed B.named
  have hlocks := B.notSynchronized
  have hinX1 : ∀ w ∈ wsX10, w ∈ wsX1_receive := by decide +kernel
  have hw0 := hts (.fieldLink RX1 22 "TollGateway$Key" "debt" "I") (by decide +kernel)
  have hw1 := hts (.methodLink RX1 25 Lib.Math.min.name) (by decide +kernel)
  have hw2 := hts (.static Lib.Math.min.name) (by decide +kernel)
  have hw3 := hts (.initialized "java/lang/Math") (by decide +kernel)
  have hw4 := hts (.code Lib.Math.min.name Lib.Math.min.code 2 (some .int)) (by decide +kernel)
  have hw5 := hts (.fieldLink RX1 31 "TollGateway$Key" "credit" "I") (by decide +kernel)
  have hl := lv_entry ([.ref a, .int mny]) (n := 3) (Nat.le_of_ble_eq_true rfl)
  rw [lg_entry_eq]
  generalize (lg_sl ([.ref a, .int mny]) ++ List.replicate (3 - (lg_sl ([.ref a, .int mny])).length) Slot.unset).toArray = ls at hl ⊢
  have hl : lv_has ls 3 [(0, .ref a), (1, .int mny)] := hl
  refine lv_aload_n hx hb dX1_receive_0 rfl (lv_at hl 0 rfl) ?_
  refine g_get (ci := 2) (C := RX1) (T := TX1) (N := 9) hx hb hts hinX1 hown hI ha rfl 4 (by decide) hw0 (fun _ h9 => h9) rfl dX1_receive_1 ?_
  refine lv_iload_n hx hb dX1_receive_4 rfl (lv_at hl 1 rfl) ?_
  refine va_mmin hx hb (by rw [hml]; exact hl.1.symm) hown hw1 hw2 hw3 hw4 (Nat.le_of_ble_eq_true rfl) (Nat.le_of_ble_eq_true rfl) (Nat.le_of_ble_eq_true rfl) (Nat.le_of_ble_eq_true rfl) dX1_receive_5 ?_
  refine lv_istore_n (lv' := [(2, .int (if mny < db then mny else db)), (0, .ref a), (1, .int mny)]) hx hb dX1_receive_8 rfl hl (by decide) rfl (fun ls hl => ?_)
  refine lv_aload_n hx hb dX1_receive_9 rfl (lv_at hl 1 rfl) ?_
  refine lv_dup hx hb dX1_receive_10 rfl ?_
  refine g_get (ci := 2) (C := RX1) (T := TX1) (N := 9) hx hb hts hinX1 hown hI ha rfl 4 (by decide) hw0 (fun _ h9 => h9) rfl dX1_receive_11 ?_
  refine lv_iload_n hx hb dX1_receive_14 rfl (lv_at hl 0 rfl) ?_
  refine lv_isub hx hb dX1_receive_15 ?_
  refine g_put (ci := 2) (v := .int (db - (if mny < db then mny else db))) (ty := .int) (C := RX1) (T := TX1) (N := 9) hx hb hts hinX1 tyX1 tyX1_ok nmX1 hown hI ha rfl 4 (by decide) hw0 (fun _ h9 => h9) rfl (by decide +kernel) rfl rfl (Nat.le_of_ble_eq_true rfl) dX1_receive_16 (fun f_1 H locs e_2 hI => ?_)
  have e_2 : f_1 = va_up f a (some (.inr (2, [.ref pa, .int t, .int ln, .int cr, .int (db - (if mny < db then mny else db)), .int hd, .int op, .int sp, .int pd]))) := e_2
  have hf_3 : f_1 a = some (.inr (2, [.ref pa, .int t, .int ln, .int cr, .int (db - (if mny < db then mny else db)), .int hd, .int op, .int sp, .int pd])) := by rw [e_2]; exact va_up_self _ _ _
  refine lv_aload_n hx hb dX1_receive_19 rfl (lv_at hl 1 rfl) ?_
  refine lv_dup hx hb dX1_receive_20 rfl ?_
  refine g_get (ci := 2) (C := RX1) (T := TX1) (N := 9) hx hb hts hinX1 hown hI hf_3 rfl 3 (by decide) hw5 (fun _ h9 => h9) rfl dX1_receive_21 ?_
  refine lv_iload_n hx hb dX1_receive_24 rfl (lv_at hl 2 rfl) ?_
  refine lv_iload_n hx hb dX1_receive_25 rfl (lv_at hl 0 rfl) ?_
  refine lv_isub hx hb dX1_receive_26 ?_
  refine lv_iadd hx hb dX1_receive_27 ?_
  refine g_put (ci := 2) (v := .int (cr + (mny - (if mny < db then mny else db)))) (ty := .int) (C := RX1) (T := TX1) (N := 9) hx hb hts hinX1 tyX1 tyX1_ok nmX1 hown hI hf_3 rfl 3 (by decide) hw5 (fun _ h9 => h9) rfl (by decide +kernel) rfl rfl (Nat.le_of_ble_eq_true rfl) dX1_receive_28 (fun f_4 H locs e_5 hI => ?_)
  have e_5 : f_4 = va_up f_1 a (some (.inr (2, [.ref pa, .int t, .int ln, .int (cr + (mny - (if mny < db then mny else db))), .int (db - (if mny < db then mny else db)), .int hd, .int op, .int sp, .int pd]))) := e_5
  have hf_6 : f_4 a = some (.inr (2, [.ref pa, .int t, .int ln, .int (cr + (mny - (if mny < db then mny else db))), .int (db - (if mny < db then mny else db)), .int hd, .int op, .int sp, .int pd])) := by rw [e_5]; exact va_up_self _ _ _
  exact g_vret hx hb hr hlocks hI (by rw [e_5, e_2]; simp only [g_uu]) (Nat.le_of_ble_eq_true rfl) (Nat.le_of_ble_eq_true rfl) dX1_receive_31

set_option maxHeartbeats 4000000 in
set_option maxRecDepth 100000 in
/-- Key.canCover -/
theorem c_X1_canCover (l : Launch) (D : va_G) (cy : Nat → ClassId) (de : Nat) (f : gFm) (a : Nat) (w0 : Int32) (pa : Nat) (t : Int32) (ln : Int32) (cr : Int32) (db : Int32) (hd : Int32) (op : Int32) (sp : Int32) (pd : Int32) (ha : f a = some (.inr (2, [.ref pa, .int t, .int ln, .int cr, .int db, .int hd, .int op, .int sp, .int pd]))) : gMi l yX1_canCover wsX1_canCover { frames := 1, cells := 0, slots := 0, locals := 13 } D cy de [.ref a, .int w0] f (fun r9 f9 => r9 = b2i (!decide (cr + (if 0 < ln - db then ln - db else 0) < w0)) ∧ f9 = f) 0 0 := by
  refine fun sz => Met.ofW (cc := cX1_canCover) (maxL := 3) (ret := (some .boolean)) (by decide) rfl ?_
  intro p e s m args below meth c s₁ B hml hv
  obtain ⟨rfl, hv⟩ := hv
  obtain ⟨rfl, hI⟩ := gP_I hv
  have hx := B.exec
  have hb := B.bytes
  have hr := B.returns
  have hts := atoms_spec (ws := wsX1_canCover) B.pre
  have hown : s.vm.findClass RX1 = some m.cls := findClass_of_methodNamed B.named
  have hlocks := B.notSynchronized
  have hinX1 : ∀ w ∈ wsX10, w ∈ wsX1_canCover := by decide +kernel
  have hw0 := hts (.fieldLink RX1 34 "TollGateway$Key" "trustLine" "I") (by decide +kernel)
  have hw1 := hts (.fieldLink RX1 22 "TollGateway$Key" "debt" "I") (by decide +kernel)
  have hw2 := hts (.methodLink RX1 37 Lib.Math.max.name) (by decide +kernel)
  have hw3 := hts (.static Lib.Math.max.name) (by decide +kernel)
  have hw4 := hts (.initialized "java/lang/Math") (by decide +kernel)
  have hw5 := hts (.code Lib.Math.max.name Lib.Math.max.code 2 (some .int)) (by decide +kernel)
  have hw6 := hts (.fieldLink RX1 31 "TollGateway$Key" "credit" "I") (by decide +kernel)
  have hl := lv_entry ([.ref a, .int w0]) (n := 3) (Nat.le_of_ble_eq_true rfl)
  rw [lg_entry_eq]
  generalize (lg_sl ([.ref a, .int w0]) ++ List.replicate (3 - (lg_sl ([.ref a, .int w0])).length) Slot.unset).toArray = ls at hl ⊢
  have hl : lv_has ls 3 [(0, .ref a), (1, .int w0)] := hl
  refine lv_iconst (v := 0) hx hb dX1_canCover_0 (by decide) ?_
  refine lv_aload_n hx hb dX1_canCover_1 rfl (lv_at hl 0 rfl) ?_
  refine g_get (ci := 2) (C := RX1) (T := TX1) (N := 9) hx hb hts hinX1 hown hI ha rfl 2 (by decide) hw0 (fun _ h9 => h9) rfl dX1_canCover_2 ?_
  refine lv_aload_n hx hb dX1_canCover_5 rfl (lv_at hl 0 rfl) ?_
  refine g_get (ci := 2) (C := RX1) (T := TX1) (N := 9) hx hb hts hinX1 hown hI ha rfl 4 (by decide) hw1 (fun _ h9 => h9) rfl dX1_canCover_6 ?_
  refine lv_isub hx hb dX1_canCover_9 ?_
  refine va_mmax hx hb (by rw [hml]; exact hl.1.symm) hown hw2 hw3 hw4 hw5 (Nat.le_of_ble_eq_true rfl) (Nat.le_of_ble_eq_true rfl) (Nat.le_of_ble_eq_true rfl) (Nat.le_of_ble_eq_true rfl) dX1_canCover_10 ?_
  refine lv_istore_n (lv' := [(2, .int (if 0 < (ln - db) then (ln - db) else 0)), (0, .ref a), (1, .int w0)]) hx hb dX1_canCover_13 rfl hl (by decide) rfl (fun ls hl => ?_)
  refine lv_aload_n hx hb dX1_canCover_14 rfl (lv_at hl 1 rfl) ?_
  refine g_get (ci := 2) (C := RX1) (T := TX1) (N := 9) hx hb hts hinX1 hown hI ha rfl 3 (by decide) hw6 (fun _ h9 => h9) rfl dX1_canCover_15 ?_
  refine lv_iload_n hx hb dX1_canCover_18 rfl (lv_at hl 0 rfl) ?_
  refine lv_iadd hx hb dX1_canCover_19 ?_
  refine lv_iload_n hx hb dX1_canCover_20 rfl (lv_at hl 2 rfl) ?_
  refine lv_icmp_lt (tgt := 28) hx hb dX1_canCover_21 (by decide) (fun c_1 => ?_) (fun c_1 => ?_)
  · refine lv_iconst (v := 0) hx hb dX1_canCover_28 (by decide) ?_
    exact g_zret hx hb hr hlocks hI rfl ⟨(by simp [c_1, b2i]), (by simp [c_1, g_uu, b2i])⟩ (Nat.le_of_ble_eq_true rfl) (Nat.le_of_ble_eq_true rfl) dX1_canCover_29
  · refine lv_iconst (v := 1) hx hb dX1_canCover_24 (by decide) ?_
    refine lv_goto (tgt := 29) hx hb dX1_canCover_25 (by decide) ?_
    exact g_zret hx hb hr hlocks hI rfl ⟨(by simp [c_1, b2i]), (by simp [c_1, g_uu, b2i])⟩ (Nat.le_of_ble_eq_true rfl) (Nat.le_of_ble_eq_true rfl) dX1_canCover_29

set_option maxHeartbeats 4000000 in
set_option maxRecDepth 100000 in
/-- Key.openHold -/
theorem c_X1_openHold (l : Launch) (D : va_G) (cy : Nat → ClassId) (de : Nat) (f : gFm) (a : Nat) (w0 : Int32) (pa : Nat) (t : Int32) (ln : Int32) (cr : Int32) (db : Int32) (hd : Int32) (op : Int32) (sp : Int32) (pd : Int32) (ha : f a = some (.inr (2, [.ref pa, .int t, .int ln, .int cr, .int db, .int hd, .int op, .int sp, .int pd]))) : gMv l yX1_openHold wsX1_openHold { frames := 1, cells := 0, slots := 0, locals := 13 } D cy de [.ref a, .int w0] f (fun f9 => f9 = va_up f a (some (.inr (2, [.ref pa, .int t, .int ln, .int (cr - (if w0 < cr then w0 else cr)), .int (db + (w0 - (if w0 < cr then w0 else cr))), .int (hd + w0), .int (op + 1), .int sp, .int pd])))) 0 0 := by
  refine fun sz => Met.ofW (cc := cX1_openHold) (maxL := 3) (ret := none) (by decide) rfl ?_
  intro p e s m args below meth c s₁ B hml hv
  obtain ⟨rfl, hv⟩ := hv
  obtain ⟨rfl, hI⟩ := gP_I hv
  have hx := B.exec
  have hb := B.bytes
  have hr := B.returns
  have hts := atoms_spec (ws := wsX1_openHold) B.pre
  have hown : s.vm.findClass RX1 = some m.cls := findClass_of_methodNamed B.named
  have hlocks := B.notSynchronized
  have hinX1 : ∀ w ∈ wsX10, w ∈ wsX1_openHold := by decide +kernel
  have hw0 := hts (.fieldLink RX1 31 "TollGateway$Key" "credit" "I") (by decide +kernel)
  have hw1 := hts (.methodLink RX1 25 Lib.Math.min.name) (by decide +kernel)
  have hw2 := hts (.static Lib.Math.min.name) (by decide +kernel)
  have hw3 := hts (.initialized "java/lang/Math") (by decide +kernel)
  have hw4 := hts (.code Lib.Math.min.name Lib.Math.min.code 2 (some .int)) (by decide +kernel)
  have hw5 := hts (.fieldLink RX1 22 "TollGateway$Key" "debt" "I") (by decide +kernel)
  have hw6 := hts (.fieldLink RX1 40 "TollGateway$Key" "held" "I") (by decide +kernel)
  have hw7 := hts (.fieldLink RX1 43 "TollGateway$Key" "openHolds" "I") (by decide +kernel)
  have hl := lv_entry ([.ref a, .int w0]) (n := 3) (Nat.le_of_ble_eq_true rfl)
  rw [lg_entry_eq]
  generalize (lg_sl ([.ref a, .int w0]) ++ List.replicate (3 - (lg_sl ([.ref a, .int w0])).length) Slot.unset).toArray = ls at hl ⊢
  have hl : lv_has ls 3 [(0, .ref a), (1, .int w0)] := hl
  refine lv_aload_n hx hb dX1_openHold_0 rfl (lv_at hl 0 rfl) ?_
  refine g_get (ci := 2) (C := RX1) (T := TX1) (N := 9) hx hb hts hinX1 hown hI ha rfl 3 (by decide) hw0 (fun _ h9 => h9) rfl dX1_openHold_1 ?_
  refine lv_iload_n hx hb dX1_openHold_4 rfl (lv_at hl 1 rfl) ?_
  refine va_mmin hx hb (by rw [hml]; exact hl.1.symm) hown hw1 hw2 hw3 hw4 (Nat.le_of_ble_eq_true rfl) (Nat.le_of_ble_eq_true rfl) (Nat.le_of_ble_eq_true rfl) (Nat.le_of_ble_eq_true rfl) dX1_openHold_5 ?_
  refine lv_istore_n (lv' := [(2, .int (if w0 < cr then w0 else cr)), (0, .ref a), (1, .int w0)]) hx hb dX1_openHold_8 rfl hl (by decide) rfl (fun ls hl => ?_)
  refine lv_aload_n hx hb dX1_openHold_9 rfl (lv_at hl 1 rfl) ?_
  refine lv_dup hx hb dX1_openHold_10 rfl ?_
  refine g_get (ci := 2) (C := RX1) (T := TX1) (N := 9) hx hb hts hinX1 hown hI ha rfl 3 (by decide) hw0 (fun _ h9 => h9) rfl dX1_openHold_11 ?_
  refine lv_iload_n hx hb dX1_openHold_14 rfl (lv_at hl 0 rfl) ?_
  refine lv_isub hx hb dX1_openHold_15 ?_
  refine g_put (ci := 2) (v := .int (cr - (if w0 < cr then w0 else cr))) (ty := .int) (C := RX1) (T := TX1) (N := 9) hx hb hts hinX1 tyX1 tyX1_ok nmX1 hown hI ha rfl 3 (by decide) hw0 (fun _ h9 => h9) rfl (by decide +kernel) rfl rfl (Nat.le_of_ble_eq_true rfl) dX1_openHold_16 (fun f_1 H locs e_2 hI => ?_)
  have e_2 : f_1 = va_up f a (some (.inr (2, [.ref pa, .int t, .int ln, .int (cr - (if w0 < cr then w0 else cr)), .int db, .int hd, .int op, .int sp, .int pd]))) := e_2
  have hf_3 : f_1 a = some (.inr (2, [.ref pa, .int t, .int ln, .int (cr - (if w0 < cr then w0 else cr)), .int db, .int hd, .int op, .int sp, .int pd])) := by rw [e_2]; exact va_up_self _ _ _
  refine lv_aload_n hx hb dX1_openHold_19 rfl (lv_at hl 1 rfl) ?_
  refine lv_dup hx hb dX1_openHold_20 rfl ?_
  refine g_get (ci := 2) (C := RX1) (T := TX1) (N := 9) hx hb hts hinX1 hown hI hf_3 rfl 4 (by decide) hw5 (fun _ h9 => h9) rfl dX1_openHold_21 ?_
  refine lv_iload_n hx hb dX1_openHold_24 rfl (lv_at hl 2 rfl) ?_
  refine lv_iload_n hx hb dX1_openHold_25 rfl (lv_at hl 0 rfl) ?_
  refine lv_isub hx hb dX1_openHold_26 ?_
  refine lv_iadd hx hb dX1_openHold_27 ?_
  refine g_put (ci := 2) (v := .int (db + (w0 - (if w0 < cr then w0 else cr)))) (ty := .int) (C := RX1) (T := TX1) (N := 9) hx hb hts hinX1 tyX1 tyX1_ok nmX1 hown hI hf_3 rfl 4 (by decide) hw5 (fun _ h9 => h9) rfl (by decide +kernel) rfl rfl (Nat.le_of_ble_eq_true rfl) dX1_openHold_28 (fun f_4 H locs e_5 hI => ?_)
  have e_5 : f_4 = va_up f_1 a (some (.inr (2, [.ref pa, .int t, .int ln, .int (cr - (if w0 < cr then w0 else cr)), .int (db + (w0 - (if w0 < cr then w0 else cr))), .int hd, .int op, .int sp, .int pd]))) := e_5
  have hf_6 : f_4 a = some (.inr (2, [.ref pa, .int t, .int ln, .int (cr - (if w0 < cr then w0 else cr)), .int (db + (w0 - (if w0 < cr then w0 else cr))), .int hd, .int op, .int sp, .int pd])) := by rw [e_5]; exact va_up_self _ _ _
  refine lv_aload_n hx hb dX1_openHold_31 rfl (lv_at hl 1 rfl) ?_
  refine lv_dup hx hb dX1_openHold_32 rfl ?_
  refine g_get (ci := 2) (C := RX1) (T := TX1) (N := 9) hx hb hts hinX1 hown hI hf_6 rfl 5 (by decide) hw6 (fun _ h9 => h9) rfl dX1_openHold_33 ?_
  refine lv_iload_n hx hb dX1_openHold_36 rfl (lv_at hl 2 rfl) ?_
  refine lv_iadd hx hb dX1_openHold_37 ?_
  refine g_put (ci := 2) (v := .int (hd + w0)) (ty := .int) (C := RX1) (T := TX1) (N := 9) hx hb hts hinX1 tyX1 tyX1_ok nmX1 hown hI hf_6 rfl 5 (by decide) hw6 (fun _ h9 => h9) rfl (by decide +kernel) rfl rfl (Nat.le_of_ble_eq_true rfl) dX1_openHold_38 (fun f_7 H locs e_8 hI => ?_)
  have e_8 : f_7 = va_up f_4 a (some (.inr (2, [.ref pa, .int t, .int ln, .int (cr - (if w0 < cr then w0 else cr)), .int (db + (w0 - (if w0 < cr then w0 else cr))), .int (hd + w0), .int op, .int sp, .int pd]))) := e_8
  have hf_9 : f_7 a = some (.inr (2, [.ref pa, .int t, .int ln, .int (cr - (if w0 < cr then w0 else cr)), .int (db + (w0 - (if w0 < cr then w0 else cr))), .int (hd + w0), .int op, .int sp, .int pd])) := by rw [e_8]; exact va_up_self _ _ _
  refine lv_aload_n hx hb dX1_openHold_41 rfl (lv_at hl 1 rfl) ?_
  refine lv_dup hx hb dX1_openHold_42 rfl ?_
  refine g_get (ci := 2) (C := RX1) (T := TX1) (N := 9) hx hb hts hinX1 hown hI hf_9 rfl 6 (by decide) hw7 (fun _ h9 => h9) rfl dX1_openHold_43 ?_
  refine lv_iconst (v := 1) hx hb dX1_openHold_46 (by decide) ?_
  refine lv_iadd hx hb dX1_openHold_47 ?_
  refine g_put (ci := 2) (v := .int (op + 1)) (ty := .int) (C := RX1) (T := TX1) (N := 9) hx hb hts hinX1 tyX1 tyX1_ok nmX1 hown hI hf_9 rfl 6 (by decide) hw7 (fun _ h9 => h9) rfl (by decide +kernel) rfl rfl (Nat.le_of_ble_eq_true rfl) dX1_openHold_48 (fun f_10 H locs e_11 hI => ?_)
  have e_11 : f_10 = va_up f_7 a (some (.inr (2, [.ref pa, .int t, .int ln, .int (cr - (if w0 < cr then w0 else cr)), .int (db + (w0 - (if w0 < cr then w0 else cr))), .int (hd + w0), .int (op + 1), .int sp, .int pd]))) := e_11
  have hf_12 : f_10 a = some (.inr (2, [.ref pa, .int t, .int ln, .int (cr - (if w0 < cr then w0 else cr)), .int (db + (w0 - (if w0 < cr then w0 else cr))), .int (hd + w0), .int (op + 1), .int sp, .int pd])) := by rw [e_11]; exact va_up_self _ _ _
  exact g_vret hx hb hr hlocks hI (by rw [e_11, e_8, e_5, e_2]; simp only [g_uu]) (Nat.le_of_ble_eq_true rfl) (Nat.le_of_ble_eq_true rfl) dX1_openHold_51

set_option maxHeartbeats 4000000 in
set_option maxRecDepth 100000 in
/-- Key.closeHold -/
theorem c_X1_closeHold (l : Launch) (D : va_G) (cy : Nat → ClassId) (de : Nat) (f : gFm) (a : Nat) (w0 : Int32) (c0 : Int32) (pa : Nat) (t : Int32) (ln : Int32) (cr : Int32) (db : Int32) (hd : Int32) (op : Int32) (sp : Int32) (pd : Int32) (ha : f a = some (.inr (2, [.ref pa, .int t, .int ln, .int cr, .int db, .int hd, .int op, .int sp, .int pd]))) : gMv l yX1_closeHold wsX1_closeHold { frames := 2, cells := 0, slots := 0, locals := 35 } D cy de [.ref a, .int w0, .int c0] f (fun f9 => f9 = va_up f a (some (.inr (2, [.ref pa, .int t, .int ln, .int (cr + ((w0 - c0) - (if (w0 - c0) < db then (w0 - c0) else db))), .int (db - (if (w0 - c0) < db then (w0 - c0) else db)), .int (hd - w0), .int (op - 1), .int (sp + c0), .int pd])))) 0 0 := by
  refine fun sz => Met.ofW (cc := cX1_closeHold) (maxL := 3) (ret := none) (by decide) rfl ?_
  intro p e s m args below meth c s₁ B hml hv
  obtain ⟨rfl, hv⟩ := hv
  obtain ⟨rfl, hI⟩ := gP_I hv
  have hx := B.exec
  have hb := B.bytes
  have hr := B.returns
  have hts := atoms_spec (ws := wsX1_closeHold) B.pre
  have hown : s.vm.findClass RX1 = some m.cls := findClass_of_methodNamed B.named
  have hlocks := B.notSynchronized
  have hinX1 : ∀ w ∈ wsX10, w ∈ wsX1_closeHold := by decide +kernel
  have hw0 := hts (.fieldLink RX1 40 "TollGateway$Key" "held" "I") (by decide +kernel)
  have hw1 := hts (.fieldLink RX1 43 "TollGateway$Key" "openHolds" "I") (by decide +kernel)
  have hw2 := hts (.fieldLink RX1 46 "TollGateway$Key" "spent" "I") (by decide +kernel)
  have hl := lv_entry ([.ref a, .int w0, .int c0]) (n := 3) (Nat.le_of_ble_eq_true rfl)
  rw [lg_entry_eq]
  generalize (lg_sl ([.ref a, .int w0, .int c0]) ++ List.replicate (3 - (lg_sl ([.ref a, .int w0, .int c0])).length) Slot.unset).toArray = ls at hl ⊢
  have hl : lv_has ls 3 [(0, .ref a), (1, .int w0), (2, .int c0)] := hl
  refine lv_aload_n hx hb dX1_closeHold_0 rfl (lv_at hl 0 rfl) ?_
  refine lv_dup hx hb dX1_closeHold_1 rfl ?_
  refine g_get (ci := 2) (C := RX1) (T := TX1) (N := 9) hx hb hts hinX1 hown hI ha rfl 5 (by decide) hw0 (fun _ h9 => h9) rfl dX1_closeHold_2 ?_
  refine lv_iload_n hx hb dX1_closeHold_5 rfl (lv_at hl 1 rfl) ?_
  refine lv_isub hx hb dX1_closeHold_6 ?_
  refine g_put (ci := 2) (v := .int (hd - w0)) (ty := .int) (C := RX1) (T := TX1) (N := 9) hx hb hts hinX1 tyX1 tyX1_ok nmX1 hown hI ha rfl 5 (by decide) hw0 (fun _ h9 => h9) rfl (by decide +kernel) rfl rfl (Nat.le_of_ble_eq_true rfl) dX1_closeHold_7 (fun f_1 H locs e_2 hI => ?_)
  have e_2 : f_1 = va_up f a (some (.inr (2, [.ref pa, .int t, .int ln, .int cr, .int db, .int (hd - w0), .int op, .int sp, .int pd]))) := e_2
  have hf_3 : f_1 a = some (.inr (2, [.ref pa, .int t, .int ln, .int cr, .int db, .int (hd - w0), .int op, .int sp, .int pd])) := by rw [e_2]; exact va_up_self _ _ _
  refine lv_aload_n hx hb dX1_closeHold_10 rfl (lv_at hl 0 rfl) ?_
  refine lv_dup hx hb dX1_closeHold_11 rfl ?_
  refine g_get (ci := 2) (C := RX1) (T := TX1) (N := 9) hx hb hts hinX1 hown hI hf_3 rfl 6 (by decide) hw1 (fun _ h9 => h9) rfl dX1_closeHold_12 ?_
  refine lv_iconst (v := 1) hx hb dX1_closeHold_15 (by decide) ?_
  refine lv_isub hx hb dX1_closeHold_16 ?_
  refine g_put (ci := 2) (v := .int (op - 1)) (ty := .int) (C := RX1) (T := TX1) (N := 9) hx hb hts hinX1 tyX1 tyX1_ok nmX1 hown hI hf_3 rfl 6 (by decide) hw1 (fun _ h9 => h9) rfl (by decide +kernel) rfl rfl (Nat.le_of_ble_eq_true rfl) dX1_closeHold_17 (fun f_4 H locs e_5 hI => ?_)
  have e_5 : f_4 = va_up f_1 a (some (.inr (2, [.ref pa, .int t, .int ln, .int cr, .int db, .int (hd - w0), .int (op - 1), .int sp, .int pd]))) := e_5
  have hf_6 : f_4 a = some (.inr (2, [.ref pa, .int t, .int ln, .int cr, .int db, .int (hd - w0), .int (op - 1), .int sp, .int pd])) := by rw [e_5]; exact va_up_self _ _ _
  refine lv_aload_n hx hb dX1_closeHold_20 rfl (lv_at hl 0 rfl) ?_
  refine lv_dup hx hb dX1_closeHold_21 rfl ?_
  refine g_get (ci := 2) (C := RX1) (T := TX1) (N := 9) hx hb hts hinX1 hown hI hf_6 rfl 7 (by decide) hw2 (fun _ h9 => h9) rfl dX1_closeHold_22 ?_
  refine lv_iload_n hx hb dX1_closeHold_25 rfl (lv_at hl 2 rfl) ?_
  refine lv_iadd hx hb dX1_closeHold_26 ?_
  refine g_put (ci := 2) (v := .int (sp + c0)) (ty := .int) (C := RX1) (T := TX1) (N := 9) hx hb hts hinX1 tyX1 tyX1_ok nmX1 hown hI hf_6 rfl 7 (by decide) hw2 (fun _ h9 => h9) rfl (by decide +kernel) rfl rfl (Nat.le_of_ble_eq_true rfl) dX1_closeHold_27 (fun f_7 H locs e_8 hI => ?_)
  have e_8 : f_7 = va_up f_4 a (some (.inr (2, [.ref pa, .int t, .int ln, .int cr, .int db, .int (hd - w0), .int (op - 1), .int (sp + c0), .int pd]))) := e_8
  have hf_9 : f_7 a = some (.inr (2, [.ref pa, .int t, .int ln, .int cr, .int db, .int (hd - w0), .int (op - 1), .int (sp + c0), .int pd])) := by rw [e_8]; exact va_up_self _ _ _
  refine lv_aload_n hx hb dX1_closeHold_30 rfl (lv_at hl 0 rfl) ?_
  refine lv_iload_n hx hb dX1_closeHold_31 rfl (lv_at hl 1 rfl) ?_
  refine lv_iload_n hx hb dX1_closeHold_32 rfl (lv_at hl 2 rfl) ?_
  refine lv_isub hx hb dX1_closeHold_33 ?_
  refine g_callv hI (va_runV (As := [.int (w0 - c0)]) (rest := []) ⟨hx, hb, hml, hown, hts⟩ (c_X1_receive l D cy de f_7 a (w0 - c0) pa t ln cr db (hd - w0) (op - 1) (sp + c0) pd hf_9 H.size) (cwV 1 hts gX1_closeHold_X1_receive rfl rfl rfl (by decide +kernel) ⟨Nat.le_of_ble_eq_true rfl, Nat.le_of_ble_eq_true rfl⟩) (g_preV hI hf_9 rfl) rfl rfl hl.1 rfl (lv_room (Nat.le_of_ble_eq_true rfl)) dX1_closeHold_34 ⟨Nat.le_of_ble_eq_true rfl, Nat.le_of_ble_eq_true rfl⟩) (fun f_11 H locs hw_12 hI => ?_)
  have e_13 := hw_12
  have e_13 : f_11 = va_up f_7 a (some (.inr (2, [.ref pa, .int t, .int ln, .int (cr + ((w0 - c0) - (if (w0 - c0) < db then (w0 - c0) else db))), .int (db - (if (w0 - c0) < db then (w0 - c0) else db)), .int (hd - w0), .int (op - 1), .int (sp + c0), .int pd]))) := e_13
  have hf_14 : f_11 a = some (.inr (2, [.ref pa, .int t, .int ln, .int (cr + ((w0 - c0) - (if (w0 - c0) < db then (w0 - c0) else db))), .int (db - (if (w0 - c0) < db then (w0 - c0) else db)), .int (hd - w0), .int (op - 1), .int (sp + c0), .int pd])) := by rw [e_13]; exact va_up_self _ _ _
  exact g_vret hx hb hr hlocks hI (by rw [e_13, e_8, e_5, e_2]; simp only [g_uu]) (Nat.le_of_ble_eq_true rfl) (Nat.le_of_ble_eq_true rfl) dX1_closeHold_37

set_option maxHeartbeats 4000000 in
set_option maxRecDepth 100000 in
/-- Key.refillsSlowly -/
theorem c_X1_refillsSlowly (l : Launch) (D : va_G) (cy : Nat → ClassId) (de : Nat) (f : gFm) (a : Nat) (pa : Nat) (t : Int32) (ln : Int32) (cr : Int32) (db : Int32) (hd : Int32) (op : Int32) (sp : Int32) (pd : Int32) (ha : f a = some (.inr (2, [.ref pa, .int t, .int ln, .int cr, .int db, .int hd, .int op, .int sp, .int pd]))) : gMi l yX1_refillsSlowly wsX1_refillsSlowly { frames := 0, cells := 0, slots := 0, locals := 0 } D cy de [.ref a] f (fun r9 f9 => r9 = b2i (decide (cr = 0) && decide (op = 0)) ∧ f9 = f) 0 0 := by
  refine fun sz => Met.ofW (cc := cX1_refillsSlowly) (maxL := 1) (ret := (some .boolean)) (by decide) rfl ?_
  intro p e s m args below meth c s₁ B hml hv
  obtain ⟨rfl, hv⟩ := hv
  obtain ⟨rfl, hI⟩ := gP_I hv
  have hx := B.exec
  have hb := B.bytes
  have hr := B.returns
  have hts := atoms_spec (ws := wsX1_refillsSlowly) B.pre
  have hown : s.vm.findClass RX1 = some m.cls := findClass_of_methodNamed B.named
  have hlocks := B.notSynchronized
  have hinX1 : ∀ w ∈ wsX10, w ∈ wsX1_refillsSlowly := by decide +kernel
  have hw0 := hts (.fieldLink RX1 31 "TollGateway$Key" "credit" "I") (by decide +kernel)
  have hw1 := hts (.fieldLink RX1 43 "TollGateway$Key" "openHolds" "I") (by decide +kernel)
  have hl := lv_entry ([.ref a]) (n := 1) (Nat.le_of_ble_eq_true rfl)
  rw [lg_entry_eq]
  generalize (lg_sl ([.ref a]) ++ List.replicate (1 - (lg_sl ([.ref a])).length) Slot.unset).toArray = ls at hl ⊢
  have hl : lv_has ls 1 [(0, .ref a)] := hl
  refine lv_aload_n hx hb dX1_refillsSlowly_0 rfl (lv_at hl 0 rfl) ?_
  refine g_get (ci := 2) (C := RX1) (T := TX1) (N := 9) hx hb hts hinX1 hown hI ha rfl 3 (by decide) hw0 (fun _ h9 => h9) rfl dX1_refillsSlowly_1 ?_
  refine lv_if_ne (tgt := 18) hx hb dX1_refillsSlowly_4 (by decide) (fun c_1 => ?_) (fun c_1 => ?_)
  · refine lv_iconst (v := 0) hx hb dX1_refillsSlowly_18 (by decide) ?_
    exact g_zret hx hb hr hlocks hI rfl ⟨(by simp [c_1, b2i]), (by simp [c_1, g_uu, b2i])⟩ (Nat.le_of_ble_eq_true rfl) (Nat.le_of_ble_eq_true rfl) dX1_refillsSlowly_19
  · refine lv_aload_n hx hb dX1_refillsSlowly_7 rfl (lv_at hl 0 rfl) ?_
    refine g_get (ci := 2) (C := RX1) (T := TX1) (N := 9) hx hb hts hinX1 hown hI ha rfl 6 (by decide) hw1 (fun _ h9 => h9) rfl dX1_refillsSlowly_8 ?_
    refine lv_if_ne (tgt := 18) hx hb dX1_refillsSlowly_11 (by decide) (fun c_2 => ?_) (fun c_2 => ?_)
    · refine lv_iconst (v := 0) hx hb dX1_refillsSlowly_18 (by decide) ?_
      exact g_zret hx hb hr hlocks hI rfl ⟨(by simp [c_1, c_2, b2i]), (by simp [c_1, c_2, g_uu, b2i])⟩ (Nat.le_of_ble_eq_true rfl) (Nat.le_of_ble_eq_true rfl) dX1_refillsSlowly_19
    · refine lv_iconst (v := 1) hx hb dX1_refillsSlowly_14 (by decide) ?_
      refine lv_goto (tgt := 19) hx hb dX1_refillsSlowly_15 (by decide) ?_
      exact g_zret hx hb hr hlocks hI rfl ⟨(by simp [c_1, c_2, b2i]), (by simp [c_1, c_2, g_uu, b2i])⟩ (Nat.le_of_ble_eq_true rfl) (Nat.le_of_ble_eq_true rfl) dX1_refillsSlowly_19

set_option maxHeartbeats 4000000 in
set_option maxRecDepth 100000 in
/-- Key.refillBucket -/
theorem c_X1_refillBucket (l : Launch) (D : va_G) (cy : Nat → ClassId) (de : Nat) (f : gFm) (a : Nat) (pa : Nat) (t : Int32) (ln : Int32) (cr : Int32) (db : Int32) (hd : Int32) (op : Int32) (sp : Int32) (pd : Int32) (nb : Int32) (sz : Int32) (rf : Int32) (sl : Int32) (ha : f a = some (.inr (2, [.ref pa, .int t, .int ln, .int cr, .int db, .int hd, .int op, .int sp, .int pd]))) (hpa : f pa = some (.inr (3, [.int nb, .int sz, .int rf, .int sl]))) : gMv l yX1_refillBucket wsX1_refillBucket { frames := 1, cells := 0, slots := 0, locals := 20 } D cy de [.ref a] f (fun f9 => f9 = va_up f a (some (.inr (2, [.ref pa, .int (if sz ≤ t then t else if t + (cond (decide (cr = 0) && decide (op = 0)) sl rf) < sz then t + (cond (decide (cr = 0) && decide (op = 0)) sl rf) else sz), .int ln, .int cr, .int db, .int hd, .int op, .int sp, .int pd])))) 0 0 := by
  refine fun sz => Met.ofW (cc := cX1_refillBucket) (maxL := 2) (ret := none) (by decide) rfl ?_
  intro p e s m args below meth c s₁ B hml hv
  obtain ⟨rfl, hv⟩ := hv
  obtain ⟨rfl, hI⟩ := gP_I hv
  have hx := B.exec
  have hb := B.bytes
  have hr := B.returns
  have hts := atoms_spec (ws := wsX1_refillBucket) B.pre
  have hown : s.vm.findClass RX1 = some m.cls := findClass_of_methodNamed B.named
  have hlocks := B.notSynchronized
  have hinX1 : ∀ w ∈ wsX10, w ∈ wsX1_refillBucket := by decide +kernel
  have hinX2 : ∀ w ∈ wsX20, w ∈ wsX1_refillBucket := by decide +kernel
  have hw0 := hts (.fieldLink RX1 19 "TollGateway$Key" "tokens" "I") (by decide +kernel)
  have hw1 := hts (.fieldLink RX1 7 "TollGateway$Key" "plan" "LTollGateway$Plan;") (by decide +kernel)
  have hw2 := hts (.methodLink RX1 25 Lib.Math.min.name) (by decide +kernel)
  have hw3 := hts (.static Lib.Math.min.name) (by decide +kernel)
  have hw4 := hts (.initialized "java/lang/Math") (by decide +kernel)
  have hw5 := hts (.code Lib.Math.min.name Lib.Math.min.code 2 (some .int)) (by decide +kernel)
  have hl := lv_entry ([.ref a]) (n := 2) (Nat.le_of_ble_eq_true rfl)
  rw [lg_entry_eq]
  generalize (lg_sl ([.ref a]) ++ List.replicate (2 - (lg_sl ([.ref a])).length) Slot.unset).toArray = ls at hl ⊢
  have hl : lv_has ls 2 [(0, .ref a)] := hl
  refine lv_aload_n hx hb dX1_refillBucket_0 rfl (lv_at hl 0 rfl) ?_
  refine g_get (ci := 2) (C := RX1) (T := TX1) (N := 9) hx hb hts hinX1 hown hI ha rfl 1 (by decide) hw0 (fun _ h9 => h9) rfl dX1_refillBucket_1 ?_
  refine lv_aload_n hx hb dX1_refillBucket_4 rfl (lv_at hl 0 rfl) ?_
  refine g_get (ci := 2) (C := RX1) (T := TX1) (N := 9) hx hb hts hinX1 hown hI ha rfl 0 (by decide) hw1 (fun _ h9 => h9) rfl dX1_refillBucket_5 ?_
  refine g_getN (ci := 3) (C := RX2) (T := TX2) (N := 4) hx hb hts hinX2 hown hI hpa rfl 1 (by decide) (nf_K13 hI.2.2.2.1) (fun _ h9 => h9) rfl dX1_refillBucket_8 ?_
  refine lv_icmp_ge (tgt := 59) hx hb dX1_refillBucket_11 (by decide) (fun c_1 => ?_) (fun c_1 => ?_)
  · have c_1' := Int32.not_lt.mpr c_1
    exact g_vret hx hb hr hlocks hI (by simp only [c_1, c_1', g_uu, if_true, if_false, ↓reduceIte, cond_true, cond_false]; exact (g_us _ ha).symm) (Nat.le_of_ble_eq_true rfl) (Nat.le_of_ble_eq_true rfl) dX1_refillBucket_59
  · have c_1' := Int32.not_le.mp c_1
    refine lv_aload_n hx hb dX1_refillBucket_14 rfl (lv_at hl 0 rfl) ?_
    refine g_calli hI (va_runV (As := []) (rest := []) ⟨hx, hb, hml, hown, hts⟩ (c_X1_refillsSlowly l D cy de f a pa t ln cr db hd op sp pd ha s.heap.size) (cwV 0 hts gX1_refillBucket_X1_refillsSlowly rfl rfl rfl (by decide +kernel) ⟨Nat.le_of_ble_eq_true rfl, Nat.le_of_ble_eq_true rfl⟩) (g_preV hI ha rfl) rfl rfl hl.1 rfl (lv_room (Nat.le_of_ble_eq_true rfl)) dX1_refillBucket_15 ⟨Nat.le_of_ble_eq_true rfl, Nat.le_of_ble_eq_true rfl⟩) (fun r_2 f_3 H locs hw_4 hI => ?_)
    obtain ⟨rfl, e_5⟩ := hw_4
    rw [e_5] at hI
    refine g_b2i_eq (tgt := 31) hx hb dX1_refillBucket_18 (by decide) (fun c_6 => ?_) (fun c_6 => ?_)
    · refine lv_aload_n hx hb dX1_refillBucket_31 rfl (lv_at hl 0 rfl) ?_
      refine g_get (ci := 2) (C := RX1) (T := TX1) (N := 9) hx hb hts hinX1 hown hI ha rfl 0 (by decide) hw1 (fun _ h9 => h9) rfl dX1_refillBucket_32 ?_
      refine g_getN (ci := 3) (C := RX2) (T := TX2) (N := 4) hx hb hts hinX2 hown hI hpa rfl 2 (by decide) (nf_K60 hI.2.2.2.1) (fun _ h9 => h9) rfl dX1_refillBucket_35 ?_
      refine lv_istore_n (lv' := [(1, .int rf), (0, .ref a)]) hx hb dX1_refillBucket_38 rfl hl (by decide) rfl (fun ls hl => ?_)
      refine lv_aload_n hx hb dX1_refillBucket_39 rfl (lv_at hl 1 rfl) ?_
      refine lv_aload_n hx hb dX1_refillBucket_40 rfl (lv_at hl 1 rfl) ?_
      refine g_get (ci := 2) (C := RX1) (T := TX1) (N := 9) hx hb hts hinX1 hown hI ha rfl 0 (by decide) hw1 (fun _ h9 => h9) rfl dX1_refillBucket_41 ?_
      refine g_getN (ci := 3) (C := RX2) (T := TX2) (N := 4) hx hb hts hinX2 hown hI hpa rfl 1 (by decide) (nf_K13 hI.2.2.2.1) (fun _ h9 => h9) rfl dX1_refillBucket_44 ?_
      refine lv_aload_n hx hb dX1_refillBucket_47 rfl (lv_at hl 1 rfl) ?_
      refine g_get (ci := 2) (C := RX1) (T := TX1) (N := 9) hx hb hts hinX1 hown hI ha rfl 1 (by decide) hw0 (fun _ h9 => h9) rfl dX1_refillBucket_48 ?_
      refine lv_iload_n hx hb dX1_refillBucket_51 rfl (lv_at hl 0 rfl) ?_
      refine lv_iadd hx hb dX1_refillBucket_52 ?_
      refine va_mmin hx hb (by rw [hml]; exact hl.1.symm) hown hw2 hw3 hw4 hw5 (Nat.le_of_ble_eq_true rfl) (Nat.le_of_ble_eq_true rfl) (Nat.le_of_ble_eq_true rfl) (Nat.le_of_ble_eq_true rfl) dX1_refillBucket_53 ?_
      refine g_put (ci := 2) (v := .int (if (t + rf) < sz then (t + rf) else sz)) (ty := .int) (C := RX1) (T := TX1) (N := 9) hx hb hts hinX1 tyX1 tyX1_ok nmX1 hown hI ha rfl 1 (by decide) hw0 (fun _ h9 => h9) rfl (by decide +kernel) rfl rfl (Nat.le_of_ble_eq_true rfl) dX1_refillBucket_56 (fun f_7 H locs e_8 hI => ?_)
      have e_8 : f_7 = va_up f a (some (.inr (2, [.ref pa, .int (if (t + rf) < sz then (t + rf) else sz), .int ln, .int cr, .int db, .int hd, .int op, .int sp, .int pd]))) := e_8
      have hf_9 : f_7 a = some (.inr (2, [.ref pa, .int (if (t + rf) < sz then (t + rf) else sz), .int ln, .int cr, .int db, .int hd, .int op, .int sp, .int pd])) := by rw [e_8]; exact va_up_self _ _ _
      have hf_10 : f_7 pa = some (.inr (3, [.int nb, .int sz, .int rf, .int sl])) := by rw [e_8, va_up_ne _ _ (g_ne ha hpa (by decide))]; exact hpa
      exact g_vret hx hb hr hlocks hI (by rw [e_8]; simp only [c_1, c_1', c_6, g_uu, if_true, if_false, ↓reduceIte, cond_true, cond_false]) (Nat.le_of_ble_eq_true rfl) (Nat.le_of_ble_eq_true rfl) dX1_refillBucket_59
    · refine lv_aload_n hx hb dX1_refillBucket_21 rfl (lv_at hl 0 rfl) ?_
      refine g_get (ci := 2) (C := RX1) (T := TX1) (N := 9) hx hb hts hinX1 hown hI ha rfl 0 (by decide) hw1 (fun _ h9 => h9) rfl dX1_refillBucket_22 ?_
      refine g_getN (ci := 3) (C := RX2) (T := TX2) (N := 4) hx hb hts hinX2 hown hI hpa rfl 3 (by decide) (nf_K57 hI.2.2.2.1) (fun _ h9 => h9) rfl dX1_refillBucket_25 ?_
      refine lv_goto (tgt := 38) hx hb dX1_refillBucket_28 (by decide) ?_
      refine lv_istore_n (lv' := [(1, .int sl), (0, .ref a)]) hx hb dX1_refillBucket_38 rfl hl (by decide) rfl (fun ls hl => ?_)
      refine lv_aload_n hx hb dX1_refillBucket_39 rfl (lv_at hl 1 rfl) ?_
      refine lv_aload_n hx hb dX1_refillBucket_40 rfl (lv_at hl 1 rfl) ?_
      refine g_get (ci := 2) (C := RX1) (T := TX1) (N := 9) hx hb hts hinX1 hown hI ha rfl 0 (by decide) hw1 (fun _ h9 => h9) rfl dX1_refillBucket_41 ?_
      refine g_getN (ci := 3) (C := RX2) (T := TX2) (N := 4) hx hb hts hinX2 hown hI hpa rfl 1 (by decide) (nf_K13 hI.2.2.2.1) (fun _ h9 => h9) rfl dX1_refillBucket_44 ?_
      refine lv_aload_n hx hb dX1_refillBucket_47 rfl (lv_at hl 1 rfl) ?_
      refine g_get (ci := 2) (C := RX1) (T := TX1) (N := 9) hx hb hts hinX1 hown hI ha rfl 1 (by decide) hw0 (fun _ h9 => h9) rfl dX1_refillBucket_48 ?_
      refine lv_iload_n hx hb dX1_refillBucket_51 rfl (lv_at hl 0 rfl) ?_
      refine lv_iadd hx hb dX1_refillBucket_52 ?_
      refine va_mmin hx hb (by rw [hml]; exact hl.1.symm) hown hw2 hw3 hw4 hw5 (Nat.le_of_ble_eq_true rfl) (Nat.le_of_ble_eq_true rfl) (Nat.le_of_ble_eq_true rfl) (Nat.le_of_ble_eq_true rfl) dX1_refillBucket_53 ?_
      refine g_put (ci := 2) (v := .int (if (t + sl) < sz then (t + sl) else sz)) (ty := .int) (C := RX1) (T := TX1) (N := 9) hx hb hts hinX1 tyX1 tyX1_ok nmX1 hown hI ha rfl 1 (by decide) hw0 (fun _ h9 => h9) rfl (by decide +kernel) rfl rfl (Nat.le_of_ble_eq_true rfl) dX1_refillBucket_56 (fun f_11 H locs e_12 hI => ?_)
      have e_12 : f_11 = va_up f a (some (.inr (2, [.ref pa, .int (if (t + sl) < sz then (t + sl) else sz), .int ln, .int cr, .int db, .int hd, .int op, .int sp, .int pd]))) := e_12
      have hf_13 : f_11 a = some (.inr (2, [.ref pa, .int (if (t + sl) < sz then (t + sl) else sz), .int ln, .int cr, .int db, .int hd, .int op, .int sp, .int pd])) := by rw [e_12]; exact va_up_self _ _ _
      have hf_14 : f_11 pa = some (.inr (3, [.int nb, .int sz, .int rf, .int sl])) := by rw [e_12, va_up_ne _ _ (g_ne ha hpa (by decide))]; exact hpa
      exact g_vret hx hb hr hlocks hI (by rw [e_12]; simp only [c_1, c_1', c_6, g_uu, if_true, if_false, ↓reduceIte, cond_true, cond_false]) (Nat.le_of_ble_eq_true rfl) (Nat.le_of_ble_eq_true rfl) dX1_refillBucket_59

set_option maxHeartbeats 4000000 in
set_option maxRecDepth 100000 in
/-- Key.<init> -/
theorem c_X1_init (l : Launch) (D : va_G) (cy : Nat → ClassId) (de : Nat) (f : gFm) (a : Nat) (pa : Nat) (t : Int32) (ln : Int32) (cr : Int32) (db : Int32) (hd : Int32) (op : Int32) (sp : Int32) (pd : Int32) (nb : Int32) (sz : Int32) (rf : Int32) (sl : Int32) (ha : f a = some (.inr (2, [.null, .int t, .int ln, .int cr, .int db, .int hd, .int op, .int sp, .int pd]))) (hpa : f pa = some (.inr (3, [.int nb, .int sz, .int rf, .int sl]))) : gMv l yX1_init wsX1_init { frames := 1, cells := 0, slots := 0, locals := 12 } D cy de [.ref a, .ref pa] f (fun f9 => f9 = va_up f a (some (.inr (2, [.ref pa, .int sz, .int ln, .int cr, .int db, .int hd, .int op, .int sp, .int pd])))) 0 0 := by
  refine fun sz => Met.ofW (cc := cX1_init) (maxL := 2) (ret := none) (by decide) rfl ?_
  intro p e s m args below meth c s₁ B hml hv
  obtain ⟨rfl, hv⟩ := hv
  obtain ⟨rfl, hI⟩ := gP_I hv
  have hx := B.exec
  have hb := B.bytes
  have hr := B.returns
  have hts := atoms_spec (ws := wsX1_init) B.pre
  have hown : s.vm.findClass RX1 = some m.cls := findClass_of_methodNamed B.named
  have hlocks := B.notSynchronized
  have hin : meth.name = "<init>" := (name_of_methodNamed B.named B.method).1
  have hinX1 : ∀ w ∈ wsX10, w ∈ wsX1_init := by decide +kernel
  have hinX2 : ∀ w ∈ wsX20, w ∈ wsX1_init := by decide +kernel
  have hw0 := hts (.methodLink RX1 1 objectInit) (by decide +kernel)
  have hw1 := hts (.instanceMethod objectInit) (by decide +kernel)
  have hw2 := hts (.code objectInit ⟨#[0xb1]⟩ 1 none) (by decide +kernel)
  have hw3 := hts (.fieldLink RX1 7 "TollGateway$Key" "plan" "LTollGateway$Plan;") (by decide +kernel)
  have hw4 := hts (.fieldLink RX1 19 "TollGateway$Key" "tokens" "I") (by decide +kernel)
  have hl := lv_entry ([.ref a, .ref pa]) (n := 2) (Nat.le_of_ble_eq_true rfl)
  rw [lg_entry_eq]
  generalize (lg_sl ([.ref a, .ref pa]) ++ List.replicate (2 - (lg_sl ([.ref a, .ref pa])).length) Slot.unset).toArray = ls at hl ⊢
  have hl : lv_has ls 2 [(0, .ref a), (1, .ref pa)] := hl
  refine lv_aload_n hx hb dX1_init_0 rfl (lv_at hl 0 rfl) ?_
  refine W.objInit hx hb hown hw0 hw1 hw2 rfl (by rw [hml]; exact hl.1) rfl dX1_init_1 (Nat.le_of_ble_eq_true rfl) (Nat.le_of_ble_eq_true rfl) ?_
  refine W.eq (g2 := F0 m 4 ls []) rfl ?_
  refine lv_aload_n hx hb dX1_init_4 rfl (lv_at hl 0 rfl) ?_
  refine lv_aload_n hx hb dX1_init_5 rfl (lv_at hl 1 rfl) ?_
  refine g_put (ci := 2) (v := .ref pa) (ty := (.object "TollGateway$Plan")) (C := RX1) (T := TX1) (N := 9) hx hb hts hinX1 tyX1 tyX1_ok nmX1 hown hI ha rfl 0 (by decide) hw3 (fun _ h9 => h9) rfl (by decide +kernel) rfl rfl (Nat.le_of_ble_eq_true rfl) dX1_init_6 (fun f_1 H locs e_2 hI => ?_)
  have e_2 : f_1 = va_up f a (some (.inr (2, [.ref pa, .int t, .int ln, .int cr, .int db, .int hd, .int op, .int sp, .int pd]))) := e_2
  have hf_3 : f_1 a = some (.inr (2, [.ref pa, .int t, .int ln, .int cr, .int db, .int hd, .int op, .int sp, .int pd])) := by rw [e_2]; exact va_up_self _ _ _
  have hf_4 : f_1 pa = some (.inr (3, [.int nb, .int sz, .int rf, .int sl])) := by rw [e_2, va_up_ne _ _ (g_ne ha hpa (by decide))]; exact hpa
  refine lv_aload_n hx hb dX1_init_9 rfl (lv_at hl 0 rfl) ?_
  refine lv_aload_n hx hb dX1_init_10 rfl (lv_at hl 1 rfl) ?_
  refine g_getN (ci := 3) (C := RX2) (T := TX2) (N := 4) hx hb hts hinX2 hown hI hf_4 rfl 1 (by decide) (nf_K13 hI.2.2.2.1) (fun _ h9 => h9) rfl dX1_init_11 ?_
  refine g_put (ci := 2) (v := .int sz) (ty := .int) (C := RX1) (T := TX1) (N := 9) hx hb hts hinX1 tyX1 tyX1_ok nmX1 hown hI hf_3 rfl 1 (by decide) hw4 (fun _ h9 => h9) rfl (by decide +kernel) rfl rfl (Nat.le_of_ble_eq_true rfl) dX1_init_14 (fun f_5 H locs e_6 hI => ?_)
  have e_6 : f_5 = va_up f_1 a (some (.inr (2, [.ref pa, .int sz, .int ln, .int cr, .int db, .int hd, .int op, .int sp, .int pd]))) := e_6
  have hf_7 : f_5 a = some (.inr (2, [.ref pa, .int sz, .int ln, .int cr, .int db, .int hd, .int op, .int sp, .int pd])) := by rw [e_6]; exact va_up_self _ _ _
  have hf_8 : f_5 pa = some (.inr (3, [.int nb, .int sz, .int rf, .int sl])) := by rw [e_6, va_up_ne _ _ (g_ne hf_3 hf_4 (by decide))]; exact hf_4
  exact g_vret hx hb hr hlocks hI (by rw [e_6, e_2]; simp only [g_uu]) (Nat.le_of_ble_eq_true rfl) (Nat.le_of_ble_eq_true rfl) dX1_init_17

set_option maxHeartbeats 4000000 in
set_option maxRecDepth 100000 in
/-- Plan.<init> -/
theorem c_X2_init (l : Launch) (D : va_G) (cy : Nat → ClassId) (de : Nat) (f : gFm) (a : Nat) (n0 : Int32) (nb : Int32) (sz : Int32) (rf : Int32) (sl : Int32) (ha : f a = some (.inr (3, [.int nb, .int sz, .int rf, .int sl]))) : gMv l yX2_init wsX2_init { frames := 1, cells := 0, slots := 0, locals := 12 } D cy de [.ref a, .int n0] f (fun f9 => f9 = va_up f a (some (.inr (3, [.int n0, .int 10, .int 1, .int 0])))) 0 0 := by
  refine fun sz => Met.ofW (cc := cX2_init) (maxL := 2) (ret := none) (by decide) rfl ?_
  intro p e s m args below meth c s₁ B hml hv
  obtain ⟨rfl, hv⟩ := hv
  obtain ⟨rfl, hI⟩ := gP_I hv
  have hx := B.exec
  have hb := B.bytes
  have hr := B.returns
  have hts := atoms_spec (ws := wsX2_init) B.pre
  have hown : s.vm.findClass RX2 = some m.cls := findClass_of_methodNamed B.named
  have hlocks := B.notSynchronized
  have hin : meth.name = "<init>" := (name_of_methodNamed B.named B.method).1
  have hinX2 : ∀ w ∈ wsX20, w ∈ wsX2_init := by decide +kernel
  have hw0 := hts (.methodLink RX2 1 objectInit) (by decide +kernel)
  have hw1 := hts (.instanceMethod objectInit) (by decide +kernel)
  have hw2 := hts (.code objectInit ⟨#[0xb1]⟩ 1 none) (by decide +kernel)
  have hw3 := hts (.fieldLink RX2 7 "TollGateway$Plan" "size" "I") (by decide +kernel)
  have hw4 := hts (.fieldLink RX2 13 "TollGateway$Plan" "refill" "I") (by decide +kernel)
  have hw5 := hts (.fieldLink RX2 16 "TollGateway$Plan" "slowRefill" "I") (by decide +kernel)
  have hw6 := hts (.fieldLink RX2 19 "TollGateway$Plan" "number" "I") (by decide +kernel)
  have hl := lv_entry ([.ref a, .int n0]) (n := 2) (Nat.le_of_ble_eq_true rfl)
  rw [lg_entry_eq]
  generalize (lg_sl ([.ref a, .int n0]) ++ List.replicate (2 - (lg_sl ([.ref a, .int n0])).length) Slot.unset).toArray = ls at hl ⊢
  have hl : lv_has ls 2 [(0, .ref a), (1, .int n0)] := hl
  refine lv_aload_n hx hb dX2_init_0 rfl (lv_at hl 0 rfl) ?_
  refine W.objInit hx hb hown hw0 hw1 hw2 rfl (by rw [hml]; exact hl.1) rfl dX2_init_1 (Nat.le_of_ble_eq_true rfl) (Nat.le_of_ble_eq_true rfl) ?_
  refine W.eq (g2 := F0 m 4 ls []) rfl ?_
  refine lv_aload_n hx hb dX2_init_4 rfl (lv_at hl 0 rfl) ?_
  refine lv_bipush (v := 10) hx hb dX2_init_5 (by decide) ?_
  refine g_put (ci := 3) (v := .int 10) (ty := .int) (C := RX2) (T := TX2) (N := 4) hx hb hts hinX2 tyX2 tyX2_ok nmX2 hown hI ha rfl 1 (by decide) hw3 (fun _ h9 => h9) rfl (by decide +kernel) rfl rfl (Nat.le_of_ble_eq_true rfl) dX2_init_7 (fun f_1 H locs e_2 hI => ?_)
  have e_2 : f_1 = va_up f a (some (.inr (3, [.int nb, .int 10, .int rf, .int sl]))) := e_2
  have hf_3 : f_1 a = some (.inr (3, [.int nb, .int 10, .int rf, .int sl])) := by rw [e_2]; exact va_up_self _ _ _
  refine lv_aload_n hx hb dX2_init_10 rfl (lv_at hl 0 rfl) ?_
  refine lv_iconst (v := 1) hx hb dX2_init_11 (by decide) ?_
  refine g_put (ci := 3) (v := .int 1) (ty := .int) (C := RX2) (T := TX2) (N := 4) hx hb hts hinX2 tyX2 tyX2_ok nmX2 hown hI hf_3 rfl 2 (by decide) hw4 (fun _ h9 => h9) rfl (by decide +kernel) rfl rfl (Nat.le_of_ble_eq_true rfl) dX2_init_12 (fun f_4 H locs e_5 hI => ?_)
  have e_5 : f_4 = va_up f_1 a (some (.inr (3, [.int nb, .int 10, .int 1, .int sl]))) := e_5
  have hf_6 : f_4 a = some (.inr (3, [.int nb, .int 10, .int 1, .int sl])) := by rw [e_5]; exact va_up_self _ _ _
  refine lv_aload_n hx hb dX2_init_15 rfl (lv_at hl 0 rfl) ?_
  refine lv_iconst (v := 0) hx hb dX2_init_16 (by decide) ?_
  refine g_put (ci := 3) (v := .int 0) (ty := .int) (C := RX2) (T := TX2) (N := 4) hx hb hts hinX2 tyX2 tyX2_ok nmX2 hown hI hf_6 rfl 3 (by decide) hw5 (fun _ h9 => h9) rfl (by decide +kernel) rfl rfl (Nat.le_of_ble_eq_true rfl) dX2_init_17 (fun f_7 H locs e_8 hI => ?_)
  have e_8 : f_7 = va_up f_4 a (some (.inr (3, [.int nb, .int 10, .int 1, .int 0]))) := e_8
  have hf_9 : f_7 a = some (.inr (3, [.int nb, .int 10, .int 1, .int 0])) := by rw [e_8]; exact va_up_self _ _ _
  refine lv_aload_n hx hb dX2_init_20 rfl (lv_at hl 0 rfl) ?_
  refine lv_iload_n hx hb dX2_init_21 rfl (lv_at hl 1 rfl) ?_
  refine g_putF (ci := 3) (v := .int n0) (ty := .int) (C := RX2) (T := TX2) (N := 4) hx hb hts hinX2 tyX2 tyX2_ok nmX2 hown hI hf_9 rfl 0 (by decide) hw6 (fun _ h9 => h9) rfl hin rfl (by decide +kernel) rfl rfl (Nat.le_of_ble_eq_true rfl) dX2_init_22 (fun f_10 H locs e_11 hI => ?_)
  have e_11 : f_10 = va_up f_7 a (some (.inr (3, [.int n0, .int 10, .int 1, .int 0]))) := e_11
  have hf_12 : f_10 a = some (.inr (3, [.int n0, .int 10, .int 1, .int 0])) := by rw [e_11]; exact va_up_self _ _ _
  exact g_vret hx hb hr hlocks hI (by rw [e_11, e_8, e_5, e_2]; simp only [g_uu]) (Nat.le_of_ble_eq_true rfl) (Nat.le_of_ble_eq_true rfl) dX2_init_25

set_option maxHeartbeats 4000000 in
set_option maxRecDepth 100000 in
/-- Route.<init> -/
theorem c_X3_init (l : Launch) (D : va_G) (cy : Nat → ClassId) (de : Nat) (f : gFm) (a : Nat) (pr : Int32) (wt : Int32) (ha : f a = some (.inr (4, [.int pr, .int wt]))) : gMv l yX3_init wsX3_init { frames := 1, cells := 0, slots := 0, locals := 12 } D cy de [.ref a] f (fun f9 => f9 = va_up f a (some (.inr (4, [.int 10, .int 1])))) 0 0 := by
  refine fun sz => Met.ofW (cc := cX3_init) (maxL := 1) (ret := none) (by decide) rfl ?_
  intro p e s m args below meth c s₁ B hml hv
  obtain ⟨rfl, hv⟩ := hv
  obtain ⟨rfl, hI⟩ := gP_I hv
  have hx := B.exec
  have hb := B.bytes
  have hr := B.returns
  have hts := atoms_spec (ws := wsX3_init) B.pre
  have hown : s.vm.findClass RX3 = some m.cls := findClass_of_methodNamed B.named
  have hlocks := B.notSynchronized
  have hin : meth.name = "<init>" := (name_of_methodNamed B.named B.method).1
  have hinX3 : ∀ w ∈ wsX30, w ∈ wsX3_init := by decide +kernel
  have hw0 := hts (.methodLink RX3 1 objectInit) (by decide +kernel)
  have hw1 := hts (.instanceMethod objectInit) (by decide +kernel)
  have hw2 := hts (.code objectInit ⟨#[0xb1]⟩ 1 none) (by decide +kernel)
  have hw3 := hts (.fieldLink RX3 7 "TollGateway$Route" "price" "I") (by decide +kernel)
  have hw4 := hts (.fieldLink RX3 13 "TollGateway$Route" "weight" "I") (by decide +kernel)
  have hl := lv_entry ([.ref a]) (n := 1) (Nat.le_of_ble_eq_true rfl)
  rw [lg_entry_eq]
  generalize (lg_sl ([.ref a]) ++ List.replicate (1 - (lg_sl ([.ref a])).length) Slot.unset).toArray = ls at hl ⊢
  have hl : lv_has ls 1 [(0, .ref a)] := hl
  refine lv_aload_n hx hb dX3_init_0 rfl (lv_at hl 0 rfl) ?_
  refine W.objInit hx hb hown hw0 hw1 hw2 rfl (by rw [hml]; exact hl.1) rfl dX3_init_1 (Nat.le_of_ble_eq_true rfl) (Nat.le_of_ble_eq_true rfl) ?_
  refine W.eq (g2 := F0 m 4 ls []) rfl ?_
  refine lv_aload_n hx hb dX3_init_4 rfl (lv_at hl 0 rfl) ?_
  refine lv_bipush (v := 10) hx hb dX3_init_5 (by decide) ?_
  refine g_put (ci := 4) (v := .int 10) (ty := .int) (C := RX3) (T := TX3) (N := 2) hx hb hts hinX3 tyX3 tyX3_ok nmX3 hown hI ha rfl 0 (by decide) hw3 (fun _ h9 => h9) rfl (by decide +kernel) rfl rfl (Nat.le_of_ble_eq_true rfl) dX3_init_7 (fun f_1 H locs e_2 hI => ?_)
  have e_2 : f_1 = va_up f a (some (.inr (4, [.int 10, .int wt]))) := e_2
  have hf_3 : f_1 a = some (.inr (4, [.int 10, .int wt])) := by rw [e_2]; exact va_up_self _ _ _
  refine lv_aload_n hx hb dX3_init_10 rfl (lv_at hl 0 rfl) ?_
  refine lv_iconst (v := 1) hx hb dX3_init_11 (by decide) ?_
  refine g_put (ci := 4) (v := .int 1) (ty := .int) (C := RX3) (T := TX3) (N := 2) hx hb hts hinX3 tyX3 tyX3_ok nmX3 hown hI hf_3 rfl 1 (by decide) hw4 (fun _ h9 => h9) rfl (by decide +kernel) rfl rfl (Nat.le_of_ble_eq_true rfl) dX3_init_12 (fun f_4 H locs e_5 hI => ?_)
  have e_5 : f_4 = va_up f_1 a (some (.inr (4, [.int 10, .int 1]))) := e_5
  have hf_6 : f_4 a = some (.inr (4, [.int 10, .int 1])) := by rw [e_5]; exact va_up_self _ _ _
  exact g_vret hx hb hr hlocks hI (by rw [e_5, e_2]; simp only [g_uu]) (Nat.le_of_ble_eq_true rfl) (Nat.le_of_ble_eq_true rfl) dX3_init_15

set_option maxHeartbeats 4000000 in
set_option maxRecDepth 100000 in
/-- Call.<init> -/
theorem c_X0_init (l : Launch) (D : va_G) (cy : Nat → ClassId) (de : Nat) (f : gFm) (a : Nat) (ka : Nat) (w : Int32) (wt : Int32) (du : Int32) (w1 : Int32) (wt1 : Int32) (du1 : Int32) (co : Int32) (et : Int32) (di : Int32) (ha : f a = some (.inr (1, [.null, .int w1, .int wt1, .int du1, .int co, .int et, .int di]))) : gMv l yX0_init wsX0_init { frames := 1, cells := 0, slots := 0, locals := 12 } D cy de [.ref a, .ref ka, .int w, .int wt, .int du] f (fun f9 => f9 = va_up f a (some (.inr (1, [.ref ka, .int w, .int wt, .int du, .int (-1), .int et, .int di])))) 0 0 := by
  refine fun sz => Met.ofW (cc := cX0_init) (maxL := 5) (ret := none) (by decide) rfl ?_
  intro p e s m args below meth c s₁ B hml hv
  obtain ⟨rfl, hv⟩ := hv
  obtain ⟨rfl, hI⟩ := gP_I hv
  have hx := B.exec
  have hb := B.bytes
  have hr := B.returns
  have hts := atoms_spec (ws := wsX0_init) B.pre
  have hown : s.vm.findClass RX0 = some m.cls := findClass_of_methodNamed B.named
  have hlocks := B.notSynchronized
  have hin : meth.name = "<init>" := (name_of_methodNamed B.named B.method).1
  have hinX0 : ∀ w ∈ wsX00, w ∈ wsX0_init := by decide +kernel
  have hw0 := hts (.methodLink RX0 3 objectInit) (by decide +kernel)
  have hw1 := hts (.instanceMethod objectInit) (by decide +kernel)
  have hw2 := hts (.code objectInit ⟨#[0xb1]⟩ 1 none) (by decide +kernel)
  have hw3 := hts (.fieldLink RX0 9 "TollGateway$Call" "cost" "I") (by decide +kernel)
  have hw4 := hts (.fieldLink RX0 15 "TollGateway$Call" "key" "LTollGateway$Key;") (by decide +kernel)
  have hw5 := hts (.fieldLink RX0 19 "TollGateway$Call" "worth" "I") (by decide +kernel)
  have hw6 := hts (.fieldLink RX0 22 "TollGateway$Call" "weight" "I") (by decide +kernel)
  have hw7 := hts (.fieldLink RX0 25 "TollGateway$Call" "dueTick" "I") (by decide +kernel)
  have hl := lv_entry ([.ref a, .ref ka, .int w, .int wt, .int du]) (n := 5) (Nat.le_of_ble_eq_true rfl)
  rw [lg_entry_eq]
  generalize (lg_sl ([.ref a, .ref ka, .int w, .int wt, .int du]) ++ List.replicate (5 - (lg_sl ([.ref a, .ref ka, .int w, .int wt, .int du])).length) Slot.unset).toArray = ls at hl ⊢
  have hl : lv_has ls 5 [(0, .ref a), (1, .ref ka), (2, .int w), (3, .int wt), (4, .int du)] := hl
  refine lv_aload_n hx hb dX0_init_0 rfl (lv_at hl 0 rfl) ?_
  refine W.objInit hx hb hown hw0 hw1 hw2 rfl (by rw [hml]; exact hl.1) rfl dX0_init_1 (Nat.le_of_ble_eq_true rfl) (Nat.le_of_ble_eq_true rfl) ?_
  refine W.eq (g2 := F0 m 4 ls []) rfl ?_
  refine lv_aload_n hx hb dX0_init_4 rfl (lv_at hl 0 rfl) ?_
  refine lv_iconst (v := -1) hx hb dX0_init_5 (by decide) ?_
  refine g_put (ci := 1) (v := .int (-1)) (ty := .int) (C := RX0) (T := TX0) (N := 7) hx hb hts hinX0 tyX0 tyX0_ok nmX0 hown hI ha rfl 4 (by decide) hw3 (fun _ h9 => h9) rfl (by decide +kernel) rfl rfl (Nat.le_of_ble_eq_true rfl) dX0_init_6 (fun f_1 H locs e_2 hI => ?_)
  have e_2 : f_1 = va_up f a (some (.inr (1, [.null, .int w1, .int wt1, .int du1, .int (-1), .int et, .int di]))) := e_2
  have hf_3 : f_1 a = some (.inr (1, [.null, .int w1, .int wt1, .int du1, .int (-1), .int et, .int di])) := by rw [e_2]; exact va_up_self _ _ _
  refine lv_aload_n hx hb dX0_init_9 rfl (lv_at hl 0 rfl) ?_
  refine lv_aload_n hx hb dX0_init_10 rfl (lv_at hl 1 rfl) ?_
  refine g_putF (ci := 1) (v := .ref ka) (ty := (.object "TollGateway$Key")) (C := RX0) (T := TX0) (N := 7) hx hb hts hinX0 tyX0 tyX0_ok nmX0 hown hI hf_3 rfl 0 (by decide) hw4 (fun _ h9 => h9) rfl hin rfl (by decide +kernel) rfl rfl (Nat.le_of_ble_eq_true rfl) dX0_init_11 (fun f_4 H locs e_5 hI => ?_)
  have e_5 : f_4 = va_up f_1 a (some (.inr (1, [.ref ka, .int w1, .int wt1, .int du1, .int (-1), .int et, .int di]))) := e_5
  have hf_6 : f_4 a = some (.inr (1, [.ref ka, .int w1, .int wt1, .int du1, .int (-1), .int et, .int di])) := by rw [e_5]; exact va_up_self _ _ _
  refine lv_aload_n hx hb dX0_init_14 rfl (lv_at hl 0 rfl) ?_
  refine lv_iload_n hx hb dX0_init_15 rfl (lv_at hl 2 rfl) ?_
  refine g_putF (ci := 1) (v := .int w) (ty := .int) (C := RX0) (T := TX0) (N := 7) hx hb hts hinX0 tyX0 tyX0_ok nmX0 hown hI hf_6 rfl 1 (by decide) hw5 (fun _ h9 => h9) rfl hin rfl (by decide +kernel) rfl rfl (Nat.le_of_ble_eq_true rfl) dX0_init_16 (fun f_7 H locs e_8 hI => ?_)
  have e_8 : f_7 = va_up f_4 a (some (.inr (1, [.ref ka, .int w, .int wt1, .int du1, .int (-1), .int et, .int di]))) := e_8
  have hf_9 : f_7 a = some (.inr (1, [.ref ka, .int w, .int wt1, .int du1, .int (-1), .int et, .int di])) := by rw [e_8]; exact va_up_self _ _ _
  refine lv_aload_n hx hb dX0_init_19 rfl (lv_at hl 0 rfl) ?_
  refine lv_iload_n hx hb dX0_init_20 rfl (lv_at hl 3 rfl) ?_
  refine g_putF (ci := 1) (v := .int wt) (ty := .int) (C := RX0) (T := TX0) (N := 7) hx hb hts hinX0 tyX0 tyX0_ok nmX0 hown hI hf_9 rfl 2 (by decide) hw6 (fun _ h9 => h9) rfl hin rfl (by decide +kernel) rfl rfl (Nat.le_of_ble_eq_true rfl) dX0_init_21 (fun f_10 H locs e_11 hI => ?_)
  have e_11 : f_10 = va_up f_7 a (some (.inr (1, [.ref ka, .int w, .int wt, .int du1, .int (-1), .int et, .int di]))) := e_11
  have hf_12 : f_10 a = some (.inr (1, [.ref ka, .int w, .int wt, .int du1, .int (-1), .int et, .int di])) := by rw [e_11]; exact va_up_self _ _ _
  refine lv_aload_n hx hb dX0_init_24 rfl (lv_at hl 0 rfl) ?_
  refine lv_iload hx hb dX0_init_25 (lv_at hl 4 rfl) ?_
  refine g_putF (ci := 1) (v := .int du) (ty := .int) (C := RX0) (T := TX0) (N := 7) hx hb hts hinX0 tyX0 tyX0_ok nmX0 hown hI hf_12 rfl 3 (by decide) hw7 (fun _ h9 => h9) rfl hin rfl (by decide +kernel) rfl rfl (Nat.le_of_ble_eq_true rfl) dX0_init_27 (fun f_13 H locs e_14 hI => ?_)
  have e_14 : f_13 = va_up f_10 a (some (.inr (1, [.ref ka, .int w, .int wt, .int du, .int (-1), .int et, .int di]))) := e_14
  have hf_15 : f_13 a = some (.inr (1, [.ref ka, .int w, .int wt, .int du, .int (-1), .int et, .int di])) := by rw [e_14]; exact va_up_self _ _ _
  exact g_vret hx hb hr hlocks hI (by rw [e_14, e_11, e_8, e_5, e_2]; simp only [g_uu]) (Nat.le_of_ble_eq_true rfl) (Nat.le_of_ble_eq_true rfl) dX0_init_30

set_option maxHeartbeats 4000000 in
set_option maxRecDepth 100000 in
/-- Call.hasEnded -/
theorem c_X0_hasEnded (l : Launch) (D : va_G) (cy : Nat → ClassId) (de : Nat) (f : gFm) (a : Nat) (ka : Nat) (w : Int32) (wt : Int32) (du : Int32) (co : Int32) (et : Int32) (di : Int32) (ha : f a = some (.inr (1, [.ref ka, .int w, .int wt, .int du, .int co, .int et, .int di]))) : gMi l yX0_hasEnded wsX0_hasEnded { frames := 0, cells := 0, slots := 0, locals := 0 } D cy de [.ref a] f (fun r9 f9 => r9 = b2i (!decide (co = -1)) ∧ f9 = f) 0 0 := by
  refine fun sz => Met.ofW (cc := cX0_hasEnded) (maxL := 1) (ret := (some .boolean)) (by decide) rfl ?_
  intro p e s m args below meth c s₁ B hml hv
  obtain ⟨rfl, hv⟩ := hv
  obtain ⟨rfl, hI⟩ := gP_I hv
  have hx := B.exec
  have hb := B.bytes
  have hr := B.returns
  have hts := atoms_spec (ws := wsX0_hasEnded) B.pre
  have hown : s.vm.findClass RX0 = some m.cls := findClass_of_methodNamed B.named
  have hlocks := B.notSynchronized
  have hinX0 : ∀ w ∈ wsX00, w ∈ wsX0_hasEnded := by decide +kernel
  have hw0 := hts (.fieldLink RX0 9 "TollGateway$Call" "cost" "I") (by decide +kernel)
  have hl := lv_entry ([.ref a]) (n := 1) (Nat.le_of_ble_eq_true rfl)
  rw [lg_entry_eq]
  generalize (lg_sl ([.ref a]) ++ List.replicate (1 - (lg_sl ([.ref a])).length) Slot.unset).toArray = ls at hl ⊢
  have hl : lv_has ls 1 [(0, .ref a)] := hl
  refine lv_aload_n hx hb dX0_hasEnded_0 rfl (lv_at hl 0 rfl) ?_
  refine g_get (ci := 1) (C := RX0) (T := TX0) (N := 7) hx hb hts hinX0 hown hI ha rfl 4 (by decide) hw0 (fun _ h9 => h9) rfl dX0_hasEnded_1 ?_
  refine lv_iconst (v := -1) hx hb dX0_hasEnded_4 (by decide) ?_
  refine lv_icmp_eq (tgt := 12) hx hb dX0_hasEnded_5 (by decide) (fun c_1 => ?_) (fun c_1 => ?_)
  · refine lv_iconst (v := 0) hx hb dX0_hasEnded_12 (by decide) ?_
    exact g_zret hx hb hr hlocks hI rfl ⟨(by simp [c_1, b2i]), (by simp [c_1, g_uu, b2i])⟩ (Nat.le_of_ble_eq_true rfl) (Nat.le_of_ble_eq_true rfl) dX0_hasEnded_13
  · refine lv_iconst (v := 1) hx hb dX0_hasEnded_8 (by decide) ?_
    refine lv_goto (tgt := 13) hx hb dX0_hasEnded_9 (by decide) ?_
    exact g_zret hx hb hr hlocks hI rfl ⟨(by simp [c_1, b2i]), (by simp [c_1, g_uu, b2i])⟩ (Nat.le_of_ble_eq_true rfl) (Nat.le_of_ble_eq_true rfl) dX0_hasEnded_13

set_option maxHeartbeats 4000000 in
set_option maxRecDepth 100000 in
/-- Call.costOf -/
theorem c_X0_costOf (l : Launch) (D : va_G) (cy : Nat → ClassId) (de : Nat) (f : gFm) (a : Nat) (oc : Int32) (ka : Nat) (w : Int32) (wt : Int32) (du : Int32) (co : Int32) (et : Int32) (di : Int32) (ha : f a = some (.inr (1, [.ref ka, .int w, .int wt, .int du, .int co, .int et, .int di]))) : gMi l yX0_costOf wsX0_costOf { frames := 0, cells := 0, slots := 0, locals := 0 } D cy de [.ref a, .int oc] f (fun r9 f9 => r9 = (if oc = 0 then w else if oc = 1 then (w + 1) / 2 else 0) ∧ f9 = f) 0 0 := by
  refine fun sz => Met.ofW (cc := cX0_costOf) (maxL := 2) (ret := (some .int)) (by decide) rfl ?_
  intro p e s m args below meth c s₁ B hml hv
  obtain ⟨rfl, hv⟩ := hv
  obtain ⟨rfl, hI⟩ := gP_I hv
  have hx := B.exec
  have hb := B.bytes
  have hr := B.returns
  have hts := atoms_spec (ws := wsX0_costOf) B.pre
  have hown : s.vm.findClass RX0 = some m.cls := findClass_of_methodNamed B.named
  have hlocks := B.notSynchronized
  have hinX0 : ∀ w ∈ wsX00, w ∈ wsX0_costOf := by decide +kernel
  have hw0 := hts (.fieldLink RX0 19 "TollGateway$Call" "worth" "I") (by decide +kernel)
  have hl := lv_entry ([.ref a, .int oc]) (n := 2) (Nat.le_of_ble_eq_true rfl)
  rw [lg_entry_eq]
  generalize (lg_sl ([.ref a, .int oc]) ++ List.replicate (2 - (lg_sl ([.ref a, .int oc])).length) Slot.unset).toArray = ls at hl ⊢
  have hl : lv_has ls 2 [(0, .ref a), (1, .int oc)] := hl
  refine lv_iload_n hx hb dX0_costOf_0 rfl (lv_at hl 1 rfl) ?_
  refine lv_if_ne (tgt := 9) hx hb dX0_costOf_1 (by decide) (fun c_1 => ?_) (fun c_1 => ?_)
  · refine lv_iload_n hx hb dX0_costOf_9 rfl (lv_at hl 1 rfl) ?_
    refine lv_iconst (v := 1) hx hb dX0_costOf_10 (by decide) ?_
    refine lv_icmp_ne (tgt := 25) hx hb dX0_costOf_11 (by decide) (fun c_2 => ?_) (fun c_2 => ?_)
    · refine lv_iconst (v := 0) hx hb dX0_costOf_25 (by decide) ?_
      exact g_iret hx hb hr hlocks hI ⟨(by simp [c_1, c_2, b2i]), (by simp [c_1, c_2, g_uu, b2i])⟩ (Nat.le_of_ble_eq_true rfl) (Nat.le_of_ble_eq_true rfl) dX0_costOf_26
    · refine lv_aload_n hx hb dX0_costOf_14 rfl (lv_at hl 0 rfl) ?_
      refine g_get (ci := 1) (C := RX0) (T := TX0) (N := 7) hx hb hts hinX0 hown hI ha rfl 1 (by decide) hw0 (fun _ h9 => h9) rfl dX0_costOf_15 ?_
      refine lv_iconst (v := 1) hx hb dX0_costOf_18 (by decide) ?_
      refine lv_iadd hx hb dX0_costOf_19 ?_
      refine lv_iconst (v := 2) hx hb dX0_costOf_20 (by decide) ?_
      refine lv_idiv hx hb dX0_costOf_21 (by decide) ?_
      refine lv_goto (tgt := 26) hx hb dX0_costOf_22 (by decide) ?_
      exact g_iret hx hb hr hlocks hI ⟨(by simp [c_1, c_2, b2i]), (by simp [c_1, c_2, g_uu, b2i])⟩ (Nat.le_of_ble_eq_true rfl) (Nat.le_of_ble_eq_true rfl) dX0_costOf_26
  · refine lv_aload_n hx hb dX0_costOf_4 rfl (lv_at hl 0 rfl) ?_
    refine g_get (ci := 1) (C := RX0) (T := TX0) (N := 7) hx hb hts hinX0 hown hI ha rfl 1 (by decide) hw0 (fun _ h9 => h9) rfl dX0_costOf_5 ?_
    exact g_iret hx hb hr hlocks hI ⟨(by simp [c_1, b2i]), (by simp [c_1, g_uu, b2i])⟩ (Nat.le_of_ble_eq_true rfl) (Nat.le_of_ble_eq_true rfl) dX0_costOf_8

set_option maxHeartbeats 4000000 in
set_option maxRecDepth 100000 in
/-- Call.settle -/
theorem c_X0_settle (l : Launch) (D : va_G) (cy : Nat → ClassId) (de : Nat) (f : gFm) (a : Nat) (oc : Int32) (tk : Int32) (ka : Nat) (w : Int32) (wt : Int32) (du : Int32) (co : Int32) (et : Int32) (di : Int32) (pa : Nat) (t : Int32) (ln : Int32) (cr : Int32) (db : Int32) (hd : Int32) (op : Int32) (sp : Int32) (pd : Int32) (ha : f a = some (.inr (1, [.ref ka, .int w, .int wt, .int du, .int co, .int et, .int di]))) (hka : f ka = some (.inr (2, [.ref pa, .int t, .int ln, .int cr, .int db, .int hd, .int op, .int sp, .int pd]))) : gMv l yX0_settle wsX0_settle { frames := 3, cells := 0, slots := 0, locals := 57 } D cy de [.ref a, .int oc, .int tk] f (fun f9 => f9 = va_up (va_up f a (some (.inr (1, [.ref ka, .int w, .int wt, .int du, .int (if oc = 0 then w else if oc = 1 then (w + 1) / 2 else 0), .int tk, .int di])))) ka (some (.inr (2, [.ref pa, .int t, .int ln, .int (cr + ((w - (if oc = 0 then w else if oc = 1 then (w + 1) / 2 else 0)) - (if (w - (if oc = 0 then w else if oc = 1 then (w + 1) / 2 else 0)) < db then (w - (if oc = 0 then w else if oc = 1 then (w + 1) / 2 else 0)) else db))), .int (db - (if (w - (if oc = 0 then w else if oc = 1 then (w + 1) / 2 else 0)) < db then (w - (if oc = 0 then w else if oc = 1 then (w + 1) / 2 else 0)) else db)), .int (hd - w), .int (op - 1), .int (sp + (if oc = 0 then w else if oc = 1 then (w + 1) / 2 else 0)), .int pd])))) 0 0 := by
  refine fun sz => Met.ofW (cc := cX0_settle) (maxL := 3) (ret := none) (by decide) rfl ?_
  intro p e s m args below meth c s₁ B hml hv
  obtain ⟨rfl, hv⟩ := hv
  obtain ⟨rfl, hI⟩ := gP_I hv
  have hx := B.exec
  have hb := B.bytes
  have hr := B.returns
  have hts := atoms_spec (ws := wsX0_settle) B.pre
  have hown : s.vm.findClass RX0 = some m.cls := findClass_of_methodNamed B.named
  have hlocks := B.notSynchronized
  have hinX0 : ∀ w ∈ wsX00, w ∈ wsX0_settle := by decide +kernel
  have hw0 := hts (.fieldLink RX0 9 "TollGateway$Call" "cost" "I") (by decide +kernel)
  have hw1 := hts (.fieldLink RX0 32 "TollGateway$Call" "endTick" "I") (by decide +kernel)
  have hw2 := hts (.fieldLink RX0 15 "TollGateway$Call" "key" "LTollGateway$Key;") (by decide +kernel)
  have hw3 := hts (.fieldLink RX0 19 "TollGateway$Call" "worth" "I") (by decide +kernel)
  have hw4 := hts (.initialized RX1) (by decide +kernel)
  have hw5 := hts (.instanceMethod yX1_closeHold) (by decide +kernel)
  have hw6 := hts (.selects RX1 yX1_closeHold yX1_closeHold) (by decide +kernel)
  have hl := lv_entry ([.ref a, .int oc, .int tk]) (n := 3) (Nat.le_of_ble_eq_true rfl)
  rw [lg_entry_eq]
  generalize (lg_sl ([.ref a, .int oc, .int tk]) ++ List.replicate (3 - (lg_sl ([.ref a, .int oc, .int tk])).length) Slot.unset).toArray = ls at hl ⊢
  have hl : lv_has ls 3 [(0, .ref a), (1, .int oc), (2, .int tk)] := hl
  refine lv_aload_n hx hb dX0_settle_0 rfl (lv_at hl 0 rfl) ?_
  refine lv_aload_n hx hb dX0_settle_1 rfl (lv_at hl 0 rfl) ?_
  refine lv_iload_n hx hb dX0_settle_2 rfl (lv_at hl 1 rfl) ?_
  refine g_calli hI (va_runV (As := [.int oc]) (rest := [.ref a]) ⟨hx, hb, hml, hown, hts⟩ (c_X0_costOf l D cy de f a oc ka w wt du co et di ha s.heap.size) (cwV 1 hts gX0_settle_X0_costOf rfl rfl rfl (by decide +kernel) ⟨Nat.le_of_ble_eq_true rfl, Nat.le_of_ble_eq_true rfl⟩) (g_preV hI ha rfl) rfl rfl hl.1 rfl (lv_room (Nat.le_of_ble_eq_true rfl)) dX0_settle_3 ⟨Nat.le_of_ble_eq_true rfl, Nat.le_of_ble_eq_true rfl⟩) (fun r_1 f_2 H locs hw_3 hI => ?_)
  obtain ⟨rfl, e_4⟩ := hw_3
  rw [e_4] at hI
  refine g_put (ci := 1) (v := .int (if oc = 0 then w else if oc = 1 then (w + 1) / 2 else 0)) (ty := .int) (C := RX0) (T := TX0) (N := 7) hx hb hts hinX0 tyX0 tyX0_ok nmX0 hown hI ha rfl 4 (by decide) hw0 (fun _ h9 => h9) rfl (by decide +kernel) rfl rfl (Nat.le_of_ble_eq_true rfl) dX0_settle_6 (fun f_5 H locs e_6 hI => ?_)
  have e_6 : f_5 = va_up f a (some (.inr (1, [.ref ka, .int w, .int wt, .int du, .int (if oc = 0 then w else if oc = 1 then (w + 1) / 2 else 0), .int et, .int di]))) := e_6
  have hf_7 : f_5 a = some (.inr (1, [.ref ka, .int w, .int wt, .int du, .int (if oc = 0 then w else if oc = 1 then (w + 1) / 2 else 0), .int et, .int di])) := by rw [e_6]; exact va_up_self _ _ _
  have hf_8 : f_5 ka = some (.inr (2, [.ref pa, .int t, .int ln, .int cr, .int db, .int hd, .int op, .int sp, .int pd])) := by rw [e_6, va_up_ne _ _ (g_ne ha hka (by decide))]; exact hka
  refine lv_aload_n hx hb dX0_settle_9 rfl (lv_at hl 0 rfl) ?_
  refine lv_iload_n hx hb dX0_settle_10 rfl (lv_at hl 2 rfl) ?_
  refine g_put (ci := 1) (v := .int tk) (ty := .int) (C := RX0) (T := TX0) (N := 7) hx hb hts hinX0 tyX0 tyX0_ok nmX0 hown hI hf_7 rfl 5 (by decide) hw1 (fun _ h9 => h9) rfl (by decide +kernel) rfl rfl (Nat.le_of_ble_eq_true rfl) dX0_settle_11 (fun f_9 H locs e_10 hI => ?_)
  have e_10 : f_9 = va_up f_5 a (some (.inr (1, [.ref ka, .int w, .int wt, .int du, .int (if oc = 0 then w else if oc = 1 then (w + 1) / 2 else 0), .int tk, .int di]))) := e_10
  have hf_11 : f_9 a = some (.inr (1, [.ref ka, .int w, .int wt, .int du, .int (if oc = 0 then w else if oc = 1 then (w + 1) / 2 else 0), .int tk, .int di])) := by rw [e_10]; exact va_up_self _ _ _
  have hf_12 : f_9 ka = some (.inr (2, [.ref pa, .int t, .int ln, .int cr, .int db, .int hd, .int op, .int sp, .int pd])) := by rw [e_10, va_up_ne _ _ (g_ne hf_7 hf_8 (by decide))]; exact hf_8
  refine lv_aload_n hx hb dX0_settle_14 rfl (lv_at hl 0 rfl) ?_
  refine g_get (ci := 1) (C := RX0) (T := TX0) (N := 7) hx hb hts hinX0 hown hI hf_11 rfl 0 (by decide) hw2 (fun _ h9 => h9) rfl dX0_settle_15 ?_
  refine lv_aload_n hx hb dX0_settle_18 rfl (lv_at hl 0 rfl) ?_
  refine g_get (ci := 1) (C := RX0) (T := TX0) (N := 7) hx hb hts hinX0 hown hI hf_11 rfl 1 (by decide) hw3 (fun _ h9 => h9) rfl dX0_settle_19 ?_
  refine lv_aload_n hx hb dX0_settle_22 rfl (lv_at hl 0 rfl) ?_
  refine g_get (ci := 1) (C := RX0) (T := TX0) (N := 7) hx hb hts hinX0 hown hI hf_11 rfl 4 (by decide) hw0 (fun _ h9 => h9) rfl dX0_settle_23 ?_
  refine g_callv hI (va_runVN (As := [.int w, .int (if oc = 0 then w else if oc = 1 then (w + 1) / 2 else 0)]) (rest := []) ⟨hx, hb, hml, hown, hts⟩ (c_X1_closeHold l D cy de f_9 ka w (if oc = 0 then w else if oc = 1 then (w + 1) / 2 else 0) pa t ln cr db hd op sp pd hf_12 H.size) ⟨va_cnB 2 hts gX0_settle_X1_closeHold_n35 rfl rfl rfl (nm_C35 hI.2.2.2.1) hw4 (by decide +kernel) ⟨Nat.le_of_ble_eq_true rfl, Nat.le_of_ble_eq_true rfl⟩, hw5, hw6⟩ (g_preV hI hf_12 rfl) rfl rfl hl.1 rfl (lv_room (Nat.le_of_ble_eq_true rfl)) dX0_settle_26 ⟨Nat.le_of_ble_eq_true rfl, Nat.le_of_ble_eq_true rfl⟩) (fun f_14 H locs hw_15 hI => ?_)
  have e_16 := hw_15
  have e_16 : f_14 = va_up f_9 ka (some (.inr (2, [.ref pa, .int t, .int ln, .int (cr + ((w - (if oc = 0 then w else if oc = 1 then (w + 1) / 2 else 0)) - (if (w - (if oc = 0 then w else if oc = 1 then (w + 1) / 2 else 0)) < db then (w - (if oc = 0 then w else if oc = 1 then (w + 1) / 2 else 0)) else db))), .int (db - (if (w - (if oc = 0 then w else if oc = 1 then (w + 1) / 2 else 0)) < db then (w - (if oc = 0 then w else if oc = 1 then (w + 1) / 2 else 0)) else db)), .int (hd - w), .int (op - 1), .int (sp + (if oc = 0 then w else if oc = 1 then (w + 1) / 2 else 0)), .int pd]))) := e_16
  have hf_17 : f_14 ka = some (.inr (2, [.ref pa, .int t, .int ln, .int (cr + ((w - (if oc = 0 then w else if oc = 1 then (w + 1) / 2 else 0)) - (if (w - (if oc = 0 then w else if oc = 1 then (w + 1) / 2 else 0)) < db then (w - (if oc = 0 then w else if oc = 1 then (w + 1) / 2 else 0)) else db))), .int (db - (if (w - (if oc = 0 then w else if oc = 1 then (w + 1) / 2 else 0)) < db then (w - (if oc = 0 then w else if oc = 1 then (w + 1) / 2 else 0)) else db)), .int (hd - w), .int (op - 1), .int (sp + (if oc = 0 then w else if oc = 1 then (w + 1) / 2 else 0)), .int pd])) := by rw [e_16]; exact va_up_self _ _ _
  have hf_18 : f_14 a = some (.inr (1, [.ref ka, .int w, .int wt, .int du, .int (if oc = 0 then w else if oc = 1 then (w + 1) / 2 else 0), .int tk, .int di])) := by rw [e_16, va_up_ne _ _ (g_ne hf_12 hf_11 (by decide))]; exact hf_11
  exact g_vret hx hb hr hlocks hI (by rw [e_16, e_10, e_6]; simp only [g_uu]) (Nat.le_of_ble_eq_true rfl) (Nat.le_of_ble_eq_true rfl) dX0_settle_29

set_option maxHeartbeats 4000000 in
set_option maxRecDepth 100000 in
/-- Call.giveBack -/
theorem c_X0_giveBack (l : Launch) (D : va_G) (cy : Nat → ClassId) (de : Nat) (f : gFm) (a : Nat) (ka : Nat) (w : Int32) (wt : Int32) (du : Int32) (co : Int32) (et : Int32) (di : Int32) (pa : Nat) (t : Int32) (ln : Int32) (cr : Int32) (db : Int32) (hd : Int32) (op : Int32) (sp : Int32) (pd : Int32) (ha : f a = some (.inr (1, [.ref ka, .int w, .int wt, .int du, .int co, .int et, .int di]))) (hka : f ka = some (.inr (2, [.ref pa, .int t, .int ln, .int cr, .int db, .int hd, .int op, .int sp, .int pd]))) : gMi l yX0_giveBack wsX0_giveBack { frames := 2, cells := 0, slots := 0, locals := 35 } D cy de [.ref a] f (fun r9 f9 => r9 = co ∧ f9 = va_up (va_up f a (some (.inr (1, [.ref ka, .int w, .int wt, .int du, .int 0, .int et, .int 1])))) ka (some (.inr (2, [.ref pa, .int (t + wt), .int ln, .int (cr + (co - (if co < db then co else db))), .int (db - (if co < db then co else db)), .int hd, .int op, .int (sp - co), .int pd])))) 0 0 := by
  refine fun sz => Met.ofW (cc := cX0_giveBack) (maxL := 2) (ret := (some .int)) (by decide) rfl ?_
  intro p e s m args below meth c s₁ B hml hv
  obtain ⟨rfl, hv⟩ := hv
  obtain ⟨rfl, hI⟩ := gP_I hv
  have hx := B.exec
  have hb := B.bytes
  have hr := B.returns
  have hts := atoms_spec (ws := wsX0_giveBack) B.pre
  have hown : s.vm.findClass RX0 = some m.cls := findClass_of_methodNamed B.named
  have hlocks := B.notSynchronized
  have hinX0 : ∀ w ∈ wsX00, w ∈ wsX0_giveBack := by decide +kernel
  have hinX1 : ∀ w ∈ wsX10, w ∈ wsX0_giveBack := by decide +kernel
  have hw0 := hts (.fieldLink RX0 9 "TollGateway$Call" "cost" "I") (by decide +kernel)
  have hw1 := hts (.fieldLink RX0 41 "TollGateway$Call" "wasDisputed" "Z") (by decide +kernel)
  have hw2 := hts (.fieldLink RX0 15 "TollGateway$Call" "key" "LTollGateway$Key;") (by decide +kernel)
  have hw3 := hts (.initialized RX1) (by decide +kernel)
  have hw4 := hts (.instanceMethod yX1_receive) (by decide +kernel)
  have hw5 := hts (.selects RX1 yX1_receive yX1_receive) (by decide +kernel)
  have hw6 := hts (.fieldLink RX0 22 "TollGateway$Call" "weight" "I") (by decide +kernel)
  have hl := lv_entry ([.ref a]) (n := 2) (Nat.le_of_ble_eq_true rfl)
  rw [lg_entry_eq]
  generalize (lg_sl ([.ref a]) ++ List.replicate (2 - (lg_sl ([.ref a])).length) Slot.unset).toArray = ls at hl ⊢
  have hl : lv_has ls 2 [(0, .ref a)] := hl
  refine lv_aload_n hx hb dX0_giveBack_0 rfl (lv_at hl 0 rfl) ?_
  refine g_get (ci := 1) (C := RX0) (T := TX0) (N := 7) hx hb hts hinX0 hown hI ha rfl 4 (by decide) hw0 (fun _ h9 => h9) rfl dX0_giveBack_1 ?_
  refine lv_istore_n (lv' := [(1, .int co), (0, .ref a)]) hx hb dX0_giveBack_4 rfl hl (by decide) rfl (fun ls hl => ?_)
  refine lv_aload_n hx hb dX0_giveBack_5 rfl (lv_at hl 1 rfl) ?_
  refine lv_iconst (v := 0) hx hb dX0_giveBack_6 (by decide) ?_
  refine g_put (ci := 1) (v := .int 0) (ty := .int) (C := RX0) (T := TX0) (N := 7) hx hb hts hinX0 tyX0 tyX0_ok nmX0 hown hI ha rfl 4 (by decide) hw0 (fun _ h9 => h9) rfl (by decide +kernel) rfl rfl (Nat.le_of_ble_eq_true rfl) dX0_giveBack_7 (fun f_1 H locs e_2 hI => ?_)
  have e_2 : f_1 = va_up f a (some (.inr (1, [.ref ka, .int w, .int wt, .int du, .int 0, .int et, .int di]))) := e_2
  have hf_3 : f_1 a = some (.inr (1, [.ref ka, .int w, .int wt, .int du, .int 0, .int et, .int di])) := by rw [e_2]; exact va_up_self _ _ _
  have hf_4 : f_1 ka = some (.inr (2, [.ref pa, .int t, .int ln, .int cr, .int db, .int hd, .int op, .int sp, .int pd])) := by rw [e_2, va_up_ne _ _ (g_ne ha hka (by decide))]; exact hka
  refine lv_aload_n hx hb dX0_giveBack_10 rfl (lv_at hl 1 rfl) ?_
  refine lv_iconst (v := 1) hx hb dX0_giveBack_11 (by decide) ?_
  refine g_put (ci := 1) (v := .int 1) (ty := .boolean) (C := RX0) (T := TX0) (N := 7) hx hb hts hinX0 tyX0 tyX0_ok nmX0 hown hI hf_3 rfl 6 (by decide) hw1 (fun _ h9 => h9) rfl (by decide +kernel) rfl rfl (Nat.le_of_ble_eq_true rfl) dX0_giveBack_12 (fun f_5 H locs e_6 hI => ?_)
  have e_6 : f_5 = va_up f_1 a (some (.inr (1, [.ref ka, .int w, .int wt, .int du, .int 0, .int et, .int 1]))) := e_6
  have hf_7 : f_5 a = some (.inr (1, [.ref ka, .int w, .int wt, .int du, .int 0, .int et, .int 1])) := by rw [e_6]; exact va_up_self _ _ _
  have hf_8 : f_5 ka = some (.inr (2, [.ref pa, .int t, .int ln, .int cr, .int db, .int hd, .int op, .int sp, .int pd])) := by rw [e_6, va_up_ne _ _ (g_ne hf_3 hf_4 (by decide))]; exact hf_4
  refine lv_aload_n hx hb dX0_giveBack_15 rfl (lv_at hl 1 rfl) ?_
  refine g_get (ci := 1) (C := RX0) (T := TX0) (N := 7) hx hb hts hinX0 hown hI hf_7 rfl 0 (by decide) hw2 (fun _ h9 => h9) rfl dX0_giveBack_16 ?_
  refine lv_dup hx hb dX0_giveBack_19 rfl ?_
  refine g_getN (ci := 2) (C := RX1) (T := TX1) (N := 9) hx hb hts hinX1 hown hI hf_8 rfl 7 (by decide) (nf_C45 hI.2.2.2.1) (fun _ h9 => h9) rfl dX0_giveBack_20 ?_
  refine lv_iload_n hx hb dX0_giveBack_23 rfl (lv_at hl 0 rfl) ?_
  refine lv_isub hx hb dX0_giveBack_24 ?_
  refine g_putN (ci := 2) (v := .int (sp - co)) (ty := .int) (C := RX1) (T := TX1) (N := 9) hx hb hts hinX1 tyX1 tyX1_ok nmX1 hown hI hf_8 rfl 7 (by decide) (nf_C45 hI.2.2.2.1) (fun _ h9 => h9) rfl (by decide +kernel) rfl rfl (Nat.le_of_ble_eq_true rfl) dX0_giveBack_25 (fun f_9 H locs e_10 hI => ?_)
  have e_10 : f_9 = va_up f_5 ka (some (.inr (2, [.ref pa, .int t, .int ln, .int cr, .int db, .int hd, .int op, .int (sp - co), .int pd]))) := e_10
  have hf_11 : f_9 ka = some (.inr (2, [.ref pa, .int t, .int ln, .int cr, .int db, .int hd, .int op, .int (sp - co), .int pd])) := by rw [e_10]; exact va_up_self _ _ _
  have hf_12 : f_9 a = some (.inr (1, [.ref ka, .int w, .int wt, .int du, .int 0, .int et, .int 1])) := by rw [e_10, va_up_ne _ _ (g_ne hf_8 hf_7 (by decide))]; exact hf_7
  refine lv_aload_n hx hb dX0_giveBack_28 rfl (lv_at hl 1 rfl) ?_
  refine g_get (ci := 1) (C := RX0) (T := TX0) (N := 7) hx hb hts hinX0 hown hI hf_12 rfl 0 (by decide) hw2 (fun _ h9 => h9) rfl dX0_giveBack_29 ?_
  refine lv_iload_n hx hb dX0_giveBack_32 rfl (lv_at hl 0 rfl) ?_
  refine g_callv hI (va_runVN (As := [.int co]) (rest := []) ⟨hx, hb, hml, hown, hts⟩ (c_X1_receive l D cy de f_9 ka co pa t ln cr db hd op (sp - co) pd hf_11 H.size) ⟨va_cnB 1 hts gX0_giveBack_X1_receive_n48 rfl rfl rfl (nm_C48 hI.2.2.2.1) hw3 (by decide +kernel) ⟨Nat.le_of_ble_eq_true rfl, Nat.le_of_ble_eq_true rfl⟩, hw4, hw5⟩ (g_preV hI hf_11 rfl) rfl rfl hl.1 rfl (lv_room (Nat.le_of_ble_eq_true rfl)) dX0_giveBack_33 ⟨Nat.le_of_ble_eq_true rfl, Nat.le_of_ble_eq_true rfl⟩) (fun f_14 H locs hw_15 hI => ?_)
  have e_16 := hw_15
  have e_16 : f_14 = va_up f_9 ka (some (.inr (2, [.ref pa, .int t, .int ln, .int (cr + (co - (if co < db then co else db))), .int (db - (if co < db then co else db)), .int hd, .int op, .int (sp - co), .int pd]))) := e_16
  have hf_17 : f_14 ka = some (.inr (2, [.ref pa, .int t, .int ln, .int (cr + (co - (if co < db then co else db))), .int (db - (if co < db then co else db)), .int hd, .int op, .int (sp - co), .int pd])) := by rw [e_16]; exact va_up_self _ _ _
  have hf_18 : f_14 a = some (.inr (1, [.ref ka, .int w, .int wt, .int du, .int 0, .int et, .int 1])) := by rw [e_16, va_up_ne _ _ (g_ne hf_11 hf_12 (by decide))]; exact hf_12
  refine lv_aload_n hx hb dX0_giveBack_36 rfl (lv_at hl 1 rfl) ?_
  refine g_get (ci := 1) (C := RX0) (T := TX0) (N := 7) hx hb hts hinX0 hown hI hf_18 rfl 0 (by decide) hw2 (fun _ h9 => h9) rfl dX0_giveBack_37 ?_
  refine lv_dup hx hb dX0_giveBack_40 rfl ?_
  refine g_getN (ci := 2) (C := RX1) (T := TX1) (N := 9) hx hb hts hinX1 hown hI hf_17 rfl 1 (by decide) (nf_C52 hI.2.2.2.1) (fun _ h9 => h9) rfl dX0_giveBack_41 ?_
  refine lv_aload_n hx hb dX0_giveBack_44 rfl (lv_at hl 1 rfl) ?_
  refine g_get (ci := 1) (C := RX0) (T := TX0) (N := 7) hx hb hts hinX0 hown hI hf_18 rfl 2 (by decide) hw6 (fun _ h9 => h9) rfl dX0_giveBack_45 ?_
  refine lv_iadd hx hb dX0_giveBack_48 ?_
  refine g_putN (ci := 2) (v := .int (t + wt)) (ty := .int) (C := RX1) (T := TX1) (N := 9) hx hb hts hinX1 tyX1 tyX1_ok nmX1 hown hI hf_17 rfl 1 (by decide) (nf_C52 hI.2.2.2.1) (fun _ h9 => h9) rfl (by decide +kernel) rfl rfl (Nat.le_of_ble_eq_true rfl) dX0_giveBack_49 (fun f_19 H locs e_20 hI => ?_)
  have e_20 : f_19 = va_up f_14 ka (some (.inr (2, [.ref pa, .int (t + wt), .int ln, .int (cr + (co - (if co < db then co else db))), .int (db - (if co < db then co else db)), .int hd, .int op, .int (sp - co), .int pd]))) := e_20
  have hf_21 : f_19 ka = some (.inr (2, [.ref pa, .int (t + wt), .int ln, .int (cr + (co - (if co < db then co else db))), .int (db - (if co < db then co else db)), .int hd, .int op, .int (sp - co), .int pd])) := by rw [e_20]; exact va_up_self _ _ _
  have hf_22 : f_19 a = some (.inr (1, [.ref ka, .int w, .int wt, .int du, .int 0, .int et, .int 1])) := by rw [e_20, va_up_ne _ _ (g_ne hf_17 hf_18 (by decide))]; exact hf_18
  refine lv_iload_n hx hb dX0_giveBack_52 rfl (lv_at hl 0 rfl) ?_
  exact g_iret hx hb hr hlocks hI ⟨rfl, (by rw [e_20, e_16, e_10, e_6, e_2]; simp only [g_uu])⟩ (Nat.le_of_ble_eq_true rfl) (Nat.le_of_ble_eq_true rfl) dX0_giveBack_53
