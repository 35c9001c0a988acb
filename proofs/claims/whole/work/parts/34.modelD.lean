def mPos (c : Nat) : Nat := if c ≤ 5 then c - 1 else if c ≤ 12 then c - 2 else c - 3
theorem mPos_lt {c : Nat} (h : mArr c = true) : mPos c < 19 := by
  simp only [mArr, Bool.or_eq_true, Bool.and_eq_true, decide_eq_true_eq] at h
  unfold mPos
  split <;> (try split) <;> omega
theorem mPos_inj {c d : Nat} (h : mArr c = true) (h2 : mArr d = true) (e : mPos c = mPos d) : c = d := by
  simp only [mArr, Bool.or_eq_true, Bool.and_eq_true, decide_eq_true_eq] at h h2
  unfold mPos at e
  split at e <;> split at e <;> (try split at e) <;> (try split at e) <;> omega
theorem mPos_ma {qs : List Nat} (hn : qs.Nodup) (hl : qs.length = 19) {c d : Nat} (h : mArr c = true) (h2 : mArr d = true) (e : qs.getD (mPos c) 0 = qs.getD (mPos d) 0) : c = d := by
  have l1 := mPos_lt h
  have l2 := mPos_lt h2
  refine mPos_inj h h2 ?_
  have e1 : qs[mPos c]? = qs[mPos d]? := by
    rw [List.getElem?_eq_getElem (by omega), List.getElem?_eq_getElem (by omega)]
    rw [List.getD_eq_getElem?_getD, List.getD_eq_getElem?_getD, List.getElem?_eq_getElem (by omega), List.getElem?_eq_getElem (by omega)] at e
    exact congrArg some e
  exact (List.getElem?_inj (by omega) hn).mp e1

def mInit : gMd := fun c => if c = 1 then upd (upd (upd (upd (fun _ => 0) (ix 0) 10) (ix 1) 10) (ix 2) 10) (ix 3) 10 else if c = 2 then upd (upd (upd (upd (fun _ => 0) (ix 0) 1) (ix 1) 1) (ix 2) 1) (ix 3) 1 else if c = 4 then upd (upd (upd (upd (upd (upd (fun _ => 0) (ix 0) 10) (ix 1) 10) (ix 2) 10) (ix 3) 10) (ix 4) 10) (ix 5) 10 else if c = 5 then upd (upd (upd (upd (upd (upd (fun _ => 0) (ix 0) 1) (ix 1) 1) (ix 2) 1) (ix 3) 1) (ix 4) 1) (ix 5) 1 else fun _ => 0

set_option maxHeartbeats 4000000 in
set_option maxRecDepth 100000 in
/-- TollGatewayModel.<init> -/
theorem c_X5_init (l : Launch) (D : va_G) (cy : Nat → ClassId) (de : Nat) (f : gFm) (mm : Nat) (hmm : f mm = some (.inr (6, [.int 0, .null, .null, .null, .null, .null, .int 0, .null, .null, .null, .null, .null, .null, .int 0, .null, .null, .null, .null, .null, .null, .null, .null, .int 0]))) : gMv l yX5_init wsX5_init { frames := 1, cells := 19, slots := 712, locals := 12 } D cy de [.ref mm] f (fun f9 => ∃ ma : Nat → Nat, Rm cy mm ma mInit f9) 19 712 := by
  refine fun sz => Met.ofW (cc := cX5_init) (maxL := 1) (ret := none) (by decide) rfl ?_
  intro p e s m args below meth c s₁ B hml hv
  obtain ⟨rfl, hv⟩ := hv
  obtain ⟨rfl, hI⟩ := gP_I hv
  have hx := B.exec
  have hb := B.bytes
  have hr := B.returns
  have hts := atoms_spec (ws := wsX5_init) B.pre
  have hown : s.vm.findClass RX5 = some m.cls := findClass_of_methodNamed B.named
  have hlocks := B.notSynchronized
  have hin : meth.name = "<init>" := (name_of_methodNamed B.named B.method).1
  have hinX5 : ∀ w ∈ wsX50, w ∈ wsX5_init := by decide +kernel
  have hw0 := hts (.methodLink RX5 1 objectInit) (by decide +kernel)
  have hw1 := hts (.instanceMethod objectInit) (by decide +kernel)
  have hw2 := hts (.code objectInit ⟨#[0xb1]⟩ 1 none) (by decide +kernel)
  have hw3 := hts (.arrayClass .int) (by decide +kernel)
  have hw4 := hts (.fieldLink RX5 7 "TollGatewayModel" "sizes" "[I") (by decide +kernel)
  have hw5 := hts (.fieldLink RX5 13 "TollGatewayModel" "refills" "[I") (by decide +kernel)
  have hw6 := hts (.fieldLink RX5 16 "TollGatewayModel" "slows" "[I") (by decide +kernel)
  have hw7 := hts (.fieldLink RX5 19 "TollGatewayModel" "prices" "[I") (by decide +kernel)
  have hw8 := hts (.fieldLink RX5 22 "TollGatewayModel" "weights" "[I") (by decide +kernel)
  have hw9 := hts (.fieldLink RX5 25 "TollGatewayModel" "plans" "[I") (by decide +kernel)
  have hw10 := hts (.fieldLink RX5 28 "TollGatewayModel" "credits" "[I") (by decide +kernel)
  have hw11 := hts (.fieldLink RX5 31 "TollGatewayModel" "lines" "[I") (by decide +kernel)
  have hw12 := hts (.fieldLink RX5 34 "TollGatewayModel" "debts" "[I") (by decide +kernel)
  have hw13 := hts (.fieldLink RX5 37 "TollGatewayModel" "tokens" "[I") (by decide +kernel)
  have hw14 := hts (.fieldLink RX5 40 "TollGatewayModel" "paid" "[I") (by decide +kernel)
  have hw15 := hts (.fieldLink RX5 43 "TollGatewayModel" "callers" "[I") (by decide +kernel)
  have hw16 := hts (.fieldLink RX5 46 "TollGatewayModel" "worths" "[I") (by decide +kernel)
  have hw17 := hts (.fieldLink RX5 49 "TollGatewayModel" "took" "[I") (by decide +kernel)
  have hw18 := hts (.fieldLink RX5 52 "TollGatewayModel" "begun" "[I") (by decide +kernel)
  have hw19 := hts (.fieldLink RX5 55 "TollGatewayModel" "costs" "[I") (by decide +kernel)
  have hw20 := hts (.fieldLink RX5 58 "TollGatewayModel" "endedAt" "[I") (by decide +kernel)
  have hw21 := hts (.arrayClass .boolean) (by decide +kernel)
  have hw22 := hts (.fieldLink RX5 61 "TollGatewayModel" "hasEnded" "[Z") (by decide +kernel)
  have hw23 := hts (.fieldLink RX5 65 "TollGatewayModel" "isDisputed" "[Z") (by decide +kernel)
  have hl := lv_entry ([.ref mm]) (n := 1) (Nat.le_of_ble_eq_true rfl)
  rw [lg_entry_eq]
  generalize (lg_sl ([.ref mm]) ++ List.replicate (1 - (lg_sl ([.ref mm])).length) Slot.unset).toArray = ls at hl ⊢
  have hl : lv_has ls 1 [(0, .ref mm)] := hl
  refine lv_aload_n hx hb dX5_init_0 rfl (lv_at hl 0 rfl) ?_
  refine W.objInit hx hb hown hw0 hw1 hw2 rfl (by rw [hml]; exact hl.1) rfl dX5_init_1 (Nat.le_of_ble_eq_true rfl) (Nat.le_of_ble_eq_true rfl) ?_
  refine W.eq (g2 := F0 m 4 ls []) rfl ?_
  refine lv_aload_n hx hb dX5_init_4 rfl (lv_at hl 0 rfl) ?_
  refine lv_iconst (v := 4) hx hb dX5_init_5 (by decide) ?_
  refine g_newi (N' := 4) hx hb hw3 hI (by decide) (by decide) (by decide) (Nat.le_of_ble_eq_true rfl) (Nat.le_of_ble_eq_true rfl) dX5_init_6 (fun q_1 f_2 H hq_4 e_3 hI => ?_)
  have hn_5 : mm ≠ q_1 := g_nn hmm hq_4
  have e_3 : f_2 = va_up f q_1 (some (.inl (cy 0, 4, .inl (fun _ => 0)))) := e_3
  have hf_6 : f_2 q_1 = some (.inl (cy 0, 4, .inl (fun _ => 0))) := by rw [e_3]; exact va_up_self _ _ _
  have hf_7 : f_2 mm = some (.inr (6, [.int 0, .null, .null, .null, .null, .null, .int 0, .null, .null, .null, .null, .null, .null, .int 0, .null, .null, .null, .null, .null, .null, .null, .null, .int 0])) := by rw [e_3, va_up_ne _ _ (hn_5)]; exact hmm
  refine lv_dup hx hb dX5_init_8 rfl ?_
  refine lv_iconst (v := 0) hx hb dX5_init_9 (by decide) ?_
  refine lv_bipush (v := 10) hx hb dX5_init_10 (by decide) ?_
  refine g_iast (n := 4) (x := (fun _ => 0)) hx hb hI hf_6 (by unfold vp_in; decide) dX5_init_12 (fun f_8 H locs e_9 hI => ?_)
  have e_9 : f_8 = va_up f_2 q_1 (some (.inl (cy 0, 4, .inl (upd (fun _ => 0) (ix 0) 10)))) := e_9
  have hf_10 : f_8 q_1 = some (.inl (cy 0, 4, .inl (upd (fun _ => 0) (ix 0) 10))) := by rw [e_9]; exact va_up_self _ _ _
  have hf_11 : f_8 mm = some (.inr (6, [.int 0, .null, .null, .null, .null, .null, .int 0, .null, .null, .null, .null, .null, .null, .int 0, .null, .null, .null, .null, .null, .null, .null, .null, .int 0])) := by rw [e_9, va_up_ne _ _ (hn_5)]; exact hf_7
  refine lv_dup hx hb dX5_init_13 rfl ?_
  refine lv_iconst (v := 1) hx hb dX5_init_14 (by decide) ?_
  refine lv_bipush (v := 10) hx hb dX5_init_15 (by decide) ?_
  refine g_iast (n := 4) (x := (upd (fun _ => 0) (ix 0) 10)) hx hb hI hf_10 (by unfold vp_in; decide) dX5_init_17 (fun f_12 H locs e_13 hI => ?_)
  have e_13 : f_12 = va_up f_8 q_1 (some (.inl (cy 0, 4, .inl (upd (upd (fun _ => 0) (ix 0) 10) (ix 1) 10)))) := e_13
  have hf_14 : f_12 q_1 = some (.inl (cy 0, 4, .inl (upd (upd (fun _ => 0) (ix 0) 10) (ix 1) 10))) := by rw [e_13]; exact va_up_self _ _ _
  have hf_15 : f_12 mm = some (.inr (6, [.int 0, .null, .null, .null, .null, .null, .int 0, .null, .null, .null, .null, .null, .null, .int 0, .null, .null, .null, .null, .null, .null, .null, .null, .int 0])) := by rw [e_13, va_up_ne _ _ (hn_5)]; exact hf_11
  refine lv_dup hx hb dX5_init_18 rfl ?_
  refine lv_iconst (v := 2) hx hb dX5_init_19 (by decide) ?_
  refine lv_bipush (v := 10) hx hb dX5_init_20 (by decide) ?_
  refine g_iast (n := 4) (x := (upd (upd (fun _ => 0) (ix 0) 10) (ix 1) 10)) hx hb hI hf_14 (by unfold vp_in; decide) dX5_init_22 (fun f_16 H locs e_17 hI => ?_)
  have e_17 : f_16 = va_up f_12 q_1 (some (.inl (cy 0, 4, .inl (upd (upd (upd (fun _ => 0) (ix 0) 10) (ix 1) 10) (ix 2) 10)))) := e_17
  have hf_18 : f_16 q_1 = some (.inl (cy 0, 4, .inl (upd (upd (upd (fun _ => 0) (ix 0) 10) (ix 1) 10) (ix 2) 10))) := by rw [e_17]; exact va_up_self _ _ _
  have hf_19 : f_16 mm = some (.inr (6, [.int 0, .null, .null, .null, .null, .null, .int 0, .null, .null, .null, .null, .null, .null, .int 0, .null, .null, .null, .null, .null, .null, .null, .null, .int 0])) := by rw [e_17, va_up_ne _ _ (hn_5)]; exact hf_15
  refine lv_dup hx hb dX5_init_23 rfl ?_
  refine lv_iconst (v := 3) hx hb dX5_init_24 (by decide) ?_
  refine lv_bipush (v := 10) hx hb dX5_init_25 (by decide) ?_
  refine g_iast (n := 4) (x := (upd (upd (upd (fun _ => 0) (ix 0) 10) (ix 1) 10) (ix 2) 10)) hx hb hI hf_18 (by unfold vp_in; decide) dX5_init_27 (fun f_20 H locs e_21 hI => ?_)
  have e_21 : f_20 = va_up f_16 q_1 (some (.inl (cy 0, 4, .inl (upd (upd (upd (upd (fun _ => 0) (ix 0) 10) (ix 1) 10) (ix 2) 10) (ix 3) 10)))) := e_21
  have hf_22 : f_20 q_1 = some (.inl (cy 0, 4, .inl (upd (upd (upd (upd (fun _ => 0) (ix 0) 10) (ix 1) 10) (ix 2) 10) (ix 3) 10))) := by rw [e_21]; exact va_up_self _ _ _
  have hf_23 : f_20 mm = some (.inr (6, [.int 0, .null, .null, .null, .null, .null, .int 0, .null, .null, .null, .null, .null, .null, .int 0, .null, .null, .null, .null, .null, .null, .null, .null, .int 0])) := by rw [e_21, va_up_ne _ _ (hn_5)]; exact hf_19
  refine g_putF (ci := 6) (v := .ref q_1) (ty := (.array .int)) (C := RX5) (T := TX5) (N := 23) hx hb hts hinX5 tyX5 tyX5_ok nmX5 hown hI hf_23 rfl 1 (by decide) hw4 (fun _ h9 => h9) rfl hin rfl (by decide +kernel) rfl rfl (Nat.le_of_ble_eq_true rfl) dX5_init_28 (fun f_24 H locs e_25 hI => ?_)
  have e_25 : f_24 = va_up f_20 mm (some (.inr (6, [.int 0, .ref q_1, .null, .null, .null, .null, .int 0, .null, .null, .null, .null, .null, .null, .int 0, .null, .null, .null, .null, .null, .null, .null, .null, .int 0]))) := e_25
  have hf_26 : f_24 mm = some (.inr (6, [.int 0, .ref q_1, .null, .null, .null, .null, .int 0, .null, .null, .null, .null, .null, .null, .int 0, .null, .null, .null, .null, .null, .null, .null, .null, .int 0])) := by rw [e_25]; exact va_up_self _ _ _
  have hf_27 : f_24 q_1 = some (.inl (cy 0, 4, .inl (upd (upd (upd (upd (fun _ => 0) (ix 0) 10) (ix 1) 10) (ix 2) 10) (ix 3) 10))) := by rw [e_25, va_up_ne _ _ ((Ne.symm hn_5))]; exact hf_22
  refine lv_aload_n hx hb dX5_init_31 rfl (lv_at hl 0 rfl) ?_
  refine lv_iconst (v := 4) hx hb dX5_init_32 (by decide) ?_
  refine g_newi (N' := 4) hx hb hw3 hI (by decide) (by decide) (by decide) (Nat.le_of_ble_eq_true rfl) (Nat.le_of_ble_eq_true rfl) dX5_init_33 (fun q_28 f_29 H hq_31 e_30 hI => ?_)
  have hn_32 : mm ≠ q_28 := g_nn hf_26 hq_31
  have hn_33 : q_1 ≠ q_28 := g_nn hf_27 hq_31
  have e_30 : f_29 = va_up f_24 q_28 (some (.inl (cy 0, 4, .inl (fun _ => 0)))) := e_30
  have hf_34 : f_29 q_28 = some (.inl (cy 0, 4, .inl (fun _ => 0))) := by rw [e_30]; exact va_up_self _ _ _
  have hf_35 : f_29 mm = some (.inr (6, [.int 0, .ref q_1, .null, .null, .null, .null, .int 0, .null, .null, .null, .null, .null, .null, .int 0, .null, .null, .null, .null, .null, .null, .null, .null, .int 0])) := by rw [e_30, va_up_ne _ _ (hn_32)]; exact hf_26
  have hf_36 : f_29 q_1 = some (.inl (cy 0, 4, .inl (upd (upd (upd (upd (fun _ => 0) (ix 0) 10) (ix 1) 10) (ix 2) 10) (ix 3) 10))) := by rw [e_30, va_up_ne _ _ (hn_33)]; exact hf_27
  refine lv_dup hx hb dX5_init_35 rfl ?_
  refine lv_iconst (v := 0) hx hb dX5_init_36 (by decide) ?_
  refine lv_iconst (v := 1) hx hb dX5_init_37 (by decide) ?_
  refine g_iast (n := 4) (x := (fun _ => 0)) hx hb hI hf_34 (by unfold vp_in; decide) dX5_init_38 (fun f_37 H locs e_38 hI => ?_)
  have e_38 : f_37 = va_up f_29 q_28 (some (.inl (cy 0, 4, .inl (upd (fun _ => 0) (ix 0) 1)))) := e_38
  have hf_39 : f_37 q_28 = some (.inl (cy 0, 4, .inl (upd (fun _ => 0) (ix 0) 1))) := by rw [e_38]; exact va_up_self _ _ _
  have hf_40 : f_37 mm = some (.inr (6, [.int 0, .ref q_1, .null, .null, .null, .null, .int 0, .null, .null, .null, .null, .null, .null, .int 0, .null, .null, .null, .null, .null, .null, .null, .null, .int 0])) := by rw [e_38, va_up_ne _ _ (hn_32)]; exact hf_35
  have hf_41 : f_37 q_1 = some (.inl (cy 0, 4, .inl (upd (upd (upd (upd (fun _ => 0) (ix 0) 10) (ix 1) 10) (ix 2) 10) (ix 3) 10))) := by rw [e_38, va_up_ne _ _ (hn_33)]; exact hf_36
  refine lv_dup hx hb dX5_init_39 rfl ?_
  refine lv_iconst (v := 1) hx hb dX5_init_40 (by decide) ?_
  refine lv_iconst (v := 1) hx hb dX5_init_41 (by decide) ?_
  refine g_iast (n := 4) (x := (upd (fun _ => 0) (ix 0) 1)) hx hb hI hf_39 (by unfold vp_in; decide) dX5_init_42 (fun f_42 H locs e_43 hI => ?_)
  have e_43 : f_42 = va_up f_37 q_28 (some (.inl (cy 0, 4, .inl (upd (upd (fun _ => 0) (ix 0) 1) (ix 1) 1)))) := e_43
  have hf_44 : f_42 q_28 = some (.inl (cy 0, 4, .inl (upd (upd (fun _ => 0) (ix 0) 1) (ix 1) 1))) := by rw [e_43]; exact va_up_self _ _ _
  have hf_45 : f_42 mm = some (.inr (6, [.int 0, .ref q_1, .null, .null, .null, .null, .int 0, .null, .null, .null, .null, .null, .null, .int 0, .null, .null, .null, .null, .null, .null, .null, .null, .int 0])) := by rw [e_43, va_up_ne _ _ (hn_32)]; exact hf_40
  have hf_46 : f_42 q_1 = some (.inl (cy 0, 4, .inl (upd (upd (upd (upd (fun _ => 0) (ix 0) 10) (ix 1) 10) (ix 2) 10) (ix 3) 10))) := by rw [e_43, va_up_ne _ _ (hn_33)]; exact hf_41
  refine lv_dup hx hb dX5_init_43 rfl ?_
  refine lv_iconst (v := 2) hx hb dX5_init_44 (by decide) ?_
  refine lv_iconst (v := 1) hx hb dX5_init_45 (by decide) ?_
  refine g_iast (n := 4) (x := (upd (upd (fun _ => 0) (ix 0) 1) (ix 1) 1)) hx hb hI hf_44 (by unfold vp_in; decide) dX5_init_46 (fun f_47 H locs e_48 hI => ?_)
  have e_48 : f_47 = va_up f_42 q_28 (some (.inl (cy 0, 4, .inl (upd (upd (upd (fun _ => 0) (ix 0) 1) (ix 1) 1) (ix 2) 1)))) := e_48
  have hf_49 : f_47 q_28 = some (.inl (cy 0, 4, .inl (upd (upd (upd (fun _ => 0) (ix 0) 1) (ix 1) 1) (ix 2) 1))) := by rw [e_48]; exact va_up_self _ _ _
  have hf_50 : f_47 mm = some (.inr (6, [.int 0, .ref q_1, .null, .null, .null, .null, .int 0, .null, .null, .null, .null, .null, .null, .int 0, .null, .null, .null, .null, .null, .null, .null, .null, .int 0])) := by rw [e_48, va_up_ne _ _ (hn_32)]; exact hf_45
  have hf_51 : f_47 q_1 = some (.inl (cy 0, 4, .inl (upd (upd (upd (upd (fun _ => 0) (ix 0) 10) (ix 1) 10) (ix 2) 10) (ix 3) 10))) := by rw [e_48, va_up_ne _ _ (hn_33)]; exact hf_46
  refine lv_dup hx hb dX5_init_47 rfl ?_
  refine lv_iconst (v := 3) hx hb dX5_init_48 (by decide) ?_
  refine lv_iconst (v := 1) hx hb dX5_init_49 (by decide) ?_
  refine g_iast (n := 4) (x := (upd (upd (upd (fun _ => 0) (ix 0) 1) (ix 1) 1) (ix 2) 1)) hx hb hI hf_49 (by unfold vp_in; decide) dX5_init_50 (fun f_52 H locs e_53 hI => ?_)
  have e_53 : f_52 = va_up f_47 q_28 (some (.inl (cy 0, 4, .inl (upd (upd (upd (upd (fun _ => 0) (ix 0) 1) (ix 1) 1) (ix 2) 1) (ix 3) 1)))) := e_53
  have hf_54 : f_52 q_28 = some (.inl (cy 0, 4, .inl (upd (upd (upd (upd (fun _ => 0) (ix 0) 1) (ix 1) 1) (ix 2) 1) (ix 3) 1))) := by rw [e_53]; exact va_up_self _ _ _
  have hf_55 : f_52 mm = some (.inr (6, [.int 0, .ref q_1, .null, .null, .null, .null, .int 0, .null, .null, .null, .null, .null, .null, .int 0, .null, .null, .null, .null, .null, .null, .null, .null, .int 0])) := by rw [e_53, va_up_ne _ _ (hn_32)]; exact hf_50
  have hf_56 : f_52 q_1 = some (.inl (cy 0, 4, .inl (upd (upd (upd (upd (fun _ => 0) (ix 0) 10) (ix 1) 10) (ix 2) 10) (ix 3) 10))) := by rw [e_53, va_up_ne _ _ (hn_33)]; exact hf_51
  refine g_putF (ci := 6) (v := .ref q_28) (ty := (.array .int)) (C := RX5) (T := TX5) (N := 23) hx hb hts hinX5 tyX5 tyX5_ok nmX5 hown hI hf_55 rfl 2 (by decide) hw5 (fun _ h9 => h9) rfl hin rfl (by decide +kernel) rfl rfl (Nat.le_of_ble_eq_true rfl) dX5_init_51 (fun f_57 H locs e_58 hI => ?_)
  have e_58 : f_57 = va_up f_52 mm (some (.inr (6, [.int 0, .ref q_1, .ref q_28, .null, .null, .null, .int 0, .null, .null, .null, .null, .null, .null, .int 0, .null, .null, .null, .null, .null, .null, .null, .null, .int 0]))) := e_58
  have hf_59 : f_57 mm = some (.inr (6, [.int 0, .ref q_1, .ref q_28, .null, .null, .null, .int 0, .null, .null, .null, .null, .null, .null, .int 0, .null, .null, .null, .null, .null, .null, .null, .null, .int 0])) := by rw [e_58]; exact va_up_self _ _ _
  have hf_60 : f_57 q_1 = some (.inl (cy 0, 4, .inl (upd (upd (upd (upd (fun _ => 0) (ix 0) 10) (ix 1) 10) (ix 2) 10) (ix 3) 10))) := by rw [e_58, va_up_ne _ _ ((Ne.symm hn_5))]; exact hf_56
  have hf_61 : f_57 q_28 = some (.inl (cy 0, 4, .inl (upd (upd (upd (upd (fun _ => 0) (ix 0) 1) (ix 1) 1) (ix 2) 1) (ix 3) 1))) := by rw [e_58, va_up_ne _ _ ((Ne.symm hn_32))]; exact hf_54
  refine lv_aload_n hx hb dX5_init_54 rfl (lv_at hl 0 rfl) ?_
  refine lv_iconst (v := 4) hx hb dX5_init_55 (by decide) ?_
  refine g_newi (N' := 4) hx hb hw3 hI (by decide) (by decide) (by decide) (Nat.le_of_ble_eq_true rfl) (Nat.le_of_ble_eq_true rfl) dX5_init_56 (fun q_62 f_63 H hq_65 e_64 hI => ?_)
  have hn_66 : mm ≠ q_62 := g_nn hf_59 hq_65
  have hn_67 : q_1 ≠ q_62 := g_nn hf_60 hq_65
  have hn_68 : q_28 ≠ q_62 := g_nn hf_61 hq_65
  have e_64 : f_63 = va_up f_57 q_62 (some (.inl (cy 0, 4, .inl (fun _ => 0)))) := e_64
  have hf_69 : f_63 q_62 = some (.inl (cy 0, 4, .inl (fun _ => 0))) := by rw [e_64]; exact va_up_self _ _ _
  have hf_70 : f_63 mm = some (.inr (6, [.int 0, .ref q_1, .ref q_28, .null, .null, .null, .int 0, .null, .null, .null, .null, .null, .null, .int 0, .null, .null, .null, .null, .null, .null, .null, .null, .int 0])) := by rw [e_64, va_up_ne _ _ (hn_66)]; exact hf_59
  have hf_71 : f_63 q_1 = some (.inl (cy 0, 4, .inl (upd (upd (upd (upd (fun _ => 0) (ix 0) 10) (ix 1) 10) (ix 2) 10) (ix 3) 10))) := by rw [e_64, va_up_ne _ _ (hn_67)]; exact hf_60
  have hf_72 : f_63 q_28 = some (.inl (cy 0, 4, .inl (upd (upd (upd (upd (fun _ => 0) (ix 0) 1) (ix 1) 1) (ix 2) 1) (ix 3) 1))) := by rw [e_64, va_up_ne _ _ (hn_68)]; exact hf_61
  refine g_putF (ci := 6) (v := .ref q_62) (ty := (.array .int)) (C := RX5) (T := TX5) (N := 23) hx hb hts hinX5 tyX5 tyX5_ok nmX5 hown hI hf_70 rfl 3 (by decide) hw6 (fun _ h9 => h9) rfl hin rfl (by decide +kernel) rfl rfl (Nat.le_of_ble_eq_true rfl) dX5_init_58 (fun f_73 H locs e_74 hI => ?_)
  have e_74 : f_73 = va_up f_63 mm (some (.inr (6, [.int 0, .ref q_1, .ref q_28, .ref q_62, .null, .null, .int 0, .null, .null, .null, .null, .null, .null, .int 0, .null, .null, .null, .null, .null, .null, .null, .null, .int 0]))) := e_74
  have hf_75 : f_73 mm = some (.inr (6, [.int 0, .ref q_1, .ref q_28, .ref q_62, .null, .null, .int 0, .null, .null, .null, .null, .null, .null, .int 0, .null, .null, .null, .null, .null, .null, .null, .null, .int 0])) := by rw [e_74]; exact va_up_self _ _ _
  have hf_76 : f_73 q_1 = some (.inl (cy 0, 4, .inl (upd (upd (upd (upd (fun _ => 0) (ix 0) 10) (ix 1) 10) (ix 2) 10) (ix 3) 10))) := by rw [e_74, va_up_ne _ _ ((Ne.symm hn_5))]; exact hf_71
  have hf_77 : f_73 q_28 = some (.inl (cy 0, 4, .inl (upd (upd (upd (upd (fun _ => 0) (ix 0) 1) (ix 1) 1) (ix 2) 1) (ix 3) 1))) := by rw [e_74, va_up_ne _ _ ((Ne.symm hn_32))]; exact hf_72
  have hf_78 : f_73 q_62 = some (.inl (cy 0, 4, .inl (fun _ => 0))) := by rw [e_74, va_up_ne _ _ ((Ne.symm hn_66))]; exact hf_69
  refine lv_aload_n hx hb dX5_init_61 rfl (lv_at hl 0 rfl) ?_
  refine lv_bipush (v := 6) hx hb dX5_init_62 (by decide) ?_
  refine g_newi (N' := 6) hx hb hw3 hI (by decide) (by decide) (by decide) (Nat.le_of_ble_eq_true rfl) (Nat.le_of_ble_eq_true rfl) dX5_init_64 (fun q_79 f_80 H hq_82 e_81 hI => ?_)
  have hn_83 : mm ≠ q_79 := g_nn hf_75 hq_82
  have hn_84 : q_1 ≠ q_79 := g_nn hf_76 hq_82
  have hn_85 : q_28 ≠ q_79 := g_nn hf_77 hq_82
  have hn_86 : q_62 ≠ q_79 := g_nn hf_78 hq_82
  have e_81 : f_80 = va_up f_73 q_79 (some (.inl (cy 0, 6, .inl (fun _ => 0)))) := e_81
  have hf_87 : f_80 q_79 = some (.inl (cy 0, 6, .inl (fun _ => 0))) := by rw [e_81]; exact va_up_self _ _ _
  have hf_88 : f_80 mm = some (.inr (6, [.int 0, .ref q_1, .ref q_28, .ref q_62, .null, .null, .int 0, .null, .null, .null, .null, .null, .null, .int 0, .null, .null, .null, .null, .null, .null, .null, .null, .int 0])) := by rw [e_81, va_up_ne _ _ (hn_83)]; exact hf_75
  have hf_89 : f_80 q_1 = some (.inl (cy 0, 4, .inl (upd (upd (upd (upd (fun _ => 0) (ix 0) 10) (ix 1) 10) (ix 2) 10) (ix 3) 10))) := by rw [e_81, va_up_ne _ _ (hn_84)]; exact hf_76
  have hf_90 : f_80 q_28 = some (.inl (cy 0, 4, .inl (upd (upd (upd (upd (fun _ => 0) (ix 0) 1) (ix 1) 1) (ix 2) 1) (ix 3) 1))) := by rw [e_81, va_up_ne _ _ (hn_85)]; exact hf_77
  have hf_91 : f_80 q_62 = some (.inl (cy 0, 4, .inl (fun _ => 0))) := by rw [e_81, va_up_ne _ _ (hn_86)]; exact hf_78
  refine lv_dup hx hb dX5_init_66 rfl ?_
  refine lv_iconst (v := 0) hx hb dX5_init_67 (by decide) ?_
  refine lv_bipush (v := 10) hx hb dX5_init_68 (by decide) ?_
  refine g_iast (n := 6) (x := (fun _ => 0)) hx hb hI hf_87 (by unfold vp_in; decide) dX5_init_70 (fun f_92 H locs e_93 hI => ?_)
  have e_93 : f_92 = va_up f_80 q_79 (some (.inl (cy 0, 6, .inl (upd (fun _ => 0) (ix 0) 10)))) := e_93
  have hf_94 : f_92 q_79 = some (.inl (cy 0, 6, .inl (upd (fun _ => 0) (ix 0) 10))) := by rw [e_93]; exact va_up_self _ _ _
  have hf_95 : f_92 mm = some (.inr (6, [.int 0, .ref q_1, .ref q_28, .ref q_62, .null, .null, .int 0, .null, .null, .null, .null, .null, .null, .int 0, .null, .null, .null, .null, .null, .null, .null, .null, .int 0])) := by rw [e_93, va_up_ne _ _ (hn_83)]; exact hf_88
  have hf_96 : f_92 q_1 = some (.inl (cy 0, 4, .inl (upd (upd (upd (upd (fun _ => 0) (ix 0) 10) (ix 1) 10) (ix 2) 10) (ix 3) 10))) := by rw [e_93, va_up_ne _ _ (hn_84)]; exact hf_89
  have hf_97 : f_92 q_28 = some (.inl (cy 0, 4, .inl (upd (upd (upd (upd (fun _ => 0) (ix 0) 1) (ix 1) 1) (ix 2) 1) (ix 3) 1))) := by rw [e_93, va_up_ne _ _ (hn_85)]; exact hf_90
  have hf_98 : f_92 q_62 = some (.inl (cy 0, 4, .inl (fun _ => 0))) := by rw [e_93, va_up_ne _ _ (hn_86)]; exact hf_91
  refine lv_dup hx hb dX5_init_71 rfl ?_
  refine lv_iconst (v := 1) hx hb dX5_init_72 (by decide) ?_
  refine lv_bipush (v := 10) hx hb dX5_init_73 (by decide) ?_
  refine g_iast (n := 6) (x := (upd (fun _ => 0) (ix 0) 10)) hx hb hI hf_94 (by unfold vp_in; decide) dX5_init_75 (fun f_99 H locs e_100 hI => ?_)
  have e_100 : f_99 = va_up f_92 q_79 (some (.inl (cy 0, 6, .inl (upd (upd (fun _ => 0) (ix 0) 10) (ix 1) 10)))) := e_100
  have hf_101 : f_99 q_79 = some (.inl (cy 0, 6, .inl (upd (upd (fun _ => 0) (ix 0) 10) (ix 1) 10))) := by rw [e_100]; exact va_up_self _ _ _
  have hf_102 : f_99 mm = some (.inr (6, [.int 0, .ref q_1, .ref q_28, .ref q_62, .null, .null, .int 0, .null, .null, .null, .null, .null, .null, .int 0, .null, .null, .null, .null, .null, .null, .null, .null, .int 0])) := by rw [e_100, va_up_ne _ _ (hn_83)]; exact hf_95
  have hf_103 : f_99 q_1 = some (.inl (cy 0, 4, .inl (upd (upd (upd (upd (fun _ => 0) (ix 0) 10) (ix 1) 10) (ix 2) 10) (ix 3) 10))) := by rw [e_100, va_up_ne _ _ (hn_84)]; exact hf_96
  have hf_104 : f_99 q_28 = some (.inl (cy 0, 4, .inl (upd (upd (upd (upd (fun _ => 0) (ix 0) 1) (ix 1) 1) (ix 2) 1) (ix 3) 1))) := by rw [e_100, va_up_ne _ _ (hn_85)]; exact hf_97
  have hf_105 : f_99 q_62 = some (.inl (cy 0, 4, .inl (fun _ => 0))) := by rw [e_100, va_up_ne _ _ (hn_86)]; exact hf_98
  refine lv_dup hx hb dX5_init_76 rfl ?_
  refine lv_iconst (v := 2) hx hb dX5_init_77 (by decide) ?_
  refine lv_bipush (v := 10) hx hb dX5_init_78 (by decide) ?_
  refine g_iast (n := 6) (x := (upd (upd (fun _ => 0) (ix 0) 10) (ix 1) 10)) hx hb hI hf_101 (by unfold vp_in; decide) dX5_init_80 (fun f_106 H locs e_107 hI => ?_)
  have e_107 : f_106 = va_up f_99 q_79 (some (.inl (cy 0, 6, .inl (upd (upd (upd (fun _ => 0) (ix 0) 10) (ix 1) 10) (ix 2) 10)))) := e_107
  have hf_108 : f_106 q_79 = some (.inl (cy 0, 6, .inl (upd (upd (upd (fun _ => 0) (ix 0) 10) (ix 1) 10) (ix 2) 10))) := by rw [e_107]; exact va_up_self _ _ _
  have hf_109 : f_106 mm = some (.inr (6, [.int 0, .ref q_1, .ref q_28, .ref q_62, .null, .null, .int 0, .null, .null, .null, .null, .null, .null, .int 0, .null, .null, .null, .null, .null, .null, .null, .null, .int 0])) := by rw [e_107, va_up_ne _ _ (hn_83)]; exact hf_102
  have hf_110 : f_106 q_1 = some (.inl (cy 0, 4, .inl (upd (upd (upd (upd (fun _ => 0) (ix 0) 10) (ix 1) 10) (ix 2) 10) (ix 3) 10))) := by rw [e_107, va_up_ne _ _ (hn_84)]; exact hf_103
  have hf_111 : f_106 q_28 = some (.inl (cy 0, 4, .inl (upd (upd (upd (upd (fun _ => 0) (ix 0) 1) (ix 1) 1) (ix 2) 1) (ix 3) 1))) := by rw [e_107, va_up_ne _ _ (hn_85)]; exact hf_104
  have hf_112 : f_106 q_62 = some (.inl (cy 0, 4, .inl (fun _ => 0))) := by rw [e_107, va_up_ne _ _ (hn_86)]; exact hf_105
  refine lv_dup hx hb dX5_init_81 rfl ?_
  refine lv_iconst (v := 3) hx hb dX5_init_82 (by decide) ?_
  refine lv_bipush (v := 10) hx hb dX5_init_83 (by decide) ?_
  refine g_iast (n := 6) (x := (upd (upd (upd (fun _ => 0) (ix 0) 10) (ix 1) 10) (ix 2) 10)) hx hb hI hf_108 (by unfold vp_in; decide) dX5_init_85 (fun f_113 H locs e_114 hI => ?_)
  have e_114 : f_113 = va_up f_106 q_79 (some (.inl (cy 0, 6, .inl (upd (upd (upd (upd (fun _ => 0) (ix 0) 10) (ix 1) 10) (ix 2) 10) (ix 3) 10)))) := e_114
  have hf_115 : f_113 q_79 = some (.inl (cy 0, 6, .inl (upd (upd (upd (upd (fun _ => 0) (ix 0) 10) (ix 1) 10) (ix 2) 10) (ix 3) 10))) := by rw [e_114]; exact va_up_self _ _ _
  have hf_116 : f_113 mm = some (.inr (6, [.int 0, .ref q_1, .ref q_28, .ref q_62, .null, .null, .int 0, .null, .null, .null, .null, .null, .null, .int 0, .null, .null, .null, .null, .null, .null, .null, .null, .int 0])) := by rw [e_114, va_up_ne _ _ (hn_83)]; exact hf_109
  have hf_117 : f_113 q_1 = some (.inl (cy 0, 4, .inl (upd (upd (upd (upd (fun _ => 0) (ix 0) 10) (ix 1) 10) (ix 2) 10) (ix 3) 10))) := by rw [e_114, va_up_ne _ _ (hn_84)]; exact hf_110
  have hf_118 : f_113 q_28 = some (.inl (cy 0, 4, .inl (upd (upd (upd (upd (fun _ => 0) (ix 0) 1) (ix 1) 1) (ix 2) 1) (ix 3) 1))) := by rw [e_114, va_up_ne _ _ (hn_85)]; exact hf_111
  have hf_119 : f_113 q_62 = some (.inl (cy 0, 4, .inl (fun _ => 0))) := by rw [e_114, va_up_ne _ _ (hn_86)]; exact hf_112
  refine lv_dup hx hb dX5_init_86 rfl ?_
  refine lv_iconst (v := 4) hx hb dX5_init_87 (by decide) ?_
  refine lv_bipush (v := 10) hx hb dX5_init_88 (by decide) ?_
  refine g_iast (n := 6) (x := (upd (upd (upd (upd (fun _ => 0) (ix 0) 10) (ix 1) 10) (ix 2) 10) (ix 3) 10)) hx hb hI hf_115 (by unfold vp_in; decide) dX5_init_90 (fun f_120 H locs e_121 hI => ?_)
  have e_121 : f_120 = va_up f_113 q_79 (some (.inl (cy 0, 6, .inl (upd (upd (upd (upd (upd (fun _ => 0) (ix 0) 10) (ix 1) 10) (ix 2) 10) (ix 3) 10) (ix 4) 10)))) := e_121
  have hf_122 : f_120 q_79 = some (.inl (cy 0, 6, .inl (upd (upd (upd (upd (upd (fun _ => 0) (ix 0) 10) (ix 1) 10) (ix 2) 10) (ix 3) 10) (ix 4) 10))) := by rw [e_121]; exact va_up_self _ _ _
  have hf_123 : f_120 mm = some (.inr (6, [.int 0, .ref q_1, .ref q_28, .ref q_62, .null, .null, .int 0, .null, .null, .null, .null, .null, .null, .int 0, .null, .null, .null, .null, .null, .null, .null, .null, .int 0])) := by rw [e_121, va_up_ne _ _ (hn_83)]; exact hf_116
  have hf_124 : f_120 q_1 = some (.inl (cy 0, 4, .inl (upd (upd (upd (upd (fun _ => 0) (ix 0) 10) (ix 1) 10) (ix 2) 10) (ix 3) 10))) := by rw [e_121, va_up_ne _ _ (hn_84)]; exact hf_117
  have hf_125 : f_120 q_28 = some (.inl (cy 0, 4, .inl (upd (upd (upd (upd (fun _ => 0) (ix 0) 1) (ix 1) 1) (ix 2) 1) (ix 3) 1))) := by rw [e_121, va_up_ne _ _ (hn_85)]; exact hf_118
  have hf_126 : f_120 q_62 = some (.inl (cy 0, 4, .inl (fun _ => 0))) := by rw [e_121, va_up_ne _ _ (hn_86)]; exact hf_119
  refine lv_dup hx hb dX5_init_91 rfl ?_
  refine lv_iconst (v := 5) hx hb dX5_init_92 (by decide) ?_
  refine lv_bipush (v := 10) hx hb dX5_init_93 (by decide) ?_
  refine g_iast (n := 6) (x := (upd (upd (upd (upd (upd (fun _ => 0) (ix 0) 10) (ix 1) 10) (ix 2) 10) (ix 3) 10) (ix 4) 10)) hx hb hI hf_122 (by unfold vp_in; decide) dX5_init_95 (fun f_127 H locs e_128 hI => ?_)
  have e_128 : f_127 = va_up f_120 q_79 (some (.inl (cy 0, 6, .inl (upd (upd (upd (upd (upd (upd (fun _ => 0) (ix 0) 10) (ix 1) 10) (ix 2) 10) (ix 3) 10) (ix 4) 10) (ix 5) 10)))) := e_128
  have hf_129 : f_127 q_79 = some (.inl (cy 0, 6, .inl (upd (upd (upd (upd (upd (upd (fun _ => 0) (ix 0) 10) (ix 1) 10) (ix 2) 10) (ix 3) 10) (ix 4) 10) (ix 5) 10))) := by rw [e_128]; exact va_up_self _ _ _
  have hf_130 : f_127 mm = some (.inr (6, [.int 0, .ref q_1, .ref q_28, .ref q_62, .null, .null, .int 0, .null, .null, .null, .null, .null, .null, .int 0, .null, .null, .null, .null, .null, .null, .null, .null, .int 0])) := by rw [e_128, va_up_ne _ _ (hn_83)]; exact hf_123
  have hf_131 : f_127 q_1 = some (.inl (cy 0, 4, .inl (upd (upd (upd (upd (fun _ => 0) (ix 0) 10) (ix 1) 10) (ix 2) 10) (ix 3) 10))) := by rw [e_128, va_up_ne _ _ (hn_84)]; exact hf_124
  have hf_132 : f_127 q_28 = some (.inl (cy 0, 4, .inl (upd (upd (upd (upd (fun _ => 0) (ix 0) 1) (ix 1) 1) (ix 2) 1) (ix 3) 1))) := by rw [e_128, va_up_ne _ _ (hn_85)]; exact hf_125
  have hf_133 : f_127 q_62 = some (.inl (cy 0, 4, .inl (fun _ => 0))) := by rw [e_128, va_up_ne _ _ (hn_86)]; exact hf_126
  refine g_putF (ci := 6) (v := .ref q_79) (ty := (.array .int)) (C := RX5) (T := TX5) (N := 23) hx hb hts hinX5 tyX5 tyX5_ok nmX5 hown hI hf_130 rfl 4 (by decide) hw7 (fun _ h9 => h9) rfl hin rfl (by decide +kernel) rfl rfl (Nat.le_of_ble_eq_true rfl) dX5_init_96 (fun f_134 H locs e_135 hI => ?_)
  have e_135 : f_134 = va_up f_127 mm (some (.inr (6, [.int 0, .ref q_1, .ref q_28, .ref q_62, .ref q_79, .null, .int 0, .null, .null, .null, .null, .null, .null, .int 0, .null, .null, .null, .null, .null, .null, .null, .null, .int 0]))) := e_135
  have hf_136 : f_134 mm = some (.inr (6, [.int 0, .ref q_1, .ref q_28, .ref q_62, .ref q_79, .null, .int 0, .null, .null, .null, .null, .null, .null, .int 0, .null, .null, .null, .null, .null, .null, .null, .null, .int 0])) := by rw [e_135]; exact va_up_self _ _ _
  have hf_137 : f_134 q_1 = some (.inl (cy 0, 4, .inl (upd (upd (upd (upd (fun _ => 0) (ix 0) 10) (ix 1) 10) (ix 2) 10) (ix 3) 10))) := by rw [e_135, va_up_ne _ _ ((Ne.symm hn_5))]; exact hf_131
  have hf_138 : f_134 q_28 = some (.inl (cy 0, 4, .inl (upd (upd (upd (upd (fun _ => 0) (ix 0) 1) (ix 1) 1) (ix 2) 1) (ix 3) 1))) := by rw [e_135, va_up_ne _ _ ((Ne.symm hn_32))]; exact hf_132
  have hf_139 : f_134 q_62 = some (.inl (cy 0, 4, .inl (fun _ => 0))) := by rw [e_135, va_up_ne _ _ ((Ne.symm hn_66))]; exact hf_133
  have hf_140 : f_134 q_79 = some (.inl (cy 0, 6, .inl (upd (upd (upd (upd (upd (upd (fun _ => 0) (ix 0) 10) (ix 1) 10) (ix 2) 10) (ix 3) 10) (ix 4) 10) (ix 5) 10))) := by rw [e_135, va_up_ne _ _ ((Ne.symm hn_83))]; exact hf_129
  refine lv_aload_n hx hb dX5_init_99 rfl (lv_at hl 0 rfl) ?_
  refine lv_bipush (v := 6) hx hb dX5_init_100 (by decide) ?_
  refine g_newi (N' := 6) hx hb hw3 hI (by decide) (by decide) (by decide) (Nat.le_of_ble_eq_true rfl) (Nat.le_of_ble_eq_true rfl) dX5_init_102 (fun q_141 f_142 H hq_144 e_143 hI => ?_)
  have hn_145 : mm ≠ q_141 := g_nn hf_136 hq_144
  have hn_146 : q_1 ≠ q_141 := g_nn hf_137 hq_144
  have hn_147 : q_28 ≠ q_141 := g_nn hf_138 hq_144
  have hn_148 : q_62 ≠ q_141 := g_nn hf_139 hq_144
  have hn_149 : q_79 ≠ q_141 := g_nn hf_140 hq_144
  have e_143 : f_142 = va_up f_134 q_141 (some (.inl (cy 0, 6, .inl (fun _ => 0)))) := e_143
  have hf_150 : f_142 q_141 = some (.inl (cy 0, 6, .inl (fun _ => 0))) := by rw [e_143]; exact va_up_self _ _ _
  have hf_151 : f_142 mm = some (.inr (6, [.int 0, .ref q_1, .ref q_28, .ref q_62, .ref q_79, .null, .int 0, .null, .null, .null, .null, .null, .null, .int 0, .null, .null, .null, .null, .null, .null, .null, .null, .int 0])) := by rw [e_143, va_up_ne _ _ (hn_145)]; exact hf_136
  have hf_152 : f_142 q_1 = some (.inl (cy 0, 4, .inl (upd (upd (upd (upd (fun _ => 0) (ix 0) 10) (ix 1) 10) (ix 2) 10) (ix 3) 10))) := by rw [e_143, va_up_ne _ _ (hn_146)]; exact hf_137
  have hf_153 : f_142 q_28 = some (.inl (cy 0, 4, .inl (upd (upd (upd (upd (fun _ => 0) (ix 0) 1) (ix 1) 1) (ix 2) 1) (ix 3) 1))) := by rw [e_143, va_up_ne _ _ (hn_147)]; exact hf_138
  have hf_154 : f_142 q_62 = some (.inl (cy 0, 4, .inl (fun _ => 0))) := by rw [e_143, va_up_ne _ _ (hn_148)]; exact hf_139
  have hf_155 : f_142 q_79 = some (.inl (cy 0, 6, .inl (upd (upd (upd (upd (upd (upd (fun _ => 0) (ix 0) 10) (ix 1) 10) (ix 2) 10) (ix 3) 10) (ix 4) 10) (ix 5) 10))) := by rw [e_143, va_up_ne _ _ (hn_149)]; exact hf_140
  refine lv_dup hx hb dX5_init_104 rfl ?_
  refine lv_iconst (v := 0) hx hb dX5_init_105 (by decide) ?_
  refine lv_iconst (v := 1) hx hb dX5_init_106 (by decide) ?_
  refine g_iast (n := 6) (x := (fun _ => 0)) hx hb hI hf_150 (by unfold vp_in; decide) dX5_init_107 (fun f_156 H locs e_157 hI => ?_)
  have e_157 : f_156 = va_up f_142 q_141 (some (.inl (cy 0, 6, .inl (upd (fun _ => 0) (ix 0) 1)))) := e_157
  have hf_158 : f_156 q_141 = some (.inl (cy 0, 6, .inl (upd (fun _ => 0) (ix 0) 1))) := by rw [e_157]; exact va_up_self _ _ _
  have hf_159 : f_156 mm = some (.inr (6, [.int 0, .ref q_1, .ref q_28, .ref q_62, .ref q_79, .null, .int 0, .null, .null, .null, .null, .null, .null, .int 0, .null, .null, .null, .null, .null, .null, .null, .null, .int 0])) := by rw [e_157, va_up_ne _ _ (hn_145)]; exact hf_151
  have hf_160 : f_156 q_1 = some (.inl (cy 0, 4, .inl (upd (upd (upd (upd (fun _ => 0) (ix 0) 10) (ix 1) 10) (ix 2) 10) (ix 3) 10))) := by rw [e_157, va_up_ne _ _ (hn_146)]; exact hf_152
  have hf_161 : f_156 q_28 = some (.inl (cy 0, 4, .inl (upd (upd (upd (upd (fun _ => 0) (ix 0) 1) (ix 1) 1) (ix 2) 1) (ix 3) 1))) := by rw [e_157, va_up_ne _ _ (hn_147)]; exact hf_153
  have hf_162 : f_156 q_62 = some (.inl (cy 0, 4, .inl (fun _ => 0))) := by rw [e_157, va_up_ne _ _ (hn_148)]; exact hf_154
  have hf_163 : f_156 q_79 = some (.inl (cy 0, 6, .inl (upd (upd (upd (upd (upd (upd (fun _ => 0) (ix 0) 10) (ix 1) 10) (ix 2) 10) (ix 3) 10) (ix 4) 10) (ix 5) 10))) := by rw [e_157, va_up_ne _ _ (hn_149)]; exact hf_155
  refine lv_dup hx hb dX5_init_108 rfl ?_
  refine lv_iconst (v := 1) hx hb dX5_init_109 (by decide) ?_
  refine lv_iconst (v := 1) hx hb dX5_init_110 (by decide) ?_
  refine g_iast (n := 6) (x := (upd (fun _ => 0) (ix 0) 1)) hx hb hI hf_158 (by unfold vp_in; decide) dX5_init_111 (fun f_164 H locs e_165 hI => ?_)
  have e_165 : f_164 = va_up f_156 q_141 (some (.inl (cy 0, 6, .inl (upd (upd (fun _ => 0) (ix 0) 1) (ix 1) 1)))) := e_165
  have hf_166 : f_164 q_141 = some (.inl (cy 0, 6, .inl (upd (upd (fun _ => 0) (ix 0) 1) (ix 1) 1))) := by rw [e_165]; exact va_up_self _ _ _
  have hf_167 : f_164 mm = some (.inr (6, [.int 0, .ref q_1, .ref q_28, .ref q_62, .ref q_79, .null, .int 0, .null, .null, .null, .null, .null, .null, .int 0, .null, .null, .null, .null, .null, .null, .null, .null, .int 0])) := by rw [e_165, va_up_ne _ _ (hn_145)]; exact hf_159
  have hf_168 : f_164 q_1 = some (.inl (cy 0, 4, .inl (upd (upd (upd (upd (fun _ => 0) (ix 0) 10) (ix 1) 10) (ix 2) 10) (ix 3) 10))) := by rw [e_165, va_up_ne _ _ (hn_146)]; exact hf_160
  have hf_169 : f_164 q_28 = some (.inl (cy 0, 4, .inl (upd (upd (upd (upd (fun _ => 0) (ix 0) 1) (ix 1) 1) (ix 2) 1) (ix 3) 1))) := by rw [e_165, va_up_ne _ _ (hn_147)]; exact hf_161
  have hf_170 : f_164 q_62 = some (.inl (cy 0, 4, .inl (fun _ => 0))) := by rw [e_165, va_up_ne _ _ (hn_148)]; exact hf_162
  have hf_171 : f_164 q_79 = some (.inl (cy 0, 6, .inl (upd (upd (upd (upd (upd (upd (fun _ => 0) (ix 0) 10) (ix 1) 10) (ix 2) 10) (ix 3) 10) (ix 4) 10) (ix 5) 10))) := by rw [e_165, va_up_ne _ _ (hn_149)]; exact hf_163
  refine lv_dup hx hb dX5_init_112 rfl ?_
  refine lv_iconst (v := 2) hx hb dX5_init_113 (by decide) ?_
  refine lv_iconst (v := 1) hx hb dX5_init_114 (by decide) ?_
  refine g_iast (n := 6) (x := (upd (upd (fun _ => 0) (ix 0) 1) (ix 1) 1)) hx hb hI hf_166 (by unfold vp_in; decide) dX5_init_115 (fun f_172 H locs e_173 hI => ?_)
  have e_173 : f_172 = va_up f_164 q_141 (some (.inl (cy 0, 6, .inl (upd (upd (upd (fun _ => 0) (ix 0) 1) (ix 1) 1) (ix 2) 1)))) := e_173
  have hf_174 : f_172 q_141 = some (.inl (cy 0, 6, .inl (upd (upd (upd (fun _ => 0) (ix 0) 1) (ix 1) 1) (ix 2) 1))) := by rw [e_173]; exact va_up_self _ _ _
  have hf_175 : f_172 mm = some (.inr (6, [.int 0, .ref q_1, .ref q_28, .ref q_62, .ref q_79, .null, .int 0, .null, .null, .null, .null, .null, .null, .int 0, .null, .null, .null, .null, .null, .null, .null, .null, .int 0])) := by rw [e_173, va_up_ne _ _ (hn_145)]; exact hf_167
  have hf_176 : f_172 q_1 = some (.inl (cy 0, 4, .inl (upd (upd (upd (upd (fun _ => 0) (ix 0) 10) (ix 1) 10) (ix 2) 10) (ix 3) 10))) := by rw [e_173, va_up_ne _ _ (hn_146)]; exact hf_168
  have hf_177 : f_172 q_28 = some (.inl (cy 0, 4, .inl (upd (upd (upd (upd (fun _ => 0) (ix 0) 1) (ix 1) 1) (ix 2) 1) (ix 3) 1))) := by rw [e_173, va_up_ne _ _ (hn_147)]; exact hf_169
  have hf_178 : f_172 q_62 = some (.inl (cy 0, 4, .inl (fun _ => 0))) := by rw [e_173, va_up_ne _ _ (hn_148)]; exact hf_170
  have hf_179 : f_172 q_79 = some (.inl (cy 0, 6, .inl (upd (upd (upd (upd (upd (upd (fun _ => 0) (ix 0) 10) (ix 1) 10) (ix 2) 10) (ix 3) 10) (ix 4) 10) (ix 5) 10))) := by rw [e_173, va_up_ne _ _ (hn_149)]; exact hf_171
  refine lv_dup hx hb dX5_init_116 rfl ?_
  refine lv_iconst (v := 3) hx hb dX5_init_117 (by decide) ?_
  refine lv_iconst (v := 1) hx hb dX5_init_118 (by decide) ?_
  refine g_iast (n := 6) (x := (upd (upd (upd (fun _ => 0) (ix 0) 1) (ix 1) 1) (ix 2) 1)) hx hb hI hf_174 (by unfold vp_in; decide) dX5_init_119 (fun f_180 H locs e_181 hI => ?_)
  have e_181 : f_180 = va_up f_172 q_141 (some (.inl (cy 0, 6, .inl (upd (upd (upd (upd (fun _ => 0) (ix 0) 1) (ix 1) 1) (ix 2) 1) (ix 3) 1)))) := e_181
  have hf_182 : f_180 q_141 = some (.inl (cy 0, 6, .inl (upd (upd (upd (upd (fun _ => 0) (ix 0) 1) (ix 1) 1) (ix 2) 1) (ix 3) 1))) := by rw [e_181]; exact va_up_self _ _ _
  have hf_183 : f_180 mm = some (.inr (6, [.int 0, .ref q_1, .ref q_28, .ref q_62, .ref q_79, .null, .int 0, .null, .null, .null, .null, .null, .null, .int 0, .null, .null, .null, .null, .null, .null, .null, .null, .int 0])) := by rw [e_181, va_up_ne _ _ (hn_145)]; exact hf_175
  have hf_184 : f_180 q_1 = some (.inl (cy 0, 4, .inl (upd (upd (upd (upd (fun _ => 0) (ix 0) 10) (ix 1) 10) (ix 2) 10) (ix 3) 10))) := by rw [e_181, va_up_ne _ _ (hn_146)]; exact hf_176
  have hf_185 : f_180 q_28 = some (.inl (cy 0, 4, .inl (upd (upd (upd (upd (fun _ => 0) (ix 0) 1) (ix 1) 1) (ix 2) 1) (ix 3) 1))) := by rw [e_181, va_up_ne _ _ (hn_147)]; exact hf_177
  have hf_186 : f_180 q_62 = some (.inl (cy 0, 4, .inl (fun _ => 0))) := by rw [e_181, va_up_ne _ _ (hn_148)]; exact hf_178
  have hf_187 : f_180 q_79 = some (.inl (cy 0, 6, .inl (upd (upd (upd (upd (upd (upd (fun _ => 0) (ix 0) 10) (ix 1) 10) (ix 2) 10) (ix 3) 10) (ix 4) 10) (ix 5) 10))) := by rw [e_181, va_up_ne _ _ (hn_149)]; exact hf_179
  refine lv_dup hx hb dX5_init_120 rfl ?_
  refine lv_iconst (v := 4) hx hb dX5_init_121 (by decide) ?_
  refine lv_iconst (v := 1) hx hb dX5_init_122 (by decide) ?_
  refine g_iast (n := 6) (x := (upd (upd (upd (upd (fun _ => 0) (ix 0) 1) (ix 1) 1) (ix 2) 1) (ix 3) 1)) hx hb hI hf_182 (by unfold vp_in; decide) dX5_init_123 (fun f_188 H locs e_189 hI => ?_)
  have e_189 : f_188 = va_up f_180 q_141 (some (.inl (cy 0, 6, .inl (upd (upd (upd (upd (upd (fun _ => 0) (ix 0) 1) (ix 1) 1) (ix 2) 1) (ix 3) 1) (ix 4) 1)))) := e_189
  have hf_190 : f_188 q_141 = some (.inl (cy 0, 6, .inl (upd (upd (upd (upd (upd (fun _ => 0) (ix 0) 1) (ix 1) 1) (ix 2) 1) (ix 3) 1) (ix 4) 1))) := by rw [e_189]; exact va_up_self _ _ _
  have hf_191 : f_188 mm = some (.inr (6, [.int 0, .ref q_1, .ref q_28, .ref q_62, .ref q_79, .null, .int 0, .null, .null, .null, .null, .null, .null, .int 0, .null, .null, .null, .null, .null, .null, .null, .null, .int 0])) := by rw [e_189, va_up_ne _ _ (hn_145)]; exact hf_183
  have hf_192 : f_188 q_1 = some (.inl (cy 0, 4, .inl (upd (upd (upd (upd (fun _ => 0) (ix 0) 10) (ix 1) 10) (ix 2) 10) (ix 3) 10))) := by rw [e_189, va_up_ne _ _ (hn_146)]; exact hf_184
  have hf_193 : f_188 q_28 = some (.inl (cy 0, 4, .inl (upd (upd (upd (upd (fun _ => 0) (ix 0) 1) (ix 1) 1) (ix 2) 1) (ix 3) 1))) := by rw [e_189, va_up_ne _ _ (hn_147)]; exact hf_185
  have hf_194 : f_188 q_62 = some (.inl (cy 0, 4, .inl (fun _ => 0))) := by rw [e_189, va_up_ne _ _ (hn_148)]; exact hf_186
  have hf_195 : f_188 q_79 = some (.inl (cy 0, 6, .inl (upd (upd (upd (upd (upd (upd (fun _ => 0) (ix 0) 10) (ix 1) 10) (ix 2) 10) (ix 3) 10) (ix 4) 10) (ix 5) 10))) := by rw [e_189, va_up_ne _ _ (hn_149)]; exact hf_187
  refine lv_dup hx hb dX5_init_124 rfl ?_
  refine lv_iconst (v := 5) hx hb dX5_init_125 (by decide) ?_
  refine lv_iconst (v := 1) hx hb dX5_init_126 (by decide) ?_
  refine g_iast (n := 6) (x := (upd (upd (upd (upd (upd (fun _ => 0) (ix 0) 1) (ix 1) 1) (ix 2) 1) (ix 3) 1) (ix 4) 1)) hx hb hI hf_190 (by unfold vp_in; decide) dX5_init_127 (fun f_196 H locs e_197 hI => ?_)
  have e_197 : f_196 = va_up f_188 q_141 (some (.inl (cy 0, 6, .inl (upd (upd (upd (upd (upd (upd (fun _ => 0) (ix 0) 1) (ix 1) 1) (ix 2) 1) (ix 3) 1) (ix 4) 1) (ix 5) 1)))) := e_197
  have hf_198 : f_196 q_141 = some (.inl (cy 0, 6, .inl (upd (upd (upd (upd (upd (upd (fun _ => 0) (ix 0) 1) (ix 1) 1) (ix 2) 1) (ix 3) 1) (ix 4) 1) (ix 5) 1))) := by rw [e_197]; exact va_up_self _ _ _
  have hf_199 : f_196 mm = some (.inr (6, [.int 0, .ref q_1, .ref q_28, .ref q_62, .ref q_79, .null, .int 0, .null, .null, .null, .null, .null, .null, .int 0, .null, .null, .null, .null, .null, .null, .null, .null, .int 0])) := by rw [e_197, va_up_ne _ _ (hn_145)]; exact hf_191
  have hf_200 : f_196 q_1 = some (.inl (cy 0, 4, .inl (upd (upd (upd (upd (fun _ => 0) (ix 0) 10) (ix 1) 10) (ix 2) 10) (ix 3) 10))) := by rw [e_197, va_up_ne _ _ (hn_146)]; exact hf_192
  have hf_201 : f_196 q_28 = some (.inl (cy 0, 4, .inl (upd (upd (upd (upd (fun _ => 0) (ix 0) 1) (ix 1) 1) (ix 2) 1) (ix 3) 1))) := by rw [e_197, va_up_ne _ _ (hn_147)]; exact hf_193
  have hf_202 : f_196 q_62 = some (.inl (cy 0, 4, .inl (fun _ => 0))) := by rw [e_197, va_up_ne _ _ (hn_148)]; exact hf_194
  have hf_203 : f_196 q_79 = some (.inl (cy 0, 6, .inl (upd (upd (upd (upd (upd (upd (fun _ => 0) (ix 0) 10) (ix 1) 10) (ix 2) 10) (ix 3) 10) (ix 4) 10) (ix 5) 10))) := by rw [e_197, va_up_ne _ _ (hn_149)]; exact hf_195
  refine g_putF (ci := 6) (v := .ref q_141) (ty := (.array .int)) (C := RX5) (T := TX5) (N := 23) hx hb hts hinX5 tyX5 tyX5_ok nmX5 hown hI hf_199 rfl 5 (by decide) hw8 (fun _ h9 => h9) rfl hin rfl (by decide +kernel) rfl rfl (Nat.le_of_ble_eq_true rfl) dX5_init_128 (fun f_204 H locs e_205 hI => ?_)
  have e_205 : f_204 = va_up f_196 mm (some (.inr (6, [.int 0, .ref q_1, .ref q_28, .ref q_62, .ref q_79, .ref q_141, .int 0, .null, .null, .null, .null, .null, .null, .int 0, .null, .null, .null, .null, .null, .null, .null, .null, .int 0]))) := e_205
  have hf_206 : f_204 mm = some (.inr (6, [.int 0, .ref q_1, .ref q_28, .ref q_62, .ref q_79, .ref q_141, .int 0, .null, .null, .null, .null, .null, .null, .int 0, .null, .null, .null, .null, .null, .null, .null, .null, .int 0])) := by rw [e_205]; exact va_up_self _ _ _
  have hf_207 : f_204 q_1 = some (.inl (cy 0, 4, .inl (upd (upd (upd (upd (fun _ => 0) (ix 0) 10) (ix 1) 10) (ix 2) 10) (ix 3) 10))) := by rw [e_205, va_up_ne _ _ ((Ne.symm hn_5))]; exact hf_200
  have hf_208 : f_204 q_28 = some (.inl (cy 0, 4, .inl (upd (upd (upd (upd (fun _ => 0) (ix 0) 1) (ix 1) 1) (ix 2) 1) (ix 3) 1))) := by rw [e_205, va_up_ne _ _ ((Ne.symm hn_32))]; exact hf_201
  have hf_209 : f_204 q_62 = some (.inl (cy 0, 4, .inl (fun _ => 0))) := by rw [e_205, va_up_ne _ _ ((Ne.symm hn_66))]; exact hf_202
  have hf_210 : f_204 q_79 = some (.inl (cy 0, 6, .inl (upd (upd (upd (upd (upd (upd (fun _ => 0) (ix 0) 10) (ix 1) 10) (ix 2) 10) (ix 3) 10) (ix 4) 10) (ix 5) 10))) := by rw [e_205, va_up_ne _ _ ((Ne.symm hn_83))]; exact hf_203
  have hf_211 : f_204 q_141 = some (.inl (cy 0, 6, .inl (upd (upd (upd (upd (upd (upd (fun _ => 0) (ix 0) 1) (ix 1) 1) (ix 2) 1) (ix 3) 1) (ix 4) 1) (ix 5) 1))) := by rw [e_205, va_up_ne _ _ ((Ne.symm hn_145))]; exact hf_198
  refine lv_aload_n hx hb dX5_init_131 rfl (lv_at hl 0 rfl) ?_
  refine lv_bipush (v := 8) hx hb dX5_init_132 (by decide) ?_
  refine g_newi (N' := 8) hx hb hw3 hI (by decide) (by decide) (by decide) (Nat.le_of_ble_eq_true rfl) (Nat.le_of_ble_eq_true rfl) dX5_init_134 (fun q_212 f_213 H hq_215 e_214 hI => ?_)
  have hn_216 : mm ≠ q_212 := g_nn hf_206 hq_215
  have hn_217 : q_1 ≠ q_212 := g_nn hf_207 hq_215
  have hn_218 : q_28 ≠ q_212 := g_nn hf_208 hq_215
  have hn_219 : q_62 ≠ q_212 := g_nn hf_209 hq_215
  have hn_220 : q_79 ≠ q_212 := g_nn hf_210 hq_215
  have hn_221 : q_141 ≠ q_212 := g_nn hf_211 hq_215
  have e_214 : f_213 = va_up f_204 q_212 (some (.inl (cy 0, 8, .inl (fun _ => 0)))) := e_214
  have hf_222 : f_213 q_212 = some (.inl (cy 0, 8, .inl (fun _ => 0))) := by rw [e_214]; exact va_up_self _ _ _
  have hf_223 : f_213 mm = some (.inr (6, [.int 0, .ref q_1, .ref q_28, .ref q_62, .ref q_79, .ref q_141, .int 0, .null, .null, .null, .null, .null, .null, .int 0, .null, .null, .null, .null, .null, .null, .null, .null, .int 0])) := by rw [e_214, va_up_ne _ _ (hn_216)]; exact hf_206
  have hf_224 : f_213 q_1 = some (.inl (cy 0, 4, .inl (upd (upd (upd (upd (fun _ => 0) (ix 0) 10) (ix 1) 10) (ix 2) 10) (ix 3) 10))) := by rw [e_214, va_up_ne _ _ (hn_217)]; exact hf_207
  have hf_225 : f_213 q_28 = some (.inl (cy 0, 4, .inl (upd (upd (upd (upd (fun _ => 0) (ix 0) 1) (ix 1) 1) (ix 2) 1) (ix 3) 1))) := by rw [e_214, va_up_ne _ _ (hn_218)]; exact hf_208
  have hf_226 : f_213 q_62 = some (.inl (cy 0, 4, .inl (fun _ => 0))) := by rw [e_214, va_up_ne _ _ (hn_219)]; exact hf_209
  have hf_227 : f_213 q_79 = some (.inl (cy 0, 6, .inl (upd (upd (upd (upd (upd (upd (fun _ => 0) (ix 0) 10) (ix 1) 10) (ix 2) 10) (ix 3) 10) (ix 4) 10) (ix 5) 10))) := by rw [e_214, va_up_ne _ _ (hn_220)]; exact hf_210
  have hf_228 : f_213 q_141 = some (.inl (cy 0, 6, .inl (upd (upd (upd (upd (upd (upd (fun _ => 0) (ix 0) 1) (ix 1) 1) (ix 2) 1) (ix 3) 1) (ix 4) 1) (ix 5) 1))) := by rw [e_214, va_up_ne _ _ (hn_221)]; exact hf_211
  refine g_putF (ci := 6) (v := .ref q_212) (ty := (.array .int)) (C := RX5) (T := TX5) (N := 23) hx hb hts hinX5 tyX5 tyX5_ok nmX5 hown hI hf_223 rfl 7 (by decide) hw9 (fun _ h9 => h9) rfl hin rfl (by decide +kernel) rfl rfl (Nat.le_of_ble_eq_true rfl) dX5_init_136 (fun f_229 H locs e_230 hI => ?_)
  have e_230 : f_229 = va_up f_213 mm (some (.inr (6, [.int 0, .ref q_1, .ref q_28, .ref q_62, .ref q_79, .ref q_141, .int 0, .ref q_212, .null, .null, .null, .null, .null, .int 0, .null, .null, .null, .null, .null, .null, .null, .null, .int 0]))) := e_230
  have hf_231 : f_229 mm = some (.inr (6, [.int 0, .ref q_1, .ref q_28, .ref q_62, .ref q_79, .ref q_141, .int 0, .ref q_212, .null, .null, .null, .null, .null, .int 0, .null, .null, .null, .null, .null, .null, .null, .null, .int 0])) := by rw [e_230]; exact va_up_self _ _ _
  have hf_232 : f_229 q_1 = some (.inl (cy 0, 4, .inl (upd (upd (upd (upd (fun _ => 0) (ix 0) 10) (ix 1) 10) (ix 2) 10) (ix 3) 10))) := by rw [e_230, va_up_ne _ _ ((Ne.symm hn_5))]; exact hf_224
  have hf_233 : f_229 q_28 = some (.inl (cy 0, 4, .inl (upd (upd (upd (upd (fun _ => 0) (ix 0) 1) (ix 1) 1) (ix 2) 1) (ix 3) 1))) := by rw [e_230, va_up_ne _ _ ((Ne.symm hn_32))]; exact hf_225
  have hf_234 : f_229 q_62 = some (.inl (cy 0, 4, .inl (fun _ => 0))) := by rw [e_230, va_up_ne _ _ ((Ne.symm hn_66))]; exact hf_226
  have hf_235 : f_229 q_79 = some (.inl (cy 0, 6, .inl (upd (upd (upd (upd (upd (upd (fun _ => 0) (ix 0) 10) (ix 1) 10) (ix 2) 10) (ix 3) 10) (ix 4) 10) (ix 5) 10))) := by rw [e_230, va_up_ne _ _ ((Ne.symm hn_83))]; exact hf_227
  have hf_236 : f_229 q_141 = some (.inl (cy 0, 6, .inl (upd (upd (upd (upd (upd (upd (fun _ => 0) (ix 0) 1) (ix 1) 1) (ix 2) 1) (ix 3) 1) (ix 4) 1) (ix 5) 1))) := by rw [e_230, va_up_ne _ _ ((Ne.symm hn_145))]; exact hf_228
  have hf_237 : f_229 q_212 = some (.inl (cy 0, 8, .inl (fun _ => 0))) := by rw [e_230, va_up_ne _ _ ((Ne.symm hn_216))]; exact hf_222
  refine lv_aload_n hx hb dX5_init_139 rfl (lv_at hl 0 rfl) ?_
  refine lv_bipush (v := 8) hx hb dX5_init_140 (by decide) ?_
  refine g_newi (N' := 8) hx hb hw3 hI (by decide) (by decide) (by decide) (Nat.le_of_ble_eq_true rfl) (Nat.le_of_ble_eq_true rfl) dX5_init_142 (fun q_238 f_239 H hq_241 e_240 hI => ?_)
  have hn_242 : mm ≠ q_238 := g_nn hf_231 hq_241
  have hn_243 : q_1 ≠ q_238 := g_nn hf_232 hq_241
  have hn_244 : q_28 ≠ q_238 := g_nn hf_233 hq_241
  have hn_245 : q_62 ≠ q_238 := g_nn hf_234 hq_241
  have hn_246 : q_79 ≠ q_238 := g_nn hf_235 hq_241
  have hn_247 : q_141 ≠ q_238 := g_nn hf_236 hq_241
  have hn_248 : q_212 ≠ q_238 := g_nn hf_237 hq_241
  have e_240 : f_239 = va_up f_229 q_238 (some (.inl (cy 0, 8, .inl (fun _ => 0)))) := e_240
  have hf_249 : f_239 q_238 = some (.inl (cy 0, 8, .inl (fun _ => 0))) := by rw [e_240]; exact va_up_self _ _ _
  have hf_250 : f_239 mm = some (.inr (6, [.int 0, .ref q_1, .ref q_28, .ref q_62, .ref q_79, .ref q_141, .int 0, .ref q_212, .null, .null, .null, .null, .null, .int 0, .null, .null, .null, .null, .null, .null, .null, .null, .int 0])) := by rw [e_240, va_up_ne _ _ (hn_242)]; exact hf_231
  have hf_251 : f_239 q_1 = some (.inl (cy 0, 4, .inl (upd (upd (upd (upd (fun _ => 0) (ix 0) 10) (ix 1) 10) (ix 2) 10) (ix 3) 10))) := by rw [e_240, va_up_ne _ _ (hn_243)]; exact hf_232
  have hf_252 : f_239 q_28 = some (.inl (cy 0, 4, .inl (upd (upd (upd (upd (fun _ => 0) (ix 0) 1) (ix 1) 1) (ix 2) 1) (ix 3) 1))) := by rw [e_240, va_up_ne _ _ (hn_244)]; exact hf_233
  have hf_253 : f_239 q_62 = some (.inl (cy 0, 4, .inl (fun _ => 0))) := by rw [e_240, va_up_ne _ _ (hn_245)]; exact hf_234
  have hf_254 : f_239 q_79 = some (.inl (cy 0, 6, .inl (upd (upd (upd (upd (upd (upd (fun _ => 0) (ix 0) 10) (ix 1) 10) (ix 2) 10) (ix 3) 10) (ix 4) 10) (ix 5) 10))) := by rw [e_240, va_up_ne _ _ (hn_246)]; exact hf_235
  have hf_255 : f_239 q_141 = some (.inl (cy 0, 6, .inl (upd (upd (upd (upd (upd (upd (fun _ => 0) (ix 0) 1) (ix 1) 1) (ix 2) 1) (ix 3) 1) (ix 4) 1) (ix 5) 1))) := by rw [e_240, va_up_ne _ _ (hn_247)]; exact hf_236
  have hf_256 : f_239 q_212 = some (.inl (cy 0, 8, .inl (fun _ => 0))) := by rw [e_240, va_up_ne _ _ (hn_248)]; exact hf_237
  refine g_putF (ci := 6) (v := .ref q_238) (ty := (.array .int)) (C := RX5) (T := TX5) (N := 23) hx hb hts hinX5 tyX5 tyX5_ok nmX5 hown hI hf_250 rfl 8 (by decide) hw10 (fun _ h9 => h9) rfl hin rfl (by decide +kernel) rfl rfl (Nat.le_of_ble_eq_true rfl) dX5_init_144 (fun f_257 H locs e_258 hI => ?_)
  have e_258 : f_257 = va_up f_239 mm (some (.inr (6, [.int 0, .ref q_1, .ref q_28, .ref q_62, .ref q_79, .ref q_141, .int 0, .ref q_212, .ref q_238, .null, .null, .null, .null, .int 0, .null, .null, .null, .null, .null, .null, .null, .null, .int 0]))) := e_258
  have hf_259 : f_257 mm = some (.inr (6, [.int 0, .ref q_1, .ref q_28, .ref q_62, .ref q_79, .ref q_141, .int 0, .ref q_212, .ref q_238, .null, .null, .null, .null, .int 0, .null, .null, .null, .null, .null, .null, .null, .null, .int 0])) := by rw [e_258]; exact va_up_self _ _ _
  have hf_260 : f_257 q_1 = some (.inl (cy 0, 4, .inl (upd (upd (upd (upd (fun _ => 0) (ix 0) 10) (ix 1) 10) (ix 2) 10) (ix 3) 10))) := by rw [e_258, va_up_ne _ _ ((Ne.symm hn_5))]; exact hf_251
  have hf_261 : f_257 q_28 = some (.inl (cy 0, 4, .inl (upd (upd (upd (upd (fun _ => 0) (ix 0) 1) (ix 1) 1) (ix 2) 1) (ix 3) 1))) := by rw [e_258, va_up_ne _ _ ((Ne.symm hn_32))]; exact hf_252
  have hf_262 : f_257 q_62 = some (.inl (cy 0, 4, .inl (fun _ => 0))) := by rw [e_258, va_up_ne _ _ ((Ne.symm hn_66))]; exact hf_253
  have hf_263 : f_257 q_79 = some (.inl (cy 0, 6, .inl (upd (upd (upd (upd (upd (upd (fun _ => 0) (ix 0) 10) (ix 1) 10) (ix 2) 10) (ix 3) 10) (ix 4) 10) (ix 5) 10))) := by rw [e_258, va_up_ne _ _ ((Ne.symm hn_83))]; exact hf_254
  have hf_264 : f_257 q_141 = some (.inl (cy 0, 6, .inl (upd (upd (upd (upd (upd (upd (fun _ => 0) (ix 0) 1) (ix 1) 1) (ix 2) 1) (ix 3) 1) (ix 4) 1) (ix 5) 1))) := by rw [e_258, va_up_ne _ _ ((Ne.symm hn_145))]; exact hf_255
  have hf_265 : f_257 q_212 = some (.inl (cy 0, 8, .inl (fun _ => 0))) := by rw [e_258, va_up_ne _ _ ((Ne.symm hn_216))]; exact hf_256
  have hf_266 : f_257 q_238 = some (.inl (cy 0, 8, .inl (fun _ => 0))) := by rw [e_258, va_up_ne _ _ ((Ne.symm hn_242))]; exact hf_249
  refine lv_aload_n hx hb dX5_init_147 rfl (lv_at hl 0 rfl) ?_
  refine lv_bipush (v := 8) hx hb dX5_init_148 (by decide) ?_
  refine g_newi (N' := 8) hx hb hw3 hI (by decide) (by decide) (by decide) (Nat.le_of_ble_eq_true rfl) (Nat.le_of_ble_eq_true rfl) dX5_init_150 (fun q_267 f_268 H hq_270 e_269 hI => ?_)
  have hn_271 : mm ≠ q_267 := g_nn hf_259 hq_270
  have hn_272 : q_1 ≠ q_267 := g_nn hf_260 hq_270
  have hn_273 : q_28 ≠ q_267 := g_nn hf_261 hq_270
  have hn_274 : q_62 ≠ q_267 := g_nn hf_262 hq_270
  have hn_275 : q_79 ≠ q_267 := g_nn hf_263 hq_270
  have hn_276 : q_141 ≠ q_267 := g_nn hf_264 hq_270
  have hn_277 : q_212 ≠ q_267 := g_nn hf_265 hq_270
  have hn_278 : q_238 ≠ q_267 := g_nn hf_266 hq_270
  have e_269 : f_268 = va_up f_257 q_267 (some (.inl (cy 0, 8, .inl (fun _ => 0)))) := e_269
  have hf_279 : f_268 q_267 = some (.inl (cy 0, 8, .inl (fun _ => 0))) := by rw [e_269]; exact va_up_self _ _ _
  have hf_280 : f_268 mm = some (.inr (6, [.int 0, .ref q_1, .ref q_28, .ref q_62, .ref q_79, .ref q_141, .int 0, .ref q_212, .ref q_238, .null, .null, .null, .null, .int 0, .null, .null, .null, .null, .null, .null, .null, .null, .int 0])) := by rw [e_269, va_up_ne _ _ (hn_271)]; exact hf_259
  have hf_281 : f_268 q_1 = some (.inl (cy 0, 4, .inl (upd (upd (upd (upd (fun _ => 0) (ix 0) 10) (ix 1) 10) (ix 2) 10) (ix 3) 10))) := by rw [e_269, va_up_ne _ _ (hn_272)]; exact hf_260
  have hf_282 : f_268 q_28 = some (.inl (cy 0, 4, .inl (upd (upd (upd (upd (fun _ => 0) (ix 0) 1) (ix 1) 1) (ix 2) 1) (ix 3) 1))) := by rw [e_269, va_up_ne _ _ (hn_273)]; exact hf_261
  have hf_283 : f_268 q_62 = some (.inl (cy 0, 4, .inl (fun _ => 0))) := by rw [e_269, va_up_ne _ _ (hn_274)]; exact hf_262
  have hf_284 : f_268 q_79 = some (.inl (cy 0, 6, .inl (upd (upd (upd (upd (upd (upd (fun _ => 0) (ix 0) 10) (ix 1) 10) (ix 2) 10) (ix 3) 10) (ix 4) 10) (ix 5) 10))) := by rw [e_269, va_up_ne _ _ (hn_275)]; exact hf_263
  have hf_285 : f_268 q_141 = some (.inl (cy 0, 6, .inl (upd (upd (upd (upd (upd (upd (fun _ => 0) (ix 0) 1) (ix 1) 1) (ix 2) 1) (ix 3) 1) (ix 4) 1) (ix 5) 1))) := by rw [e_269, va_up_ne _ _ (hn_276)]; exact hf_264
  have hf_286 : f_268 q_212 = some (.inl (cy 0, 8, .inl (fun _ => 0))) := by rw [e_269, va_up_ne _ _ (hn_277)]; exact hf_265
  have hf_287 : f_268 q_238 = some (.inl (cy 0, 8, .inl (fun _ => 0))) := by rw [e_269, va_up_ne _ _ (hn_278)]; exact hf_266
  refine g_putF (ci := 6) (v := .ref q_267) (ty := (.array .int)) (C := RX5) (T := TX5) (N := 23) hx hb hts hinX5 tyX5 tyX5_ok nmX5 hown hI hf_280 rfl 9 (by decide) hw11 (fun _ h9 => h9) rfl hin rfl (by decide +kernel) rfl rfl (Nat.le_of_ble_eq_true rfl) dX5_init_152 (fun f_288 H locs e_289 hI => ?_)
  have e_289 : f_288 = va_up f_268 mm (some (.inr (6, [.int 0, .ref q_1, .ref q_28, .ref q_62, .ref q_79, .ref q_141, .int 0, .ref q_212, .ref q_238, .ref q_267, .null, .null, .null, .int 0, .null, .null, .null, .null, .null, .null, .null, .null, .int 0]))) := e_289
  have hf_290 : f_288 mm = some (.inr (6, [.int 0, .ref q_1, .ref q_28, .ref q_62, .ref q_79, .ref q_141, .int 0, .ref q_212, .ref q_238, .ref q_267, .null, .null, .null, .int 0, .null, .null, .null, .null, .null, .null, .null, .null, .int 0])) := by rw [e_289]; exact va_up_self _ _ _
  have hf_291 : f_288 q_1 = some (.inl (cy 0, 4, .inl (upd (upd (upd (upd (fun _ => 0) (ix 0) 10) (ix 1) 10) (ix 2) 10) (ix 3) 10))) := by rw [e_289, va_up_ne _ _ ((Ne.symm hn_5))]; exact hf_281
  have hf_292 : f_288 q_28 = some (.inl (cy 0, 4, .inl (upd (upd (upd (upd (fun _ => 0) (ix 0) 1) (ix 1) 1) (ix 2) 1) (ix 3) 1))) := by rw [e_289, va_up_ne _ _ ((Ne.symm hn_32))]; exact hf_282
  have hf_293 : f_288 q_62 = some (.inl (cy 0, 4, .inl (fun _ => 0))) := by rw [e_289, va_up_ne _ _ ((Ne.symm hn_66))]; exact hf_283
  have hf_294 : f_288 q_79 = some (.inl (cy 0, 6, .inl (upd (upd (upd (upd (upd (upd (fun _ => 0) (ix 0) 10) (ix 1) 10) (ix 2) 10) (ix 3) 10) (ix 4) 10) (ix 5) 10))) := by rw [e_289, va_up_ne _ _ ((Ne.symm hn_83))]; exact hf_284
  have hf_295 : f_288 q_141 = some (.inl (cy 0, 6, .inl (upd (upd (upd (upd (upd (upd (fun _ => 0) (ix 0) 1) (ix 1) 1) (ix 2) 1) (ix 3) 1) (ix 4) 1) (ix 5) 1))) := by rw [e_289, va_up_ne _ _ ((Ne.symm hn_145))]; exact hf_285
  have hf_296 : f_288 q_212 = some (.inl (cy 0, 8, .inl (fun _ => 0))) := by rw [e_289, va_up_ne _ _ ((Ne.symm hn_216))]; exact hf_286
  have hf_297 : f_288 q_238 = some (.inl (cy 0, 8, .inl (fun _ => 0))) := by rw [e_289, va_up_ne _ _ ((Ne.symm hn_242))]; exact hf_287
  have hf_298 : f_288 q_267 = some (.inl (cy 0, 8, .inl (fun _ => 0))) := by rw [e_289, va_up_ne _ _ ((Ne.symm hn_271))]; exact hf_279
  refine lv_aload_n hx hb dX5_init_155 rfl (lv_at hl 0 rfl) ?_
  refine lv_bipush (v := 8) hx hb dX5_init_156 (by decide) ?_
  refine g_newi (N' := 8) hx hb hw3 hI (by decide) (by decide) (by decide) (Nat.le_of_ble_eq_true rfl) (Nat.le_of_ble_eq_true rfl) dX5_init_158 (fun q_299 f_300 H hq_302 e_301 hI => ?_)
  have hn_303 : mm ≠ q_299 := g_nn hf_290 hq_302
  have hn_304 : q_1 ≠ q_299 := g_nn hf_291 hq_302
  have hn_305 : q_28 ≠ q_299 := g_nn hf_292 hq_302
  have hn_306 : q_62 ≠ q_299 := g_nn hf_293 hq_302
  have hn_307 : q_79 ≠ q_299 := g_nn hf_294 hq_302
  have hn_308 : q_141 ≠ q_299 := g_nn hf_295 hq_302
  have hn_309 : q_212 ≠ q_299 := g_nn hf_296 hq_302
  have hn_310 : q_238 ≠ q_299 := g_nn hf_297 hq_302
  have hn_311 : q_267 ≠ q_299 := g_nn hf_298 hq_302
  have e_301 : f_300 = va_up f_288 q_299 (some (.inl (cy 0, 8, .inl (fun _ => 0)))) := e_301
  have hf_312 : f_300 q_299 = some (.inl (cy 0, 8, .inl (fun _ => 0))) := by rw [e_301]; exact va_up_self _ _ _
  have hf_313 : f_300 mm = some (.inr (6, [.int 0, .ref q_1, .ref q_28, .ref q_62, .ref q_79, .ref q_141, .int 0, .ref q_212, .ref q_238, .ref q_267, .null, .null, .null, .int 0, .null, .null, .null, .null, .null, .null, .null, .null, .int 0])) := by rw [e_301, va_up_ne _ _ (hn_303)]; exact hf_290
  have hf_314 : f_300 q_1 = some (.inl (cy 0, 4, .inl (upd (upd (upd (upd (fun _ => 0) (ix 0) 10) (ix 1) 10) (ix 2) 10) (ix 3) 10))) := by rw [e_301, va_up_ne _ _ (hn_304)]; exact hf_291
  have hf_315 : f_300 q_28 = some (.inl (cy 0, 4, .inl (upd (upd (upd (upd (fun _ => 0) (ix 0) 1) (ix 1) 1) (ix 2) 1) (ix 3) 1))) := by rw [e_301, va_up_ne _ _ (hn_305)]; exact hf_292
  have hf_316 : f_300 q_62 = some (.inl (cy 0, 4, .inl (fun _ => 0))) := by rw [e_301, va_up_ne _ _ (hn_306)]; exact hf_293
  have hf_317 : f_300 q_79 = some (.inl (cy 0, 6, .inl (upd (upd (upd (upd (upd (upd (fun _ => 0) (ix 0) 10) (ix 1) 10) (ix 2) 10) (ix 3) 10) (ix 4) 10) (ix 5) 10))) := by rw [e_301, va_up_ne _ _ (hn_307)]; exact hf_294
  have hf_318 : f_300 q_141 = some (.inl (cy 0, 6, .inl (upd (upd (upd (upd (upd (upd (fun _ => 0) (ix 0) 1) (ix 1) 1) (ix 2) 1) (ix 3) 1) (ix 4) 1) (ix 5) 1))) := by rw [e_301, va_up_ne _ _ (hn_308)]; exact hf_295
  have hf_319 : f_300 q_212 = some (.inl (cy 0, 8, .inl (fun _ => 0))) := by rw [e_301, va_up_ne _ _ (hn_309)]; exact hf_296
  have hf_320 : f_300 q_238 = some (.inl (cy 0, 8, .inl (fun _ => 0))) := by rw [e_301, va_up_ne _ _ (hn_310)]; exact hf_297
  have hf_321 : f_300 q_267 = some (.inl (cy 0, 8, .inl (fun _ => 0))) := by rw [e_301, va_up_ne _ _ (hn_311)]; exact hf_298
  refine g_putF (ci := 6) (v := .ref q_299) (ty := (.array .int)) (C := RX5) (T := TX5) (N := 23) hx hb hts hinX5 tyX5 tyX5_ok nmX5 hown hI hf_313 rfl 10 (by decide) hw12 (fun _ h9 => h9) rfl hin rfl (by decide +kernel) rfl rfl (Nat.le_of_ble_eq_true rfl) dX5_init_160 (fun f_322 H locs e_323 hI => ?_)
  have e_323 : f_322 = va_up f_300 mm (some (.inr (6, [.int 0, .ref q_1, .ref q_28, .ref q_62, .ref q_79, .ref q_141, .int 0, .ref q_212, .ref q_238, .ref q_267, .ref q_299, .null, .null, .int 0, .null, .null, .null, .null, .null, .null, .null, .null, .int 0]))) := e_323
  have hf_324 : f_322 mm = some (.inr (6, [.int 0, .ref q_1, .ref q_28, .ref q_62, .ref q_79, .ref q_141, .int 0, .ref q_212, .ref q_238, .ref q_267, .ref q_299, .null, .null, .int 0, .null, .null, .null, .null, .null, .null, .null, .null, .int 0])) := by rw [e_323]; exact va_up_self _ _ _
  have hf_325 : f_322 q_1 = some (.inl (cy 0, 4, .inl (upd (upd (upd (upd (fun _ => 0) (ix 0) 10) (ix 1) 10) (ix 2) 10) (ix 3) 10))) := by rw [e_323, va_up_ne _ _ ((Ne.symm hn_5))]; exact hf_314
  have hf_326 : f_322 q_28 = some (.inl (cy 0, 4, .inl (upd (upd (upd (upd (fun _ => 0) (ix 0) 1) (ix 1) 1) (ix 2) 1) (ix 3) 1))) := by rw [e_323, va_up_ne _ _ ((Ne.symm hn_32))]; exact hf_315
  have hf_327 : f_322 q_62 = some (.inl (cy 0, 4, .inl (fun _ => 0))) := by rw [e_323, va_up_ne _ _ ((Ne.symm hn_66))]; exact hf_316
  have hf_328 : f_322 q_79 = some (.inl (cy 0, 6, .inl (upd (upd (upd (upd (upd (upd (fun _ => 0) (ix 0) 10) (ix 1) 10) (ix 2) 10) (ix 3) 10) (ix 4) 10) (ix 5) 10))) := by rw [e_323, va_up_ne _ _ ((Ne.symm hn_83))]; exact hf_317
  have hf_329 : f_322 q_141 = some (.inl (cy 0, 6, .inl (upd (upd (upd (upd (upd (upd (fun _ => 0) (ix 0) 1) (ix 1) 1) (ix 2) 1) (ix 3) 1) (ix 4) 1) (ix 5) 1))) := by rw [e_323, va_up_ne _ _ ((Ne.symm hn_145))]; exact hf_318
  have hf_330 : f_322 q_212 = some (.inl (cy 0, 8, .inl (fun _ => 0))) := by rw [e_323, va_up_ne _ _ ((Ne.symm hn_216))]; exact hf_319
  have hf_331 : f_322 q_238 = some (.inl (cy 0, 8, .inl (fun _ => 0))) := by rw [e_323, va_up_ne _ _ ((Ne.symm hn_242))]; exact hf_320
  have hf_332 : f_322 q_267 = some (.inl (cy 0, 8, .inl (fun _ => 0))) := by rw [e_323, va_up_ne _ _ ((Ne.symm hn_271))]; exact hf_321
  have hf_333 : f_322 q_299 = some (.inl (cy 0, 8, .inl (fun _ => 0))) := by rw [e_323, va_up_ne _ _ ((Ne.symm hn_303))]; exact hf_312
  refine lv_aload_n hx hb dX5_init_163 rfl (lv_at hl 0 rfl) ?_
  refine lv_bipush (v := 8) hx hb dX5_init_164 (by decide) ?_
  refine g_newi (N' := 8) hx hb hw3 hI (by decide) (by decide) (by decide) (Nat.le_of_ble_eq_true rfl) (Nat.le_of_ble_eq_true rfl) dX5_init_166 (fun q_334 f_335 H hq_337 e_336 hI => ?_)
  have hn_338 : mm ≠ q_334 := g_nn hf_324 hq_337
  have hn_339 : q_1 ≠ q_334 := g_nn hf_325 hq_337
  have hn_340 : q_28 ≠ q_334 := g_nn hf_326 hq_337
  have hn_341 : q_62 ≠ q_334 := g_nn hf_327 hq_337
  have hn_342 : q_79 ≠ q_334 := g_nn hf_328 hq_337
  have hn_343 : q_141 ≠ q_334 := g_nn hf_329 hq_337
  have hn_344 : q_212 ≠ q_334 := g_nn hf_330 hq_337
  have hn_345 : q_238 ≠ q_334 := g_nn hf_331 hq_337
  have hn_346 : q_267 ≠ q_334 := g_nn hf_332 hq_337
  have hn_347 : q_299 ≠ q_334 := g_nn hf_333 hq_337
  have e_336 : f_335 = va_up f_322 q_334 (some (.inl (cy 0, 8, .inl (fun _ => 0)))) := e_336
  have hf_348 : f_335 q_334 = some (.inl (cy 0, 8, .inl (fun _ => 0))) := by rw [e_336]; exact va_up_self _ _ _
  have hf_349 : f_335 mm = some (.inr (6, [.int 0, .ref q_1, .ref q_28, .ref q_62, .ref q_79, .ref q_141, .int 0, .ref q_212, .ref q_238, .ref q_267, .ref q_299, .null, .null, .int 0, .null, .null, .null, .null, .null, .null, .null, .null, .int 0])) := by rw [e_336, va_up_ne _ _ (hn_338)]; exact hf_324
  have hf_350 : f_335 q_1 = some (.inl (cy 0, 4, .inl (upd (upd (upd (upd (fun _ => 0) (ix 0) 10) (ix 1) 10) (ix 2) 10) (ix 3) 10))) := by rw [e_336, va_up_ne _ _ (hn_339)]; exact hf_325
  have hf_351 : f_335 q_28 = some (.inl (cy 0, 4, .inl (upd (upd (upd (upd (fun _ => 0) (ix 0) 1) (ix 1) 1) (ix 2) 1) (ix 3) 1))) := by rw [e_336, va_up_ne _ _ (hn_340)]; exact hf_326
  have hf_352 : f_335 q_62 = some (.inl (cy 0, 4, .inl (fun _ => 0))) := by rw [e_336, va_up_ne _ _ (hn_341)]; exact hf_327
  have hf_353 : f_335 q_79 = some (.inl (cy 0, 6, .inl (upd (upd (upd (upd (upd (upd (fun _ => 0) (ix 0) 10) (ix 1) 10) (ix 2) 10) (ix 3) 10) (ix 4) 10) (ix 5) 10))) := by rw [e_336, va_up_ne _ _ (hn_342)]; exact hf_328
  have hf_354 : f_335 q_141 = some (.inl (cy 0, 6, .inl (upd (upd (upd (upd (upd (upd (fun _ => 0) (ix 0) 1) (ix 1) 1) (ix 2) 1) (ix 3) 1) (ix 4) 1) (ix 5) 1))) := by rw [e_336, va_up_ne _ _ (hn_343)]; exact hf_329
  have hf_355 : f_335 q_212 = some (.inl (cy 0, 8, .inl (fun _ => 0))) := by rw [e_336, va_up_ne _ _ (hn_344)]; exact hf_330
  have hf_356 : f_335 q_238 = some (.inl (cy 0, 8, .inl (fun _ => 0))) := by rw [e_336, va_up_ne _ _ (hn_345)]; exact hf_331
  have hf_357 : f_335 q_267 = some (.inl (cy 0, 8, .inl (fun _ => 0))) := by rw [e_336, va_up_ne _ _ (hn_346)]; exact hf_332
  have hf_358 : f_335 q_299 = some (.inl (cy 0, 8, .inl (fun _ => 0))) := by rw [e_336, va_up_ne _ _ (hn_347)]; exact hf_333
  refine g_putF (ci := 6) (v := .ref q_334) (ty := (.array .int)) (C := RX5) (T := TX5) (N := 23) hx hb hts hinX5 tyX5 tyX5_ok nmX5 hown hI hf_349 rfl 11 (by decide) hw13 (fun _ h9 => h9) rfl hin rfl (by decide +kernel) rfl rfl (Nat.le_of_ble_eq_true rfl) dX5_init_168 (fun f_359 H locs e_360 hI => ?_)
  have e_360 : f_359 = va_up f_335 mm (some (.inr (6, [.int 0, .ref q_1, .ref q_28, .ref q_62, .ref q_79, .ref q_141, .int 0, .ref q_212, .ref q_238, .ref q_267, .ref q_299, .ref q_334, .null, .int 0, .null, .null, .null, .null, .null, .null, .null, .null, .int 0]))) := e_360
  have hf_361 : f_359 mm = some (.inr (6, [.int 0, .ref q_1, .ref q_28, .ref q_62, .ref q_79, .ref q_141, .int 0, .ref q_212, .ref q_238, .ref q_267, .ref q_299, .ref q_334, .null, .int 0, .null, .null, .null, .null, .null, .null, .null, .null, .int 0])) := by rw [e_360]; exact va_up_self _ _ _
  have hf_362 : f_359 q_1 = some (.inl (cy 0, 4, .inl (upd (upd (upd (upd (fun _ => 0) (ix 0) 10) (ix 1) 10) (ix 2) 10) (ix 3) 10))) := by rw [e_360, va_up_ne _ _ ((Ne.symm hn_5))]; exact hf_350
  have hf_363 : f_359 q_28 = some (.inl (cy 0, 4, .inl (upd (upd (upd (upd (fun _ => 0) (ix 0) 1) (ix 1) 1) (ix 2) 1) (ix 3) 1))) := by rw [e_360, va_up_ne _ _ ((Ne.symm hn_32))]; exact hf_351
  have hf_364 : f_359 q_62 = some (.inl (cy 0, 4, .inl (fun _ => 0))) := by rw [e_360, va_up_ne _ _ ((Ne.symm hn_66))]; exact hf_352
  have hf_365 : f_359 q_79 = some (.inl (cy 0, 6, .inl (upd (upd (upd (upd (upd (upd (fun _ => 0) (ix 0) 10) (ix 1) 10) (ix 2) 10) (ix 3) 10) (ix 4) 10) (ix 5) 10))) := by rw [e_360, va_up_ne _ _ ((Ne.symm hn_83))]; exact hf_353
  have hf_366 : f_359 q_141 = some (.inl (cy 0, 6, .inl (upd (upd (upd (upd (upd (upd (fun _ => 0) (ix 0) 1) (ix 1) 1) (ix 2) 1) (ix 3) 1) (ix 4) 1) (ix 5) 1))) := by rw [e_360, va_up_ne _ _ ((Ne.symm hn_145))]; exact hf_354
  have hf_367 : f_359 q_212 = some (.inl (cy 0, 8, .inl (fun _ => 0))) := by rw [e_360, va_up_ne _ _ ((Ne.symm hn_216))]; exact hf_355
  have hf_368 : f_359 q_238 = some (.inl (cy 0, 8, .inl (fun _ => 0))) := by rw [e_360, va_up_ne _ _ ((Ne.symm hn_242))]; exact hf_356
  have hf_369 : f_359 q_267 = some (.inl (cy 0, 8, .inl (fun _ => 0))) := by rw [e_360, va_up_ne _ _ ((Ne.symm hn_271))]; exact hf_357
  have hf_370 : f_359 q_299 = some (.inl (cy 0, 8, .inl (fun _ => 0))) := by rw [e_360, va_up_ne _ _ ((Ne.symm hn_303))]; exact hf_358
  have hf_371 : f_359 q_334 = some (.inl (cy 0, 8, .inl (fun _ => 0))) := by rw [e_360, va_up_ne _ _ ((Ne.symm hn_338))]; exact hf_348
  refine lv_aload_n hx hb dX5_init_171 rfl (lv_at hl 0 rfl) ?_
  refine lv_bipush (v := 8) hx hb dX5_init_172 (by decide) ?_
  refine g_newi (N' := 8) hx hb hw3 hI (by decide) (by decide) (by decide) (Nat.le_of_ble_eq_true rfl) (Nat.le_of_ble_eq_true rfl) dX5_init_174 (fun q_372 f_373 H hq_375 e_374 hI => ?_)
  have hn_376 : mm ≠ q_372 := g_nn hf_361 hq_375
  have hn_377 : q_1 ≠ q_372 := g_nn hf_362 hq_375
  have hn_378 : q_28 ≠ q_372 := g_nn hf_363 hq_375
  have hn_379 : q_62 ≠ q_372 := g_nn hf_364 hq_375
  have hn_380 : q_79 ≠ q_372 := g_nn hf_365 hq_375
  have hn_381 : q_141 ≠ q_372 := g_nn hf_366 hq_375
  have hn_382 : q_212 ≠ q_372 := g_nn hf_367 hq_375
  have hn_383 : q_238 ≠ q_372 := g_nn hf_368 hq_375
  have hn_384 : q_267 ≠ q_372 := g_nn hf_369 hq_375
  have hn_385 : q_299 ≠ q_372 := g_nn hf_370 hq_375
  have hn_386 : q_334 ≠ q_372 := g_nn hf_371 hq_375
  have e_374 : f_373 = va_up f_359 q_372 (some (.inl (cy 0, 8, .inl (fun _ => 0)))) := e_374
  have hf_387 : f_373 q_372 = some (.inl (cy 0, 8, .inl (fun _ => 0))) := by rw [e_374]; exact va_up_self _ _ _
  have hf_388 : f_373 mm = some (.inr (6, [.int 0, .ref q_1, .ref q_28, .ref q_62, .ref q_79, .ref q_141, .int 0, .ref q_212, .ref q_238, .ref q_267, .ref q_299, .ref q_334, .null, .int 0, .null, .null, .null, .null, .null, .null, .null, .null, .int 0])) := by rw [e_374, va_up_ne _ _ (hn_376)]; exact hf_361
  have hf_389 : f_373 q_1 = some (.inl (cy 0, 4, .inl (upd (upd (upd (upd (fun _ => 0) (ix 0) 10) (ix 1) 10) (ix 2) 10) (ix 3) 10))) := by rw [e_374, va_up_ne _ _ (hn_377)]; exact hf_362
  have hf_390 : f_373 q_28 = some (.inl (cy 0, 4, .inl (upd (upd (upd (upd (fun _ => 0) (ix 0) 1) (ix 1) 1) (ix 2) 1) (ix 3) 1))) := by rw [e_374, va_up_ne _ _ (hn_378)]; exact hf_363
  have hf_391 : f_373 q_62 = some (.inl (cy 0, 4, .inl (fun _ => 0))) := by rw [e_374, va_up_ne _ _ (hn_379)]; exact hf_364
  have hf_392 : f_373 q_79 = some (.inl (cy 0, 6, .inl (upd (upd (upd (upd (upd (upd (fun _ => 0) (ix 0) 10) (ix 1) 10) (ix 2) 10) (ix 3) 10) (ix 4) 10) (ix 5) 10))) := by rw [e_374, va_up_ne _ _ (hn_380)]; exact hf_365
  have hf_393 : f_373 q_141 = some (.inl (cy 0, 6, .inl (upd (upd (upd (upd (upd (upd (fun _ => 0) (ix 0) 1) (ix 1) 1) (ix 2) 1) (ix 3) 1) (ix 4) 1) (ix 5) 1))) := by rw [e_374, va_up_ne _ _ (hn_381)]; exact hf_366
  have hf_394 : f_373 q_212 = some (.inl (cy 0, 8, .inl (fun _ => 0))) := by rw [e_374, va_up_ne _ _ (hn_382)]; exact hf_367
  have hf_395 : f_373 q_238 = some (.inl (cy 0, 8, .inl (fun _ => 0))) := by rw [e_374, va_up_ne _ _ (hn_383)]; exact hf_368
  have hf_396 : f_373 q_267 = some (.inl (cy 0, 8, .inl (fun _ => 0))) := by rw [e_374, va_up_ne _ _ (hn_384)]; exact hf_369
  have hf_397 : f_373 q_299 = some (.inl (cy 0, 8, .inl (fun _ => 0))) := by rw [e_374, va_up_ne _ _ (hn_385)]; exact hf_370
  have hf_398 : f_373 q_334 = some (.inl (cy 0, 8, .inl (fun _ => 0))) := by rw [e_374, va_up_ne _ _ (hn_386)]; exact hf_371
  refine g_putF (ci := 6) (v := .ref q_372) (ty := (.array .int)) (C := RX5) (T := TX5) (N := 23) hx hb hts hinX5 tyX5 tyX5_ok nmX5 hown hI hf_388 rfl 12 (by decide) hw14 (fun _ h9 => h9) rfl hin rfl (by decide +kernel) rfl rfl (Nat.le_of_ble_eq_true rfl) dX5_init_176 (fun f_399 H locs e_400 hI => ?_)
  have e_400 : f_399 = va_up f_373 mm (some (.inr (6, [.int 0, .ref q_1, .ref q_28, .ref q_62, .ref q_79, .ref q_141, .int 0, .ref q_212, .ref q_238, .ref q_267, .ref q_299, .ref q_334, .ref q_372, .int 0, .null, .null, .null, .null, .null, .null, .null, .null, .int 0]))) := e_400
  have hf_401 : f_399 mm = some (.inr (6, [.int 0, .ref q_1, .ref q_28, .ref q_62, .ref q_79, .ref q_141, .int 0, .ref q_212, .ref q_238, .ref q_267, .ref q_299, .ref q_334, .ref q_372, .int 0, .null, .null, .null, .null, .null, .null, .null, .null, .int 0])) := by rw [e_400]; exact va_up_self _ _ _
  have hf_402 : f_399 q_1 = some (.inl (cy 0, 4, .inl (upd (upd (upd (upd (fun _ => 0) (ix 0) 10) (ix 1) 10) (ix 2) 10) (ix 3) 10))) := by rw [e_400, va_up_ne _ _ ((Ne.symm hn_5))]; exact hf_389
  have hf_403 : f_399 q_28 = some (.inl (cy 0, 4, .inl (upd (upd (upd (upd (fun _ => 0) (ix 0) 1) (ix 1) 1) (ix 2) 1) (ix 3) 1))) := by rw [e_400, va_up_ne _ _ ((Ne.symm hn_32))]; exact hf_390
  have hf_404 : f_399 q_62 = some (.inl (cy 0, 4, .inl (fun _ => 0))) := by rw [e_400, va_up_ne _ _ ((Ne.symm hn_66))]; exact hf_391
  have hf_405 : f_399 q_79 = some (.inl (cy 0, 6, .inl (upd (upd (upd (upd (upd (upd (fun _ => 0) (ix 0) 10) (ix 1) 10) (ix 2) 10) (ix 3) 10) (ix 4) 10) (ix 5) 10))) := by rw [e_400, va_up_ne _ _ ((Ne.symm hn_83))]; exact hf_392
  have hf_406 : f_399 q_141 = some (.inl (cy 0, 6, .inl (upd (upd (upd (upd (upd (upd (fun _ => 0) (ix 0) 1) (ix 1) 1) (ix 2) 1) (ix 3) 1) (ix 4) 1) (ix 5) 1))) := by rw [e_400, va_up_ne _ _ ((Ne.symm hn_145))]; exact hf_393
  have hf_407 : f_399 q_212 = some (.inl (cy 0, 8, .inl (fun _ => 0))) := by rw [e_400, va_up_ne _ _ ((Ne.symm hn_216))]; exact hf_394
  have hf_408 : f_399 q_238 = some (.inl (cy 0, 8, .inl (fun _ => 0))) := by rw [e_400, va_up_ne _ _ ((Ne.symm hn_242))]; exact hf_395
  have hf_409 : f_399 q_267 = some (.inl (cy 0, 8, .inl (fun _ => 0))) := by rw [e_400, va_up_ne _ _ ((Ne.symm hn_271))]; exact hf_396
  have hf_410 : f_399 q_299 = some (.inl (cy 0, 8, .inl (fun _ => 0))) := by rw [e_400, va_up_ne _ _ ((Ne.symm hn_303))]; exact hf_397
  have hf_411 : f_399 q_334 = some (.inl (cy 0, 8, .inl (fun _ => 0))) := by rw [e_400, va_up_ne _ _ ((Ne.symm hn_338))]; exact hf_398
  have hf_412 : f_399 q_372 = some (.inl (cy 0, 8, .inl (fun _ => 0))) := by rw [e_400, va_up_ne _ _ ((Ne.symm hn_376))]; exact hf_387
  refine lv_aload_n hx hb dX5_init_179 rfl (lv_at hl 0 rfl) ?_
  refine lv_bipush (v := 80) hx hb dX5_init_180 (by decide) ?_
  refine g_newi (N' := 80) hx hb hw3 hI (by decide) (by decide) (by decide) (Nat.le_of_ble_eq_true rfl) (Nat.le_of_ble_eq_true rfl) dX5_init_182 (fun q_413 f_414 H hq_416 e_415 hI => ?_)
  have hn_417 : mm ≠ q_413 := g_nn hf_401 hq_416
  have hn_418 : q_1 ≠ q_413 := g_nn hf_402 hq_416
  have hn_419 : q_28 ≠ q_413 := g_nn hf_403 hq_416
  have hn_420 : q_62 ≠ q_413 := g_nn hf_404 hq_416
  have hn_421 : q_79 ≠ q_413 := g_nn hf_405 hq_416
  have hn_422 : q_141 ≠ q_413 := g_nn hf_406 hq_416
  have hn_423 : q_212 ≠ q_413 := g_nn hf_407 hq_416
  have hn_424 : q_238 ≠ q_413 := g_nn hf_408 hq_416
  have hn_425 : q_267 ≠ q_413 := g_nn hf_409 hq_416
  have hn_426 : q_299 ≠ q_413 := g_nn hf_410 hq_416
  have hn_427 : q_334 ≠ q_413 := g_nn hf_411 hq_416
  have hn_428 : q_372 ≠ q_413 := g_nn hf_412 hq_416
  have e_415 : f_414 = va_up f_399 q_413 (some (.inl (cy 0, 80, .inl (fun _ => 0)))) := e_415
  have hf_429 : f_414 q_413 = some (.inl (cy 0, 80, .inl (fun _ => 0))) := by rw [e_415]; exact va_up_self _ _ _
  have hf_430 : f_414 mm = some (.inr (6, [.int 0, .ref q_1, .ref q_28, .ref q_62, .ref q_79, .ref q_141, .int 0, .ref q_212, .ref q_238, .ref q_267, .ref q_299, .ref q_334, .ref q_372, .int 0, .null, .null, .null, .null, .null, .null, .null, .null, .int 0])) := by rw [e_415, va_up_ne _ _ (hn_417)]; exact hf_401
  have hf_431 : f_414 q_1 = some (.inl (cy 0, 4, .inl (upd (upd (upd (upd (fun _ => 0) (ix 0) 10) (ix 1) 10) (ix 2) 10) (ix 3) 10))) := by rw [e_415, va_up_ne _ _ (hn_418)]; exact hf_402
  have hf_432 : f_414 q_28 = some (.inl (cy 0, 4, .inl (upd (upd (upd (upd (fun _ => 0) (ix 0) 1) (ix 1) 1) (ix 2) 1) (ix 3) 1))) := by rw [e_415, va_up_ne _ _ (hn_419)]; exact hf_403
  have hf_433 : f_414 q_62 = some (.inl (cy 0, 4, .inl (fun _ => 0))) := by rw [e_415, va_up_ne _ _ (hn_420)]; exact hf_404
  have hf_434 : f_414 q_79 = some (.inl (cy 0, 6, .inl (upd (upd (upd (upd (upd (upd (fun _ => 0) (ix 0) 10) (ix 1) 10) (ix 2) 10) (ix 3) 10) (ix 4) 10) (ix 5) 10))) := by rw [e_415, va_up_ne _ _ (hn_421)]; exact hf_405
  have hf_435 : f_414 q_141 = some (.inl (cy 0, 6, .inl (upd (upd (upd (upd (upd (upd (fun _ => 0) (ix 0) 1) (ix 1) 1) (ix 2) 1) (ix 3) 1) (ix 4) 1) (ix 5) 1))) := by rw [e_415, va_up_ne _ _ (hn_422)]; exact hf_406
  have hf_436 : f_414 q_212 = some (.inl (cy 0, 8, .inl (fun _ => 0))) := by rw [e_415, va_up_ne _ _ (hn_423)]; exact hf_407
  have hf_437 : f_414 q_238 = some (.inl (cy 0, 8, .inl (fun _ => 0))) := by rw [e_415, va_up_ne _ _ (hn_424)]; exact hf_408
  have hf_438 : f_414 q_267 = some (.inl (cy 0, 8, .inl (fun _ => 0))) := by rw [e_415, va_up_ne _ _ (hn_425)]; exact hf_409
  have hf_439 : f_414 q_299 = some (.inl (cy 0, 8, .inl (fun _ => 0))) := by rw [e_415, va_up_ne _ _ (hn_426)]; exact hf_410
  have hf_440 : f_414 q_334 = some (.inl (cy 0, 8, .inl (fun _ => 0))) := by rw [e_415, va_up_ne _ _ (hn_427)]; exact hf_411
  have hf_441 : f_414 q_372 = some (.inl (cy 0, 8, .inl (fun _ => 0))) := by rw [e_415, va_up_ne _ _ (hn_428)]; exact hf_412
  refine g_putF (ci := 6) (v := .ref q_413) (ty := (.array .int)) (C := RX5) (T := TX5) (N := 23) hx hb hts hinX5 tyX5 tyX5_ok nmX5 hown hI hf_430 rfl 14 (by decide) hw15 (fun _ h9 => h9) rfl hin rfl (by decide +kernel) rfl rfl (Nat.le_of_ble_eq_true rfl) dX5_init_184 (fun f_442 H locs e_443 hI => ?_)
  have e_443 : f_442 = va_up f_414 mm (some (.inr (6, [.int 0, .ref q_1, .ref q_28, .ref q_62, .ref q_79, .ref q_141, .int 0, .ref q_212, .ref q_238, .ref q_267, .ref q_299, .ref q_334, .ref q_372, .int 0, .ref q_413, .null, .null, .null, .null, .null, .null, .null, .int 0]))) := e_443
  have hf_444 : f_442 mm = some (.inr (6, [.int 0, .ref q_1, .ref q_28, .ref q_62, .ref q_79, .ref q_141, .int 0, .ref q_212, .ref q_238, .ref q_267, .ref q_299, .ref q_334, .ref q_372, .int 0, .ref q_413, .null, .null, .null, .null, .null, .null, .null, .int 0])) := by rw [e_443]; exact va_up_self _ _ _
  have hf_445 : f_442 q_1 = some (.inl (cy 0, 4, .inl (upd (upd (upd (upd (fun _ => 0) (ix 0) 10) (ix 1) 10) (ix 2) 10) (ix 3) 10))) := by rw [e_443, va_up_ne _ _ ((Ne.symm hn_5))]; exact hf_431
  have hf_446 : f_442 q_28 = some (.inl (cy 0, 4, .inl (upd (upd (upd (upd (fun _ => 0) (ix 0) 1) (ix 1) 1) (ix 2) 1) (ix 3) 1))) := by rw [e_443, va_up_ne _ _ ((Ne.symm hn_32))]; exact hf_432
  have hf_447 : f_442 q_62 = some (.inl (cy 0, 4, .inl (fun _ => 0))) := by rw [e_443, va_up_ne _ _ ((Ne.symm hn_66))]; exact hf_433
  have hf_448 : f_442 q_79 = some (.inl (cy 0, 6, .inl (upd (upd (upd (upd (upd (upd (fun _ => 0) (ix 0) 10) (ix 1) 10) (ix 2) 10) (ix 3) 10) (ix 4) 10) (ix 5) 10))) := by rw [e_443, va_up_ne _ _ ((Ne.symm hn_83))]; exact hf_434
  have hf_449 : f_442 q_141 = some (.inl (cy 0, 6, .inl (upd (upd (upd (upd (upd (upd (fun _ => 0) (ix 0) 1) (ix 1) 1) (ix 2) 1) (ix 3) 1) (ix 4) 1) (ix 5) 1))) := by rw [e_443, va_up_ne _ _ ((Ne.symm hn_145))]; exact hf_435
  have hf_450 : f_442 q_212 = some (.inl (cy 0, 8, .inl (fun _ => 0))) := by rw [e_443, va_up_ne _ _ ((Ne.symm hn_216))]; exact hf_436
  have hf_451 : f_442 q_238 = some (.inl (cy 0, 8, .inl (fun _ => 0))) := by rw [e_443, va_up_ne _ _ ((Ne.symm hn_242))]; exact hf_437
  have hf_452 : f_442 q_267 = some (.inl (cy 0, 8, .inl (fun _ => 0))) := by rw [e_443, va_up_ne _ _ ((Ne.symm hn_271))]; exact hf_438
  have hf_453 : f_442 q_299 = some (.inl (cy 0, 8, .inl (fun _ => 0))) := by rw [e_443, va_up_ne _ _ ((Ne.symm hn_303))]; exact hf_439
  have hf_454 : f_442 q_334 = some (.inl (cy 0, 8, .inl (fun _ => 0))) := by rw [e_443, va_up_ne _ _ ((Ne.symm hn_338))]; exact hf_440
  have hf_455 : f_442 q_372 = some (.inl (cy 0, 8, .inl (fun _ => 0))) := by rw [e_443, va_up_ne _ _ ((Ne.symm hn_376))]; exact hf_441
  have hf_456 : f_442 q_413 = some (.inl (cy 0, 80, .inl (fun _ => 0))) := by rw [e_443, va_up_ne _ _ ((Ne.symm hn_417))]; exact hf_429
  refine lv_aload_n hx hb dX5_init_187 rfl (lv_at hl 0 rfl) ?_
  refine lv_bipush (v := 80) hx hb dX5_init_188 (by decide) ?_
  refine g_newi (N' := 80) hx hb hw3 hI (by decide) (by decide) (by decide) (Nat.le_of_ble_eq_true rfl) (Nat.le_of_ble_eq_true rfl) dX5_init_190 (fun q_457 f_458 H hq_460 e_459 hI => ?_)
  have hn_461 : mm ≠ q_457 := g_nn hf_444 hq_460
  have hn_462 : q_1 ≠ q_457 := g_nn hf_445 hq_460
  have hn_463 : q_28 ≠ q_457 := g_nn hf_446 hq_460
  have hn_464 : q_62 ≠ q_457 := g_nn hf_447 hq_460
  have hn_465 : q_79 ≠ q_457 := g_nn hf_448 hq_460
  have hn_466 : q_141 ≠ q_457 := g_nn hf_449 hq_460
  have hn_467 : q_212 ≠ q_457 := g_nn hf_450 hq_460
  have hn_468 : q_238 ≠ q_457 := g_nn hf_451 hq_460
  have hn_469 : q_267 ≠ q_457 := g_nn hf_452 hq_460
  have hn_470 : q_299 ≠ q_457 := g_nn hf_453 hq_460
  have hn_471 : q_334 ≠ q_457 := g_nn hf_454 hq_460
  have hn_472 : q_372 ≠ q_457 := g_nn hf_455 hq_460
  have hn_473 : q_413 ≠ q_457 := g_nn hf_456 hq_460
  have e_459 : f_458 = va_up f_442 q_457 (some (.inl (cy 0, 80, .inl (fun _ => 0)))) := e_459
  have hf_474 : f_458 q_457 = some (.inl (cy 0, 80, .inl (fun _ => 0))) := by rw [e_459]; exact va_up_self _ _ _
  have hf_475 : f_458 mm = some (.inr (6, [.int 0, .ref q_1, .ref q_28, .ref q_62, .ref q_79, .ref q_141, .int 0, .ref q_212, .ref q_238, .ref q_267, .ref q_299, .ref q_334, .ref q_372, .int 0, .ref q_413, .null, .null, .null, .null, .null, .null, .null, .int 0])) := by rw [e_459, va_up_ne _ _ (hn_461)]; exact hf_444
  have hf_476 : f_458 q_1 = some (.inl (cy 0, 4, .inl (upd (upd (upd (upd (fun _ => 0) (ix 0) 10) (ix 1) 10) (ix 2) 10) (ix 3) 10))) := by rw [e_459, va_up_ne _ _ (hn_462)]; exact hf_445
  have hf_477 : f_458 q_28 = some (.inl (cy 0, 4, .inl (upd (upd (upd (upd (fun _ => 0) (ix 0) 1) (ix 1) 1) (ix 2) 1) (ix 3) 1))) := by rw [e_459, va_up_ne _ _ (hn_463)]; exact hf_446
  have hf_478 : f_458 q_62 = some (.inl (cy 0, 4, .inl (fun _ => 0))) := by rw [e_459, va_up_ne _ _ (hn_464)]; exact hf_447
  have hf_479 : f_458 q_79 = some (.inl (cy 0, 6, .inl (upd (upd (upd (upd (upd (upd (fun _ => 0) (ix 0) 10) (ix 1) 10) (ix 2) 10) (ix 3) 10) (ix 4) 10) (ix 5) 10))) := by rw [e_459, va_up_ne _ _ (hn_465)]; exact hf_448
  have hf_480 : f_458 q_141 = some (.inl (cy 0, 6, .inl (upd (upd (upd (upd (upd (upd (fun _ => 0) (ix 0) 1) (ix 1) 1) (ix 2) 1) (ix 3) 1) (ix 4) 1) (ix 5) 1))) := by rw [e_459, va_up_ne _ _ (hn_466)]; exact hf_449
  have hf_481 : f_458 q_212 = some (.inl (cy 0, 8, .inl (fun _ => 0))) := by rw [e_459, va_up_ne _ _ (hn_467)]; exact hf_450
  have hf_482 : f_458 q_238 = some (.inl (cy 0, 8, .inl (fun _ => 0))) := by rw [e_459, va_up_ne _ _ (hn_468)]; exact hf_451
  have hf_483 : f_458 q_267 = some (.inl (cy 0, 8, .inl (fun _ => 0))) := by rw [e_459, va_up_ne _ _ (hn_469)]; exact hf_452
  have hf_484 : f_458 q_299 = some (.inl (cy 0, 8, .inl (fun _ => 0))) := by rw [e_459, va_up_ne _ _ (hn_470)]; exact hf_453
  have hf_485 : f_458 q_334 = some (.inl (cy 0, 8, .inl (fun _ => 0))) := by rw [e_459, va_up_ne _ _ (hn_471)]; exact hf_454
  have hf_486 : f_458 q_372 = some (.inl (cy 0, 8, .inl (fun _ => 0))) := by rw [e_459, va_up_ne _ _ (hn_472)]; exact hf_455
  have hf_487 : f_458 q_413 = some (.inl (cy 0, 80, .inl (fun _ => 0))) := by rw [e_459, va_up_ne _ _ (hn_473)]; exact hf_456
  refine g_putF (ci := 6) (v := .ref q_457) (ty := (.array .int)) (C := RX5) (T := TX5) (N := 23) hx hb hts hinX5 tyX5 tyX5_ok nmX5 hown hI hf_475 rfl 15 (by decide) hw16 (fun _ h9 => h9) rfl hin rfl (by decide +kernel) rfl rfl (Nat.le_of_ble_eq_true rfl) dX5_init_192 (fun f_488 H locs e_489 hI => ?_)
  have e_489 : f_488 = va_up f_458 mm (some (.inr (6, [.int 0, .ref q_1, .ref q_28, .ref q_62, .ref q_79, .ref q_141, .int 0, .ref q_212, .ref q_238, .ref q_267, .ref q_299, .ref q_334, .ref q_372, .int 0, .ref q_413, .ref q_457, .null, .null, .null, .null, .null, .null, .int 0]))) := e_489
  have hf_490 : f_488 mm = some (.inr (6, [.int 0, .ref q_1, .ref q_28, .ref q_62, .ref q_79, .ref q_141, .int 0, .ref q_212, .ref q_238, .ref q_267, .ref q_299, .ref q_334, .ref q_372, .int 0, .ref q_413, .ref q_457, .null, .null, .null, .null, .null, .null, .int 0])) := by rw [e_489]; exact va_up_self _ _ _
  have hf_491 : f_488 q_1 = some (.inl (cy 0, 4, .inl (upd (upd (upd (upd (fun _ => 0) (ix 0) 10) (ix 1) 10) (ix 2) 10) (ix 3) 10))) := by rw [e_489, va_up_ne _ _ ((Ne.symm hn_5))]; exact hf_476
  have hf_492 : f_488 q_28 = some (.inl (cy 0, 4, .inl (upd (upd (upd (upd (fun _ => 0) (ix 0) 1) (ix 1) 1) (ix 2) 1) (ix 3) 1))) := by rw [e_489, va_up_ne _ _ ((Ne.symm hn_32))]; exact hf_477
  have hf_493 : f_488 q_62 = some (.inl (cy 0, 4, .inl (fun _ => 0))) := by rw [e_489, va_up_ne _ _ ((Ne.symm hn_66))]; exact hf_478
  have hf_494 : f_488 q_79 = some (.inl (cy 0, 6, .inl (upd (upd (upd (upd (upd (upd (fun _ => 0) (ix 0) 10) (ix 1) 10) (ix 2) 10) (ix 3) 10) (ix 4) 10) (ix 5) 10))) := by rw [e_489, va_up_ne _ _ ((Ne.symm hn_83))]; exact hf_479
  have hf_495 : f_488 q_141 = some (.inl (cy 0, 6, .inl (upd (upd (upd (upd (upd (upd (fun _ => 0) (ix 0) 1) (ix 1) 1) (ix 2) 1) (ix 3) 1) (ix 4) 1) (ix 5) 1))) := by rw [e_489, va_up_ne _ _ ((Ne.symm hn_145))]; exact hf_480
  have hf_496 : f_488 q_212 = some (.inl (cy 0, 8, .inl (fun _ => 0))) := by rw [e_489, va_up_ne _ _ ((Ne.symm hn_216))]; exact hf_481
  have hf_497 : f_488 q_238 = some (.inl (cy 0, 8, .inl (fun _ => 0))) := by rw [e_489, va_up_ne _ _ ((Ne.symm hn_242))]; exact hf_482
  have hf_498 : f_488 q_267 = some (.inl (cy 0, 8, .inl (fun _ => 0))) := by rw [e_489, va_up_ne _ _ ((Ne.symm hn_271))]; exact hf_483
  have hf_499 : f_488 q_299 = some (.inl (cy 0, 8, .inl (fun _ => 0))) := by rw [e_489, va_up_ne _ _ ((Ne.symm hn_303))]; exact hf_484
  have hf_500 : f_488 q_334 = some (.inl (cy 0, 8, .inl (fun _ => 0))) := by rw [e_489, va_up_ne _ _ ((Ne.symm hn_338))]; exact hf_485
  have hf_501 : f_488 q_372 = some (.inl (cy 0, 8, .inl (fun _ => 0))) := by rw [e_489, va_up_ne _ _ ((Ne.symm hn_376))]; exact hf_486
  have hf_502 : f_488 q_413 = some (.inl (cy 0, 80, .inl (fun _ => 0))) := by rw [e_489, va_up_ne _ _ ((Ne.symm hn_417))]; exact hf_487
  have hf_503 : f_488 q_457 = some (.inl (cy 0, 80, .inl (fun _ => 0))) := by rw [e_489, va_up_ne _ _ ((Ne.symm hn_461))]; exact hf_474
  refine lv_aload_n hx hb dX5_init_195 rfl (lv_at hl 0 rfl) ?_
  refine lv_bipush (v := 80) hx hb dX5_init_196 (by decide) ?_
  refine g_newi (N' := 80) hx hb hw3 hI (by decide) (by decide) (by decide) (Nat.le_of_ble_eq_true rfl) (Nat.le_of_ble_eq_true rfl) dX5_init_198 (fun q_504 f_505 H hq_507 e_506 hI => ?_)
  have hn_508 : mm ≠ q_504 := g_nn hf_490 hq_507
  have hn_509 : q_1 ≠ q_504 := g_nn hf_491 hq_507
  have hn_510 : q_28 ≠ q_504 := g_nn hf_492 hq_507
  have hn_511 : q_62 ≠ q_504 := g_nn hf_493 hq_507
  have hn_512 : q_79 ≠ q_504 := g_nn hf_494 hq_507
  have hn_513 : q_141 ≠ q_504 := g_nn hf_495 hq_507
  have hn_514 : q_212 ≠ q_504 := g_nn hf_496 hq_507
  have hn_515 : q_238 ≠ q_504 := g_nn hf_497 hq_507
  have hn_516 : q_267 ≠ q_504 := g_nn hf_498 hq_507
  have hn_517 : q_299 ≠ q_504 := g_nn hf_499 hq_507
  have hn_518 : q_334 ≠ q_504 := g_nn hf_500 hq_507
  have hn_519 : q_372 ≠ q_504 := g_nn hf_501 hq_507
  have hn_520 : q_413 ≠ q_504 := g_nn hf_502 hq_507
  have hn_521 : q_457 ≠ q_504 := g_nn hf_503 hq_507
  have e_506 : f_505 = va_up f_488 q_504 (some (.inl (cy 0, 80, .inl (fun _ => 0)))) := e_506
  have hf_522 : f_505 q_504 = some (.inl (cy 0, 80, .inl (fun _ => 0))) := by rw [e_506]; exact va_up_self _ _ _
  have hf_523 : f_505 mm = some (.inr (6, [.int 0, .ref q_1, .ref q_28, .ref q_62, .ref q_79, .ref q_141, .int 0, .ref q_212, .ref q_238, .ref q_267, .ref q_299, .ref q_334, .ref q_372, .int 0, .ref q_413, .ref q_457, .null, .null, .null, .null, .null, .null, .int 0])) := by rw [e_506, va_up_ne _ _ (hn_508)]; exact hf_490
  have hf_524 : f_505 q_1 = some (.inl (cy 0, 4, .inl (upd (upd (upd (upd (fun _ => 0) (ix 0) 10) (ix 1) 10) (ix 2) 10) (ix 3) 10))) := by rw [e_506, va_up_ne _ _ (hn_509)]; exact hf_491
  have hf_525 : f_505 q_28 = some (.inl (cy 0, 4, .inl (upd (upd (upd (upd (fun _ => 0) (ix 0) 1) (ix 1) 1) (ix 2) 1) (ix 3) 1))) := by rw [e_506, va_up_ne _ _ (hn_510)]; exact hf_492
  have hf_526 : f_505 q_62 = some (.inl (cy 0, 4, .inl (fun _ => 0))) := by rw [e_506, va_up_ne _ _ (hn_511)]; exact hf_493
  have hf_527 : f_505 q_79 = some (.inl (cy 0, 6, .inl (upd (upd (upd (upd (upd (upd (fun _ => 0) (ix 0) 10) (ix 1) 10) (ix 2) 10) (ix 3) 10) (ix 4) 10) (ix 5) 10))) := by rw [e_506, va_up_ne _ _ (hn_512)]; exact hf_494
  have hf_528 : f_505 q_141 = some (.inl (cy 0, 6, .inl (upd (upd (upd (upd (upd (upd (fun _ => 0) (ix 0) 1) (ix 1) 1) (ix 2) 1) (ix 3) 1) (ix 4) 1) (ix 5) 1))) := by rw [e_506, va_up_ne _ _ (hn_513)]; exact hf_495
  have hf_529 : f_505 q_212 = some (.inl (cy 0, 8, .inl (fun _ => 0))) := by rw [e_506, va_up_ne _ _ (hn_514)]; exact hf_496
  have hf_530 : f_505 q_238 = some (.inl (cy 0, 8, .inl (fun _ => 0))) := by rw [e_506, va_up_ne _ _ (hn_515)]; exact hf_497
  have hf_531 : f_505 q_267 = some (.inl (cy 0, 8, .inl (fun _ => 0))) := by rw [e_506, va_up_ne _ _ (hn_516)]; exact hf_498
  have hf_532 : f_505 q_299 = some (.inl (cy 0, 8, .inl (fun _ => 0))) := by rw [e_506, va_up_ne _ _ (hn_517)]; exact hf_499
  have hf_533 : f_505 q_334 = some (.inl (cy 0, 8, .inl (fun _ => 0))) := by rw [e_506, va_up_ne _ _ (hn_518)]; exact hf_500
  have hf_534 : f_505 q_372 = some (.inl (cy 0, 8, .inl (fun _ => 0))) := by rw [e_506, va_up_ne _ _ (hn_519)]; exact hf_501
  have hf_535 : f_505 q_413 = some (.inl (cy 0, 80, .inl (fun _ => 0))) := by rw [e_506, va_up_ne _ _ (hn_520)]; exact hf_502
  have hf_536 : f_505 q_457 = some (.inl (cy 0, 80, .inl (fun _ => 0))) := by rw [e_506, va_up_ne _ _ (hn_521)]; exact hf_503
  refine g_putF (ci := 6) (v := .ref q_504) (ty := (.array .int)) (C := RX5) (T := TX5) (N := 23) hx hb hts hinX5 tyX5 tyX5_ok nmX5 hown hI hf_523 rfl 16 (by decide) hw17 (fun _ h9 => h9) rfl hin rfl (by decide +kernel) rfl rfl (Nat.le_of_ble_eq_true rfl) dX5_init_200 (fun f_537 H locs e_538 hI => ?_)
  have e_538 : f_537 = va_up f_505 mm (some (.inr (6, [.int 0, .ref q_1, .ref q_28, .ref q_62, .ref q_79, .ref q_141, .int 0, .ref q_212, .ref q_238, .ref q_267, .ref q_299, .ref q_334, .ref q_372, .int 0, .ref q_413, .ref q_457, .ref q_504, .null, .null, .null, .null, .null, .int 0]))) := e_538
  have hf_539 : f_537 mm = some (.inr (6, [.int 0, .ref q_1, .ref q_28, .ref q_62, .ref q_79, .ref q_141, .int 0, .ref q_212, .ref q_238, .ref q_267, .ref q_299, .ref q_334, .ref q_372, .int 0, .ref q_413, .ref q_457, .ref q_504, .null, .null, .null, .null, .null, .int 0])) := by rw [e_538]; exact va_up_self _ _ _
  have hf_540 : f_537 q_1 = some (.inl (cy 0, 4, .inl (upd (upd (upd (upd (fun _ => 0) (ix 0) 10) (ix 1) 10) (ix 2) 10) (ix 3) 10))) := by rw [e_538, va_up_ne _ _ ((Ne.symm hn_5))]; exact hf_524
  have hf_541 : f_537 q_28 = some (.inl (cy 0, 4, .inl (upd (upd (upd (upd (fun _ => 0) (ix 0) 1) (ix 1) 1) (ix 2) 1) (ix 3) 1))) := by rw [e_538, va_up_ne _ _ ((Ne.symm hn_32))]; exact hf_525
  have hf_542 : f_537 q_62 = some (.inl (cy 0, 4, .inl (fun _ => 0))) := by rw [e_538, va_up_ne _ _ ((Ne.symm hn_66))]; exact hf_526
  have hf_543 : f_537 q_79 = some (.inl (cy 0, 6, .inl (upd (upd (upd (upd (upd (upd (fun _ => 0) (ix 0) 10) (ix 1) 10) (ix 2) 10) (ix 3) 10) (ix 4) 10) (ix 5) 10))) := by rw [e_538, va_up_ne _ _ ((Ne.symm hn_83))]; exact hf_527
  have hf_544 : f_537 q_141 = some (.inl (cy 0, 6, .inl (upd (upd (upd (upd (upd (upd (fun _ => 0) (ix 0) 1) (ix 1) 1) (ix 2) 1) (ix 3) 1) (ix 4) 1) (ix 5) 1))) := by rw [e_538, va_up_ne _ _ ((Ne.symm hn_145))]; exact hf_528
  have hf_545 : f_537 q_212 = some (.inl (cy 0, 8, .inl (fun _ => 0))) := by rw [e_538, va_up_ne _ _ ((Ne.symm hn_216))]; exact hf_529
  have hf_546 : f_537 q_238 = some (.inl (cy 0, 8, .inl (fun _ => 0))) := by rw [e_538, va_up_ne _ _ ((Ne.symm hn_242))]; exact hf_530
  have hf_547 : f_537 q_267 = some (.inl (cy 0, 8, .inl (fun _ => 0))) := by rw [e_538, va_up_ne _ _ ((Ne.symm hn_271))]; exact hf_531
  have hf_548 : f_537 q_299 = some (.inl (cy 0, 8, .inl (fun _ => 0))) := by rw [e_538, va_up_ne _ _ ((Ne.symm hn_303))]; exact hf_532
  have hf_549 : f_537 q_334 = some (.inl (cy 0, 8, .inl (fun _ => 0))) := by rw [e_538, va_up_ne _ _ ((Ne.symm hn_338))]; exact hf_533
  have hf_550 : f_537 q_372 = some (.inl (cy 0, 8, .inl (fun _ => 0))) := by rw [e_538, va_up_ne _ _ ((Ne.symm hn_376))]; exact hf_534
  have hf_551 : f_537 q_413 = some (.inl (cy 0, 80, .inl (fun _ => 0))) := by rw [e_538, va_up_ne _ _ ((Ne.symm hn_417))]; exact hf_535
  have hf_552 : f_537 q_457 = some (.inl (cy 0, 80, .inl (fun _ => 0))) := by rw [e_538, va_up_ne _ _ ((Ne.symm hn_461))]; exact hf_536
  have hf_553 : f_537 q_504 = some (.inl (cy 0, 80, .inl (fun _ => 0))) := by rw [e_538, va_up_ne _ _ ((Ne.symm hn_508))]; exact hf_522
  refine lv_aload_n hx hb dX5_init_203 rfl (lv_at hl 0 rfl) ?_
  refine lv_bipush (v := 80) hx hb dX5_init_204 (by decide) ?_
  refine g_newi (N' := 80) hx hb hw3 hI (by decide) (by decide) (by decide) (Nat.le_of_ble_eq_true rfl) (Nat.le_of_ble_eq_true rfl) dX5_init_206 (fun q_554 f_555 H hq_557 e_556 hI => ?_)
  have hn_558 : mm ≠ q_554 := g_nn hf_539 hq_557
  have hn_559 : q_1 ≠ q_554 := g_nn hf_540 hq_557
  have hn_560 : q_28 ≠ q_554 := g_nn hf_541 hq_557
  have hn_561 : q_62 ≠ q_554 := g_nn hf_542 hq_557
  have hn_562 : q_79 ≠ q_554 := g_nn hf_543 hq_557
  have hn_563 : q_141 ≠ q_554 := g_nn hf_544 hq_557
  have hn_564 : q_212 ≠ q_554 := g_nn hf_545 hq_557
  have hn_565 : q_238 ≠ q_554 := g_nn hf_546 hq_557
  have hn_566 : q_267 ≠ q_554 := g_nn hf_547 hq_557
  have hn_567 : q_299 ≠ q_554 := g_nn hf_548 hq_557
  have hn_568 : q_334 ≠ q_554 := g_nn hf_549 hq_557
  have hn_569 : q_372 ≠ q_554 := g_nn hf_550 hq_557
  have hn_570 : q_413 ≠ q_554 := g_nn hf_551 hq_557
  have hn_571 : q_457 ≠ q_554 := g_nn hf_552 hq_557
  have hn_572 : q_504 ≠ q_554 := g_nn hf_553 hq_557
  have e_556 : f_555 = va_up f_537 q_554 (some (.inl (cy 0, 80, .inl (fun _ => 0)))) := e_556
  have hf_573 : f_555 q_554 = some (.inl (cy 0, 80, .inl (fun _ => 0))) := by rw [e_556]; exact va_up_self _ _ _
  have hf_574 : f_555 mm = some (.inr (6, [.int 0, .ref q_1, .ref q_28, .ref q_62, .ref q_79, .ref q_141, .int 0, .ref q_212, .ref q_238, .ref q_267, .ref q_299, .ref q_334, .ref q_372, .int 0, .ref q_413, .ref q_457, .ref q_504, .null, .null, .null, .null, .null, .int 0])) := by rw [e_556, va_up_ne _ _ (hn_558)]; exact hf_539
  have hf_575 : f_555 q_1 = some (.inl (cy 0, 4, .inl (upd (upd (upd (upd (fun _ => 0) (ix 0) 10) (ix 1) 10) (ix 2) 10) (ix 3) 10))) := by rw [e_556, va_up_ne _ _ (hn_559)]; exact hf_540
  have hf_576 : f_555 q_28 = some (.inl (cy 0, 4, .inl (upd (upd (upd (upd (fun _ => 0) (ix 0) 1) (ix 1) 1) (ix 2) 1) (ix 3) 1))) := by rw [e_556, va_up_ne _ _ (hn_560)]; exact hf_541
  have hf_577 : f_555 q_62 = some (.inl (cy 0, 4, .inl (fun _ => 0))) := by rw [e_556, va_up_ne _ _ (hn_561)]; exact hf_542
  have hf_578 : f_555 q_79 = some (.inl (cy 0, 6, .inl (upd (upd (upd (upd (upd (upd (fun _ => 0) (ix 0) 10) (ix 1) 10) (ix 2) 10) (ix 3) 10) (ix 4) 10) (ix 5) 10))) := by rw [e_556, va_up_ne _ _ (hn_562)]; exact hf_543
  have hf_579 : f_555 q_141 = some (.inl (cy 0, 6, .inl (upd (upd (upd (upd (upd (upd (fun _ => 0) (ix 0) 1) (ix 1) 1) (ix 2) 1) (ix 3) 1) (ix 4) 1) (ix 5) 1))) := by rw [e_556, va_up_ne _ _ (hn_563)]; exact hf_544
  have hf_580 : f_555 q_212 = some (.inl (cy 0, 8, .inl (fun _ => 0))) := by rw [e_556, va_up_ne _ _ (hn_564)]; exact hf_545
  have hf_581 : f_555 q_238 = some (.inl (cy 0, 8, .inl (fun _ => 0))) := by rw [e_556, va_up_ne _ _ (hn_565)]; exact hf_546
  have hf_582 : f_555 q_267 = some (.inl (cy 0, 8, .inl (fun _ => 0))) := by rw [e_556, va_up_ne _ _ (hn_566)]; exact hf_547
  have hf_583 : f_555 q_299 = some (.inl (cy 0, 8, .inl (fun _ => 0))) := by rw [e_556, va_up_ne _ _ (hn_567)]; exact hf_548
  have hf_584 : f_555 q_334 = some (.inl (cy 0, 8, .inl (fun _ => 0))) := by rw [e_556, va_up_ne _ _ (hn_568)]; exact hf_549
  have hf_585 : f_555 q_372 = some (.inl (cy 0, 8, .inl (fun _ => 0))) := by rw [e_556, va_up_ne _ _ (hn_569)]; exact hf_550
  have hf_586 : f_555 q_413 = some (.inl (cy 0, 80, .inl (fun _ => 0))) := by rw [e_556, va_up_ne _ _ (hn_570)]; exact hf_551
  have hf_587 : f_555 q_457 = some (.inl (cy 0, 80, .inl (fun _ => 0))) := by rw [e_556, va_up_ne _ _ (hn_571)]; exact hf_552
  have hf_588 : f_555 q_504 = some (.inl (cy 0, 80, .inl (fun _ => 0))) := by rw [e_556, va_up_ne _ _ (hn_572)]; exact hf_553
  refine g_putF (ci := 6) (v := .ref q_554) (ty := (.array .int)) (C := RX5) (T := TX5) (N := 23) hx hb hts hinX5 tyX5 tyX5_ok nmX5 hown hI hf_574 rfl 17 (by decide) hw18 (fun _ h9 => h9) rfl hin rfl (by decide +kernel) rfl rfl (Nat.le_of_ble_eq_true rfl) dX5_init_208 (fun f_589 H locs e_590 hI => ?_)
  have e_590 : f_589 = va_up f_555 mm (some (.inr (6, [.int 0, .ref q_1, .ref q_28, .ref q_62, .ref q_79, .ref q_141, .int 0, .ref q_212, .ref q_238, .ref q_267, .ref q_299, .ref q_334, .ref q_372, .int 0, .ref q_413, .ref q_457, .ref q_504, .ref q_554, .null, .null, .null, .null, .int 0]))) := e_590
  have hf_591 : f_589 mm = some (.inr (6, [.int 0, .ref q_1, .ref q_28, .ref q_62, .ref q_79, .ref q_141, .int 0, .ref q_212, .ref q_238, .ref q_267, .ref q_299, .ref q_334, .ref q_372, .int 0, .ref q_413, .ref q_457, .ref q_504, .ref q_554, .null, .null, .null, .null, .int 0])) := by rw [e_590]; exact va_up_self _ _ _
  have hf_592 : f_589 q_1 = some (.inl (cy 0, 4, .inl (upd (upd (upd (upd (fun _ => 0) (ix 0) 10) (ix 1) 10) (ix 2) 10) (ix 3) 10))) := by rw [e_590, va_up_ne _ _ ((Ne.symm hn_5))]; exact hf_575
  have hf_593 : f_589 q_28 = some (.inl (cy 0, 4, .inl (upd (upd (upd (upd (fun _ => 0) (ix 0) 1) (ix 1) 1) (ix 2) 1) (ix 3) 1))) := by rw [e_590, va_up_ne _ _ ((Ne.symm hn_32))]; exact hf_576
  have hf_594 : f_589 q_62 = some (.inl (cy 0, 4, .inl (fun _ => 0))) := by rw [e_590, va_up_ne _ _ ((Ne.symm hn_66))]; exact hf_577
  have hf_595 : f_589 q_79 = some (.inl (cy 0, 6, .inl (upd (upd (upd (upd (upd (upd (fun _ => 0) (ix 0) 10) (ix 1) 10) (ix 2) 10) (ix 3) 10) (ix 4) 10) (ix 5) 10))) := by rw [e_590, va_up_ne _ _ ((Ne.symm hn_83))]; exact hf_578
  have hf_596 : f_589 q_141 = some (.inl (cy 0, 6, .inl (upd (upd (upd (upd (upd (upd (fun _ => 0) (ix 0) 1) (ix 1) 1) (ix 2) 1) (ix 3) 1) (ix 4) 1) (ix 5) 1))) := by rw [e_590, va_up_ne _ _ ((Ne.symm hn_145))]; exact hf_579
  have hf_597 : f_589 q_212 = some (.inl (cy 0, 8, .inl (fun _ => 0))) := by rw [e_590, va_up_ne _ _ ((Ne.symm hn_216))]; exact hf_580
  have hf_598 : f_589 q_238 = some (.inl (cy 0, 8, .inl (fun _ => 0))) := by rw [e_590, va_up_ne _ _ ((Ne.symm hn_242))]; exact hf_581
  have hf_599 : f_589 q_267 = some (.inl (cy 0, 8, .inl (fun _ => 0))) := by rw [e_590, va_up_ne _ _ ((Ne.symm hn_271))]; exact hf_582
  have hf_600 : f_589 q_299 = some (.inl (cy 0, 8, .inl (fun _ => 0))) := by rw [e_590, va_up_ne _ _ ((Ne.symm hn_303))]; exact hf_583
  have hf_601 : f_589 q_334 = some (.inl (cy 0, 8, .inl (fun _ => 0))) := by rw [e_590, va_up_ne _ _ ((Ne.symm hn_338))]; exact hf_584
  have hf_602 : f_589 q_372 = some (.inl (cy 0, 8, .inl (fun _ => 0))) := by rw [e_590, va_up_ne _ _ ((Ne.symm hn_376))]; exact hf_585
  have hf_603 : f_589 q_413 = some (.inl (cy 0, 80, .inl (fun _ => 0))) := by rw [e_590, va_up_ne _ _ ((Ne.symm hn_417))]; exact hf_586
  have hf_604 : f_589 q_457 = some (.inl (cy 0, 80, .inl (fun _ => 0))) := by rw [e_590, va_up_ne _ _ ((Ne.symm hn_461))]; exact hf_587
  have hf_605 : f_589 q_504 = some (.inl (cy 0, 80, .inl (fun _ => 0))) := by rw [e_590, va_up_ne _ _ ((Ne.symm hn_508))]; exact hf_588
  have hf_606 : f_589 q_554 = some (.inl (cy 0, 80, .inl (fun _ => 0))) := by rw [e_590, va_up_ne _ _ ((Ne.symm hn_558))]; exact hf_573
  refine lv_aload_n hx hb dX5_init_211 rfl (lv_at hl 0 rfl) ?_
  refine lv_bipush (v := 80) hx hb dX5_init_212 (by decide) ?_
  refine g_newi (N' := 80) hx hb hw3 hI (by decide) (by decide) (by decide) (Nat.le_of_ble_eq_true rfl) (Nat.le_of_ble_eq_true rfl) dX5_init_214 (fun q_607 f_608 H hq_610 e_609 hI => ?_)
  have hn_611 : mm ≠ q_607 := g_nn hf_591 hq_610
  have hn_612 : q_1 ≠ q_607 := g_nn hf_592 hq_610
  have hn_613 : q_28 ≠ q_607 := g_nn hf_593 hq_610
  have hn_614 : q_62 ≠ q_607 := g_nn hf_594 hq_610
  have hn_615 : q_79 ≠ q_607 := g_nn hf_595 hq_610
  have hn_616 : q_141 ≠ q_607 := g_nn hf_596 hq_610
  have hn_617 : q_212 ≠ q_607 := g_nn hf_597 hq_610
  have hn_618 : q_238 ≠ q_607 := g_nn hf_598 hq_610
  have hn_619 : q_267 ≠ q_607 := g_nn hf_599 hq_610
  have hn_620 : q_299 ≠ q_607 := g_nn hf_600 hq_610
  have hn_621 : q_334 ≠ q_607 := g_nn hf_601 hq_610
  have hn_622 : q_372 ≠ q_607 := g_nn hf_602 hq_610
  have hn_623 : q_413 ≠ q_607 := g_nn hf_603 hq_610
  have hn_624 : q_457 ≠ q_607 := g_nn hf_604 hq_610
  have hn_625 : q_504 ≠ q_607 := g_nn hf_605 hq_610
  have hn_626 : q_554 ≠ q_607 := g_nn hf_606 hq_610
  have e_609 : f_608 = va_up f_589 q_607 (some (.inl (cy 0, 80, .inl (fun _ => 0)))) := e_609
  have hf_627 : f_608 q_607 = some (.inl (cy 0, 80, .inl (fun _ => 0))) := by rw [e_609]; exact va_up_self _ _ _
  have hf_628 : f_608 mm = some (.inr (6, [.int 0, .ref q_1, .ref q_28, .ref q_62, .ref q_79, .ref q_141, .int 0, .ref q_212, .ref q_238, .ref q_267, .ref q_299, .ref q_334, .ref q_372, .int 0, .ref q_413, .ref q_457, .ref q_504, .ref q_554, .null, .null, .null, .null, .int 0])) := by rw [e_609, va_up_ne _ _ (hn_611)]; exact hf_591
  have hf_629 : f_608 q_1 = some (.inl (cy 0, 4, .inl (upd (upd (upd (upd (fun _ => 0) (ix 0) 10) (ix 1) 10) (ix 2) 10) (ix 3) 10))) := by rw [e_609, va_up_ne _ _ (hn_612)]; exact hf_592
  have hf_630 : f_608 q_28 = some (.inl (cy 0, 4, .inl (upd (upd (upd (upd (fun _ => 0) (ix 0) 1) (ix 1) 1) (ix 2) 1) (ix 3) 1))) := by rw [e_609, va_up_ne _ _ (hn_613)]; exact hf_593
  have hf_631 : f_608 q_62 = some (.inl (cy 0, 4, .inl (fun _ => 0))) := by rw [e_609, va_up_ne _ _ (hn_614)]; exact hf_594
  have hf_632 : f_608 q_79 = some (.inl (cy 0, 6, .inl (upd (upd (upd (upd (upd (upd (fun _ => 0) (ix 0) 10) (ix 1) 10) (ix 2) 10) (ix 3) 10) (ix 4) 10) (ix 5) 10))) := by rw [e_609, va_up_ne _ _ (hn_615)]; exact hf_595
  have hf_633 : f_608 q_141 = some (.inl (cy 0, 6, .inl (upd (upd (upd (upd (upd (upd (fun _ => 0) (ix 0) 1) (ix 1) 1) (ix 2) 1) (ix 3) 1) (ix 4) 1) (ix 5) 1))) := by rw [e_609, va_up_ne _ _ (hn_616)]; exact hf_596
  have hf_634 : f_608 q_212 = some (.inl (cy 0, 8, .inl (fun _ => 0))) := by rw [e_609, va_up_ne _ _ (hn_617)]; exact hf_597
  have hf_635 : f_608 q_238 = some (.inl (cy 0, 8, .inl (fun _ => 0))) := by rw [e_609, va_up_ne _ _ (hn_618)]; exact hf_598
  have hf_636 : f_608 q_267 = some (.inl (cy 0, 8, .inl (fun _ => 0))) := by rw [e_609, va_up_ne _ _ (hn_619)]; exact hf_599
  have hf_637 : f_608 q_299 = some (.inl (cy 0, 8, .inl (fun _ => 0))) := by rw [e_609, va_up_ne _ _ (hn_620)]; exact hf_600
  have hf_638 : f_608 q_334 = some (.inl (cy 0, 8, .inl (fun _ => 0))) := by rw [e_609, va_up_ne _ _ (hn_621)]; exact hf_601
  have hf_639 : f_608 q_372 = some (.inl (cy 0, 8, .inl (fun _ => 0))) := by rw [e_609, va_up_ne _ _ (hn_622)]; exact hf_602
  have hf_640 : f_608 q_413 = some (.inl (cy 0, 80, .inl (fun _ => 0))) := by rw [e_609, va_up_ne _ _ (hn_623)]; exact hf_603
  have hf_641 : f_608 q_457 = some (.inl (cy 0, 80, .inl (fun _ => 0))) := by rw [e_609, va_up_ne _ _ (hn_624)]; exact hf_604
  have hf_642 : f_608 q_504 = some (.inl (cy 0, 80, .inl (fun _ => 0))) := by rw [e_609, va_up_ne _ _ (hn_625)]; exact hf_605
  have hf_643 : f_608 q_554 = some (.inl (cy 0, 80, .inl (fun _ => 0))) := by rw [e_609, va_up_ne _ _ (hn_626)]; exact hf_606
  refine g_putF (ci := 6) (v := .ref q_607) (ty := (.array .int)) (C := RX5) (T := TX5) (N := 23) hx hb hts hinX5 tyX5 tyX5_ok nmX5 hown hI hf_628 rfl 18 (by decide) hw19 (fun _ h9 => h9) rfl hin rfl (by decide +kernel) rfl rfl (Nat.le_of_ble_eq_true rfl) dX5_init_216 (fun f_644 H locs e_645 hI => ?_)
  have e_645 : f_644 = va_up f_608 mm (some (.inr (6, [.int 0, .ref q_1, .ref q_28, .ref q_62, .ref q_79, .ref q_141, .int 0, .ref q_212, .ref q_238, .ref q_267, .ref q_299, .ref q_334, .ref q_372, .int 0, .ref q_413, .ref q_457, .ref q_504, .ref q_554, .ref q_607, .null, .null, .null, .int 0]))) := e_645
  have hf_646 : f_644 mm = some (.inr (6, [.int 0, .ref q_1, .ref q_28, .ref q_62, .ref q_79, .ref q_141, .int 0, .ref q_212, .ref q_238, .ref q_267, .ref q_299, .ref q_334, .ref q_372, .int 0, .ref q_413, .ref q_457, .ref q_504, .ref q_554, .ref q_607, .null, .null, .null, .int 0])) := by rw [e_645]; exact va_up_self _ _ _
  have hf_647 : f_644 q_1 = some (.inl (cy 0, 4, .inl (upd (upd (upd (upd (fun _ => 0) (ix 0) 10) (ix 1) 10) (ix 2) 10) (ix 3) 10))) := by rw [e_645, va_up_ne _ _ ((Ne.symm hn_5))]; exact hf_629
  have hf_648 : f_644 q_28 = some (.inl (cy 0, 4, .inl (upd (upd (upd (upd (fun _ => 0) (ix 0) 1) (ix 1) 1) (ix 2) 1) (ix 3) 1))) := by rw [e_645, va_up_ne _ _ ((Ne.symm hn_32))]; exact hf_630
  have hf_649 : f_644 q_62 = some (.inl (cy 0, 4, .inl (fun _ => 0))) := by rw [e_645, va_up_ne _ _ ((Ne.symm hn_66))]; exact hf_631
  have hf_650 : f_644 q_79 = some (.inl (cy 0, 6, .inl (upd (upd (upd (upd (upd (upd (fun _ => 0) (ix 0) 10) (ix 1) 10) (ix 2) 10) (ix 3) 10) (ix 4) 10) (ix 5) 10))) := by rw [e_645, va_up_ne _ _ ((Ne.symm hn_83))]; exact hf_632
  have hf_651 : f_644 q_141 = some (.inl (cy 0, 6, .inl (upd (upd (upd (upd (upd (upd (fun _ => 0) (ix 0) 1) (ix 1) 1) (ix 2) 1) (ix 3) 1) (ix 4) 1) (ix 5) 1))) := by rw [e_645, va_up_ne _ _ ((Ne.symm hn_145))]; exact hf_633
  have hf_652 : f_644 q_212 = some (.inl (cy 0, 8, .inl (fun _ => 0))) := by rw [e_645, va_up_ne _ _ ((Ne.symm hn_216))]; exact hf_634
  have hf_653 : f_644 q_238 = some (.inl (cy 0, 8, .inl (fun _ => 0))) := by rw [e_645, va_up_ne _ _ ((Ne.symm hn_242))]; exact hf_635
  have hf_654 : f_644 q_267 = some (.inl (cy 0, 8, .inl (fun _ => 0))) := by rw [e_645, va_up_ne _ _ ((Ne.symm hn_271))]; exact hf_636
  have hf_655 : f_644 q_299 = some (.inl (cy 0, 8, .inl (fun _ => 0))) := by rw [e_645, va_up_ne _ _ ((Ne.symm hn_303))]; exact hf_637
  have hf_656 : f_644 q_334 = some (.inl (cy 0, 8, .inl (fun _ => 0))) := by rw [e_645, va_up_ne _ _ ((Ne.symm hn_338))]; exact hf_638
  have hf_657 : f_644 q_372 = some (.inl (cy 0, 8, .inl (fun _ => 0))) := by rw [e_645, va_up_ne _ _ ((Ne.symm hn_376))]; exact hf_639
  have hf_658 : f_644 q_413 = some (.inl (cy 0, 80, .inl (fun _ => 0))) := by rw [e_645, va_up_ne _ _ ((Ne.symm hn_417))]; exact hf_640
  have hf_659 : f_644 q_457 = some (.inl (cy 0, 80, .inl (fun _ => 0))) := by rw [e_645, va_up_ne _ _ ((Ne.symm hn_461))]; exact hf_641
  have hf_660 : f_644 q_504 = some (.inl (cy 0, 80, .inl (fun _ => 0))) := by rw [e_645, va_up_ne _ _ ((Ne.symm hn_508))]; exact hf_642
  have hf_661 : f_644 q_554 = some (.inl (cy 0, 80, .inl (fun _ => 0))) := by rw [e_645, va_up_ne _ _ ((Ne.symm hn_558))]; exact hf_643
  have hf_662 : f_644 q_607 = some (.inl (cy 0, 80, .inl (fun _ => 0))) := by rw [e_645, va_up_ne _ _ ((Ne.symm hn_611))]; exact hf_627
  refine lv_aload_n hx hb dX5_init_219 rfl (lv_at hl 0 rfl) ?_
  refine lv_bipush (v := 80) hx hb dX5_init_220 (by decide) ?_
  refine g_newi (N' := 80) hx hb hw3 hI (by decide) (by decide) (by decide) (Nat.le_of_ble_eq_true rfl) (Nat.le_of_ble_eq_true rfl) dX5_init_222 (fun q_663 f_664 H hq_666 e_665 hI => ?_)
  have hn_667 : mm ≠ q_663 := g_nn hf_646 hq_666
  have hn_668 : q_1 ≠ q_663 := g_nn hf_647 hq_666
  have hn_669 : q_28 ≠ q_663 := g_nn hf_648 hq_666
  have hn_670 : q_62 ≠ q_663 := g_nn hf_649 hq_666
  have hn_671 : q_79 ≠ q_663 := g_nn hf_650 hq_666
  have hn_672 : q_141 ≠ q_663 := g_nn hf_651 hq_666
  have hn_673 : q_212 ≠ q_663 := g_nn hf_652 hq_666
  have hn_674 : q_238 ≠ q_663 := g_nn hf_653 hq_666
  have hn_675 : q_267 ≠ q_663 := g_nn hf_654 hq_666
  have hn_676 : q_299 ≠ q_663 := g_nn hf_655 hq_666
  have hn_677 : q_334 ≠ q_663 := g_nn hf_656 hq_666
  have hn_678 : q_372 ≠ q_663 := g_nn hf_657 hq_666
  have hn_679 : q_413 ≠ q_663 := g_nn hf_658 hq_666
  have hn_680 : q_457 ≠ q_663 := g_nn hf_659 hq_666
  have hn_681 : q_504 ≠ q_663 := g_nn hf_660 hq_666
  have hn_682 : q_554 ≠ q_663 := g_nn hf_661 hq_666
  have hn_683 : q_607 ≠ q_663 := g_nn hf_662 hq_666
  have e_665 : f_664 = va_up f_644 q_663 (some (.inl (cy 0, 80, .inl (fun _ => 0)))) := e_665
  have hf_684 : f_664 q_663 = some (.inl (cy 0, 80, .inl (fun _ => 0))) := by rw [e_665]; exact va_up_self _ _ _
  have hf_685 : f_664 mm = some (.inr (6, [.int 0, .ref q_1, .ref q_28, .ref q_62, .ref q_79, .ref q_141, .int 0, .ref q_212, .ref q_238, .ref q_267, .ref q_299, .ref q_334, .ref q_372, .int 0, .ref q_413, .ref q_457, .ref q_504, .ref q_554, .ref q_607, .null, .null, .null, .int 0])) := by rw [e_665, va_up_ne _ _ (hn_667)]; exact hf_646
  have hf_686 : f_664 q_1 = some (.inl (cy 0, 4, .inl (upd (upd (upd (upd (fun _ => 0) (ix 0) 10) (ix 1) 10) (ix 2) 10) (ix 3) 10))) := by rw [e_665, va_up_ne _ _ (hn_668)]; exact hf_647
  have hf_687 : f_664 q_28 = some (.inl (cy 0, 4, .inl (upd (upd (upd (upd (fun _ => 0) (ix 0) 1) (ix 1) 1) (ix 2) 1) (ix 3) 1))) := by rw [e_665, va_up_ne _ _ (hn_669)]; exact hf_648
  have hf_688 : f_664 q_62 = some (.inl (cy 0, 4, .inl (fun _ => 0))) := by rw [e_665, va_up_ne _ _ (hn_670)]; exact hf_649
  have hf_689 : f_664 q_79 = some (.inl (cy 0, 6, .inl (upd (upd (upd (upd (upd (upd (fun _ => 0) (ix 0) 10) (ix 1) 10) (ix 2) 10) (ix 3) 10) (ix 4) 10) (ix 5) 10))) := by rw [e_665, va_up_ne _ _ (hn_671)]; exact hf_650
  have hf_690 : f_664 q_141 = some (.inl (cy 0, 6, .inl (upd (upd (upd (upd (upd (upd (fun _ => 0) (ix 0) 1) (ix 1) 1) (ix 2) 1) (ix 3) 1) (ix 4) 1) (ix 5) 1))) := by rw [e_665, va_up_ne _ _ (hn_672)]; exact hf_651
  have hf_691 : f_664 q_212 = some (.inl (cy 0, 8, .inl (fun _ => 0))) := by rw [e_665, va_up_ne _ _ (hn_673)]; exact hf_652
  have hf_692 : f_664 q_238 = some (.inl (cy 0, 8, .inl (fun _ => 0))) := by rw [e_665, va_up_ne _ _ (hn_674)]; exact hf_653
  have hf_693 : f_664 q_267 = some (.inl (cy 0, 8, .inl (fun _ => 0))) := by rw [e_665, va_up_ne _ _ (hn_675)]; exact hf_654
  have hf_694 : f_664 q_299 = some (.inl (cy 0, 8, .inl (fun _ => 0))) := by rw [e_665, va_up_ne _ _ (hn_676)]; exact hf_655
  have hf_695 : f_664 q_334 = some (.inl (cy 0, 8, .inl (fun _ => 0))) := by rw [e_665, va_up_ne _ _ (hn_677)]; exact hf_656
  have hf_696 : f_664 q_372 = some (.inl (cy 0, 8, .inl (fun _ => 0))) := by rw [e_665, va_up_ne _ _ (hn_678)]; exact hf_657
  have hf_697 : f_664 q_413 = some (.inl (cy 0, 80, .inl (fun _ => 0))) := by rw [e_665, va_up_ne _ _ (hn_679)]; exact hf_658
  have hf_698 : f_664 q_457 = some (.inl (cy 0, 80, .inl (fun _ => 0))) := by rw [e_665, va_up_ne _ _ (hn_680)]; exact hf_659
  have hf_699 : f_664 q_504 = some (.inl (cy 0, 80, .inl (fun _ => 0))) := by rw [e_665, va_up_ne _ _ (hn_681)]; exact hf_660
  have hf_700 : f_664 q_554 = some (.inl (cy 0, 80, .inl (fun _ => 0))) := by rw [e_665, va_up_ne _ _ (hn_682)]; exact hf_661
  have hf_701 : f_664 q_607 = some (.inl (cy 0, 80, .inl (fun _ => 0))) := by rw [e_665, va_up_ne _ _ (hn_683)]; exact hf_662
  refine g_putF (ci := 6) (v := .ref q_663) (ty := (.array .int)) (C := RX5) (T := TX5) (N := 23) hx hb hts hinX5 tyX5 tyX5_ok nmX5 hown hI hf_685 rfl 19 (by decide) hw20 (fun _ h9 => h9) rfl hin rfl (by decide +kernel) rfl rfl (Nat.le_of_ble_eq_true rfl) dX5_init_224 (fun f_702 H locs e_703 hI => ?_)
  have e_703 : f_702 = va_up f_664 mm (some (.inr (6, [.int 0, .ref q_1, .ref q_28, .ref q_62, .ref q_79, .ref q_141, .int 0, .ref q_212, .ref q_238, .ref q_267, .ref q_299, .ref q_334, .ref q_372, .int 0, .ref q_413, .ref q_457, .ref q_504, .ref q_554, .ref q_607, .ref q_663, .null, .null, .int 0]))) := e_703
  have hf_704 : f_702 mm = some (.inr (6, [.int 0, .ref q_1, .ref q_28, .ref q_62, .ref q_79, .ref q_141, .int 0, .ref q_212, .ref q_238, .ref q_267, .ref q_299, .ref q_334, .ref q_372, .int 0, .ref q_413, .ref q_457, .ref q_504, .ref q_554, .ref q_607, .ref q_663, .null, .null, .int 0])) := by rw [e_703]; exact va_up_self _ _ _
  have hf_705 : f_702 q_1 = some (.inl (cy 0, 4, .inl (upd (upd (upd (upd (fun _ => 0) (ix 0) 10) (ix 1) 10) (ix 2) 10) (ix 3) 10))) := by rw [e_703, va_up_ne _ _ ((Ne.symm hn_5))]; exact hf_686
  have hf_706 : f_702 q_28 = some (.inl (cy 0, 4, .inl (upd (upd (upd (upd (fun _ => 0) (ix 0) 1) (ix 1) 1) (ix 2) 1) (ix 3) 1))) := by rw [e_703, va_up_ne _ _ ((Ne.symm hn_32))]; exact hf_687
  have hf_707 : f_702 q_62 = some (.inl (cy 0, 4, .inl (fun _ => 0))) := by rw [e_703, va_up_ne _ _ ((Ne.symm hn_66))]; exact hf_688
  have hf_708 : f_702 q_79 = some (.inl (cy 0, 6, .inl (upd (upd (upd (upd (upd (upd (fun _ => 0) (ix 0) 10) (ix 1) 10) (ix 2) 10) (ix 3) 10) (ix 4) 10) (ix 5) 10))) := by rw [e_703, va_up_ne _ _ ((Ne.symm hn_83))]; exact hf_689
  have hf_709 : f_702 q_141 = some (.inl (cy 0, 6, .inl (upd (upd (upd (upd (upd (upd (fun _ => 0) (ix 0) 1) (ix 1) 1) (ix 2) 1) (ix 3) 1) (ix 4) 1) (ix 5) 1))) := by rw [e_703, va_up_ne _ _ ((Ne.symm hn_145))]; exact hf_690
  have hf_710 : f_702 q_212 = some (.inl (cy 0, 8, .inl (fun _ => 0))) := by rw [e_703, va_up_ne _ _ ((Ne.symm hn_216))]; exact hf_691
  have hf_711 : f_702 q_238 = some (.inl (cy 0, 8, .inl (fun _ => 0))) := by rw [e_703, va_up_ne _ _ ((Ne.symm hn_242))]; exact hf_692
  have hf_712 : f_702 q_267 = some (.inl (cy 0, 8, .inl (fun _ => 0))) := by rw [e_703, va_up_ne _ _ ((Ne.symm hn_271))]; exact hf_693
  have hf_713 : f_702 q_299 = some (.inl (cy 0, 8, .inl (fun _ => 0))) := by rw [e_703, va_up_ne _ _ ((Ne.symm hn_303))]; exact hf_694
  have hf_714 : f_702 q_334 = some (.inl (cy 0, 8, .inl (fun _ => 0))) := by rw [e_703, va_up_ne _ _ ((Ne.symm hn_338))]; exact hf_695
  have hf_715 : f_702 q_372 = some (.inl (cy 0, 8, .inl (fun _ => 0))) := by rw [e_703, va_up_ne _ _ ((Ne.symm hn_376))]; exact hf_696
  have hf_716 : f_702 q_413 = some (.inl (cy 0, 80, .inl (fun _ => 0))) := by rw [e_703, va_up_ne _ _ ((Ne.symm hn_417))]; exact hf_697
  have hf_717 : f_702 q_457 = some (.inl (cy 0, 80, .inl (fun _ => 0))) := by rw [e_703, va_up_ne _ _ ((Ne.symm hn_461))]; exact hf_698
  have hf_718 : f_702 q_504 = some (.inl (cy 0, 80, .inl (fun _ => 0))) := by rw [e_703, va_up_ne _ _ ((Ne.symm hn_508))]; exact hf_699
  have hf_719 : f_702 q_554 = some (.inl (cy 0, 80, .inl (fun _ => 0))) := by rw [e_703, va_up_ne _ _ ((Ne.symm hn_558))]; exact hf_700
  have hf_720 : f_702 q_607 = some (.inl (cy 0, 80, .inl (fun _ => 0))) := by rw [e_703, va_up_ne _ _ ((Ne.symm hn_611))]; exact hf_701
  have hf_721 : f_702 q_663 = some (.inl (cy 0, 80, .inl (fun _ => 0))) := by rw [e_703, va_up_ne _ _ ((Ne.symm hn_667))]; exact hf_684
  refine lv_aload_n hx hb dX5_init_227 rfl (lv_at hl 0 rfl) ?_
  refine lv_bipush (v := 80) hx hb dX5_init_228 (by decide) ?_
  refine g_newz (N' := 80) hx hb hw21 hI (by decide) (by decide) (by decide) (Nat.le_of_ble_eq_true rfl) (Nat.le_of_ble_eq_true rfl) dX5_init_230 (fun q_722 f_723 H hq_725 e_724 hI => ?_)
  have hn_726 : mm ≠ q_722 := g_nn hf_704 hq_725
  have hn_727 : q_1 ≠ q_722 := g_nn hf_705 hq_725
  have hn_728 : q_28 ≠ q_722 := g_nn hf_706 hq_725
  have hn_729 : q_62 ≠ q_722 := g_nn hf_707 hq_725
  have hn_730 : q_79 ≠ q_722 := g_nn hf_708 hq_725
  have hn_731 : q_141 ≠ q_722 := g_nn hf_709 hq_725
  have hn_732 : q_212 ≠ q_722 := g_nn hf_710 hq_725
  have hn_733 : q_238 ≠ q_722 := g_nn hf_711 hq_725
  have hn_734 : q_267 ≠ q_722 := g_nn hf_712 hq_725
  have hn_735 : q_299 ≠ q_722 := g_nn hf_713 hq_725
  have hn_736 : q_334 ≠ q_722 := g_nn hf_714 hq_725
  have hn_737 : q_372 ≠ q_722 := g_nn hf_715 hq_725
  have hn_738 : q_413 ≠ q_722 := g_nn hf_716 hq_725
  have hn_739 : q_457 ≠ q_722 := g_nn hf_717 hq_725
  have hn_740 : q_504 ≠ q_722 := g_nn hf_718 hq_725
  have hn_741 : q_554 ≠ q_722 := g_nn hf_719 hq_725
  have hn_742 : q_607 ≠ q_722 := g_nn hf_720 hq_725
  have hn_743 : q_663 ≠ q_722 := g_nn hf_721 hq_725
  have e_724 : f_723 = va_up f_702 q_722 (some (.inl (cy 1, 80, .inl (fun _ => 0)))) := e_724
  have hf_744 : f_723 q_722 = some (.inl (cy 1, 80, .inl (fun _ => 0))) := by rw [e_724]; exact va_up_self _ _ _
  have hf_745 : f_723 mm = some (.inr (6, [.int 0, .ref q_1, .ref q_28, .ref q_62, .ref q_79, .ref q_141, .int 0, .ref q_212, .ref q_238, .ref q_267, .ref q_299, .ref q_334, .ref q_372, .int 0, .ref q_413, .ref q_457, .ref q_504, .ref q_554, .ref q_607, .ref q_663, .null, .null, .int 0])) := by rw [e_724, va_up_ne _ _ (hn_726)]; exact hf_704
  have hf_746 : f_723 q_1 = some (.inl (cy 0, 4, .inl (upd (upd (upd (upd (fun _ => 0) (ix 0) 10) (ix 1) 10) (ix 2) 10) (ix 3) 10))) := by rw [e_724, va_up_ne _ _ (hn_727)]; exact hf_705
  have hf_747 : f_723 q_28 = some (.inl (cy 0, 4, .inl (upd (upd (upd (upd (fun _ => 0) (ix 0) 1) (ix 1) 1) (ix 2) 1) (ix 3) 1))) := by rw [e_724, va_up_ne _ _ (hn_728)]; exact hf_706
  have hf_748 : f_723 q_62 = some (.inl (cy 0, 4, .inl (fun _ => 0))) := by rw [e_724, va_up_ne _ _ (hn_729)]; exact hf_707
  have hf_749 : f_723 q_79 = some (.inl (cy 0, 6, .inl (upd (upd (upd (upd (upd (upd (fun _ => 0) (ix 0) 10) (ix 1) 10) (ix 2) 10) (ix 3) 10) (ix 4) 10) (ix 5) 10))) := by rw [e_724, va_up_ne _ _ (hn_730)]; exact hf_708
  have hf_750 : f_723 q_141 = some (.inl (cy 0, 6, .inl (upd (upd (upd (upd (upd (upd (fun _ => 0) (ix 0) 1) (ix 1) 1) (ix 2) 1) (ix 3) 1) (ix 4) 1) (ix 5) 1))) := by rw [e_724, va_up_ne _ _ (hn_731)]; exact hf_709
  have hf_751 : f_723 q_212 = some (.inl (cy 0, 8, .inl (fun _ => 0))) := by rw [e_724, va_up_ne _ _ (hn_732)]; exact hf_710
  have hf_752 : f_723 q_238 = some (.inl (cy 0, 8, .inl (fun _ => 0))) := by rw [e_724, va_up_ne _ _ (hn_733)]; exact hf_711
  have hf_753 : f_723 q_267 = some (.inl (cy 0, 8, .inl (fun _ => 0))) := by rw [e_724, va_up_ne _ _ (hn_734)]; exact hf_712
  have hf_754 : f_723 q_299 = some (.inl (cy 0, 8, .inl (fun _ => 0))) := by rw [e_724, va_up_ne _ _ (hn_735)]; exact hf_713
  have hf_755 : f_723 q_334 = some (.inl (cy 0, 8, .inl (fun _ => 0))) := by rw [e_724, va_up_ne _ _ (hn_736)]; exact hf_714
  have hf_756 : f_723 q_372 = some (.inl (cy 0, 8, .inl (fun _ => 0))) := by rw [e_724, va_up_ne _ _ (hn_737)]; exact hf_715
  have hf_757 : f_723 q_413 = some (.inl (cy 0, 80, .inl (fun _ => 0))) := by rw [e_724, va_up_ne _ _ (hn_738)]; exact hf_716
  have hf_758 : f_723 q_457 = some (.inl (cy 0, 80, .inl (fun _ => 0))) := by rw [e_724, va_up_ne _ _ (hn_739)]; exact hf_717
  have hf_759 : f_723 q_504 = some (.inl (cy 0, 80, .inl (fun _ => 0))) := by rw [e_724, va_up_ne _ _ (hn_740)]; exact hf_718
  have hf_760 : f_723 q_554 = some (.inl (cy 0, 80, .inl (fun _ => 0))) := by rw [e_724, va_up_ne _ _ (hn_741)]; exact hf_719
  have hf_761 : f_723 q_607 = some (.inl (cy 0, 80, .inl (fun _ => 0))) := by rw [e_724, va_up_ne _ _ (hn_742)]; exact hf_720
  have hf_762 : f_723 q_663 = some (.inl (cy 0, 80, .inl (fun _ => 0))) := by rw [e_724, va_up_ne _ _ (hn_743)]; exact hf_721
  refine g_putF (ci := 6) (v := .ref q_722) (ty := (.array .boolean)) (C := RX5) (T := TX5) (N := 23) hx hb hts hinX5 tyX5 tyX5_ok nmX5 hown hI hf_745 rfl 20 (by decide) hw22 (fun _ h9 => h9) rfl hin rfl (by decide +kernel) rfl rfl (Nat.le_of_ble_eq_true rfl) dX5_init_232 (fun f_763 H locs e_764 hI => ?_)
  have e_764 : f_763 = va_up f_723 mm (some (.inr (6, [.int 0, .ref q_1, .ref q_28, .ref q_62, .ref q_79, .ref q_141, .int 0, .ref q_212, .ref q_238, .ref q_267, .ref q_299, .ref q_334, .ref q_372, .int 0, .ref q_413, .ref q_457, .ref q_504, .ref q_554, .ref q_607, .ref q_663, .ref q_722, .null, .int 0]))) := e_764
  have hf_765 : f_763 mm = some (.inr (6, [.int 0, .ref q_1, .ref q_28, .ref q_62, .ref q_79, .ref q_141, .int 0, .ref q_212, .ref q_238, .ref q_267, .ref q_299, .ref q_334, .ref q_372, .int 0, .ref q_413, .ref q_457, .ref q_504, .ref q_554, .ref q_607, .ref q_663, .ref q_722, .null, .int 0])) := by rw [e_764]; exact va_up_self _ _ _
  have hf_766 : f_763 q_1 = some (.inl (cy 0, 4, .inl (upd (upd (upd (upd (fun _ => 0) (ix 0) 10) (ix 1) 10) (ix 2) 10) (ix 3) 10))) := by rw [e_764, va_up_ne _ _ ((Ne.symm hn_5))]; exact hf_746
  have hf_767 : f_763 q_28 = some (.inl (cy 0, 4, .inl (upd (upd (upd (upd (fun _ => 0) (ix 0) 1) (ix 1) 1) (ix 2) 1) (ix 3) 1))) := by rw [e_764, va_up_ne _ _ ((Ne.symm hn_32))]; exact hf_747
  have hf_768 : f_763 q_62 = some (.inl (cy 0, 4, .inl (fun _ => 0))) := by rw [e_764, va_up_ne _ _ ((Ne.symm hn_66))]; exact hf_748
  have hf_769 : f_763 q_79 = some (.inl (cy 0, 6, .inl (upd (upd (upd (upd (upd (upd (fun _ => 0) (ix 0) 10) (ix 1) 10) (ix 2) 10) (ix 3) 10) (ix 4) 10) (ix 5) 10))) := by rw [e_764, va_up_ne _ _ ((Ne.symm hn_83))]; exact hf_749
  have hf_770 : f_763 q_141 = some (.inl (cy 0, 6, .inl (upd (upd (upd (upd (upd (upd (fun _ => 0) (ix 0) 1) (ix 1) 1) (ix 2) 1) (ix 3) 1) (ix 4) 1) (ix 5) 1))) := by rw [e_764, va_up_ne _ _ ((Ne.symm hn_145))]; exact hf_750
  have hf_771 : f_763 q_212 = some (.inl (cy 0, 8, .inl (fun _ => 0))) := by rw [e_764, va_up_ne _ _ ((Ne.symm hn_216))]; exact hf_751
  have hf_772 : f_763 q_238 = some (.inl (cy 0, 8, .inl (fun _ => 0))) := by rw [e_764, va_up_ne _ _ ((Ne.symm hn_242))]; exact hf_752
  have hf_773 : f_763 q_267 = some (.inl (cy 0, 8, .inl (fun _ => 0))) := by rw [e_764, va_up_ne _ _ ((Ne.symm hn_271))]; exact hf_753
  have hf_774 : f_763 q_299 = some (.inl (cy 0, 8, .inl (fun _ => 0))) := by rw [e_764, va_up_ne _ _ ((Ne.symm hn_303))]; exact hf_754
  have hf_775 : f_763 q_334 = some (.inl (cy 0, 8, .inl (fun _ => 0))) := by rw [e_764, va_up_ne _ _ ((Ne.symm hn_338))]; exact hf_755
  have hf_776 : f_763 q_372 = some (.inl (cy 0, 8, .inl (fun _ => 0))) := by rw [e_764, va_up_ne _ _ ((Ne.symm hn_376))]; exact hf_756
  have hf_777 : f_763 q_413 = some (.inl (cy 0, 80, .inl (fun _ => 0))) := by rw [e_764, va_up_ne _ _ ((Ne.symm hn_417))]; exact hf_757
  have hf_778 : f_763 q_457 = some (.inl (cy 0, 80, .inl (fun _ => 0))) := by rw [e_764, va_up_ne _ _ ((Ne.symm hn_461))]; exact hf_758
  have hf_779 : f_763 q_504 = some (.inl (cy 0, 80, .inl (fun _ => 0))) := by rw [e_764, va_up_ne _ _ ((Ne.symm hn_508))]; exact hf_759
  have hf_780 : f_763 q_554 = some (.inl (cy 0, 80, .inl (fun _ => 0))) := by rw [e_764, va_up_ne _ _ ((Ne.symm hn_558))]; exact hf_760
  have hf_781 : f_763 q_607 = some (.inl (cy 0, 80, .inl (fun _ => 0))) := by rw [e_764, va_up_ne _ _ ((Ne.symm hn_611))]; exact hf_761
  have hf_782 : f_763 q_663 = some (.inl (cy 0, 80, .inl (fun _ => 0))) := by rw [e_764, va_up_ne _ _ ((Ne.symm hn_667))]; exact hf_762
  have hf_783 : f_763 q_722 = some (.inl (cy 1, 80, .inl (fun _ => 0))) := by rw [e_764, va_up_ne _ _ ((Ne.symm hn_726))]; exact hf_744
  refine lv_aload_n hx hb dX5_init_235 rfl (lv_at hl 0 rfl) ?_
  refine lv_bipush (v := 80) hx hb dX5_init_236 (by decide) ?_
  refine g_newz (N' := 80) hx hb hw21 hI (by decide) (by decide) (by decide) (Nat.le_of_ble_eq_true rfl) (Nat.le_of_ble_eq_true rfl) dX5_init_238 (fun q_784 f_785 H hq_787 e_786 hI => ?_)
  have hn_788 : mm ≠ q_784 := g_nn hf_765 hq_787
  have hn_789 : q_1 ≠ q_784 := g_nn hf_766 hq_787
  have hn_790 : q_28 ≠ q_784 := g_nn hf_767 hq_787
  have hn_791 : q_62 ≠ q_784 := g_nn hf_768 hq_787
  have hn_792 : q_79 ≠ q_784 := g_nn hf_769 hq_787
  have hn_793 : q_141 ≠ q_784 := g_nn hf_770 hq_787
  have hn_794 : q_212 ≠ q_784 := g_nn hf_771 hq_787
  have hn_795 : q_238 ≠ q_784 := g_nn hf_772 hq_787
  have hn_796 : q_267 ≠ q_784 := g_nn hf_773 hq_787
  have hn_797 : q_299 ≠ q_784 := g_nn hf_774 hq_787
  have hn_798 : q_334 ≠ q_784 := g_nn hf_775 hq_787
  have hn_799 : q_372 ≠ q_784 := g_nn hf_776 hq_787
  have hn_800 : q_413 ≠ q_784 := g_nn hf_777 hq_787
  have hn_801 : q_457 ≠ q_784 := g_nn hf_778 hq_787
  have hn_802 : q_504 ≠ q_784 := g_nn hf_779 hq_787
  have hn_803 : q_554 ≠ q_784 := g_nn hf_780 hq_787
  have hn_804 : q_607 ≠ q_784 := g_nn hf_781 hq_787
  have hn_805 : q_663 ≠ q_784 := g_nn hf_782 hq_787
  have hn_806 : q_722 ≠ q_784 := g_nn hf_783 hq_787
  have e_786 : f_785 = va_up f_763 q_784 (some (.inl (cy 1, 80, .inl (fun _ => 0)))) := e_786
  have hf_807 : f_785 q_784 = some (.inl (cy 1, 80, .inl (fun _ => 0))) := by rw [e_786]; exact va_up_self _ _ _
  have hf_808 : f_785 mm = some (.inr (6, [.int 0, .ref q_1, .ref q_28, .ref q_62, .ref q_79, .ref q_141, .int 0, .ref q_212, .ref q_238, .ref q_267, .ref q_299, .ref q_334, .ref q_372, .int 0, .ref q_413, .ref q_457, .ref q_504, .ref q_554, .ref q_607, .ref q_663, .ref q_722, .null, .int 0])) := by rw [e_786, va_up_ne _ _ (hn_788)]; exact hf_765
  have hf_809 : f_785 q_1 = some (.inl (cy 0, 4, .inl (upd (upd (upd (upd (fun _ => 0) (ix 0) 10) (ix 1) 10) (ix 2) 10) (ix 3) 10))) := by rw [e_786, va_up_ne _ _ (hn_789)]; exact hf_766
  have hf_810 : f_785 q_28 = some (.inl (cy 0, 4, .inl (upd (upd (upd (upd (fun _ => 0) (ix 0) 1) (ix 1) 1) (ix 2) 1) (ix 3) 1))) := by rw [e_786, va_up_ne _ _ (hn_790)]; exact hf_767
  have hf_811 : f_785 q_62 = some (.inl (cy 0, 4, .inl (fun _ => 0))) := by rw [e_786, va_up_ne _ _ (hn_791)]; exact hf_768
  have hf_812 : f_785 q_79 = some (.inl (cy 0, 6, .inl (upd (upd (upd (upd (upd (upd (fun _ => 0) (ix 0) 10) (ix 1) 10) (ix 2) 10) (ix 3) 10) (ix 4) 10) (ix 5) 10))) := by rw [e_786, va_up_ne _ _ (hn_792)]; exact hf_769
  have hf_813 : f_785 q_141 = some (.inl (cy 0, 6, .inl (upd (upd (upd (upd (upd (upd (fun _ => 0) (ix 0) 1) (ix 1) 1) (ix 2) 1) (ix 3) 1) (ix 4) 1) (ix 5) 1))) := by rw [e_786, va_up_ne _ _ (hn_793)]; exact hf_770
  have hf_814 : f_785 q_212 = some (.inl (cy 0, 8, .inl (fun _ => 0))) := by rw [e_786, va_up_ne _ _ (hn_794)]; exact hf_771
  have hf_815 : f_785 q_238 = some (.inl (cy 0, 8, .inl (fun _ => 0))) := by rw [e_786, va_up_ne _ _ (hn_795)]; exact hf_772
  have hf_816 : f_785 q_267 = some (.inl (cy 0, 8, .inl (fun _ => 0))) := by rw [e_786, va_up_ne _ _ (hn_796)]; exact hf_773
  have hf_817 : f_785 q_299 = some (.inl (cy 0, 8, .inl (fun _ => 0))) := by rw [e_786, va_up_ne _ _ (hn_797)]; exact hf_774
  have hf_818 : f_785 q_334 = some (.inl (cy 0, 8, .inl (fun _ => 0))) := by rw [e_786, va_up_ne _ _ (hn_798)]; exact hf_775
  have hf_819 : f_785 q_372 = some (.inl (cy 0, 8, .inl (fun _ => 0))) := by rw [e_786, va_up_ne _ _ (hn_799)]; exact hf_776
  have hf_820 : f_785 q_413 = some (.inl (cy 0, 80, .inl (fun _ => 0))) := by rw [e_786, va_up_ne _ _ (hn_800)]; exact hf_777
  have hf_821 : f_785 q_457 = some (.inl (cy 0, 80, .inl (fun _ => 0))) := by rw [e_786, va_up_ne _ _ (hn_801)]; exact hf_778
  have hf_822 : f_785 q_504 = some (.inl (cy 0, 80, .inl (fun _ => 0))) := by rw [e_786, va_up_ne _ _ (hn_802)]; exact hf_779
  have hf_823 : f_785 q_554 = some (.inl (cy 0, 80, .inl (fun _ => 0))) := by rw [e_786, va_up_ne _ _ (hn_803)]; exact hf_780
  have hf_824 : f_785 q_607 = some (.inl (cy 0, 80, .inl (fun _ => 0))) := by rw [e_786, va_up_ne _ _ (hn_804)]; exact hf_781
  have hf_825 : f_785 q_663 = some (.inl (cy 0, 80, .inl (fun _ => 0))) := by rw [e_786, va_up_ne _ _ (hn_805)]; exact hf_782
  have hf_826 : f_785 q_722 = some (.inl (cy 1, 80, .inl (fun _ => 0))) := by rw [e_786, va_up_ne _ _ (hn_806)]; exact hf_783
  refine g_putF (ci := 6) (v := .ref q_784) (ty := (.array .boolean)) (C := RX5) (T := TX5) (N := 23) hx hb hts hinX5 tyX5 tyX5_ok nmX5 hown hI hf_808 rfl 21 (by decide) hw23 (fun _ h9 => h9) rfl hin rfl (by decide +kernel) rfl rfl (Nat.le_of_ble_eq_true rfl) dX5_init_240 (fun f_827 H locs e_828 hI => ?_)
  have e_828 : f_827 = va_up f_785 mm (some (.inr (6, [.int 0, .ref q_1, .ref q_28, .ref q_62, .ref q_79, .ref q_141, .int 0, .ref q_212, .ref q_238, .ref q_267, .ref q_299, .ref q_334, .ref q_372, .int 0, .ref q_413, .ref q_457, .ref q_504, .ref q_554, .ref q_607, .ref q_663, .ref q_722, .ref q_784, .int 0]))) := e_828
  have hf_829 : f_827 mm = some (.inr (6, [.int 0, .ref q_1, .ref q_28, .ref q_62, .ref q_79, .ref q_141, .int 0, .ref q_212, .ref q_238, .ref q_267, .ref q_299, .ref q_334, .ref q_372, .int 0, .ref q_413, .ref q_457, .ref q_504, .ref q_554, .ref q_607, .ref q_663, .ref q_722, .ref q_784, .int 0])) := by rw [e_828]; exact va_up_self _ _ _
  have hf_830 : f_827 q_1 = some (.inl (cy 0, 4, .inl (upd (upd (upd (upd (fun _ => 0) (ix 0) 10) (ix 1) 10) (ix 2) 10) (ix 3) 10))) := by rw [e_828, va_up_ne _ _ ((Ne.symm hn_5))]; exact hf_809
  have hf_831 : f_827 q_28 = some (.inl (cy 0, 4, .inl (upd (upd (upd (upd (fun _ => 0) (ix 0) 1) (ix 1) 1) (ix 2) 1) (ix 3) 1))) := by rw [e_828, va_up_ne _ _ ((Ne.symm hn_32))]; exact hf_810
  have hf_832 : f_827 q_62 = some (.inl (cy 0, 4, .inl (fun _ => 0))) := by rw [e_828, va_up_ne _ _ ((Ne.symm hn_66))]; exact hf_811
  have hf_833 : f_827 q_79 = some (.inl (cy 0, 6, .inl (upd (upd (upd (upd (upd (upd (fun _ => 0) (ix 0) 10) (ix 1) 10) (ix 2) 10) (ix 3) 10) (ix 4) 10) (ix 5) 10))) := by rw [e_828, va_up_ne _ _ ((Ne.symm hn_83))]; exact hf_812
  have hf_834 : f_827 q_141 = some (.inl (cy 0, 6, .inl (upd (upd (upd (upd (upd (upd (fun _ => 0) (ix 0) 1) (ix 1) 1) (ix 2) 1) (ix 3) 1) (ix 4) 1) (ix 5) 1))) := by rw [e_828, va_up_ne _ _ ((Ne.symm hn_145))]; exact hf_813
  have hf_835 : f_827 q_212 = some (.inl (cy 0, 8, .inl (fun _ => 0))) := by rw [e_828, va_up_ne _ _ ((Ne.symm hn_216))]; exact hf_814
  have hf_836 : f_827 q_238 = some (.inl (cy 0, 8, .inl (fun _ => 0))) := by rw [e_828, va_up_ne _ _ ((Ne.symm hn_242))]; exact hf_815
  have hf_837 : f_827 q_267 = some (.inl (cy 0, 8, .inl (fun _ => 0))) := by rw [e_828, va_up_ne _ _ ((Ne.symm hn_271))]; exact hf_816
  have hf_838 : f_827 q_299 = some (.inl (cy 0, 8, .inl (fun _ => 0))) := by rw [e_828, va_up_ne _ _ ((Ne.symm hn_303))]; exact hf_817
  have hf_839 : f_827 q_334 = some (.inl (cy 0, 8, .inl (fun _ => 0))) := by rw [e_828, va_up_ne _ _ ((Ne.symm hn_338))]; exact hf_818
  have hf_840 : f_827 q_372 = some (.inl (cy 0, 8, .inl (fun _ => 0))) := by rw [e_828, va_up_ne _ _ ((Ne.symm hn_376))]; exact hf_819
  have hf_841 : f_827 q_413 = some (.inl (cy 0, 80, .inl (fun _ => 0))) := by rw [e_828, va_up_ne _ _ ((Ne.symm hn_417))]; exact hf_820
  have hf_842 : f_827 q_457 = some (.inl (cy 0, 80, .inl (fun _ => 0))) := by rw [e_828, va_up_ne _ _ ((Ne.symm hn_461))]; exact hf_821
  have hf_843 : f_827 q_504 = some (.inl (cy 0, 80, .inl (fun _ => 0))) := by rw [e_828, va_up_ne _ _ ((Ne.symm hn_508))]; exact hf_822
  have hf_844 : f_827 q_554 = some (.inl (cy 0, 80, .inl (fun _ => 0))) := by rw [e_828, va_up_ne _ _ ((Ne.symm hn_558))]; exact hf_823
  have hf_845 : f_827 q_607 = some (.inl (cy 0, 80, .inl (fun _ => 0))) := by rw [e_828, va_up_ne _ _ ((Ne.symm hn_611))]; exact hf_824
  have hf_846 : f_827 q_663 = some (.inl (cy 0, 80, .inl (fun _ => 0))) := by rw [e_828, va_up_ne _ _ ((Ne.symm hn_667))]; exact hf_825
  have hf_847 : f_827 q_722 = some (.inl (cy 1, 80, .inl (fun _ => 0))) := by rw [e_828, va_up_ne _ _ ((Ne.symm hn_726))]; exact hf_826
  have hf_848 : f_827 q_784 = some (.inl (cy 1, 80, .inl (fun _ => 0))) := by rw [e_828, va_up_ne _ _ ((Ne.symm hn_788))]; exact hf_807
  have hnd : ([q_1, q_28, q_62, q_79, q_141, q_212, q_238, q_267, q_299, q_334, q_372, q_413, q_457, q_504, q_554, q_607, q_663, q_722, q_784] : List Nat).Nodup := by
    exact (List.nodup_cons.mpr ⟨(by simp only [List.mem_cons, List.not_mem_nil, or_false, not_or]; exact ⟨hn_33, hn_67, hn_84, hn_146, hn_217, hn_243, hn_272, hn_304, hn_339, hn_377, hn_418, hn_462, hn_509, hn_559, hn_612, hn_668, hn_727, hn_789⟩), (List.nodup_cons.mpr ⟨(by simp only [List.mem_cons, List.not_mem_nil, or_false, not_or]; exact ⟨hn_68, hn_85, hn_147, hn_218, hn_244, hn_273, hn_305, hn_340, hn_378, hn_419, hn_463, hn_510, hn_560, hn_613, hn_669, hn_728, hn_790⟩), (List.nodup_cons.mpr ⟨(by simp only [List.mem_cons, List.not_mem_nil, or_false, not_or]; exact ⟨hn_86, hn_148, hn_219, hn_245, hn_274, hn_306, hn_341, hn_379, hn_420, hn_464, hn_511, hn_561, hn_614, hn_670, hn_729, hn_791⟩), (List.nodup_cons.mpr ⟨(by simp only [List.mem_cons, List.not_mem_nil, or_false, not_or]; exact ⟨hn_149, hn_220, hn_246, hn_275, hn_307, hn_342, hn_380, hn_421, hn_465, hn_512, hn_562, hn_615, hn_671, hn_730, hn_792⟩), (List.nodup_cons.mpr ⟨(by simp only [List.mem_cons, List.not_mem_nil, or_false, not_or]; exact ⟨hn_221, hn_247, hn_276, hn_308, hn_343, hn_381, hn_422, hn_466, hn_513, hn_563, hn_616, hn_672, hn_731, hn_793⟩), (List.nodup_cons.mpr ⟨(by simp only [List.mem_cons, List.not_mem_nil, or_false, not_or]; exact ⟨hn_248, hn_277, hn_309, hn_344, hn_382, hn_423, hn_467, hn_514, hn_564, hn_617, hn_673, hn_732, hn_794⟩), (List.nodup_cons.mpr ⟨(by simp only [List.mem_cons, List.not_mem_nil, or_false, not_or]; exact ⟨hn_278, hn_310, hn_345, hn_383, hn_424, hn_468, hn_515, hn_565, hn_618, hn_674, hn_733, hn_795⟩), (List.nodup_cons.mpr ⟨(by simp only [List.mem_cons, List.not_mem_nil, or_false, not_or]; exact ⟨hn_311, hn_346, hn_384, hn_425, hn_469, hn_516, hn_566, hn_619, hn_675, hn_734, hn_796⟩), (List.nodup_cons.mpr ⟨(by simp only [List.mem_cons, List.not_mem_nil, or_false, not_or]; exact ⟨hn_347, hn_385, hn_426, hn_470, hn_517, hn_567, hn_620, hn_676, hn_735, hn_797⟩), (List.nodup_cons.mpr ⟨(by simp only [List.mem_cons, List.not_mem_nil, or_false, not_or]; exact ⟨hn_386, hn_427, hn_471, hn_518, hn_568, hn_621, hn_677, hn_736, hn_798⟩), (List.nodup_cons.mpr ⟨(by simp only [List.mem_cons, List.not_mem_nil, or_false, not_or]; exact ⟨hn_428, hn_472, hn_519, hn_569, hn_622, hn_678, hn_737, hn_799⟩), (List.nodup_cons.mpr ⟨(by simp only [List.mem_cons, List.not_mem_nil, or_false, not_or]; exact ⟨hn_473, hn_520, hn_570, hn_623, hn_679, hn_738, hn_800⟩), (List.nodup_cons.mpr ⟨(by simp only [List.mem_cons, List.not_mem_nil, or_false, not_or]; exact ⟨hn_521, hn_571, hn_624, hn_680, hn_739, hn_801⟩), (List.nodup_cons.mpr ⟨(by simp only [List.mem_cons, List.not_mem_nil, or_false, not_or]; exact ⟨hn_572, hn_625, hn_681, hn_740, hn_802⟩), (List.nodup_cons.mpr ⟨(by simp only [List.mem_cons, List.not_mem_nil, or_false, not_or]; exact ⟨hn_626, hn_682, hn_741, hn_803⟩), (List.nodup_cons.mpr ⟨(by simp only [List.mem_cons, List.not_mem_nil, or_false, not_or]; exact ⟨hn_683, hn_742, hn_804⟩), (List.nodup_cons.mpr ⟨(by simp only [List.mem_cons, List.not_mem_nil, or_false, not_or]; exact ⟨hn_743, hn_805⟩), (List.nodup_cons.mpr ⟨(by simp only [List.mem_cons, List.not_mem_nil, or_false, not_or]; exact hn_806), (List.nodup_cons.mpr ⟨(List.not_mem_nil), List.nodup_nil⟩)⟩)⟩)⟩)⟩)⟩)⟩)⟩)⟩)⟩)⟩)⟩)⟩)⟩)⟩)⟩)⟩)⟩)⟩)
  have hR : Rm cy mm (fun c => ([q_1, q_28, q_62, q_79, q_141, q_212, q_238, q_267, q_299, q_334, q_372, q_413, q_457, q_504, q_554, q_607, q_663, q_722, q_784] : List Nat).getD (mPos c) 0) mInit f_827 := by
    refine ⟨hf_829, fun c hc => ?_, fun c d hc hd e => mPos_ma hnd rfl hc hd e⟩
    match c, hc with
    | 0, h => exact absurd h (by decide)
    | 1, _ => exact hf_830
    | 2, _ => exact hf_831
    | 3, _ => exact hf_832
    | 4, _ => exact hf_833
    | 5, _ => exact hf_834
    | 6, h => exact absurd h (by decide)
    | 7, _ => exact hf_835
    | 8, _ => exact hf_836
    | 9, _ => exact hf_837
    | 10, _ => exact hf_838
    | 11, _ => exact hf_839
    | 12, _ => exact hf_840
    | 13, h => exact absurd h (by decide)
    | 14, _ => exact hf_841
    | 15, _ => exact hf_842
    | 16, _ => exact hf_843
    | 17, _ => exact hf_844
    | 18, _ => exact hf_845
    | 19, _ => exact hf_846
    | 20, _ => exact hf_847
    | 21, _ => exact hf_848
    | k + 22, h => exact absurd h (by simp [mArr])
  exact g_vret hx hb hr hlocks hI ⟨_, hR⟩ (Nat.le_of_ble_eq_true rfl) (Nat.le_of_ble_eq_true rfl) dX5_init_243
