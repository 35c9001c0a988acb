theorem g_anyS2 {D : va_G} {cy : Nat → ClassId} {de : Nat} {A : Nat → Prop} {s : State} {f : gFm} {H : Heap} {locs : List Loc} (hI : gI D cy de A s f H locs) {v ci : Nat} {vs : List Value} {r : vw_C} (hv : f v = some (.inr (ci, vs))) (hc : vwCl[ci]? = some r) : va_Any r.1 s H v :=
  va_rAny (q0 := 0) hI.1 (gI_P1 hI hv) rfl hc (fun comp c0 h1 h2 => by
    have h := (hI.1.1 ci r hc).2
    have e1 : D.1 ci = comp := Option.some.inj (h.1.symm.trans h1)
    have e2 : comp = c0 := Option.some.inj (h1.symm.trans h2)
    rw [← e2, ← e1]
    exact va_assign h)
theorem gIn_list {q : List Nat} (hn : q.Nodup) {n : Nat} (hl : q.length = n) : gIn n (fun j => q.getD j 0) := by
  intro i j hi hj e
  have e1 : q[i]? = q[j]? := by
    have e : q.getD i 0 = q.getD j 0 := e
    rw [List.getElem?_eq_getElem (by omega), List.getElem?_eq_getElem (by omega)]
    rw [List.getD_eq_getElem?_getD, List.getD_eq_getElem?_getD, List.getElem?_eq_getElem (by omega), List.getElem?_eq_getElem (by omega)] at e
    exact congrArg some e
  exact (List.getElem?_inj (by omega) hn).mp e1
def iInit : gMd := fun c _ => match c with | 2 => 10 | 3 => 1 | 5 => 10 | 6 => 1 | _ => 0
def nInit (a pa ra lk lc : Nat) (ps rs : List Nat) : gNm := fun c => match c with | 0 => (fun i => match i with | 0 => a | 1 => pa | 2 => ra | 3 => lk | 4 => lc | 5 => lk | 6 => lc | _ => 0) | 1 => (fun j => ps.getD j 0) | 2 => (fun j => rs.getD j 0) | _ => fun _ => 0

set_option maxHeartbeats 4000000 in
set_option maxRecDepth 100000 in
/-- TollGateway.<init> -/
theorem c_X4_init (l : Launch) (D : va_G) (cy : Nat → ClassId) (de : Nat) (f : gFm) (a : Nat) (ha : f a = some (.inr (5, [.null, .null, .null, .null, .int 0, .int 0]))) : gMv l yX4_init wsX4_init { frames := 4, cells := 14, slots := 44, locals := 72 } D cy de [.ref a] f (fun f9 => ∃ (pa ra lk lc : Nat) (ps rs : List Nat), gR cy de (nInit a pa ra lk lc ps rs) iInit f9) 14 44 := by
  refine fun sz => Met.ofW (cc := cX4_init) (maxL := 2) (ret := none) (by decide) rfl ?_
  intro p e s m args below meth c s₁ B hml hv
  obtain ⟨rfl, hv⟩ := hv
  obtain ⟨rfl, hI⟩ := gP_I hv
  have hx := B.exec
  have hb := B.bytes
  have hr := B.returns
  have hts := atoms_spec (ws := wsX4_init) B.pre
  have hown : s.vm.findClass RX4 = some m.cls := findClass_of_methodNamed B.named
  have hlocks := B.notSynchronized
  have hin : meth.name = "<init>" := (name_of_methodNamed B.named B.method).1
  have hinJx4a65c : ∀ w ∈ wsJx4a65c0, w ∈ wsX4_init := by decide +kernel
  have hinX2 : ∀ w ∈ wsX20, w ∈ wsX4_init := by decide +kernel
  have hinX3 : ∀ w ∈ wsX30, w ∈ wsX4_init := by decide +kernel
  have hinX4 : ∀ w ∈ wsX40, w ∈ wsX4_init := by decide +kernel
  have hw0 := hts (.methodLink RX4 1 objectInit) (by decide +kernel)
  have hw1 := hts (.instanceMethod objectInit) (by decide +kernel)
  have hw2 := hts (.code objectInit ⟨#[0xb1]⟩ 1 none) (by decide +kernel)
  have hw3 := hts (.classLink RX4 9 "TollGateway$Plan") (by decide +kernel)
  have hw4 := hts (.fieldLink RX4 11 "TollGateway" "plans" "[LTollGateway$Plan;") (by decide +kernel)
  have hw5 := hts (.classLink RX4 15 "TollGateway$Route") (by decide +kernel)
  have hw6 := hts (.fieldLink RX4 17 "TollGateway" "routes" "[LTollGateway$Route;") (by decide +kernel)
  have hw7 := hts (.classLink RX4 21 RJx4a65c) (by decide +kernel)
  have hw8 := hts (.instantiable RJx4a65c 3) (by decide +kernel)
  have hw9 := hts (.initialized RJx4a65c) (by decide +kernel)
  have hw10 := hts (.methodLink RX4 23 yJx4a65c_init_da8c8) (by decide +kernel)
  have hw11 := hts (.instanceMethod yJx4a65c_init_da8c8) (by decide +kernel)
  have hw12 := hts (.fieldLink RX4 24 "TollGateway" "keys" "Ljava/util/ArrayList;") (by decide +kernel)
  have hw13 := hts (.fieldLink RX4 28 "TollGateway" "letThrough" "Ljava/util/ArrayList;") (by decide +kernel)
  have hw14 := hts (.classLink RX4 9 RX2) (by decide +kernel)
  have hw15 := hts (.instantiable RX2 4) (by decide +kernel)
  have hw16 := hts (.initialized RX2) (by decide +kernel)
  have hw17 := hts (.instanceMethod yX2_init) (by decide +kernel)
  have hw18 := hts (.classLink RX4 15 RX3) (by decide +kernel)
  have hw19 := hts (.instantiable RX3 2) (by decide +kernel)
  have hw20 := hts (.initialized RX3) (by decide +kernel)
  have hw21 := hts (.instanceMethod yX3_init) (by decide +kernel)
  have hl := lv_entry ([.ref a]) (n := 2) (Nat.le_of_ble_eq_true rfl)
  rw [lg_entry_eq]
  generalize (lg_sl ([.ref a]) ++ List.replicate (2 - (lg_sl ([.ref a])).length) Slot.unset).toArray = ls at hl ⊢
  have hl : lv_has ls 2 [(0, .ref a)] := hl
  refine lv_aload_n hx hb dX4_init_0 rfl (lv_at hl 0 rfl) ?_
  refine W.objInit hx hb hown hw0 hw1 hw2 rfl (by rw [hml]; exact hl.1) rfl dX4_init_1 (Nat.le_of_ble_eq_true rfl) (Nat.le_of_ble_eq_true rfl) ?_
  refine W.eq (g2 := F0 m 4 ls []) rfl ?_
  refine lv_aload_n hx hb dX4_init_4 rfl (lv_at hl 0 rfl) ?_
  refine lv_iconst (v := 4) hx hb dX4_init_5 (by decide) ?_
  refine g_newq (N' := 4) hx hb hown hw3 (hI.2.2.2.1.2.2.2.2.1 "TollGateway$Plan" (List.mem_of_getElem? (i := 0) rfl)) hI 3 rfl (by decide) (by decide) (by decide) (Nat.le_of_ble_eq_true rfl) (Nat.le_of_ble_eq_true rfl) dX4_init_6 (fun q_1 f_2 H hq_4 e_3 hI => ?_)
  have hn_5 : a ≠ q_1 := g_nn ha hq_4
  have e_3 : f_2 = va_up f q_1 (some (.inl (cy 3, 4, .inr (.inr (.inr (.inr (fun _ => none))))))) := e_3
  have hf_6 : f_2 q_1 = some (.inl (cy 3, 4, .inr (.inr (.inr (.inr (fun _ => none)))))) := by rw [e_3]; exact va_up_self _ _ _
  have hf_7 : f_2 a = some (.inr (5, [.null, .null, .null, .null, .int 0, .int 0])) := by rw [e_3, va_up_ne _ _ (hn_5)]; exact ha
  refine g_putF (ci := 5) (v := .ref q_1) (ty := (.array (.object "TollGateway$Plan"))) (C := RX4) (T := TX4) (N := 6) hx hb hts hinX4 tyX4 tyX4_ok nmX4 hown hI hf_7 rfl 0 (by decide) hw4 (fun _ h9 => h9) rfl hin rfl (by decide +kernel) rfl rfl (Nat.le_of_ble_eq_true rfl) dX4_init_9 (fun f_8 H locs e_9 hI => ?_)
  have e_9 : f_8 = va_up f_2 a (some (.inr (5, [.ref q_1, .null, .null, .null, .int 0, .int 0]))) := e_9
  have hf_10 : f_8 a = some (.inr (5, [.ref q_1, .null, .null, .null, .int 0, .int 0])) := by rw [e_9]; exact va_up_self _ _ _
  have hf_11 : f_8 q_1 = some (.inl (cy 3, 4, .inr (.inr (.inr (.inr (fun _ => none)))))) := by rw [e_9, va_up_ne _ _ ((Ne.symm hn_5))]; exact hf_6
  refine lv_aload_n hx hb dX4_init_12 rfl (lv_at hl 0 rfl) ?_
  refine lv_bipush (v := 6) hx hb dX4_init_13 (by decide) ?_
  refine g_newq (N' := 6) hx hb hown hw5 (hI.2.2.2.1.2.2.2.2.1 "TollGateway$Route" (List.mem_of_getElem? (i := 1) rfl)) hI 4 rfl (by decide) (by decide) (by decide) (Nat.le_of_ble_eq_true rfl) (Nat.le_of_ble_eq_true rfl) dX4_init_15 (fun q_12 f_13 H hq_15 e_14 hI => ?_)
  have hn_16 : a ≠ q_12 := g_nn hf_10 hq_15
  have hn_17 : q_1 ≠ q_12 := g_nn hf_11 hq_15
  have e_14 : f_13 = va_up f_8 q_12 (some (.inl (cy 4, 6, .inr (.inr (.inr (.inr (fun _ => none))))))) := e_14
  have hf_18 : f_13 q_12 = some (.inl (cy 4, 6, .inr (.inr (.inr (.inr (fun _ => none)))))) := by rw [e_14]; exact va_up_self _ _ _
  have hf_19 : f_13 a = some (.inr (5, [.ref q_1, .null, .null, .null, .int 0, .int 0])) := by rw [e_14, va_up_ne _ _ (hn_16)]; exact hf_10
  have hf_20 : f_13 q_1 = some (.inl (cy 3, 4, .inr (.inr (.inr (.inr (fun _ => none)))))) := by rw [e_14, va_up_ne _ _ (hn_17)]; exact hf_11
  refine g_putF (ci := 5) (v := .ref q_12) (ty := (.array (.object "TollGateway$Route"))) (C := RX4) (T := TX4) (N := 6) hx hb hts hinX4 tyX4 tyX4_ok nmX4 hown hI hf_19 rfl 1 (by decide) hw6 (fun _ h9 => h9) rfl hin rfl (by decide +kernel) rfl rfl (Nat.le_of_ble_eq_true rfl) dX4_init_18 (fun f_21 H locs e_22 hI => ?_)
  have e_22 : f_21 = va_up f_13 a (some (.inr (5, [.ref q_1, .ref q_12, .null, .null, .int 0, .int 0]))) := e_22
  have hf_23 : f_21 a = some (.inr (5, [.ref q_1, .ref q_12, .null, .null, .int 0, .int 0])) := by rw [e_22]; exact va_up_self _ _ _
  have hf_24 : f_21 q_1 = some (.inl (cy 3, 4, .inr (.inr (.inr (.inr (fun _ => none)))))) := by rw [e_22, va_up_ne _ _ ((Ne.symm hn_5))]; exact hf_20
  have hf_25 : f_21 q_12 = some (.inl (cy 4, 6, .inr (.inr (.inr (.inr (fun _ => none)))))) := by rw [e_22, va_up_ne _ _ ((Ne.symm hn_16))]; exact hf_18
  refine lv_aload_n hx hb dX4_init_21 rfl (lv_at hl 0 rfl) ?_
  refine g_new (ci := 0) (fs := [.int 0, .null, .int 0]) hx hb hts hinJx4a65c tyJx4a65c tyJx4a65c_ok hown hw7 hw8 hw9 hI rfl (by decide +kernel) (Nat.le_of_ble_eq_true rfl) (Nat.le_of_ble_eq_true rfl) dX4_init_22 (fun q_26 f_27 H hq_29 e_28 hI => ?_)
  have hn_30 : a ≠ q_26 := g_nn hf_23 hq_29
  have hn_31 : q_1 ≠ q_26 := g_nn hf_24 hq_29
  have hn_32 : q_12 ≠ q_26 := g_nn hf_25 hq_29
  have e_28 : f_27 = va_up f_21 q_26 (some (.inr (0, [.int 0, .null, .int 0]))) := e_28
  have hf_33 : f_27 q_26 = some (.inr (0, [.int 0, .null, .int 0])) := by rw [e_28]; exact va_up_self _ _ _
  have hf_34 : f_27 a = some (.inr (5, [.ref q_1, .ref q_12, .null, .null, .int 0, .int 0])) := by rw [e_28, va_up_ne _ _ (hn_30)]; exact hf_23
  have hf_35 : f_27 q_1 = some (.inl (cy 3, 4, .inr (.inr (.inr (.inr (fun _ => none)))))) := by rw [e_28, va_up_ne _ _ (hn_31)]; exact hf_24
  have hf_36 : f_27 q_12 = some (.inl (cy 4, 6, .inr (.inr (.inr (.inr (fun _ => none)))))) := by rw [e_28, va_up_ne _ _ (hn_32)]; exact hf_25
  refine lv_dup hx hb dX4_init_25 rfl ?_
  refine g_callv hI (va_runI (As := []) (rest := [.ref q_26, .ref a]) ⟨hx, hb, hml, hown, hts⟩ (c_Jx4a65c_init_da8c8 l D cy de f_27 q_26 0 0 hf_33 H.size) (cwI 0 hts gX4_init_Jx4a65c_init_da8c8 rfl rfl rfl hw9 hw10 hw11 rfl (by decide +kernel) ⟨Nat.le_of_ble_eq_true rfl, Nat.le_of_ble_eq_true rfl⟩) (g_preS hI) rfl rfl hl.1 rfl (lv_room (Nat.le_of_ble_eq_true rfl)) dX4_init_26 ⟨Nat.le_of_ble_eq_true rfl, Nat.le_of_ble_eq_true rfl⟩) (fun f_38 H locs hw_39 hI => ?_)
  have e_40 := hw_39
  have e_40 : f_38 = va_up f_27 q_26 (some (.inr (0, [.int 0, .ref de, .int 0]))) := e_40
  have hf_41 : f_38 q_26 = some (.inr (0, [.int 0, .ref de, .int 0])) := by rw [e_40]; exact va_up_self _ _ _
  have hf_42 : f_38 a = some (.inr (5, [.ref q_1, .ref q_12, .null, .null, .int 0, .int 0])) := by rw [e_40, va_up_ne _ _ (hn_30)]; exact hf_34
  have hf_43 : f_38 q_1 = some (.inl (cy 3, 4, .inr (.inr (.inr (.inr (fun _ => none)))))) := by rw [e_40, va_up_ne _ _ (hn_31)]; exact hf_35
  have hf_44 : f_38 q_12 = some (.inl (cy 4, 6, .inr (.inr (.inr (.inr (fun _ => none)))))) := by rw [e_40, va_up_ne _ _ (hn_32)]; exact hf_36
  refine g_putF (ci := 5) (v := .ref q_26) (ty := (.object "java/util/ArrayList")) (C := RX4) (T := TX4) (N := 6) hx hb hts hinX4 tyX4 tyX4_ok nmX4 hown hI hf_42 rfl 2 (by decide) hw12 (fun _ h9 => h9) rfl hin rfl (by decide +kernel) rfl rfl (Nat.le_of_ble_eq_true rfl) dX4_init_29 (fun f_45 H locs e_46 hI => ?_)
  have e_46 : f_45 = va_up f_38 a (some (.inr (5, [.ref q_1, .ref q_12, .ref q_26, .null, .int 0, .int 0]))) := e_46
  have hf_47 : f_45 a = some (.inr (5, [.ref q_1, .ref q_12, .ref q_26, .null, .int 0, .int 0])) := by rw [e_46]; exact va_up_self _ _ _
  have hf_48 : f_45 q_1 = some (.inl (cy 3, 4, .inr (.inr (.inr (.inr (fun _ => none)))))) := by rw [e_46, va_up_ne _ _ ((Ne.symm hn_5))]; exact hf_43
  have hf_49 : f_45 q_12 = some (.inl (cy 4, 6, .inr (.inr (.inr (.inr (fun _ => none)))))) := by rw [e_46, va_up_ne _ _ ((Ne.symm hn_16))]; exact hf_44
  have hf_50 : f_45 q_26 = some (.inr (0, [.int 0, .ref de, .int 0])) := by rw [e_46, va_up_ne _ _ ((Ne.symm hn_30))]; exact hf_41
  refine lv_aload_n hx hb dX4_init_32 rfl (lv_at hl 0 rfl) ?_
  refine g_new (ci := 0) (fs := [.int 0, .null, .int 0]) hx hb hts hinJx4a65c tyJx4a65c tyJx4a65c_ok hown hw7 hw8 hw9 hI rfl (by decide +kernel) (Nat.le_of_ble_eq_true rfl) (Nat.le_of_ble_eq_true rfl) dX4_init_33 (fun q_51 f_52 H hq_54 e_53 hI => ?_)
  have hn_55 : a ≠ q_51 := g_nn hf_47 hq_54
  have hn_56 : q_1 ≠ q_51 := g_nn hf_48 hq_54
  have hn_57 : q_12 ≠ q_51 := g_nn hf_49 hq_54
  have hn_58 : q_26 ≠ q_51 := g_nn hf_50 hq_54
  have e_53 : f_52 = va_up f_45 q_51 (some (.inr (0, [.int 0, .null, .int 0]))) := e_53
  have hf_59 : f_52 q_51 = some (.inr (0, [.int 0, .null, .int 0])) := by rw [e_53]; exact va_up_self _ _ _
  have hf_60 : f_52 a = some (.inr (5, [.ref q_1, .ref q_12, .ref q_26, .null, .int 0, .int 0])) := by rw [e_53, va_up_ne _ _ (hn_55)]; exact hf_47
  have hf_61 : f_52 q_1 = some (.inl (cy 3, 4, .inr (.inr (.inr (.inr (fun _ => none)))))) := by rw [e_53, va_up_ne _ _ (hn_56)]; exact hf_48
  have hf_62 : f_52 q_12 = some (.inl (cy 4, 6, .inr (.inr (.inr (.inr (fun _ => none)))))) := by rw [e_53, va_up_ne _ _ (hn_57)]; exact hf_49
  have hf_63 : f_52 q_26 = some (.inr (0, [.int 0, .ref de, .int 0])) := by rw [e_53, va_up_ne _ _ (hn_58)]; exact hf_50
  refine lv_dup hx hb dX4_init_36 rfl ?_
  refine g_callv hI (va_runI (As := []) (rest := [.ref q_51, .ref a]) ⟨hx, hb, hml, hown, hts⟩ (c_Jx4a65c_init_da8c8 l D cy de f_52 q_51 0 0 hf_59 H.size) (cwI 0 hts gX4_init_Jx4a65c_init_da8c8 rfl rfl rfl hw9 hw10 hw11 rfl (by decide +kernel) ⟨Nat.le_of_ble_eq_true rfl, Nat.le_of_ble_eq_true rfl⟩) (g_preS hI) rfl rfl hl.1 rfl (lv_room (Nat.le_of_ble_eq_true rfl)) dX4_init_37 ⟨Nat.le_of_ble_eq_true rfl, Nat.le_of_ble_eq_true rfl⟩) (fun f_65 H locs hw_66 hI => ?_)
  have e_67 := hw_66
  have e_67 : f_65 = va_up f_52 q_51 (some (.inr (0, [.int 0, .ref de, .int 0]))) := e_67
  have hf_68 : f_65 q_51 = some (.inr (0, [.int 0, .ref de, .int 0])) := by rw [e_67]; exact va_up_self _ _ _
  have hf_69 : f_65 a = some (.inr (5, [.ref q_1, .ref q_12, .ref q_26, .null, .int 0, .int 0])) := by rw [e_67, va_up_ne _ _ (hn_55)]; exact hf_60
  have hf_70 : f_65 q_1 = some (.inl (cy 3, 4, .inr (.inr (.inr (.inr (fun _ => none)))))) := by rw [e_67, va_up_ne _ _ (hn_56)]; exact hf_61
  have hf_71 : f_65 q_12 = some (.inl (cy 4, 6, .inr (.inr (.inr (.inr (fun _ => none)))))) := by rw [e_67, va_up_ne _ _ (hn_57)]; exact hf_62
  have hf_72 : f_65 q_26 = some (.inr (0, [.int 0, .ref de, .int 0])) := by rw [e_67, va_up_ne _ _ (hn_58)]; exact hf_63
  refine g_putF (ci := 5) (v := .ref q_51) (ty := (.object "java/util/ArrayList")) (C := RX4) (T := TX4) (N := 6) hx hb hts hinX4 tyX4 tyX4_ok nmX4 hown hI hf_69 rfl 3 (by decide) hw13 (fun _ h9 => h9) rfl hin rfl (by decide +kernel) rfl rfl (Nat.le_of_ble_eq_true rfl) dX4_init_40 (fun f_73 H locs e_74 hI => ?_)
  have e_74 : f_73 = va_up f_65 a (some (.inr (5, [.ref q_1, .ref q_12, .ref q_26, .ref q_51, .int 0, .int 0]))) := e_74
  have hf_75 : f_73 a = some (.inr (5, [.ref q_1, .ref q_12, .ref q_26, .ref q_51, .int 0, .int 0])) := by rw [e_74]; exact va_up_self _ _ _
  have hf_76 : f_73 q_1 = some (.inl (cy 3, 4, .inr (.inr (.inr (.inr (fun _ => none)))))) := by rw [e_74, va_up_ne _ _ ((Ne.symm hn_5))]; exact hf_70
  have hf_77 : f_73 q_12 = some (.inl (cy 4, 6, .inr (.inr (.inr (.inr (fun _ => none)))))) := by rw [e_74, va_up_ne _ _ ((Ne.symm hn_16))]; exact hf_71
  have hf_78 : f_73 q_26 = some (.inr (0, [.int 0, .ref de, .int 0])) := by rw [e_74, va_up_ne _ _ ((Ne.symm hn_30))]; exact hf_72
  have hf_79 : f_73 q_51 = some (.inr (0, [.int 0, .ref de, .int 0])) := by rw [e_74, va_up_ne _ _ ((Ne.symm hn_55))]; exact hf_68
  refine lv_iconst (v := 0) hx hb dX4_init_43 (by decide) ?_
  refine lv_istore_n (lv' := [(1, .int 0), (0, .ref a)]) hx hb dX4_init_44 rfl hl (by decide) rfl (fun ls hl => ?_)
  refine lv_iload_n hx hb dX4_init_45 rfl (lv_at hl 0 rfl) ?_
  refine lv_aload_n hx hb dX4_init_46 rfl (lv_at hl 1 rfl) ?_
  refine g_get (ci := 5) (C := RX4) (T := TX4) (N := 6) hx hb hts hinX4 hown hI hf_75 rfl 0 (by decide) hw4 (fun _ h9 => h9) rfl dX4_init_47 ?_
  refine g_alen (v := 4) hx hb hI hf_76 3 rfl rfl dX4_init_50 ?_
  refine lv_icmp_ge (tgt := 74) hx hb dX4_init_51 (by decide) (fun z => absurd z (by decide)) (fun _ => ?_)
  refine lv_aload_n hx hb dX4_init_54 rfl (lv_at hl 1 rfl) ?_
  refine g_get (ci := 5) (C := RX4) (T := TX4) (N := 6) hx hb hts hinX4 hown hI hf_75 rfl 0 (by decide) hw4 (fun _ h9 => h9) rfl dX4_init_55 ?_
  refine lv_iload_n hx hb dX4_init_58 rfl (lv_at hl 0 rfl) ?_
  refine g_new (ci := 3) (fs := [.int 0, .int 0, .int 0, .int 0]) hx hb hts hinX2 tyX2 tyX2_ok hown hw14 hw15 hw16 hI rfl (by decide +kernel) (Nat.le_of_ble_eq_true rfl) (Nat.le_of_ble_eq_true rfl) dX4_init_59 (fun q_81 f_82 H hq_84 e_83 hI => ?_)
  have hn_85 : a ≠ q_81 := g_nn hf_75 hq_84
  have hn_86 : q_1 ≠ q_81 := g_nn hf_76 hq_84
  have hn_87 : q_12 ≠ q_81 := g_nn hf_77 hq_84
  have hn_88 : q_26 ≠ q_81 := g_nn hf_78 hq_84
  have hn_89 : q_51 ≠ q_81 := g_nn hf_79 hq_84
  have e_83 : f_82 = va_up f_73 q_81 (some (.inr (3, [.int 0, .int 0, .int 0, .int 0]))) := e_83
  have hf_90 : f_82 q_81 = some (.inr (3, [.int 0, .int 0, .int 0, .int 0])) := by rw [e_83]; exact va_up_self _ _ _
  have hf_91 : f_82 a = some (.inr (5, [.ref q_1, .ref q_12, .ref q_26, .ref q_51, .int 0, .int 0])) := by rw [e_83, va_up_ne _ _ (hn_85)]; exact hf_75
  have hf_92 : f_82 q_1 = some (.inl (cy 3, 4, .inr (.inr (.inr (.inr (fun _ => none)))))) := by rw [e_83, va_up_ne _ _ (hn_86)]; exact hf_76
  have hf_93 : f_82 q_12 = some (.inl (cy 4, 6, .inr (.inr (.inr (.inr (fun _ => none)))))) := by rw [e_83, va_up_ne _ _ (hn_87)]; exact hf_77
  have hf_94 : f_82 q_26 = some (.inr (0, [.int 0, .ref de, .int 0])) := by rw [e_83, va_up_ne _ _ (hn_88)]; exact hf_78
  have hf_95 : f_82 q_51 = some (.inr (0, [.int 0, .ref de, .int 0])) := by rw [e_83, va_up_ne _ _ (hn_89)]; exact hf_79
  refine lv_dup hx hb dX4_init_62 rfl ?_
  refine lv_iload_n hx hb dX4_init_63 rfl (lv_at hl 0 rfl) ?_
  refine g_callv hI (va_runIN (As := [.int 0]) (rest := [.ref q_81, .int 0, .ref q_1]) ⟨hx, hb, hml, hown, hts⟩ (c_X2_init l D cy de f_82 q_81 0 0 0 0 0 hf_90 H.size) ⟨va_cnB 1 hts gX4_init_X2_init_n31 rfl rfl rfl (nm_T31 hI.2.2.2.1) hw16 (by decide +kernel) ⟨Nat.le_of_ble_eq_true rfl, Nat.le_of_ble_eq_true rfl⟩, rfl, hw17⟩ (g_preS hI) rfl rfl hl.1 rfl (lv_room (Nat.le_of_ble_eq_true rfl)) dX4_init_64 ⟨Nat.le_of_ble_eq_true rfl, Nat.le_of_ble_eq_true rfl⟩) (fun f_97 H locs hw_98 hI => ?_)
  have e_99 := hw_98
  have e_99 : f_97 = va_up f_82 q_81 (some (.inr (3, [.int 0, .int 10, .int 1, .int 0]))) := e_99
  have hf_100 : f_97 q_81 = some (.inr (3, [.int 0, .int 10, .int 1, .int 0])) := by rw [e_99]; exact va_up_self _ _ _
  have hf_101 : f_97 a = some (.inr (5, [.ref q_1, .ref q_12, .ref q_26, .ref q_51, .int 0, .int 0])) := by rw [e_99, va_up_ne _ _ (hn_85)]; exact hf_91
  have hf_102 : f_97 q_1 = some (.inl (cy 3, 4, .inr (.inr (.inr (.inr (fun _ => none)))))) := by rw [e_99, va_up_ne _ _ (hn_86)]; exact hf_92
  have hf_103 : f_97 q_12 = some (.inl (cy 4, 6, .inr (.inr (.inr (.inr (fun _ => none)))))) := by rw [e_99, va_up_ne _ _ (hn_87)]; exact hf_93
  have hf_104 : f_97 q_26 = some (.inr (0, [.int 0, .ref de, .int 0])) := by rw [e_99, va_up_ne _ _ (hn_88)]; exact hf_94
  have hf_105 : f_97 q_51 = some (.inr (0, [.int 0, .ref de, .int 0])) := by rw [e_99, va_up_ne _ _ (hn_89)]; exact hf_95
  refine g_aast (C := "TollGateway$Plan") hx hb hI hf_102 3 rfl (g_anyS2 hI hf_100 rfl) (by unfold vp_in; decide) dX4_init_67 (fun f_106 H locs e_107 hI => ?_)
  rw [show Int32.toNatClampNeg (0 : Int32) = 0 from by decide] at e_107
  have e_107 : f_106 = va_up f_97 q_1 (some (.inl (cy 3, 4, .inr (.inr (.inr (.inr (va_up (fun _ => none) 0 (some q_81)))))))) := e_107
  have hf_108 : f_106 q_1 = some (.inl (cy 3, 4, .inr (.inr (.inr (.inr (va_up (fun _ => none) 0 (some q_81))))))) := by rw [e_107]; exact va_up_self _ _ _
  have hf_109 : f_106 a = some (.inr (5, [.ref q_1, .ref q_12, .ref q_26, .ref q_51, .int 0, .int 0])) := by rw [e_107, va_up_ne _ _ (hn_5)]; exact hf_101
  have hf_110 : f_106 q_12 = some (.inl (cy 4, 6, .inr (.inr (.inr (.inr (fun _ => none)))))) := by rw [e_107, va_up_ne _ _ ((Ne.symm hn_17))]; exact hf_103
  have hf_111 : f_106 q_26 = some (.inr (0, [.int 0, .ref de, .int 0])) := by rw [e_107, va_up_ne _ _ ((Ne.symm hn_31))]; exact hf_104
  have hf_112 : f_106 q_51 = some (.inr (0, [.int 0, .ref de, .int 0])) := by rw [e_107, va_up_ne _ _ ((Ne.symm hn_56))]; exact hf_105
  have hf_113 : f_106 q_81 = some (.inr (3, [.int 0, .int 10, .int 1, .int 0])) := by rw [e_107, va_up_ne _ _ ((Ne.symm hn_86))]; exact hf_100
  refine lv_iinc (v := 1) (lv' := [(1, .int 1), (0, .ref a)]) hx hb dX4_init_68 hl (k := 0) rfl (by decide) (by decide) rfl (fun ls hl => ?_)
  refine lv_goto (tgt := 45) hx hb dX4_init_71 (by decide) ?_
  refine lv_iload_n hx hb dX4_init_45 rfl (lv_at hl 0 rfl) ?_
  refine lv_aload_n hx hb dX4_init_46 rfl (lv_at hl 1 rfl) ?_
  refine g_get (ci := 5) (C := RX4) (T := TX4) (N := 6) hx hb hts hinX4 hown hI hf_109 rfl 0 (by decide) hw4 (fun _ h9 => h9) rfl dX4_init_47 ?_
  refine g_alen (v := 4) hx hb hI hf_108 3 rfl rfl dX4_init_50 ?_
  refine lv_icmp_ge (tgt := 74) hx hb dX4_init_51 (by decide) (fun z => absurd z (by decide)) (fun _ => ?_)
  refine lv_aload_n hx hb dX4_init_54 rfl (lv_at hl 1 rfl) ?_
  refine g_get (ci := 5) (C := RX4) (T := TX4) (N := 6) hx hb hts hinX4 hown hI hf_109 rfl 0 (by decide) hw4 (fun _ h9 => h9) rfl dX4_init_55 ?_
  refine lv_iload_n hx hb dX4_init_58 rfl (lv_at hl 0 rfl) ?_
  refine g_new (ci := 3) (fs := [.int 0, .int 0, .int 0, .int 0]) hx hb hts hinX2 tyX2 tyX2_ok hown hw14 hw15 hw16 hI rfl (by decide +kernel) (Nat.le_of_ble_eq_true rfl) (Nat.le_of_ble_eq_true rfl) dX4_init_59 (fun q_115 f_116 H hq_118 e_117 hI => ?_)
  have hn_119 : a ≠ q_115 := g_nn hf_109 hq_118
  have hn_120 : q_1 ≠ q_115 := g_nn hf_108 hq_118
  have hn_121 : q_12 ≠ q_115 := g_nn hf_110 hq_118
  have hn_122 : q_26 ≠ q_115 := g_nn hf_111 hq_118
  have hn_123 : q_51 ≠ q_115 := g_nn hf_112 hq_118
  have hn_124 : q_81 ≠ q_115 := g_nn hf_113 hq_118
  have e_117 : f_116 = va_up f_106 q_115 (some (.inr (3, [.int 0, .int 0, .int 0, .int 0]))) := e_117
  have hf_125 : f_116 q_115 = some (.inr (3, [.int 0, .int 0, .int 0, .int 0])) := by rw [e_117]; exact va_up_self _ _ _
  have hf_126 : f_116 a = some (.inr (5, [.ref q_1, .ref q_12, .ref q_26, .ref q_51, .int 0, .int 0])) := by rw [e_117, va_up_ne _ _ (hn_119)]; exact hf_109
  have hf_127 : f_116 q_1 = some (.inl (cy 3, 4, .inr (.inr (.inr (.inr (va_up (fun _ => none) 0 (some q_81))))))) := by rw [e_117, va_up_ne _ _ (hn_120)]; exact hf_108
  have hf_128 : f_116 q_12 = some (.inl (cy 4, 6, .inr (.inr (.inr (.inr (fun _ => none)))))) := by rw [e_117, va_up_ne _ _ (hn_121)]; exact hf_110
  have hf_129 : f_116 q_26 = some (.inr (0, [.int 0, .ref de, .int 0])) := by rw [e_117, va_up_ne _ _ (hn_122)]; exact hf_111
  have hf_130 : f_116 q_51 = some (.inr (0, [.int 0, .ref de, .int 0])) := by rw [e_117, va_up_ne _ _ (hn_123)]; exact hf_112
  have hf_131 : f_116 q_81 = some (.inr (3, [.int 0, .int 10, .int 1, .int 0])) := by rw [e_117, va_up_ne _ _ (hn_124)]; exact hf_113
  refine lv_dup hx hb dX4_init_62 rfl ?_
  refine lv_iload_n hx hb dX4_init_63 rfl (lv_at hl 0 rfl) ?_
  refine g_callv hI (va_runIN (As := [.int 1]) (rest := [.ref q_115, .int 1, .ref q_1]) ⟨hx, hb, hml, hown, hts⟩ (c_X2_init l D cy de f_116 q_115 1 0 0 0 0 hf_125 H.size) ⟨va_cnB 1 hts gX4_init_X2_init_n31 rfl rfl rfl (nm_T31 hI.2.2.2.1) hw16 (by decide +kernel) ⟨Nat.le_of_ble_eq_true rfl, Nat.le_of_ble_eq_true rfl⟩, rfl, hw17⟩ (g_preS hI) rfl rfl hl.1 rfl (lv_room (Nat.le_of_ble_eq_true rfl)) dX4_init_64 ⟨Nat.le_of_ble_eq_true rfl, Nat.le_of_ble_eq_true rfl⟩) (fun f_133 H locs hw_134 hI => ?_)
  have e_135 := hw_134
  have e_135 : f_133 = va_up f_116 q_115 (some (.inr (3, [.int 1, .int 10, .int 1, .int 0]))) := e_135
  have hf_136 : f_133 q_115 = some (.inr (3, [.int 1, .int 10, .int 1, .int 0])) := by rw [e_135]; exact va_up_self _ _ _
  have hf_137 : f_133 a = some (.inr (5, [.ref q_1, .ref q_12, .ref q_26, .ref q_51, .int 0, .int 0])) := by rw [e_135, va_up_ne _ _ (hn_119)]; exact hf_126
  have hf_138 : f_133 q_1 = some (.inl (cy 3, 4, .inr (.inr (.inr (.inr (va_up (fun _ => none) 0 (some q_81))))))) := by rw [e_135, va_up_ne _ _ (hn_120)]; exact hf_127
  have hf_139 : f_133 q_12 = some (.inl (cy 4, 6, .inr (.inr (.inr (.inr (fun _ => none)))))) := by rw [e_135, va_up_ne _ _ (hn_121)]; exact hf_128
  have hf_140 : f_133 q_26 = some (.inr (0, [.int 0, .ref de, .int 0])) := by rw [e_135, va_up_ne _ _ (hn_122)]; exact hf_129
  have hf_141 : f_133 q_51 = some (.inr (0, [.int 0, .ref de, .int 0])) := by rw [e_135, va_up_ne _ _ (hn_123)]; exact hf_130
  have hf_142 : f_133 q_81 = some (.inr (3, [.int 0, .int 10, .int 1, .int 0])) := by rw [e_135, va_up_ne _ _ (hn_124)]; exact hf_131
  refine g_aast (C := "TollGateway$Plan") hx hb hI hf_138 3 rfl (g_anyS2 hI hf_136 rfl) (by unfold vp_in; decide) dX4_init_67 (fun f_143 H locs e_144 hI => ?_)
  rw [show Int32.toNatClampNeg (1 : Int32) = 1 from by decide] at e_144
  have e_144 : f_143 = va_up f_133 q_1 (some (.inl (cy 3, 4, .inr (.inr (.inr (.inr (va_up (va_up (fun _ => none) 0 (some q_81)) 1 (some q_115)))))))) := e_144
  have hf_145 : f_143 q_1 = some (.inl (cy 3, 4, .inr (.inr (.inr (.inr (va_up (va_up (fun _ => none) 0 (some q_81)) 1 (some q_115))))))) := by rw [e_144]; exact va_up_self _ _ _
  have hf_146 : f_143 a = some (.inr (5, [.ref q_1, .ref q_12, .ref q_26, .ref q_51, .int 0, .int 0])) := by rw [e_144, va_up_ne _ _ (hn_5)]; exact hf_137
  have hf_147 : f_143 q_12 = some (.inl (cy 4, 6, .inr (.inr (.inr (.inr (fun _ => none)))))) := by rw [e_144, va_up_ne _ _ ((Ne.symm hn_17))]; exact hf_139
  have hf_148 : f_143 q_26 = some (.inr (0, [.int 0, .ref de, .int 0])) := by rw [e_144, va_up_ne _ _ ((Ne.symm hn_31))]; exact hf_140
  have hf_149 : f_143 q_51 = some (.inr (0, [.int 0, .ref de, .int 0])) := by rw [e_144, va_up_ne _ _ ((Ne.symm hn_56))]; exact hf_141
  have hf_150 : f_143 q_81 = some (.inr (3, [.int 0, .int 10, .int 1, .int 0])) := by rw [e_144, va_up_ne _ _ ((Ne.symm hn_86))]; exact hf_142
  have hf_151 : f_143 q_115 = some (.inr (3, [.int 1, .int 10, .int 1, .int 0])) := by rw [e_144, va_up_ne _ _ ((Ne.symm hn_120))]; exact hf_136
  refine lv_iinc (v := 2) (lv' := [(1, .int 2), (0, .ref a)]) hx hb dX4_init_68 hl (k := 0) rfl (by decide) (by decide) rfl (fun ls hl => ?_)
  refine lv_goto (tgt := 45) hx hb dX4_init_71 (by decide) ?_
  refine lv_iload_n hx hb dX4_init_45 rfl (lv_at hl 0 rfl) ?_
  refine lv_aload_n hx hb dX4_init_46 rfl (lv_at hl 1 rfl) ?_
  refine g_get (ci := 5) (C := RX4) (T := TX4) (N := 6) hx hb hts hinX4 hown hI hf_146 rfl 0 (by decide) hw4 (fun _ h9 => h9) rfl dX4_init_47 ?_
  refine g_alen (v := 4) hx hb hI hf_145 3 rfl rfl dX4_init_50 ?_
  refine lv_icmp_ge (tgt := 74) hx hb dX4_init_51 (by decide) (fun z => absurd z (by decide)) (fun _ => ?_)
  refine lv_aload_n hx hb dX4_init_54 rfl (lv_at hl 1 rfl) ?_
  refine g_get (ci := 5) (C := RX4) (T := TX4) (N := 6) hx hb hts hinX4 hown hI hf_146 rfl 0 (by decide) hw4 (fun _ h9 => h9) rfl dX4_init_55 ?_
  refine lv_iload_n hx hb dX4_init_58 rfl (lv_at hl 0 rfl) ?_
  refine g_new (ci := 3) (fs := [.int 0, .int 0, .int 0, .int 0]) hx hb hts hinX2 tyX2 tyX2_ok hown hw14 hw15 hw16 hI rfl (by decide +kernel) (Nat.le_of_ble_eq_true rfl) (Nat.le_of_ble_eq_true rfl) dX4_init_59 (fun q_153 f_154 H hq_156 e_155 hI => ?_)
  have hn_157 : a ≠ q_153 := g_nn hf_146 hq_156
  have hn_158 : q_1 ≠ q_153 := g_nn hf_145 hq_156
  have hn_159 : q_12 ≠ q_153 := g_nn hf_147 hq_156
  have hn_160 : q_26 ≠ q_153 := g_nn hf_148 hq_156
  have hn_161 : q_51 ≠ q_153 := g_nn hf_149 hq_156
  have hn_162 : q_81 ≠ q_153 := g_nn hf_150 hq_156
  have hn_163 : q_115 ≠ q_153 := g_nn hf_151 hq_156
  have e_155 : f_154 = va_up f_143 q_153 (some (.inr (3, [.int 0, .int 0, .int 0, .int 0]))) := e_155
  have hf_164 : f_154 q_153 = some (.inr (3, [.int 0, .int 0, .int 0, .int 0])) := by rw [e_155]; exact va_up_self _ _ _
  have hf_165 : f_154 a = some (.inr (5, [.ref q_1, .ref q_12, .ref q_26, .ref q_51, .int 0, .int 0])) := by rw [e_155, va_up_ne _ _ (hn_157)]; exact hf_146
  have hf_166 : f_154 q_1 = some (.inl (cy 3, 4, .inr (.inr (.inr (.inr (va_up (va_up (fun _ => none) 0 (some q_81)) 1 (some q_115))))))) := by rw [e_155, va_up_ne _ _ (hn_158)]; exact hf_145
  have hf_167 : f_154 q_12 = some (.inl (cy 4, 6, .inr (.inr (.inr (.inr (fun _ => none)))))) := by rw [e_155, va_up_ne _ _ (hn_159)]; exact hf_147
  have hf_168 : f_154 q_26 = some (.inr (0, [.int 0, .ref de, .int 0])) := by rw [e_155, va_up_ne _ _ (hn_160)]; exact hf_148
  have hf_169 : f_154 q_51 = some (.inr (0, [.int 0, .ref de, .int 0])) := by rw [e_155, va_up_ne _ _ (hn_161)]; exact hf_149
  have hf_170 : f_154 q_81 = some (.inr (3, [.int 0, .int 10, .int 1, .int 0])) := by rw [e_155, va_up_ne _ _ (hn_162)]; exact hf_150
  have hf_171 : f_154 q_115 = some (.inr (3, [.int 1, .int 10, .int 1, .int 0])) := by rw [e_155, va_up_ne _ _ (hn_163)]; exact hf_151
  refine lv_dup hx hb dX4_init_62 rfl ?_
  refine lv_iload_n hx hb dX4_init_63 rfl (lv_at hl 0 rfl) ?_
  refine g_callv hI (va_runIN (As := [.int 2]) (rest := [.ref q_153, .int 2, .ref q_1]) ⟨hx, hb, hml, hown, hts⟩ (c_X2_init l D cy de f_154 q_153 2 0 0 0 0 hf_164 H.size) ⟨va_cnB 1 hts gX4_init_X2_init_n31 rfl rfl rfl (nm_T31 hI.2.2.2.1) hw16 (by decide +kernel) ⟨Nat.le_of_ble_eq_true rfl, Nat.le_of_ble_eq_true rfl⟩, rfl, hw17⟩ (g_preS hI) rfl rfl hl.1 rfl (lv_room (Nat.le_of_ble_eq_true rfl)) dX4_init_64 ⟨Nat.le_of_ble_eq_true rfl, Nat.le_of_ble_eq_true rfl⟩) (fun f_173 H locs hw_174 hI => ?_)
  have e_175 := hw_174
  have e_175 : f_173 = va_up f_154 q_153 (some (.inr (3, [.int 2, .int 10, .int 1, .int 0]))) := e_175
  have hf_176 : f_173 q_153 = some (.inr (3, [.int 2, .int 10, .int 1, .int 0])) := by rw [e_175]; exact va_up_self _ _ _
  have hf_177 : f_173 a = some (.inr (5, [.ref q_1, .ref q_12, .ref q_26, .ref q_51, .int 0, .int 0])) := by rw [e_175, va_up_ne _ _ (hn_157)]; exact hf_165
  have hf_178 : f_173 q_1 = some (.inl (cy 3, 4, .inr (.inr (.inr (.inr (va_up (va_up (fun _ => none) 0 (some q_81)) 1 (some q_115))))))) := by rw [e_175, va_up_ne _ _ (hn_158)]; exact hf_166
  have hf_179 : f_173 q_12 = some (.inl (cy 4, 6, .inr (.inr (.inr (.inr (fun _ => none)))))) := by rw [e_175, va_up_ne _ _ (hn_159)]; exact hf_167
  have hf_180 : f_173 q_26 = some (.inr (0, [.int 0, .ref de, .int 0])) := by rw [e_175, va_up_ne _ _ (hn_160)]; exact hf_168
  have hf_181 : f_173 q_51 = some (.inr (0, [.int 0, .ref de, .int 0])) := by rw [e_175, va_up_ne _ _ (hn_161)]; exact hf_169
  have hf_182 : f_173 q_81 = some (.inr (3, [.int 0, .int 10, .int 1, .int 0])) := by rw [e_175, va_up_ne _ _ (hn_162)]; exact hf_170
  have hf_183 : f_173 q_115 = some (.inr (3, [.int 1, .int 10, .int 1, .int 0])) := by rw [e_175, va_up_ne _ _ (hn_163)]; exact hf_171
  refine g_aast (C := "TollGateway$Plan") hx hb hI hf_178 3 rfl (g_anyS2 hI hf_176 rfl) (by unfold vp_in; decide) dX4_init_67 (fun f_184 H locs e_185 hI => ?_)
  rw [show Int32.toNatClampNeg (2 : Int32) = 2 from by decide] at e_185
  have e_185 : f_184 = va_up f_173 q_1 (some (.inl (cy 3, 4, .inr (.inr (.inr (.inr (va_up (va_up (va_up (fun _ => none) 0 (some q_81)) 1 (some q_115)) 2 (some q_153)))))))) := e_185
  have hf_186 : f_184 q_1 = some (.inl (cy 3, 4, .inr (.inr (.inr (.inr (va_up (va_up (va_up (fun _ => none) 0 (some q_81)) 1 (some q_115)) 2 (some q_153))))))) := by rw [e_185]; exact va_up_self _ _ _
  have hf_187 : f_184 a = some (.inr (5, [.ref q_1, .ref q_12, .ref q_26, .ref q_51, .int 0, .int 0])) := by rw [e_185, va_up_ne _ _ (hn_5)]; exact hf_177
  have hf_188 : f_184 q_12 = some (.inl (cy 4, 6, .inr (.inr (.inr (.inr (fun _ => none)))))) := by rw [e_185, va_up_ne _ _ ((Ne.symm hn_17))]; exact hf_179
  have hf_189 : f_184 q_26 = some (.inr (0, [.int 0, .ref de, .int 0])) := by rw [e_185, va_up_ne _ _ ((Ne.symm hn_31))]; exact hf_180
  have hf_190 : f_184 q_51 = some (.inr (0, [.int 0, .ref de, .int 0])) := by rw [e_185, va_up_ne _ _ ((Ne.symm hn_56))]; exact hf_181
  have hf_191 : f_184 q_81 = some (.inr (3, [.int 0, .int 10, .int 1, .int 0])) := by rw [e_185, va_up_ne _ _ ((Ne.symm hn_86))]; exact hf_182
  have hf_192 : f_184 q_115 = some (.inr (3, [.int 1, .int 10, .int 1, .int 0])) := by rw [e_185, va_up_ne _ _ ((Ne.symm hn_120))]; exact hf_183
  have hf_193 : f_184 q_153 = some (.inr (3, [.int 2, .int 10, .int 1, .int 0])) := by rw [e_185, va_up_ne _ _ ((Ne.symm hn_158))]; exact hf_176
  refine lv_iinc (v := 3) (lv' := [(1, .int 3), (0, .ref a)]) hx hb dX4_init_68 hl (k := 0) rfl (by decide) (by decide) rfl (fun ls hl => ?_)
  refine lv_goto (tgt := 45) hx hb dX4_init_71 (by decide) ?_
  refine lv_iload_n hx hb dX4_init_45 rfl (lv_at hl 0 rfl) ?_
  refine lv_aload_n hx hb dX4_init_46 rfl (lv_at hl 1 rfl) ?_
  refine g_get (ci := 5) (C := RX4) (T := TX4) (N := 6) hx hb hts hinX4 hown hI hf_187 rfl 0 (by decide) hw4 (fun _ h9 => h9) rfl dX4_init_47 ?_
  refine g_alen (v := 4) hx hb hI hf_186 3 rfl rfl dX4_init_50 ?_
  refine lv_icmp_ge (tgt := 74) hx hb dX4_init_51 (by decide) (fun z => absurd z (by decide)) (fun _ => ?_)
  refine lv_aload_n hx hb dX4_init_54 rfl (lv_at hl 1 rfl) ?_
  refine g_get (ci := 5) (C := RX4) (T := TX4) (N := 6) hx hb hts hinX4 hown hI hf_187 rfl 0 (by decide) hw4 (fun _ h9 => h9) rfl dX4_init_55 ?_
  refine lv_iload_n hx hb dX4_init_58 rfl (lv_at hl 0 rfl) ?_
  refine g_new (ci := 3) (fs := [.int 0, .int 0, .int 0, .int 0]) hx hb hts hinX2 tyX2 tyX2_ok hown hw14 hw15 hw16 hI rfl (by decide +kernel) (Nat.le_of_ble_eq_true rfl) (Nat.le_of_ble_eq_true rfl) dX4_init_59 (fun q_195 f_196 H hq_198 e_197 hI => ?_)
  have hn_199 : a ≠ q_195 := g_nn hf_187 hq_198
  have hn_200 : q_1 ≠ q_195 := g_nn hf_186 hq_198
  have hn_201 : q_12 ≠ q_195 := g_nn hf_188 hq_198
  have hn_202 : q_26 ≠ q_195 := g_nn hf_189 hq_198
  have hn_203 : q_51 ≠ q_195 := g_nn hf_190 hq_198
  have hn_204 : q_81 ≠ q_195 := g_nn hf_191 hq_198
  have hn_205 : q_115 ≠ q_195 := g_nn hf_192 hq_198
  have hn_206 : q_153 ≠ q_195 := g_nn hf_193 hq_198
  have e_197 : f_196 = va_up f_184 q_195 (some (.inr (3, [.int 0, .int 0, .int 0, .int 0]))) := e_197
  have hf_207 : f_196 q_195 = some (.inr (3, [.int 0, .int 0, .int 0, .int 0])) := by rw [e_197]; exact va_up_self _ _ _
  have hf_208 : f_196 a = some (.inr (5, [.ref q_1, .ref q_12, .ref q_26, .ref q_51, .int 0, .int 0])) := by rw [e_197, va_up_ne _ _ (hn_199)]; exact hf_187
  have hf_209 : f_196 q_1 = some (.inl (cy 3, 4, .inr (.inr (.inr (.inr (va_up (va_up (va_up (fun _ => none) 0 (some q_81)) 1 (some q_115)) 2 (some q_153))))))) := by rw [e_197, va_up_ne _ _ (hn_200)]; exact hf_186
  have hf_210 : f_196 q_12 = some (.inl (cy 4, 6, .inr (.inr (.inr (.inr (fun _ => none)))))) := by rw [e_197, va_up_ne _ _ (hn_201)]; exact hf_188
  have hf_211 : f_196 q_26 = some (.inr (0, [.int 0, .ref de, .int 0])) := by rw [e_197, va_up_ne _ _ (hn_202)]; exact hf_189
  have hf_212 : f_196 q_51 = some (.inr (0, [.int 0, .ref de, .int 0])) := by rw [e_197, va_up_ne _ _ (hn_203)]; exact hf_190
  have hf_213 : f_196 q_81 = some (.inr (3, [.int 0, .int 10, .int 1, .int 0])) := by rw [e_197, va_up_ne _ _ (hn_204)]; exact hf_191
  have hf_214 : f_196 q_115 = some (.inr (3, [.int 1, .int 10, .int 1, .int 0])) := by rw [e_197, va_up_ne _ _ (hn_205)]; exact hf_192
  have hf_215 : f_196 q_153 = some (.inr (3, [.int 2, .int 10, .int 1, .int 0])) := by rw [e_197, va_up_ne _ _ (hn_206)]; exact hf_193
  refine lv_dup hx hb dX4_init_62 rfl ?_
  refine lv_iload_n hx hb dX4_init_63 rfl (lv_at hl 0 rfl) ?_
  refine g_callv hI (va_runIN (As := [.int 3]) (rest := [.ref q_195, .int 3, .ref q_1]) ⟨hx, hb, hml, hown, hts⟩ (c_X2_init l D cy de f_196 q_195 3 0 0 0 0 hf_207 H.size) ⟨va_cnB 1 hts gX4_init_X2_init_n31 rfl rfl rfl (nm_T31 hI.2.2.2.1) hw16 (by decide +kernel) ⟨Nat.le_of_ble_eq_true rfl, Nat.le_of_ble_eq_true rfl⟩, rfl, hw17⟩ (g_preS hI) rfl rfl hl.1 rfl (lv_room (Nat.le_of_ble_eq_true rfl)) dX4_init_64 ⟨Nat.le_of_ble_eq_true rfl, Nat.le_of_ble_eq_true rfl⟩) (fun f_217 H locs hw_218 hI => ?_)
  have e_219 := hw_218
  have e_219 : f_217 = va_up f_196 q_195 (some (.inr (3, [.int 3, .int 10, .int 1, .int 0]))) := e_219
  have hf_220 : f_217 q_195 = some (.inr (3, [.int 3, .int 10, .int 1, .int 0])) := by rw [e_219]; exact va_up_self _ _ _
  have hf_221 : f_217 a = some (.inr (5, [.ref q_1, .ref q_12, .ref q_26, .ref q_51, .int 0, .int 0])) := by rw [e_219, va_up_ne _ _ (hn_199)]; exact hf_208
  have hf_222 : f_217 q_1 = some (.inl (cy 3, 4, .inr (.inr (.inr (.inr (va_up (va_up (va_up (fun _ => none) 0 (some q_81)) 1 (some q_115)) 2 (some q_153))))))) := by rw [e_219, va_up_ne _ _ (hn_200)]; exact hf_209
  have hf_223 : f_217 q_12 = some (.inl (cy 4, 6, .inr (.inr (.inr (.inr (fun _ => none)))))) := by rw [e_219, va_up_ne _ _ (hn_201)]; exact hf_210
  have hf_224 : f_217 q_26 = some (.inr (0, [.int 0, .ref de, .int 0])) := by rw [e_219, va_up_ne _ _ (hn_202)]; exact hf_211
  have hf_225 : f_217 q_51 = some (.inr (0, [.int 0, .ref de, .int 0])) := by rw [e_219, va_up_ne _ _ (hn_203)]; exact hf_212
  have hf_226 : f_217 q_81 = some (.inr (3, [.int 0, .int 10, .int 1, .int 0])) := by rw [e_219, va_up_ne _ _ (hn_204)]; exact hf_213
  have hf_227 : f_217 q_115 = some (.inr (3, [.int 1, .int 10, .int 1, .int 0])) := by rw [e_219, va_up_ne _ _ (hn_205)]; exact hf_214
  have hf_228 : f_217 q_153 = some (.inr (3, [.int 2, .int 10, .int 1, .int 0])) := by rw [e_219, va_up_ne _ _ (hn_206)]; exact hf_215
  refine g_aast (C := "TollGateway$Plan") hx hb hI hf_222 3 rfl (g_anyS2 hI hf_220 rfl) (by unfold vp_in; decide) dX4_init_67 (fun f_229 H locs e_230 hI => ?_)
  rw [show Int32.toNatClampNeg (3 : Int32) = 3 from by decide] at e_230
  have e_230 : f_229 = va_up f_217 q_1 (some (.inl (cy 3, 4, .inr (.inr (.inr (.inr (va_up (va_up (va_up (va_up (fun _ => none) 0 (some q_81)) 1 (some q_115)) 2 (some q_153)) 3 (some q_195)))))))) := e_230
  have hf_231 : f_229 q_1 = some (.inl (cy 3, 4, .inr (.inr (.inr (.inr (va_up (va_up (va_up (va_up (fun _ => none) 0 (some q_81)) 1 (some q_115)) 2 (some q_153)) 3 (some q_195))))))) := by rw [e_230]; exact va_up_self _ _ _
  have hf_232 : f_229 a = some (.inr (5, [.ref q_1, .ref q_12, .ref q_26, .ref q_51, .int 0, .int 0])) := by rw [e_230, va_up_ne _ _ (hn_5)]; exact hf_221
  have hf_233 : f_229 q_12 = some (.inl (cy 4, 6, .inr (.inr (.inr (.inr (fun _ => none)))))) := by rw [e_230, va_up_ne _ _ ((Ne.symm hn_17))]; exact hf_223
  have hf_234 : f_229 q_26 = some (.inr (0, [.int 0, .ref de, .int 0])) := by rw [e_230, va_up_ne _ _ ((Ne.symm hn_31))]; exact hf_224
  have hf_235 : f_229 q_51 = some (.inr (0, [.int 0, .ref de, .int 0])) := by rw [e_230, va_up_ne _ _ ((Ne.symm hn_56))]; exact hf_225
  have hf_236 : f_229 q_81 = some (.inr (3, [.int 0, .int 10, .int 1, .int 0])) := by rw [e_230, va_up_ne _ _ ((Ne.symm hn_86))]; exact hf_226
  have hf_237 : f_229 q_115 = some (.inr (3, [.int 1, .int 10, .int 1, .int 0])) := by rw [e_230, va_up_ne _ _ ((Ne.symm hn_120))]; exact hf_227
  have hf_238 : f_229 q_153 = some (.inr (3, [.int 2, .int 10, .int 1, .int 0])) := by rw [e_230, va_up_ne _ _ ((Ne.symm hn_158))]; exact hf_228
  have hf_239 : f_229 q_195 = some (.inr (3, [.int 3, .int 10, .int 1, .int 0])) := by rw [e_230, va_up_ne _ _ ((Ne.symm hn_200))]; exact hf_220
  refine lv_iinc (v := 4) (lv' := [(1, .int 4), (0, .ref a)]) hx hb dX4_init_68 hl (k := 0) rfl (by decide) (by decide) rfl (fun ls hl => ?_)
  refine lv_goto (tgt := 45) hx hb dX4_init_71 (by decide) ?_
  refine lv_iload_n hx hb dX4_init_45 rfl (lv_at hl 0 rfl) ?_
  refine lv_aload_n hx hb dX4_init_46 rfl (lv_at hl 1 rfl) ?_
  refine g_get (ci := 5) (C := RX4) (T := TX4) (N := 6) hx hb hts hinX4 hown hI hf_232 rfl 0 (by decide) hw4 (fun _ h9 => h9) rfl dX4_init_47 ?_
  refine g_alen (v := 4) hx hb hI hf_231 3 rfl rfl dX4_init_50 ?_
  refine lv_icmp_ge (tgt := 74) hx hb dX4_init_51 (by decide) (fun _ => ?_) (fun z => absurd z (by decide))
  refine lv_iconst (v := 0) hx hb dX4_init_74 (by decide) ?_
  refine lv_istore_n (lv' := [(1, .int 0), (0, .ref a)]) hx hb dX4_init_75 rfl hl (by decide) rfl (fun ls hl => ?_)
  refine lv_iload_n hx hb dX4_init_76 rfl (lv_at hl 0 rfl) ?_
  refine lv_aload_n hx hb dX4_init_77 rfl (lv_at hl 1 rfl) ?_
  refine g_get (ci := 5) (C := RX4) (T := TX4) (N := 6) hx hb hts hinX4 hown hI hf_232 rfl 1 (by decide) hw6 (fun _ h9 => h9) rfl dX4_init_78 ?_
  refine g_alen (v := 6) hx hb hI hf_233 4 rfl rfl dX4_init_81 ?_
  refine lv_icmp_ge (tgt := 104) hx hb dX4_init_82 (by decide) (fun z => absurd z (by decide)) (fun _ => ?_)
  refine lv_aload_n hx hb dX4_init_85 rfl (lv_at hl 1 rfl) ?_
  refine g_get (ci := 5) (C := RX4) (T := TX4) (N := 6) hx hb hts hinX4 hown hI hf_232 rfl 1 (by decide) hw6 (fun _ h9 => h9) rfl dX4_init_86 ?_
  refine lv_iload_n hx hb dX4_init_89 rfl (lv_at hl 0 rfl) ?_
  refine g_new (ci := 4) (fs := [.int 0, .int 0]) hx hb hts hinX3 tyX3 tyX3_ok hown hw18 hw19 hw20 hI rfl (by decide +kernel) (Nat.le_of_ble_eq_true rfl) (Nat.le_of_ble_eq_true rfl) dX4_init_90 (fun q_242 f_243 H hq_245 e_244 hI => ?_)
  have hn_246 : a ≠ q_242 := g_nn hf_232 hq_245
  have hn_247 : q_1 ≠ q_242 := g_nn hf_231 hq_245
  have hn_248 : q_12 ≠ q_242 := g_nn hf_233 hq_245
  have hn_249 : q_26 ≠ q_242 := g_nn hf_234 hq_245
  have hn_250 : q_51 ≠ q_242 := g_nn hf_235 hq_245
  have hn_251 : q_81 ≠ q_242 := g_nn hf_236 hq_245
  have hn_252 : q_115 ≠ q_242 := g_nn hf_237 hq_245
  have hn_253 : q_153 ≠ q_242 := g_nn hf_238 hq_245
  have hn_254 : q_195 ≠ q_242 := g_nn hf_239 hq_245
  have e_244 : f_243 = va_up f_229 q_242 (some (.inr (4, [.int 0, .int 0]))) := e_244
  have hf_255 : f_243 q_242 = some (.inr (4, [.int 0, .int 0])) := by rw [e_244]; exact va_up_self _ _ _
  have hf_256 : f_243 a = some (.inr (5, [.ref q_1, .ref q_12, .ref q_26, .ref q_51, .int 0, .int 0])) := by rw [e_244, va_up_ne _ _ (hn_246)]; exact hf_232
  have hf_257 : f_243 q_1 = some (.inl (cy 3, 4, .inr (.inr (.inr (.inr (va_up (va_up (va_up (va_up (fun _ => none) 0 (some q_81)) 1 (some q_115)) 2 (some q_153)) 3 (some q_195))))))) := by rw [e_244, va_up_ne _ _ (hn_247)]; exact hf_231
  have hf_258 : f_243 q_12 = some (.inl (cy 4, 6, .inr (.inr (.inr (.inr (fun _ => none)))))) := by rw [e_244, va_up_ne _ _ (hn_248)]; exact hf_233
  have hf_259 : f_243 q_26 = some (.inr (0, [.int 0, .ref de, .int 0])) := by rw [e_244, va_up_ne _ _ (hn_249)]; exact hf_234
  have hf_260 : f_243 q_51 = some (.inr (0, [.int 0, .ref de, .int 0])) := by rw [e_244, va_up_ne _ _ (hn_250)]; exact hf_235
  have hf_261 : f_243 q_81 = some (.inr (3, [.int 0, .int 10, .int 1, .int 0])) := by rw [e_244, va_up_ne _ _ (hn_251)]; exact hf_236
  have hf_262 : f_243 q_115 = some (.inr (3, [.int 1, .int 10, .int 1, .int 0])) := by rw [e_244, va_up_ne _ _ (hn_252)]; exact hf_237
  have hf_263 : f_243 q_153 = some (.inr (3, [.int 2, .int 10, .int 1, .int 0])) := by rw [e_244, va_up_ne _ _ (hn_253)]; exact hf_238
  have hf_264 : f_243 q_195 = some (.inr (3, [.int 3, .int 10, .int 1, .int 0])) := by rw [e_244, va_up_ne _ _ (hn_254)]; exact hf_239
  refine lv_dup hx hb dX4_init_93 rfl ?_
  refine g_callv hI (va_runIN (As := []) (rest := [.ref q_242, .int 0, .ref q_12]) ⟨hx, hb, hml, hown, hts⟩ (c_X3_init l D cy de f_243 q_242 0 0 hf_255 H.size) ⟨va_cnB 0 hts gX4_init_X3_init_n34 rfl rfl rfl (nm_T34 hI.2.2.2.1) hw20 (by decide +kernel) ⟨Nat.le_of_ble_eq_true rfl, Nat.le_of_ble_eq_true rfl⟩, rfl, hw21⟩ (g_preS hI) rfl rfl hl.1 rfl (lv_room (Nat.le_of_ble_eq_true rfl)) dX4_init_94 ⟨Nat.le_of_ble_eq_true rfl, Nat.le_of_ble_eq_true rfl⟩) (fun f_266 H locs hw_267 hI => ?_)
  have e_268 := hw_267
  have e_268 : f_266 = va_up f_243 q_242 (some (.inr (4, [.int 10, .int 1]))) := e_268
  have hf_269 : f_266 q_242 = some (.inr (4, [.int 10, .int 1])) := by rw [e_268]; exact va_up_self _ _ _
  have hf_270 : f_266 a = some (.inr (5, [.ref q_1, .ref q_12, .ref q_26, .ref q_51, .int 0, .int 0])) := by rw [e_268, va_up_ne _ _ (hn_246)]; exact hf_256
  have hf_271 : f_266 q_1 = some (.inl (cy 3, 4, .inr (.inr (.inr (.inr (va_up (va_up (va_up (va_up (fun _ => none) 0 (some q_81)) 1 (some q_115)) 2 (some q_153)) 3 (some q_195))))))) := by rw [e_268, va_up_ne _ _ (hn_247)]; exact hf_257
  have hf_272 : f_266 q_12 = some (.inl (cy 4, 6, .inr (.inr (.inr (.inr (fun _ => none)))))) := by rw [e_268, va_up_ne _ _ (hn_248)]; exact hf_258
  have hf_273 : f_266 q_26 = some (.inr (0, [.int 0, .ref de, .int 0])) := by rw [e_268, va_up_ne _ _ (hn_249)]; exact hf_259
  have hf_274 : f_266 q_51 = some (.inr (0, [.int 0, .ref de, .int 0])) := by rw [e_268, va_up_ne _ _ (hn_250)]; exact hf_260
  have hf_275 : f_266 q_81 = some (.inr (3, [.int 0, .int 10, .int 1, .int 0])) := by rw [e_268, va_up_ne _ _ (hn_251)]; exact hf_261
  have hf_276 : f_266 q_115 = some (.inr (3, [.int 1, .int 10, .int 1, .int 0])) := by rw [e_268, va_up_ne _ _ (hn_252)]; exact hf_262
  have hf_277 : f_266 q_153 = some (.inr (3, [.int 2, .int 10, .int 1, .int 0])) := by rw [e_268, va_up_ne _ _ (hn_253)]; exact hf_263
  have hf_278 : f_266 q_195 = some (.inr (3, [.int 3, .int 10, .int 1, .int 0])) := by rw [e_268, va_up_ne _ _ (hn_254)]; exact hf_264
  refine g_aast (C := "TollGateway$Route") hx hb hI hf_272 4 rfl (g_anyS2 hI hf_269 rfl) (by unfold vp_in; decide) dX4_init_97 (fun f_279 H locs e_280 hI => ?_)
  rw [show Int32.toNatClampNeg (0 : Int32) = 0 from by decide] at e_280
  have e_280 : f_279 = va_up f_266 q_12 (some (.inl (cy 4, 6, .inr (.inr (.inr (.inr (va_up (fun _ => none) 0 (some q_242)))))))) := e_280
  have hf_281 : f_279 q_12 = some (.inl (cy 4, 6, .inr (.inr (.inr (.inr (va_up (fun _ => none) 0 (some q_242))))))) := by rw [e_280]; exact va_up_self _ _ _
  have hf_282 : f_279 a = some (.inr (5, [.ref q_1, .ref q_12, .ref q_26, .ref q_51, .int 0, .int 0])) := by rw [e_280, va_up_ne _ _ (hn_16)]; exact hf_270
  have hf_283 : f_279 q_1 = some (.inl (cy 3, 4, .inr (.inr (.inr (.inr (va_up (va_up (va_up (va_up (fun _ => none) 0 (some q_81)) 1 (some q_115)) 2 (some q_153)) 3 (some q_195))))))) := by rw [e_280, va_up_ne _ _ (hn_17)]; exact hf_271
  have hf_284 : f_279 q_26 = some (.inr (0, [.int 0, .ref de, .int 0])) := by rw [e_280, va_up_ne _ _ ((Ne.symm hn_32))]; exact hf_273
  have hf_285 : f_279 q_51 = some (.inr (0, [.int 0, .ref de, .int 0])) := by rw [e_280, va_up_ne _ _ ((Ne.symm hn_57))]; exact hf_274
  have hf_286 : f_279 q_81 = some (.inr (3, [.int 0, .int 10, .int 1, .int 0])) := by rw [e_280, va_up_ne _ _ ((Ne.symm hn_87))]; exact hf_275
  have hf_287 : f_279 q_115 = some (.inr (3, [.int 1, .int 10, .int 1, .int 0])) := by rw [e_280, va_up_ne _ _ ((Ne.symm hn_121))]; exact hf_276
  have hf_288 : f_279 q_153 = some (.inr (3, [.int 2, .int 10, .int 1, .int 0])) := by rw [e_280, va_up_ne _ _ ((Ne.symm hn_159))]; exact hf_277
  have hf_289 : f_279 q_195 = some (.inr (3, [.int 3, .int 10, .int 1, .int 0])) := by rw [e_280, va_up_ne _ _ ((Ne.symm hn_201))]; exact hf_278
  have hf_290 : f_279 q_242 = some (.inr (4, [.int 10, .int 1])) := by rw [e_280, va_up_ne _ _ ((Ne.symm hn_248))]; exact hf_269
  refine lv_iinc (v := 1) (lv' := [(1, .int 1), (0, .ref a)]) hx hb dX4_init_98 hl (k := 0) rfl (by decide) (by decide) rfl (fun ls hl => ?_)
  refine lv_goto (tgt := 76) hx hb dX4_init_101 (by decide) ?_
  refine lv_iload_n hx hb dX4_init_76 rfl (lv_at hl 0 rfl) ?_
  refine lv_aload_n hx hb dX4_init_77 rfl (lv_at hl 1 rfl) ?_
  refine g_get (ci := 5) (C := RX4) (T := TX4) (N := 6) hx hb hts hinX4 hown hI hf_282 rfl 1 (by decide) hw6 (fun _ h9 => h9) rfl dX4_init_78 ?_
  refine g_alen (v := 6) hx hb hI hf_281 4 rfl rfl dX4_init_81 ?_
  refine lv_icmp_ge (tgt := 104) hx hb dX4_init_82 (by decide) (fun z => absurd z (by decide)) (fun _ => ?_)
  refine lv_aload_n hx hb dX4_init_85 rfl (lv_at hl 1 rfl) ?_
  refine g_get (ci := 5) (C := RX4) (T := TX4) (N := 6) hx hb hts hinX4 hown hI hf_282 rfl 1 (by decide) hw6 (fun _ h9 => h9) rfl dX4_init_86 ?_
  refine lv_iload_n hx hb dX4_init_89 rfl (lv_at hl 0 rfl) ?_
  refine g_new (ci := 4) (fs := [.int 0, .int 0]) hx hb hts hinX3 tyX3 tyX3_ok hown hw18 hw19 hw20 hI rfl (by decide +kernel) (Nat.le_of_ble_eq_true rfl) (Nat.le_of_ble_eq_true rfl) dX4_init_90 (fun q_292 f_293 H hq_295 e_294 hI => ?_)
  have hn_296 : a ≠ q_292 := g_nn hf_282 hq_295
  have hn_297 : q_1 ≠ q_292 := g_nn hf_283 hq_295
  have hn_298 : q_12 ≠ q_292 := g_nn hf_281 hq_295
  have hn_299 : q_26 ≠ q_292 := g_nn hf_284 hq_295
  have hn_300 : q_51 ≠ q_292 := g_nn hf_285 hq_295
  have hn_301 : q_81 ≠ q_292 := g_nn hf_286 hq_295
  have hn_302 : q_115 ≠ q_292 := g_nn hf_287 hq_295
  have hn_303 : q_153 ≠ q_292 := g_nn hf_288 hq_295
  have hn_304 : q_195 ≠ q_292 := g_nn hf_289 hq_295
  have hn_305 : q_242 ≠ q_292 := g_nn hf_290 hq_295
  have e_294 : f_293 = va_up f_279 q_292 (some (.inr (4, [.int 0, .int 0]))) := e_294
  have hf_306 : f_293 q_292 = some (.inr (4, [.int 0, .int 0])) := by rw [e_294]; exact va_up_self _ _ _
  have hf_307 : f_293 a = some (.inr (5, [.ref q_1, .ref q_12, .ref q_26, .ref q_51, .int 0, .int 0])) := by rw [e_294, va_up_ne _ _ (hn_296)]; exact hf_282
  have hf_308 : f_293 q_1 = some (.inl (cy 3, 4, .inr (.inr (.inr (.inr (va_up (va_up (va_up (va_up (fun _ => none) 0 (some q_81)) 1 (some q_115)) 2 (some q_153)) 3 (some q_195))))))) := by rw [e_294, va_up_ne _ _ (hn_297)]; exact hf_283
  have hf_309 : f_293 q_12 = some (.inl (cy 4, 6, .inr (.inr (.inr (.inr (va_up (fun _ => none) 0 (some q_242))))))) := by rw [e_294, va_up_ne _ _ (hn_298)]; exact hf_281
  have hf_310 : f_293 q_26 = some (.inr (0, [.int 0, .ref de, .int 0])) := by rw [e_294, va_up_ne _ _ (hn_299)]; exact hf_284
  have hf_311 : f_293 q_51 = some (.inr (0, [.int 0, .ref de, .int 0])) := by rw [e_294, va_up_ne _ _ (hn_300)]; exact hf_285
  have hf_312 : f_293 q_81 = some (.inr (3, [.int 0, .int 10, .int 1, .int 0])) := by rw [e_294, va_up_ne _ _ (hn_301)]; exact hf_286
  have hf_313 : f_293 q_115 = some (.inr (3, [.int 1, .int 10, .int 1, .int 0])) := by rw [e_294, va_up_ne _ _ (hn_302)]; exact hf_287
  have hf_314 : f_293 q_153 = some (.inr (3, [.int 2, .int 10, .int 1, .int 0])) := by rw [e_294, va_up_ne _ _ (hn_303)]; exact hf_288
  have hf_315 : f_293 q_195 = some (.inr (3, [.int 3, .int 10, .int 1, .int 0])) := by rw [e_294, va_up_ne _ _ (hn_304)]; exact hf_289
  have hf_316 : f_293 q_242 = some (.inr (4, [.int 10, .int 1])) := by rw [e_294, va_up_ne _ _ (hn_305)]; exact hf_290
  refine lv_dup hx hb dX4_init_93 rfl ?_
  refine g_callv hI (va_runIN (As := []) (rest := [.ref q_292, .int 1, .ref q_12]) ⟨hx, hb, hml, hown, hts⟩ (c_X3_init l D cy de f_293 q_292 0 0 hf_306 H.size) ⟨va_cnB 0 hts gX4_init_X3_init_n34 rfl rfl rfl (nm_T34 hI.2.2.2.1) hw20 (by decide +kernel) ⟨Nat.le_of_ble_eq_true rfl, Nat.le_of_ble_eq_true rfl⟩, rfl, hw21⟩ (g_preS hI) rfl rfl hl.1 rfl (lv_room (Nat.le_of_ble_eq_true rfl)) dX4_init_94 ⟨Nat.le_of_ble_eq_true rfl, Nat.le_of_ble_eq_true rfl⟩) (fun f_318 H locs hw_319 hI => ?_)
  have e_320 := hw_319
  have e_320 : f_318 = va_up f_293 q_292 (some (.inr (4, [.int 10, .int 1]))) := e_320
  have hf_321 : f_318 q_292 = some (.inr (4, [.int 10, .int 1])) := by rw [e_320]; exact va_up_self _ _ _
  have hf_322 : f_318 a = some (.inr (5, [.ref q_1, .ref q_12, .ref q_26, .ref q_51, .int 0, .int 0])) := by rw [e_320, va_up_ne _ _ (hn_296)]; exact hf_307
  have hf_323 : f_318 q_1 = some (.inl (cy 3, 4, .inr (.inr (.inr (.inr (va_up (va_up (va_up (va_up (fun _ => none) 0 (some q_81)) 1 (some q_115)) 2 (some q_153)) 3 (some q_195))))))) := by rw [e_320, va_up_ne _ _ (hn_297)]; exact hf_308
  have hf_324 : f_318 q_12 = some (.inl (cy 4, 6, .inr (.inr (.inr (.inr (va_up (fun _ => none) 0 (some q_242))))))) := by rw [e_320, va_up_ne _ _ (hn_298)]; exact hf_309
  have hf_325 : f_318 q_26 = some (.inr (0, [.int 0, .ref de, .int 0])) := by rw [e_320, va_up_ne _ _ (hn_299)]; exact hf_310
  have hf_326 : f_318 q_51 = some (.inr (0, [.int 0, .ref de, .int 0])) := by rw [e_320, va_up_ne _ _ (hn_300)]; exact hf_311
  have hf_327 : f_318 q_81 = some (.inr (3, [.int 0, .int 10, .int 1, .int 0])) := by rw [e_320, va_up_ne _ _ (hn_301)]; exact hf_312
  have hf_328 : f_318 q_115 = some (.inr (3, [.int 1, .int 10, .int 1, .int 0])) := by rw [e_320, va_up_ne _ _ (hn_302)]; exact hf_313
  have hf_329 : f_318 q_153 = some (.inr (3, [.int 2, .int 10, .int 1, .int 0])) := by rw [e_320, va_up_ne _ _ (hn_303)]; exact hf_314
  have hf_330 : f_318 q_195 = some (.inr (3, [.int 3, .int 10, .int 1, .int 0])) := by rw [e_320, va_up_ne _ _ (hn_304)]; exact hf_315
  have hf_331 : f_318 q_242 = some (.inr (4, [.int 10, .int 1])) := by rw [e_320, va_up_ne _ _ (hn_305)]; exact hf_316
  refine g_aast (C := "TollGateway$Route") hx hb hI hf_324 4 rfl (g_anyS2 hI hf_321 rfl) (by unfold vp_in; decide) dX4_init_97 (fun f_332 H locs e_333 hI => ?_)
  rw [show Int32.toNatClampNeg (1 : Int32) = 1 from by decide] at e_333
  have e_333 : f_332 = va_up f_318 q_12 (some (.inl (cy 4, 6, .inr (.inr (.inr (.inr (va_up (va_up (fun _ => none) 0 (some q_242)) 1 (some q_292)))))))) := e_333
  have hf_334 : f_332 q_12 = some (.inl (cy 4, 6, .inr (.inr (.inr (.inr (va_up (va_up (fun _ => none) 0 (some q_242)) 1 (some q_292))))))) := by rw [e_333]; exact va_up_self _ _ _
  have hf_335 : f_332 a = some (.inr (5, [.ref q_1, .ref q_12, .ref q_26, .ref q_51, .int 0, .int 0])) := by rw [e_333, va_up_ne _ _ (hn_16)]; exact hf_322
  have hf_336 : f_332 q_1 = some (.inl (cy 3, 4, .inr (.inr (.inr (.inr (va_up (va_up (va_up (va_up (fun _ => none) 0 (some q_81)) 1 (some q_115)) 2 (some q_153)) 3 (some q_195))))))) := by rw [e_333, va_up_ne _ _ (hn_17)]; exact hf_323
  have hf_337 : f_332 q_26 = some (.inr (0, [.int 0, .ref de, .int 0])) := by rw [e_333, va_up_ne _ _ ((Ne.symm hn_32))]; exact hf_325
  have hf_338 : f_332 q_51 = some (.inr (0, [.int 0, .ref de, .int 0])) := by rw [e_333, va_up_ne _ _ ((Ne.symm hn_57))]; exact hf_326
  have hf_339 : f_332 q_81 = some (.inr (3, [.int 0, .int 10, .int 1, .int 0])) := by rw [e_333, va_up_ne _ _ ((Ne.symm hn_87))]; exact hf_327
  have hf_340 : f_332 q_115 = some (.inr (3, [.int 1, .int 10, .int 1, .int 0])) := by rw [e_333, va_up_ne _ _ ((Ne.symm hn_121))]; exact hf_328
  have hf_341 : f_332 q_153 = some (.inr (3, [.int 2, .int 10, .int 1, .int 0])) := by rw [e_333, va_up_ne _ _ ((Ne.symm hn_159))]; exact hf_329
  have hf_342 : f_332 q_195 = some (.inr (3, [.int 3, .int 10, .int 1, .int 0])) := by rw [e_333, va_up_ne _ _ ((Ne.symm hn_201))]; exact hf_330
  have hf_343 : f_332 q_242 = some (.inr (4, [.int 10, .int 1])) := by rw [e_333, va_up_ne _ _ ((Ne.symm hn_248))]; exact hf_331
  have hf_344 : f_332 q_292 = some (.inr (4, [.int 10, .int 1])) := by rw [e_333, va_up_ne _ _ ((Ne.symm hn_298))]; exact hf_321
  refine lv_iinc (v := 2) (lv' := [(1, .int 2), (0, .ref a)]) hx hb dX4_init_98 hl (k := 0) rfl (by decide) (by decide) rfl (fun ls hl => ?_)
  refine lv_goto (tgt := 76) hx hb dX4_init_101 (by decide) ?_
  refine lv_iload_n hx hb dX4_init_76 rfl (lv_at hl 0 rfl) ?_
  refine lv_aload_n hx hb dX4_init_77 rfl (lv_at hl 1 rfl) ?_
  refine g_get (ci := 5) (C := RX4) (T := TX4) (N := 6) hx hb hts hinX4 hown hI hf_335 rfl 1 (by decide) hw6 (fun _ h9 => h9) rfl dX4_init_78 ?_
  refine g_alen (v := 6) hx hb hI hf_334 4 rfl rfl dX4_init_81 ?_
  refine lv_icmp_ge (tgt := 104) hx hb dX4_init_82 (by decide) (fun z => absurd z (by decide)) (fun _ => ?_)
  refine lv_aload_n hx hb dX4_init_85 rfl (lv_at hl 1 rfl) ?_
  refine g_get (ci := 5) (C := RX4) (T := TX4) (N := 6) hx hb hts hinX4 hown hI hf_335 rfl 1 (by decide) hw6 (fun _ h9 => h9) rfl dX4_init_86 ?_
  refine lv_iload_n hx hb dX4_init_89 rfl (lv_at hl 0 rfl) ?_
  refine g_new (ci := 4) (fs := [.int 0, .int 0]) hx hb hts hinX3 tyX3 tyX3_ok hown hw18 hw19 hw20 hI rfl (by decide +kernel) (Nat.le_of_ble_eq_true rfl) (Nat.le_of_ble_eq_true rfl) dX4_init_90 (fun q_346 f_347 H hq_349 e_348 hI => ?_)
  have hn_350 : a ≠ q_346 := g_nn hf_335 hq_349
  have hn_351 : q_1 ≠ q_346 := g_nn hf_336 hq_349
  have hn_352 : q_12 ≠ q_346 := g_nn hf_334 hq_349
  have hn_353 : q_26 ≠ q_346 := g_nn hf_337 hq_349
  have hn_354 : q_51 ≠ q_346 := g_nn hf_338 hq_349
  have hn_355 : q_81 ≠ q_346 := g_nn hf_339 hq_349
  have hn_356 : q_115 ≠ q_346 := g_nn hf_340 hq_349
  have hn_357 : q_153 ≠ q_346 := g_nn hf_341 hq_349
  have hn_358 : q_195 ≠ q_346 := g_nn hf_342 hq_349
  have hn_359 : q_242 ≠ q_346 := g_nn hf_343 hq_349
  have hn_360 : q_292 ≠ q_346 := g_nn hf_344 hq_349
  have e_348 : f_347 = va_up f_332 q_346 (some (.inr (4, [.int 0, .int 0]))) := e_348
  have hf_361 : f_347 q_346 = some (.inr (4, [.int 0, .int 0])) := by rw [e_348]; exact va_up_self _ _ _
  have hf_362 : f_347 a = some (.inr (5, [.ref q_1, .ref q_12, .ref q_26, .ref q_51, .int 0, .int 0])) := by rw [e_348, va_up_ne _ _ (hn_350)]; exact hf_335
  have hf_363 : f_347 q_1 = some (.inl (cy 3, 4, .inr (.inr (.inr (.inr (va_up (va_up (va_up (va_up (fun _ => none) 0 (some q_81)) 1 (some q_115)) 2 (some q_153)) 3 (some q_195))))))) := by rw [e_348, va_up_ne _ _ (hn_351)]; exact hf_336
  have hf_364 : f_347 q_12 = some (.inl (cy 4, 6, .inr (.inr (.inr (.inr (va_up (va_up (fun _ => none) 0 (some q_242)) 1 (some q_292))))))) := by rw [e_348, va_up_ne _ _ (hn_352)]; exact hf_334
  have hf_365 : f_347 q_26 = some (.inr (0, [.int 0, .ref de, .int 0])) := by rw [e_348, va_up_ne _ _ (hn_353)]; exact hf_337
  have hf_366 : f_347 q_51 = some (.inr (0, [.int 0, .ref de, .int 0])) := by rw [e_348, va_up_ne _ _ (hn_354)]; exact hf_338
  have hf_367 : f_347 q_81 = some (.inr (3, [.int 0, .int 10, .int 1, .int 0])) := by rw [e_348, va_up_ne _ _ (hn_355)]; exact hf_339
  have hf_368 : f_347 q_115 = some (.inr (3, [.int 1, .int 10, .int 1, .int 0])) := by rw [e_348, va_up_ne _ _ (hn_356)]; exact hf_340
  have hf_369 : f_347 q_153 = some (.inr (3, [.int 2, .int 10, .int 1, .int 0])) := by rw [e_348, va_up_ne _ _ (hn_357)]; exact hf_341
  have hf_370 : f_347 q_195 = some (.inr (3, [.int 3, .int 10, .int 1, .int 0])) := by rw [e_348, va_up_ne _ _ (hn_358)]; exact hf_342
  have hf_371 : f_347 q_242 = some (.inr (4, [.int 10, .int 1])) := by rw [e_348, va_up_ne _ _ (hn_359)]; exact hf_343
  have hf_372 : f_347 q_292 = some (.inr (4, [.int 10, .int 1])) := by rw [e_348, va_up_ne _ _ (hn_360)]; exact hf_344
  refine lv_dup hx hb dX4_init_93 rfl ?_
  refine g_callv hI (va_runIN (As := []) (rest := [.ref q_346, .int 2, .ref q_12]) ⟨hx, hb, hml, hown, hts⟩ (c_X3_init l D cy de f_347 q_346 0 0 hf_361 H.size) ⟨va_cnB 0 hts gX4_init_X3_init_n34 rfl rfl rfl (nm_T34 hI.2.2.2.1) hw20 (by decide +kernel) ⟨Nat.le_of_ble_eq_true rfl, Nat.le_of_ble_eq_true rfl⟩, rfl, hw21⟩ (g_preS hI) rfl rfl hl.1 rfl (lv_room (Nat.le_of_ble_eq_true rfl)) dX4_init_94 ⟨Nat.le_of_ble_eq_true rfl, Nat.le_of_ble_eq_true rfl⟩) (fun f_374 H locs hw_375 hI => ?_)
  have e_376 := hw_375
  have e_376 : f_374 = va_up f_347 q_346 (some (.inr (4, [.int 10, .int 1]))) := e_376
  have hf_377 : f_374 q_346 = some (.inr (4, [.int 10, .int 1])) := by rw [e_376]; exact va_up_self _ _ _
  have hf_378 : f_374 a = some (.inr (5, [.ref q_1, .ref q_12, .ref q_26, .ref q_51, .int 0, .int 0])) := by rw [e_376, va_up_ne _ _ (hn_350)]; exact hf_362
  have hf_379 : f_374 q_1 = some (.inl (cy 3, 4, .inr (.inr (.inr (.inr (va_up (va_up (va_up (va_up (fun _ => none) 0 (some q_81)) 1 (some q_115)) 2 (some q_153)) 3 (some q_195))))))) := by rw [e_376, va_up_ne _ _ (hn_351)]; exact hf_363
  have hf_380 : f_374 q_12 = some (.inl (cy 4, 6, .inr (.inr (.inr (.inr (va_up (va_up (fun _ => none) 0 (some q_242)) 1 (some q_292))))))) := by rw [e_376, va_up_ne _ _ (hn_352)]; exact hf_364
  have hf_381 : f_374 q_26 = some (.inr (0, [.int 0, .ref de, .int 0])) := by rw [e_376, va_up_ne _ _ (hn_353)]; exact hf_365
  have hf_382 : f_374 q_51 = some (.inr (0, [.int 0, .ref de, .int 0])) := by rw [e_376, va_up_ne _ _ (hn_354)]; exact hf_366
  have hf_383 : f_374 q_81 = some (.inr (3, [.int 0, .int 10, .int 1, .int 0])) := by rw [e_376, va_up_ne _ _ (hn_355)]; exact hf_367
  have hf_384 : f_374 q_115 = some (.inr (3, [.int 1, .int 10, .int 1, .int 0])) := by rw [e_376, va_up_ne _ _ (hn_356)]; exact hf_368
  have hf_385 : f_374 q_153 = some (.inr (3, [.int 2, .int 10, .int 1, .int 0])) := by rw [e_376, va_up_ne _ _ (hn_357)]; exact hf_369
  have hf_386 : f_374 q_195 = some (.inr (3, [.int 3, .int 10, .int 1, .int 0])) := by rw [e_376, va_up_ne _ _ (hn_358)]; exact hf_370
  have hf_387 : f_374 q_242 = some (.inr (4, [.int 10, .int 1])) := by rw [e_376, va_up_ne _ _ (hn_359)]; exact hf_371
  have hf_388 : f_374 q_292 = some (.inr (4, [.int 10, .int 1])) := by rw [e_376, va_up_ne _ _ (hn_360)]; exact hf_372
  refine g_aast (C := "TollGateway$Route") hx hb hI hf_380 4 rfl (g_anyS2 hI hf_377 rfl) (by unfold vp_in; decide) dX4_init_97 (fun f_389 H locs e_390 hI => ?_)
  rw [show Int32.toNatClampNeg (2 : Int32) = 2 from by decide] at e_390
  have e_390 : f_389 = va_up f_374 q_12 (some (.inl (cy 4, 6, .inr (.inr (.inr (.inr (va_up (va_up (va_up (fun _ => none) 0 (some q_242)) 1 (some q_292)) 2 (some q_346)))))))) := e_390
  have hf_391 : f_389 q_12 = some (.inl (cy 4, 6, .inr (.inr (.inr (.inr (va_up (va_up (va_up (fun _ => none) 0 (some q_242)) 1 (some q_292)) 2 (some q_346))))))) := by rw [e_390]; exact va_up_self _ _ _
  have hf_392 : f_389 a = some (.inr (5, [.ref q_1, .ref q_12, .ref q_26, .ref q_51, .int 0, .int 0])) := by rw [e_390, va_up_ne _ _ (hn_16)]; exact hf_378
  have hf_393 : f_389 q_1 = some (.inl (cy 3, 4, .inr (.inr (.inr (.inr (va_up (va_up (va_up (va_up (fun _ => none) 0 (some q_81)) 1 (some q_115)) 2 (some q_153)) 3 (some q_195))))))) := by rw [e_390, va_up_ne _ _ (hn_17)]; exact hf_379
  have hf_394 : f_389 q_26 = some (.inr (0, [.int 0, .ref de, .int 0])) := by rw [e_390, va_up_ne _ _ ((Ne.symm hn_32))]; exact hf_381
  have hf_395 : f_389 q_51 = some (.inr (0, [.int 0, .ref de, .int 0])) := by rw [e_390, va_up_ne _ _ ((Ne.symm hn_57))]; exact hf_382
  have hf_396 : f_389 q_81 = some (.inr (3, [.int 0, .int 10, .int 1, .int 0])) := by rw [e_390, va_up_ne _ _ ((Ne.symm hn_87))]; exact hf_383
  have hf_397 : f_389 q_115 = some (.inr (3, [.int 1, .int 10, .int 1, .int 0])) := by rw [e_390, va_up_ne _ _ ((Ne.symm hn_121))]; exact hf_384
  have hf_398 : f_389 q_153 = some (.inr (3, [.int 2, .int 10, .int 1, .int 0])) := by rw [e_390, va_up_ne _ _ ((Ne.symm hn_159))]; exact hf_385
  have hf_399 : f_389 q_195 = some (.inr (3, [.int 3, .int 10, .int 1, .int 0])) := by rw [e_390, va_up_ne _ _ ((Ne.symm hn_201))]; exact hf_386
  have hf_400 : f_389 q_242 = some (.inr (4, [.int 10, .int 1])) := by rw [e_390, va_up_ne _ _ ((Ne.symm hn_248))]; exact hf_387
  have hf_401 : f_389 q_292 = some (.inr (4, [.int 10, .int 1])) := by rw [e_390, va_up_ne _ _ ((Ne.symm hn_298))]; exact hf_388
  have hf_402 : f_389 q_346 = some (.inr (4, [.int 10, .int 1])) := by rw [e_390, va_up_ne _ _ ((Ne.symm hn_352))]; exact hf_377
  refine lv_iinc (v := 3) (lv' := [(1, .int 3), (0, .ref a)]) hx hb dX4_init_98 hl (k := 0) rfl (by decide) (by decide) rfl (fun ls hl => ?_)
  refine lv_goto (tgt := 76) hx hb dX4_init_101 (by decide) ?_
  refine lv_iload_n hx hb dX4_init_76 rfl (lv_at hl 0 rfl) ?_
  refine lv_aload_n hx hb dX4_init_77 rfl (lv_at hl 1 rfl) ?_
  refine g_get (ci := 5) (C := RX4) (T := TX4) (N := 6) hx hb hts hinX4 hown hI hf_392 rfl 1 (by decide) hw6 (fun _ h9 => h9) rfl dX4_init_78 ?_
  refine g_alen (v := 6) hx hb hI hf_391 4 rfl rfl dX4_init_81 ?_
  refine lv_icmp_ge (tgt := 104) hx hb dX4_init_82 (by decide) (fun z => absurd z (by decide)) (fun _ => ?_)
  refine lv_aload_n hx hb dX4_init_85 rfl (lv_at hl 1 rfl) ?_
  refine g_get (ci := 5) (C := RX4) (T := TX4) (N := 6) hx hb hts hinX4 hown hI hf_392 rfl 1 (by decide) hw6 (fun _ h9 => h9) rfl dX4_init_86 ?_
  refine lv_iload_n hx hb dX4_init_89 rfl (lv_at hl 0 rfl) ?_
  refine g_new (ci := 4) (fs := [.int 0, .int 0]) hx hb hts hinX3 tyX3 tyX3_ok hown hw18 hw19 hw20 hI rfl (by decide +kernel) (Nat.le_of_ble_eq_true rfl) (Nat.le_of_ble_eq_true rfl) dX4_init_90 (fun q_404 f_405 H hq_407 e_406 hI => ?_)
  have hn_408 : a ≠ q_404 := g_nn hf_392 hq_407
  have hn_409 : q_1 ≠ q_404 := g_nn hf_393 hq_407
  have hn_410 : q_12 ≠ q_404 := g_nn hf_391 hq_407
  have hn_411 : q_26 ≠ q_404 := g_nn hf_394 hq_407
  have hn_412 : q_51 ≠ q_404 := g_nn hf_395 hq_407
  have hn_413 : q_81 ≠ q_404 := g_nn hf_396 hq_407
  have hn_414 : q_115 ≠ q_404 := g_nn hf_397 hq_407
  have hn_415 : q_153 ≠ q_404 := g_nn hf_398 hq_407
  have hn_416 : q_195 ≠ q_404 := g_nn hf_399 hq_407
  have hn_417 : q_242 ≠ q_404 := g_nn hf_400 hq_407
  have hn_418 : q_292 ≠ q_404 := g_nn hf_401 hq_407
  have hn_419 : q_346 ≠ q_404 := g_nn hf_402 hq_407
  have e_406 : f_405 = va_up f_389 q_404 (some (.inr (4, [.int 0, .int 0]))) := e_406
  have hf_420 : f_405 q_404 = some (.inr (4, [.int 0, .int 0])) := by rw [e_406]; exact va_up_self _ _ _
  have hf_421 : f_405 a = some (.inr (5, [.ref q_1, .ref q_12, .ref q_26, .ref q_51, .int 0, .int 0])) := by rw [e_406, va_up_ne _ _ (hn_408)]; exact hf_392
  have hf_422 : f_405 q_1 = some (.inl (cy 3, 4, .inr (.inr (.inr (.inr (va_up (va_up (va_up (va_up (fun _ => none) 0 (some q_81)) 1 (some q_115)) 2 (some q_153)) 3 (some q_195))))))) := by rw [e_406, va_up_ne _ _ (hn_409)]; exact hf_393
  have hf_423 : f_405 q_12 = some (.inl (cy 4, 6, .inr (.inr (.inr (.inr (va_up (va_up (va_up (fun _ => none) 0 (some q_242)) 1 (some q_292)) 2 (some q_346))))))) := by rw [e_406, va_up_ne _ _ (hn_410)]; exact hf_391
  have hf_424 : f_405 q_26 = some (.inr (0, [.int 0, .ref de, .int 0])) := by rw [e_406, va_up_ne _ _ (hn_411)]; exact hf_394
  have hf_425 : f_405 q_51 = some (.inr (0, [.int 0, .ref de, .int 0])) := by rw [e_406, va_up_ne _ _ (hn_412)]; exact hf_395
  have hf_426 : f_405 q_81 = some (.inr (3, [.int 0, .int 10, .int 1, .int 0])) := by rw [e_406, va_up_ne _ _ (hn_413)]; exact hf_396
  have hf_427 : f_405 q_115 = some (.inr (3, [.int 1, .int 10, .int 1, .int 0])) := by rw [e_406, va_up_ne _ _ (hn_414)]; exact hf_397
  have hf_428 : f_405 q_153 = some (.inr (3, [.int 2, .int 10, .int 1, .int 0])) := by rw [e_406, va_up_ne _ _ (hn_415)]; exact hf_398
  have hf_429 : f_405 q_195 = some (.inr (3, [.int 3, .int 10, .int 1, .int 0])) := by rw [e_406, va_up_ne _ _ (hn_416)]; exact hf_399
  have hf_430 : f_405 q_242 = some (.inr (4, [.int 10, .int 1])) := by rw [e_406, va_up_ne _ _ (hn_417)]; exact hf_400
  have hf_431 : f_405 q_292 = some (.inr (4, [.int 10, .int 1])) := by rw [e_406, va_up_ne _ _ (hn_418)]; exact hf_401
  have hf_432 : f_405 q_346 = some (.inr (4, [.int 10, .int 1])) := by rw [e_406, va_up_ne _ _ (hn_419)]; exact hf_402
  refine lv_dup hx hb dX4_init_93 rfl ?_
  refine g_callv hI (va_runIN (As := []) (rest := [.ref q_404, .int 3, .ref q_12]) ⟨hx, hb, hml, hown, hts⟩ (c_X3_init l D cy de f_405 q_404 0 0 hf_420 H.size) ⟨va_cnB 0 hts gX4_init_X3_init_n34 rfl rfl rfl (nm_T34 hI.2.2.2.1) hw20 (by decide +kernel) ⟨Nat.le_of_ble_eq_true rfl, Nat.le_of_ble_eq_true rfl⟩, rfl, hw21⟩ (g_preS hI) rfl rfl hl.1 rfl (lv_room (Nat.le_of_ble_eq_true rfl)) dX4_init_94 ⟨Nat.le_of_ble_eq_true rfl, Nat.le_of_ble_eq_true rfl⟩) (fun f_434 H locs hw_435 hI => ?_)
  have e_436 := hw_435
  have e_436 : f_434 = va_up f_405 q_404 (some (.inr (4, [.int 10, .int 1]))) := e_436
  have hf_437 : f_434 q_404 = some (.inr (4, [.int 10, .int 1])) := by rw [e_436]; exact va_up_self _ _ _
  have hf_438 : f_434 a = some (.inr (5, [.ref q_1, .ref q_12, .ref q_26, .ref q_51, .int 0, .int 0])) := by rw [e_436, va_up_ne _ _ (hn_408)]; exact hf_421
  have hf_439 : f_434 q_1 = some (.inl (cy 3, 4, .inr (.inr (.inr (.inr (va_up (va_up (va_up (va_up (fun _ => none) 0 (some q_81)) 1 (some q_115)) 2 (some q_153)) 3 (some q_195))))))) := by rw [e_436, va_up_ne _ _ (hn_409)]; exact hf_422
  have hf_440 : f_434 q_12 = some (.inl (cy 4, 6, .inr (.inr (.inr (.inr (va_up (va_up (va_up (fun _ => none) 0 (some q_242)) 1 (some q_292)) 2 (some q_346))))))) := by rw [e_436, va_up_ne _ _ (hn_410)]; exact hf_423
  have hf_441 : f_434 q_26 = some (.inr (0, [.int 0, .ref de, .int 0])) := by rw [e_436, va_up_ne _ _ (hn_411)]; exact hf_424
  have hf_442 : f_434 q_51 = some (.inr (0, [.int 0, .ref de, .int 0])) := by rw [e_436, va_up_ne _ _ (hn_412)]; exact hf_425
  have hf_443 : f_434 q_81 = some (.inr (3, [.int 0, .int 10, .int 1, .int 0])) := by rw [e_436, va_up_ne _ _ (hn_413)]; exact hf_426
  have hf_444 : f_434 q_115 = some (.inr (3, [.int 1, .int 10, .int 1, .int 0])) := by rw [e_436, va_up_ne _ _ (hn_414)]; exact hf_427
  have hf_445 : f_434 q_153 = some (.inr (3, [.int 2, .int 10, .int 1, .int 0])) := by rw [e_436, va_up_ne _ _ (hn_415)]; exact hf_428
  have hf_446 : f_434 q_195 = some (.inr (3, [.int 3, .int 10, .int 1, .int 0])) := by rw [e_436, va_up_ne _ _ (hn_416)]; exact hf_429
  have hf_447 : f_434 q_242 = some (.inr (4, [.int 10, .int 1])) := by rw [e_436, va_up_ne _ _ (hn_417)]; exact hf_430
  have hf_448 : f_434 q_292 = some (.inr (4, [.int 10, .int 1])) := by rw [e_436, va_up_ne _ _ (hn_418)]; exact hf_431
  have hf_449 : f_434 q_346 = some (.inr (4, [.int 10, .int 1])) := by rw [e_436, va_up_ne _ _ (hn_419)]; exact hf_432
  refine g_aast (C := "TollGateway$Route") hx hb hI hf_440 4 rfl (g_anyS2 hI hf_437 rfl) (by unfold vp_in; decide) dX4_init_97 (fun f_450 H locs e_451 hI => ?_)
  rw [show Int32.toNatClampNeg (3 : Int32) = 3 from by decide] at e_451
  have e_451 : f_450 = va_up f_434 q_12 (some (.inl (cy 4, 6, .inr (.inr (.inr (.inr (va_up (va_up (va_up (va_up (fun _ => none) 0 (some q_242)) 1 (some q_292)) 2 (some q_346)) 3 (some q_404)))))))) := e_451
  have hf_452 : f_450 q_12 = some (.inl (cy 4, 6, .inr (.inr (.inr (.inr (va_up (va_up (va_up (va_up (fun _ => none) 0 (some q_242)) 1 (some q_292)) 2 (some q_346)) 3 (some q_404))))))) := by rw [e_451]; exact va_up_self _ _ _
  have hf_453 : f_450 a = some (.inr (5, [.ref q_1, .ref q_12, .ref q_26, .ref q_51, .int 0, .int 0])) := by rw [e_451, va_up_ne _ _ (hn_16)]; exact hf_438
  have hf_454 : f_450 q_1 = some (.inl (cy 3, 4, .inr (.inr (.inr (.inr (va_up (va_up (va_up (va_up (fun _ => none) 0 (some q_81)) 1 (some q_115)) 2 (some q_153)) 3 (some q_195))))))) := by rw [e_451, va_up_ne _ _ (hn_17)]; exact hf_439
  have hf_455 : f_450 q_26 = some (.inr (0, [.int 0, .ref de, .int 0])) := by rw [e_451, va_up_ne _ _ ((Ne.symm hn_32))]; exact hf_441
  have hf_456 : f_450 q_51 = some (.inr (0, [.int 0, .ref de, .int 0])) := by rw [e_451, va_up_ne _ _ ((Ne.symm hn_57))]; exact hf_442
  have hf_457 : f_450 q_81 = some (.inr (3, [.int 0, .int 10, .int 1, .int 0])) := by rw [e_451, va_up_ne _ _ ((Ne.symm hn_87))]; exact hf_443
  have hf_458 : f_450 q_115 = some (.inr (3, [.int 1, .int 10, .int 1, .int 0])) := by rw [e_451, va_up_ne _ _ ((Ne.symm hn_121))]; exact hf_444
  have hf_459 : f_450 q_153 = some (.inr (3, [.int 2, .int 10, .int 1, .int 0])) := by rw [e_451, va_up_ne _ _ ((Ne.symm hn_159))]; exact hf_445
  have hf_460 : f_450 q_195 = some (.inr (3, [.int 3, .int 10, .int 1, .int 0])) := by rw [e_451, va_up_ne _ _ ((Ne.symm hn_201))]; exact hf_446
  have hf_461 : f_450 q_242 = some (.inr (4, [.int 10, .int 1])) := by rw [e_451, va_up_ne _ _ ((Ne.symm hn_248))]; exact hf_447
  have hf_462 : f_450 q_292 = some (.inr (4, [.int 10, .int 1])) := by rw [e_451, va_up_ne _ _ ((Ne.symm hn_298))]; exact hf_448
  have hf_463 : f_450 q_346 = some (.inr (4, [.int 10, .int 1])) := by rw [e_451, va_up_ne _ _ ((Ne.symm hn_352))]; exact hf_449
  have hf_464 : f_450 q_404 = some (.inr (4, [.int 10, .int 1])) := by rw [e_451, va_up_ne _ _ ((Ne.symm hn_410))]; exact hf_437
  refine lv_iinc (v := 4) (lv' := [(1, .int 4), (0, .ref a)]) hx hb dX4_init_98 hl (k := 0) rfl (by decide) (by decide) rfl (fun ls hl => ?_)
  refine lv_goto (tgt := 76) hx hb dX4_init_101 (by decide) ?_
  refine lv_iload_n hx hb dX4_init_76 rfl (lv_at hl 0 rfl) ?_
  refine lv_aload_n hx hb dX4_init_77 rfl (lv_at hl 1 rfl) ?_
  refine g_get (ci := 5) (C := RX4) (T := TX4) (N := 6) hx hb hts hinX4 hown hI hf_453 rfl 1 (by decide) hw6 (fun _ h9 => h9) rfl dX4_init_78 ?_
  refine g_alen (v := 6) hx hb hI hf_452 4 rfl rfl dX4_init_81 ?_
  refine lv_icmp_ge (tgt := 104) hx hb dX4_init_82 (by decide) (fun z => absurd z (by decide)) (fun _ => ?_)
  refine lv_aload_n hx hb dX4_init_85 rfl (lv_at hl 1 rfl) ?_
  refine g_get (ci := 5) (C := RX4) (T := TX4) (N := 6) hx hb hts hinX4 hown hI hf_453 rfl 1 (by decide) hw6 (fun _ h9 => h9) rfl dX4_init_86 ?_
  refine lv_iload_n hx hb dX4_init_89 rfl (lv_at hl 0 rfl) ?_
  refine g_new (ci := 4) (fs := [.int 0, .int 0]) hx hb hts hinX3 tyX3 tyX3_ok hown hw18 hw19 hw20 hI rfl (by decide +kernel) (Nat.le_of_ble_eq_true rfl) (Nat.le_of_ble_eq_true rfl) dX4_init_90 (fun q_466 f_467 H hq_469 e_468 hI => ?_)
  have hn_470 : a ≠ q_466 := g_nn hf_453 hq_469
  have hn_471 : q_1 ≠ q_466 := g_nn hf_454 hq_469
  have hn_472 : q_12 ≠ q_466 := g_nn hf_452 hq_469
  have hn_473 : q_26 ≠ q_466 := g_nn hf_455 hq_469
  have hn_474 : q_51 ≠ q_466 := g_nn hf_456 hq_469
  have hn_475 : q_81 ≠ q_466 := g_nn hf_457 hq_469
  have hn_476 : q_115 ≠ q_466 := g_nn hf_458 hq_469
  have hn_477 : q_153 ≠ q_466 := g_nn hf_459 hq_469
  have hn_478 : q_195 ≠ q_466 := g_nn hf_460 hq_469
  have hn_479 : q_242 ≠ q_466 := g_nn hf_461 hq_469
  have hn_480 : q_292 ≠ q_466 := g_nn hf_462 hq_469
  have hn_481 : q_346 ≠ q_466 := g_nn hf_463 hq_469
  have hn_482 : q_404 ≠ q_466 := g_nn hf_464 hq_469
  have e_468 : f_467 = va_up f_450 q_466 (some (.inr (4, [.int 0, .int 0]))) := e_468
  have hf_483 : f_467 q_466 = some (.inr (4, [.int 0, .int 0])) := by rw [e_468]; exact va_up_self _ _ _
  have hf_484 : f_467 a = some (.inr (5, [.ref q_1, .ref q_12, .ref q_26, .ref q_51, .int 0, .int 0])) := by rw [e_468, va_up_ne _ _ (hn_470)]; exact hf_453
  have hf_485 : f_467 q_1 = some (.inl (cy 3, 4, .inr (.inr (.inr (.inr (va_up (va_up (va_up (va_up (fun _ => none) 0 (some q_81)) 1 (some q_115)) 2 (some q_153)) 3 (some q_195))))))) := by rw [e_468, va_up_ne _ _ (hn_471)]; exact hf_454
  have hf_486 : f_467 q_12 = some (.inl (cy 4, 6, .inr (.inr (.inr (.inr (va_up (va_up (va_up (va_up (fun _ => none) 0 (some q_242)) 1 (some q_292)) 2 (some q_346)) 3 (some q_404))))))) := by rw [e_468, va_up_ne _ _ (hn_472)]; exact hf_452
  have hf_487 : f_467 q_26 = some (.inr (0, [.int 0, .ref de, .int 0])) := by rw [e_468, va_up_ne _ _ (hn_473)]; exact hf_455
  have hf_488 : f_467 q_51 = some (.inr (0, [.int 0, .ref de, .int 0])) := by rw [e_468, va_up_ne _ _ (hn_474)]; exact hf_456
  have hf_489 : f_467 q_81 = some (.inr (3, [.int 0, .int 10, .int 1, .int 0])) := by rw [e_468, va_up_ne _ _ (hn_475)]; exact hf_457
  have hf_490 : f_467 q_115 = some (.inr (3, [.int 1, .int 10, .int 1, .int 0])) := by rw [e_468, va_up_ne _ _ (hn_476)]; exact hf_458
  have hf_491 : f_467 q_153 = some (.inr (3, [.int 2, .int 10, .int 1, .int 0])) := by rw [e_468, va_up_ne _ _ (hn_477)]; exact hf_459
  have hf_492 : f_467 q_195 = some (.inr (3, [.int 3, .int 10, .int 1, .int 0])) := by rw [e_468, va_up_ne _ _ (hn_478)]; exact hf_460
  have hf_493 : f_467 q_242 = some (.inr (4, [.int 10, .int 1])) := by rw [e_468, va_up_ne _ _ (hn_479)]; exact hf_461
  have hf_494 : f_467 q_292 = some (.inr (4, [.int 10, .int 1])) := by rw [e_468, va_up_ne _ _ (hn_480)]; exact hf_462
  have hf_495 : f_467 q_346 = some (.inr (4, [.int 10, .int 1])) := by rw [e_468, va_up_ne _ _ (hn_481)]; exact hf_463
  have hf_496 : f_467 q_404 = some (.inr (4, [.int 10, .int 1])) := by rw [e_468, va_up_ne _ _ (hn_482)]; exact hf_464
  refine lv_dup hx hb dX4_init_93 rfl ?_
  refine g_callv hI (va_runIN (As := []) (rest := [.ref q_466, .int 4, .ref q_12]) ⟨hx, hb, hml, hown, hts⟩ (c_X3_init l D cy de f_467 q_466 0 0 hf_483 H.size) ⟨va_cnB 0 hts gX4_init_X3_init_n34 rfl rfl rfl (nm_T34 hI.2.2.2.1) hw20 (by decide +kernel) ⟨Nat.le_of_ble_eq_true rfl, Nat.le_of_ble_eq_true rfl⟩, rfl, hw21⟩ (g_preS hI) rfl rfl hl.1 rfl (lv_room (Nat.le_of_ble_eq_true rfl)) dX4_init_94 ⟨Nat.le_of_ble_eq_true rfl, Nat.le_of_ble_eq_true rfl⟩) (fun f_498 H locs hw_499 hI => ?_)
  have e_500 := hw_499
  have e_500 : f_498 = va_up f_467 q_466 (some (.inr (4, [.int 10, .int 1]))) := e_500
  have hf_501 : f_498 q_466 = some (.inr (4, [.int 10, .int 1])) := by rw [e_500]; exact va_up_self _ _ _
  have hf_502 : f_498 a = some (.inr (5, [.ref q_1, .ref q_12, .ref q_26, .ref q_51, .int 0, .int 0])) := by rw [e_500, va_up_ne _ _ (hn_470)]; exact hf_484
  have hf_503 : f_498 q_1 = some (.inl (cy 3, 4, .inr (.inr (.inr (.inr (va_up (va_up (va_up (va_up (fun _ => none) 0 (some q_81)) 1 (some q_115)) 2 (some q_153)) 3 (some q_195))))))) := by rw [e_500, va_up_ne _ _ (hn_471)]; exact hf_485
  have hf_504 : f_498 q_12 = some (.inl (cy 4, 6, .inr (.inr (.inr (.inr (va_up (va_up (va_up (va_up (fun _ => none) 0 (some q_242)) 1 (some q_292)) 2 (some q_346)) 3 (some q_404))))))) := by rw [e_500, va_up_ne _ _ (hn_472)]; exact hf_486
  have hf_505 : f_498 q_26 = some (.inr (0, [.int 0, .ref de, .int 0])) := by rw [e_500, va_up_ne _ _ (hn_473)]; exact hf_487
  have hf_506 : f_498 q_51 = some (.inr (0, [.int 0, .ref de, .int 0])) := by rw [e_500, va_up_ne _ _ (hn_474)]; exact hf_488
  have hf_507 : f_498 q_81 = some (.inr (3, [.int 0, .int 10, .int 1, .int 0])) := by rw [e_500, va_up_ne _ _ (hn_475)]; exact hf_489
  have hf_508 : f_498 q_115 = some (.inr (3, [.int 1, .int 10, .int 1, .int 0])) := by rw [e_500, va_up_ne _ _ (hn_476)]; exact hf_490
  have hf_509 : f_498 q_153 = some (.inr (3, [.int 2, .int 10, .int 1, .int 0])) := by rw [e_500, va_up_ne _ _ (hn_477)]; exact hf_491
  have hf_510 : f_498 q_195 = some (.inr (3, [.int 3, .int 10, .int 1, .int 0])) := by rw [e_500, va_up_ne _ _ (hn_478)]; exact hf_492
  have hf_511 : f_498 q_242 = some (.inr (4, [.int 10, .int 1])) := by rw [e_500, va_up_ne _ _ (hn_479)]; exact hf_493
  have hf_512 : f_498 q_292 = some (.inr (4, [.int 10, .int 1])) := by rw [e_500, va_up_ne _ _ (hn_480)]; exact hf_494
  have hf_513 : f_498 q_346 = some (.inr (4, [.int 10, .int 1])) := by rw [e_500, va_up_ne _ _ (hn_481)]; exact hf_495
  have hf_514 : f_498 q_404 = some (.inr (4, [.int 10, .int 1])) := by rw [e_500, va_up_ne _ _ (hn_482)]; exact hf_496
  refine g_aast (C := "TollGateway$Route") hx hb hI hf_504 4 rfl (g_anyS2 hI hf_501 rfl) (by unfold vp_in; decide) dX4_init_97 (fun f_515 H locs e_516 hI => ?_)
  rw [show Int32.toNatClampNeg (4 : Int32) = 4 from by decide] at e_516
  have e_516 : f_515 = va_up f_498 q_12 (some (.inl (cy 4, 6, .inr (.inr (.inr (.inr (va_up (va_up (va_up (va_up (va_up (fun _ => none) 0 (some q_242)) 1 (some q_292)) 2 (some q_346)) 3 (some q_404)) 4 (some q_466)))))))) := e_516
  have hf_517 : f_515 q_12 = some (.inl (cy 4, 6, .inr (.inr (.inr (.inr (va_up (va_up (va_up (va_up (va_up (fun _ => none) 0 (some q_242)) 1 (some q_292)) 2 (some q_346)) 3 (some q_404)) 4 (some q_466))))))) := by rw [e_516]; exact va_up_self _ _ _
  have hf_518 : f_515 a = some (.inr (5, [.ref q_1, .ref q_12, .ref q_26, .ref q_51, .int 0, .int 0])) := by rw [e_516, va_up_ne _ _ (hn_16)]; exact hf_502
  have hf_519 : f_515 q_1 = some (.inl (cy 3, 4, .inr (.inr (.inr (.inr (va_up (va_up (va_up (va_up (fun _ => none) 0 (some q_81)) 1 (some q_115)) 2 (some q_153)) 3 (some q_195))))))) := by rw [e_516, va_up_ne _ _ (hn_17)]; exact hf_503
  have hf_520 : f_515 q_26 = some (.inr (0, [.int 0, .ref de, .int 0])) := by rw [e_516, va_up_ne _ _ ((Ne.symm hn_32))]; exact hf_505
  have hf_521 : f_515 q_51 = some (.inr (0, [.int 0, .ref de, .int 0])) := by rw [e_516, va_up_ne _ _ ((Ne.symm hn_57))]; exact hf_506
  have hf_522 : f_515 q_81 = some (.inr (3, [.int 0, .int 10, .int 1, .int 0])) := by rw [e_516, va_up_ne _ _ ((Ne.symm hn_87))]; exact hf_507
  have hf_523 : f_515 q_115 = some (.inr (3, [.int 1, .int 10, .int 1, .int 0])) := by rw [e_516, va_up_ne _ _ ((Ne.symm hn_121))]; exact hf_508
  have hf_524 : f_515 q_153 = some (.inr (3, [.int 2, .int 10, .int 1, .int 0])) := by rw [e_516, va_up_ne _ _ ((Ne.symm hn_159))]; exact hf_509
  have hf_525 : f_515 q_195 = some (.inr (3, [.int 3, .int 10, .int 1, .int 0])) := by rw [e_516, va_up_ne _ _ ((Ne.symm hn_201))]; exact hf_510
  have hf_526 : f_515 q_242 = some (.inr (4, [.int 10, .int 1])) := by rw [e_516, va_up_ne _ _ ((Ne.symm hn_248))]; exact hf_511
  have hf_527 : f_515 q_292 = some (.inr (4, [.int 10, .int 1])) := by rw [e_516, va_up_ne _ _ ((Ne.symm hn_298))]; exact hf_512
  have hf_528 : f_515 q_346 = some (.inr (4, [.int 10, .int 1])) := by rw [e_516, va_up_ne _ _ ((Ne.symm hn_352))]; exact hf_513
  have hf_529 : f_515 q_404 = some (.inr (4, [.int 10, .int 1])) := by rw [e_516, va_up_ne _ _ ((Ne.symm hn_410))]; exact hf_514
  have hf_530 : f_515 q_466 = some (.inr (4, [.int 10, .int 1])) := by rw [e_516, va_up_ne _ _ ((Ne.symm hn_472))]; exact hf_501
  refine lv_iinc (v := 5) (lv' := [(1, .int 5), (0, .ref a)]) hx hb dX4_init_98 hl (k := 0) rfl (by decide) (by decide) rfl (fun ls hl => ?_)
  refine lv_goto (tgt := 76) hx hb dX4_init_101 (by decide) ?_
  refine lv_iload_n hx hb dX4_init_76 rfl (lv_at hl 0 rfl) ?_
  refine lv_aload_n hx hb dX4_init_77 rfl (lv_at hl 1 rfl) ?_
  refine g_get (ci := 5) (C := RX4) (T := TX4) (N := 6) hx hb hts hinX4 hown hI hf_518 rfl 1 (by decide) hw6 (fun _ h9 => h9) rfl dX4_init_78 ?_
  refine g_alen (v := 6) hx hb hI hf_517 4 rfl rfl dX4_init_81 ?_
  refine lv_icmp_ge (tgt := 104) hx hb dX4_init_82 (by decide) (fun z => absurd z (by decide)) (fun _ => ?_)
  refine lv_aload_n hx hb dX4_init_85 rfl (lv_at hl 1 rfl) ?_
  refine g_get (ci := 5) (C := RX4) (T := TX4) (N := 6) hx hb hts hinX4 hown hI hf_518 rfl 1 (by decide) hw6 (fun _ h9 => h9) rfl dX4_init_86 ?_
  refine lv_iload_n hx hb dX4_init_89 rfl (lv_at hl 0 rfl) ?_
  refine g_new (ci := 4) (fs := [.int 0, .int 0]) hx hb hts hinX3 tyX3 tyX3_ok hown hw18 hw19 hw20 hI rfl (by decide +kernel) (Nat.le_of_ble_eq_true rfl) (Nat.le_of_ble_eq_true rfl) dX4_init_90 (fun q_532 f_533 H hq_535 e_534 hI => ?_)
  have hn_536 : a ≠ q_532 := g_nn hf_518 hq_535
  have hn_537 : q_1 ≠ q_532 := g_nn hf_519 hq_535
  have hn_538 : q_12 ≠ q_532 := g_nn hf_517 hq_535
  have hn_539 : q_26 ≠ q_532 := g_nn hf_520 hq_535
  have hn_540 : q_51 ≠ q_532 := g_nn hf_521 hq_535
  have hn_541 : q_81 ≠ q_532 := g_nn hf_522 hq_535
  have hn_542 : q_115 ≠ q_532 := g_nn hf_523 hq_535
  have hn_543 : q_153 ≠ q_532 := g_nn hf_524 hq_535
  have hn_544 : q_195 ≠ q_532 := g_nn hf_525 hq_535
  have hn_545 : q_242 ≠ q_532 := g_nn hf_526 hq_535
  have hn_546 : q_292 ≠ q_532 := g_nn hf_527 hq_535
  have hn_547 : q_346 ≠ q_532 := g_nn hf_528 hq_535
  have hn_548 : q_404 ≠ q_532 := g_nn hf_529 hq_535
  have hn_549 : q_466 ≠ q_532 := g_nn hf_530 hq_535
  have e_534 : f_533 = va_up f_515 q_532 (some (.inr (4, [.int 0, .int 0]))) := e_534
  have hf_550 : f_533 q_532 = some (.inr (4, [.int 0, .int 0])) := by rw [e_534]; exact va_up_self _ _ _
  have hf_551 : f_533 a = some (.inr (5, [.ref q_1, .ref q_12, .ref q_26, .ref q_51, .int 0, .int 0])) := by rw [e_534, va_up_ne _ _ (hn_536)]; exact hf_518
  have hf_552 : f_533 q_1 = some (.inl (cy 3, 4, .inr (.inr (.inr (.inr (va_up (va_up (va_up (va_up (fun _ => none) 0 (some q_81)) 1 (some q_115)) 2 (some q_153)) 3 (some q_195))))))) := by rw [e_534, va_up_ne _ _ (hn_537)]; exact hf_519
  have hf_553 : f_533 q_12 = some (.inl (cy 4, 6, .inr (.inr (.inr (.inr (va_up (va_up (va_up (va_up (va_up (fun _ => none) 0 (some q_242)) 1 (some q_292)) 2 (some q_346)) 3 (some q_404)) 4 (some q_466))))))) := by rw [e_534, va_up_ne _ _ (hn_538)]; exact hf_517
  have hf_554 : f_533 q_26 = some (.inr (0, [.int 0, .ref de, .int 0])) := by rw [e_534, va_up_ne _ _ (hn_539)]; exact hf_520
  have hf_555 : f_533 q_51 = some (.inr (0, [.int 0, .ref de, .int 0])) := by rw [e_534, va_up_ne _ _ (hn_540)]; exact hf_521
  have hf_556 : f_533 q_81 = some (.inr (3, [.int 0, .int 10, .int 1, .int 0])) := by rw [e_534, va_up_ne _ _ (hn_541)]; exact hf_522
  have hf_557 : f_533 q_115 = some (.inr (3, [.int 1, .int 10, .int 1, .int 0])) := by rw [e_534, va_up_ne _ _ (hn_542)]; exact hf_523
  have hf_558 : f_533 q_153 = some (.inr (3, [.int 2, .int 10, .int 1, .int 0])) := by rw [e_534, va_up_ne _ _ (hn_543)]; exact hf_524
  have hf_559 : f_533 q_195 = some (.inr (3, [.int 3, .int 10, .int 1, .int 0])) := by rw [e_534, va_up_ne _ _ (hn_544)]; exact hf_525
  have hf_560 : f_533 q_242 = some (.inr (4, [.int 10, .int 1])) := by rw [e_534, va_up_ne _ _ (hn_545)]; exact hf_526
  have hf_561 : f_533 q_292 = some (.inr (4, [.int 10, .int 1])) := by rw [e_534, va_up_ne _ _ (hn_546)]; exact hf_527
  have hf_562 : f_533 q_346 = some (.inr (4, [.int 10, .int 1])) := by rw [e_534, va_up_ne _ _ (hn_547)]; exact hf_528
  have hf_563 : f_533 q_404 = some (.inr (4, [.int 10, .int 1])) := by rw [e_534, va_up_ne _ _ (hn_548)]; exact hf_529
  have hf_564 : f_533 q_466 = some (.inr (4, [.int 10, .int 1])) := by rw [e_534, va_up_ne _ _ (hn_549)]; exact hf_530
  refine lv_dup hx hb dX4_init_93 rfl ?_
  refine g_callv hI (va_runIN (As := []) (rest := [.ref q_532, .int 5, .ref q_12]) ⟨hx, hb, hml, hown, hts⟩ (c_X3_init l D cy de f_533 q_532 0 0 hf_550 H.size) ⟨va_cnB 0 hts gX4_init_X3_init_n34 rfl rfl rfl (nm_T34 hI.2.2.2.1) hw20 (by decide +kernel) ⟨Nat.le_of_ble_eq_true rfl, Nat.le_of_ble_eq_true rfl⟩, rfl, hw21⟩ (g_preS hI) rfl rfl hl.1 rfl (lv_room (Nat.le_of_ble_eq_true rfl)) dX4_init_94 ⟨Nat.le_of_ble_eq_true rfl, Nat.le_of_ble_eq_true rfl⟩) (fun f_566 H locs hw_567 hI => ?_)
  have e_568 := hw_567
  have e_568 : f_566 = va_up f_533 q_532 (some (.inr (4, [.int 10, .int 1]))) := e_568
  have hf_569 : f_566 q_532 = some (.inr (4, [.int 10, .int 1])) := by rw [e_568]; exact va_up_self _ _ _
  have hf_570 : f_566 a = some (.inr (5, [.ref q_1, .ref q_12, .ref q_26, .ref q_51, .int 0, .int 0])) := by rw [e_568, va_up_ne _ _ (hn_536)]; exact hf_551
  have hf_571 : f_566 q_1 = some (.inl (cy 3, 4, .inr (.inr (.inr (.inr (va_up (va_up (va_up (va_up (fun _ => none) 0 (some q_81)) 1 (some q_115)) 2 (some q_153)) 3 (some q_195))))))) := by rw [e_568, va_up_ne _ _ (hn_537)]; exact hf_552
  have hf_572 : f_566 q_12 = some (.inl (cy 4, 6, .inr (.inr (.inr (.inr (va_up (va_up (va_up (va_up (va_up (fun _ => none) 0 (some q_242)) 1 (some q_292)) 2 (some q_346)) 3 (some q_404)) 4 (some q_466))))))) := by rw [e_568, va_up_ne _ _ (hn_538)]; exact hf_553
  have hf_573 : f_566 q_26 = some (.inr (0, [.int 0, .ref de, .int 0])) := by rw [e_568, va_up_ne _ _ (hn_539)]; exact hf_554
  have hf_574 : f_566 q_51 = some (.inr (0, [.int 0, .ref de, .int 0])) := by rw [e_568, va_up_ne _ _ (hn_540)]; exact hf_555
  have hf_575 : f_566 q_81 = some (.inr (3, [.int 0, .int 10, .int 1, .int 0])) := by rw [e_568, va_up_ne _ _ (hn_541)]; exact hf_556
  have hf_576 : f_566 q_115 = some (.inr (3, [.int 1, .int 10, .int 1, .int 0])) := by rw [e_568, va_up_ne _ _ (hn_542)]; exact hf_557
  have hf_577 : f_566 q_153 = some (.inr (3, [.int 2, .int 10, .int 1, .int 0])) := by rw [e_568, va_up_ne _ _ (hn_543)]; exact hf_558
  have hf_578 : f_566 q_195 = some (.inr (3, [.int 3, .int 10, .int 1, .int 0])) := by rw [e_568, va_up_ne _ _ (hn_544)]; exact hf_559
  have hf_579 : f_566 q_242 = some (.inr (4, [.int 10, .int 1])) := by rw [e_568, va_up_ne _ _ (hn_545)]; exact hf_560
  have hf_580 : f_566 q_292 = some (.inr (4, [.int 10, .int 1])) := by rw [e_568, va_up_ne _ _ (hn_546)]; exact hf_561
  have hf_581 : f_566 q_346 = some (.inr (4, [.int 10, .int 1])) := by rw [e_568, va_up_ne _ _ (hn_547)]; exact hf_562
  have hf_582 : f_566 q_404 = some (.inr (4, [.int 10, .int 1])) := by rw [e_568, va_up_ne _ _ (hn_548)]; exact hf_563
  have hf_583 : f_566 q_466 = some (.inr (4, [.int 10, .int 1])) := by rw [e_568, va_up_ne _ _ (hn_549)]; exact hf_564
  refine g_aast (C := "TollGateway$Route") hx hb hI hf_572 4 rfl (g_anyS2 hI hf_569 rfl) (by unfold vp_in; decide) dX4_init_97 (fun f_584 H locs e_585 hI => ?_)
  rw [show Int32.toNatClampNeg (5 : Int32) = 5 from by decide] at e_585
  have e_585 : f_584 = va_up f_566 q_12 (some (.inl (cy 4, 6, .inr (.inr (.inr (.inr (va_up (va_up (va_up (va_up (va_up (va_up (fun _ => none) 0 (some q_242)) 1 (some q_292)) 2 (some q_346)) 3 (some q_404)) 4 (some q_466)) 5 (some q_532)))))))) := e_585
  have hf_586 : f_584 q_12 = some (.inl (cy 4, 6, .inr (.inr (.inr (.inr (va_up (va_up (va_up (va_up (va_up (va_up (fun _ => none) 0 (some q_242)) 1 (some q_292)) 2 (some q_346)) 3 (some q_404)) 4 (some q_466)) 5 (some q_532))))))) := by rw [e_585]; exact va_up_self _ _ _
  have hf_587 : f_584 a = some (.inr (5, [.ref q_1, .ref q_12, .ref q_26, .ref q_51, .int 0, .int 0])) := by rw [e_585, va_up_ne _ _ (hn_16)]; exact hf_570
  have hf_588 : f_584 q_1 = some (.inl (cy 3, 4, .inr (.inr (.inr (.inr (va_up (va_up (va_up (va_up (fun _ => none) 0 (some q_81)) 1 (some q_115)) 2 (some q_153)) 3 (some q_195))))))) := by rw [e_585, va_up_ne _ _ (hn_17)]; exact hf_571
  have hf_589 : f_584 q_26 = some (.inr (0, [.int 0, .ref de, .int 0])) := by rw [e_585, va_up_ne _ _ ((Ne.symm hn_32))]; exact hf_573
  have hf_590 : f_584 q_51 = some (.inr (0, [.int 0, .ref de, .int 0])) := by rw [e_585, va_up_ne _ _ ((Ne.symm hn_57))]; exact hf_574
  have hf_591 : f_584 q_81 = some (.inr (3, [.int 0, .int 10, .int 1, .int 0])) := by rw [e_585, va_up_ne _ _ ((Ne.symm hn_87))]; exact hf_575
  have hf_592 : f_584 q_115 = some (.inr (3, [.int 1, .int 10, .int 1, .int 0])) := by rw [e_585, va_up_ne _ _ ((Ne.symm hn_121))]; exact hf_576
  have hf_593 : f_584 q_153 = some (.inr (3, [.int 2, .int 10, .int 1, .int 0])) := by rw [e_585, va_up_ne _ _ ((Ne.symm hn_159))]; exact hf_577
  have hf_594 : f_584 q_195 = some (.inr (3, [.int 3, .int 10, .int 1, .int 0])) := by rw [e_585, va_up_ne _ _ ((Ne.symm hn_201))]; exact hf_578
  have hf_595 : f_584 q_242 = some (.inr (4, [.int 10, .int 1])) := by rw [e_585, va_up_ne _ _ ((Ne.symm hn_248))]; exact hf_579
  have hf_596 : f_584 q_292 = some (.inr (4, [.int 10, .int 1])) := by rw [e_585, va_up_ne _ _ ((Ne.symm hn_298))]; exact hf_580
  have hf_597 : f_584 q_346 = some (.inr (4, [.int 10, .int 1])) := by rw [e_585, va_up_ne _ _ ((Ne.symm hn_352))]; exact hf_581
  have hf_598 : f_584 q_404 = some (.inr (4, [.int 10, .int 1])) := by rw [e_585, va_up_ne _ _ ((Ne.symm hn_410))]; exact hf_582
  have hf_599 : f_584 q_466 = some (.inr (4, [.int 10, .int 1])) := by rw [e_585, va_up_ne _ _ ((Ne.symm hn_472))]; exact hf_583
  have hf_600 : f_584 q_532 = some (.inr (4, [.int 10, .int 1])) := by rw [e_585, va_up_ne _ _ ((Ne.symm hn_538))]; exact hf_569
  refine lv_iinc (v := 6) (lv' := [(1, .int 6), (0, .ref a)]) hx hb dX4_init_98 hl (k := 0) rfl (by decide) (by decide) rfl (fun ls hl => ?_)
  refine lv_goto (tgt := 76) hx hb dX4_init_101 (by decide) ?_
  refine lv_iload_n hx hb dX4_init_76 rfl (lv_at hl 0 rfl) ?_
  refine lv_aload_n hx hb dX4_init_77 rfl (lv_at hl 1 rfl) ?_
  refine g_get (ci := 5) (C := RX4) (T := TX4) (N := 6) hx hb hts hinX4 hown hI hf_587 rfl 1 (by decide) hw6 (fun _ h9 => h9) rfl dX4_init_78 ?_
  refine g_alen (v := 6) hx hb hI hf_586 4 rfl rfl dX4_init_81 ?_
  refine lv_icmp_ge (tgt := 104) hx hb dX4_init_82 (by decide) (fun _ => ?_) (fun z => absurd z (by decide))
  have hR : gR cy de (nInit a q_1 q_12 q_26 q_51 [q_81, q_115, q_153, q_195] [q_242, q_292, q_346, q_404, q_466, q_532]) iInit f_584 := by
    refine ⟨⟨hf_587, fun j hj => ?_, fun j hj => ?_, fun j hj => absurd hj (Nat.not_lt_zero j), fun j hj => absurd hj (Nat.not_lt_zero j)⟩, ⟨⟨hn_58, hn_58, hn_58, hn_58⟩, ⟨(Ne.symm hn_31), (Ne.symm hn_32), (Ne.symm hn_56), (Ne.symm hn_57)⟩, Nat.zero_le _, Nat.zero_le _, gIn_list (List.nodup_cons.mpr ⟨(by simp only [List.mem_cons, List.not_mem_nil, or_false, not_or]; exact ⟨hn_124, hn_162, hn_204⟩), (List.nodup_cons.mpr ⟨(by simp only [List.mem_cons, List.not_mem_nil, or_false, not_or]; exact ⟨hn_163, hn_205⟩), (List.nodup_cons.mpr ⟨(by simp only [List.mem_cons, List.not_mem_nil, or_false, not_or]; exact hn_206), (List.nodup_cons.mpr ⟨(List.not_mem_nil), List.nodup_nil⟩)⟩)⟩)⟩) rfl, gIn_list (List.nodup_cons.mpr ⟨(by simp only [List.mem_cons, List.not_mem_nil, or_false, not_or]; exact ⟨hn_305, hn_359, hn_417, hn_479, hn_545⟩), (List.nodup_cons.mpr ⟨(by simp only [List.mem_cons, List.not_mem_nil, or_false, not_or]; exact ⟨hn_360, hn_418, hn_480, hn_546⟩), (List.nodup_cons.mpr ⟨(by simp only [List.mem_cons, List.not_mem_nil, or_false, not_or]; exact ⟨hn_419, hn_481, hn_547⟩), (List.nodup_cons.mpr ⟨(by simp only [List.mem_cons, List.not_mem_nil, or_false, not_or]; exact ⟨hn_482, hn_548⟩), (List.nodup_cons.mpr ⟨(by simp only [List.mem_cons, List.not_mem_nil, or_false, not_or]; exact hn_549), (List.nodup_cons.mpr ⟨(List.not_mem_nil), List.nodup_nil⟩)⟩)⟩)⟩)⟩)⟩) rfl, fun i j h => absurd h (Nat.not_lt_zero i), fun i j h => absurd h (Nat.not_lt_zero i)⟩, ⟨_, hf_588, fun j hj => ?_⟩, ⟨_, hf_586, fun j hj => ?_⟩, ⟨0, Or.inl ⟨rfl, rfl, hf_589⟩⟩, ⟨0, Or.inl ⟨rfl, rfl, hf_590⟩⟩⟩
    · match j, hj with
      | 0, _ => exact hf_591
      | 1, _ => exact hf_592
      | 2, _ => exact hf_593
      | 3, _ => exact hf_594
      | k + 4, h => exact absurd h (by omega)
    · match j, hj with
      | 0, _ => exact hf_595
      | 1, _ => exact hf_596
      | 2, _ => exact hf_597
      | 3, _ => exact hf_598
      | 4, _ => exact hf_599
      | 5, _ => exact hf_600
      | k + 6, h => exact absurd h (by omega)
    · match j, hj with
      | 0, _ => rfl
      | 1, _ => rfl
      | 2, _ => rfl
      | 3, _ => rfl
      | k + 4, h => exact absurd h (by omega)
    · match j, hj with
      | 0, _ => rfl
      | 1, _ => rfl
      | 2, _ => rfl
      | 3, _ => rfl
      | 4, _ => rfl
      | 5, _ => rfl
      | k + 6, h => exact absurd h (by omega)
  exact g_vret hx hb hr hlocks hI ⟨_, _, _, _, _, _, hR⟩ (Nat.le_of_ble_eq_true rfl) (Nat.le_of_ble_eq_true rfl) dX4_init_104
