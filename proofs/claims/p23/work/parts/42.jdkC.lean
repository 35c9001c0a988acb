theorem g_u3 {α : Type} (f : Nat → α) (a q : Nat) (x y z : α) : va_up (va_up (va_up f a x) q y) a z = va_up (va_up f q y) a z := by
  funext j
  by_cases h : j = a
  · subst h; rw [va_up_self, va_up_self]
  · rw [va_up_ne _ _ h, va_up_ne _ _ h]
    by_cases h2 : j = q
    · subst h2; rw [va_up_self, va_up_self]
    · rw [va_up_ne _ _ h2, va_up_ne _ _ h2, va_up_ne _ _ h]
theorem g_neA {f : gFm} {a b i : Nat} {x : List Value} {y : ClassId × vp_A} (ha : f a = some (.inr (i, x))) (hb : f b = some (.inl y)) : b ≠ a := by
  intro e
  subst e
  rw [ha] at hb
  cases hb
theorem g_frU {f f1 : gFm} {a q : Nat} {x : va_E} (e : f1 = va_up f a (some x)) (h : f1 q = none) : f q = none := by
  subst e
  by_cases c : q = a
  · subst c; rw [va_up_self] at h; cases h
  · rw [va_up_ne _ _ c] at h; exact h
theorem gMi_mono {l : Launch} {y : MethodName} {ws : List Cond} {rm : Room} {D : va_G} {cy : Nat → ClassId} {de : Nat} {av : List Value} {f : gFm} {post post' : Int32 → gFm → Prop} {mc ms : Nat} (h : gMi l y ws rm D cy de av f post mc ms) (hp : ∀ r f9, post r f9 → post' r f9) : gMi l y ws rm D cy de av f post' mc ms :=
  fun sz => MetFree.mono (h sz) (fun _ _ h => h) (fun _ _ _ _ _ h => h) (fun _ _ _ _ _ q => ⟨by
    obtain ⟨⟨⟨r, u, h1, h2, h3⟩, h4⟩, -⟩ := q
    exact ⟨⟨r, u, h1, hp r u h2, h3⟩, h4⟩, q.2⟩)

set_option maxHeartbeats 4000000 in
set_option maxRecDepth 100000 in
theorem c_growF (l : Launch) (D : va_G) (cy : Nat → ClassId) (de : Nat) (f : gFm) (a : Nat) (mc0 : Int32) (mn : Int32) (ha : f a = some (.inr (0, [.int mc0, .ref de, .int 0]))) (hm : mn = 1) : gMq l yJx4a65c_grow_92f84 wsJx4a65c_grow_92f84 { frames := 3, cells := 1, slots := 200, locals := 124 } D cy de [.ref a, .int mn] f (fun r9 f9 => ∃ q1, r9 = some q1 ∧ f q1 = none ∧ f9 = va_up (va_up f q1 (some (.inl (cy 5, 10, .inr (.inr (.inr (.inr (fun _ => none)))))))) a (some (.inr (0, [.int mc0, .ref q1, .int 0])))) 1 200 := by
  refine fun sz => Met.ofW (cc := cJx4a65c_grow_92f84) (maxL := 4) (ret := (some (.array (.object "java/lang/Object")))) (by decide) rfl ?_
  intro p e s m args below meth c s₁ B hml hv
  obtain ⟨rfl, hv⟩ := hv
  obtain ⟨rfl, hI⟩ := gP_I hv
  have hx := B.exec
  have hb := B.bytes
  have hr := B.returns
  have hts := atoms_spec (ws := wsJx4a65c_grow_92f84) B.pre
  have hown : s.vm.findClass RJx4a65c = some m.cls := findClass_of_methodNamed B.named
  have hlocks := B.notSynchronized
  have hinJx4a65c : ∀ w ∈ wsJx4a65c0, w ∈ wsJx4a65c_grow_92f84 := by decide +kernel
  have hw0 := hts (.fieldLink RJx4a65c 9 "java/util/ArrayList" "elementData" "[Ljava/lang/Object;") (by decide +kernel)
  have hw1 := hts (.fieldLink RJx4a65c 39 "java/util/ArrayList" "DEFAULTCAPACITY_EMPTY_ELEMENTDATA" "[Ljava/lang/Object;") (by decide +kernel)
  have hw2 := hts (.methodLink RJx4a65c 79 Lib.Math.max.name) (by decide +kernel)
  have hw3 := hts (.static Lib.Math.max.name) (by decide +kernel)
  have hw4 := hts (.initialized "java/lang/Math") (by decide +kernel)
  have hw5 := hts (.code Lib.Math.max.name Lib.Math.max.code 2 (some .int)) (by decide +kernel)
  have hw6 := hts (.classLink RJx4a65c 7 "java/lang/Object") (by decide +kernel)
  have hl := lv_entry ([.ref a, .int mn]) (n := 4) (Nat.le_of_ble_eq_true rfl)
  rw [lg_entry_eq]
  generalize (lg_sl ([.ref a, .int mn]) ++ List.replicate (4 - (lg_sl ([.ref a, .int mn])).length) Slot.unset).toArray = ls at hl ⊢
  have hl : lv_has ls 4 [(0, .ref a), (1, .int mn)] := hl
  refine lv_aload_n hx hb dJx4a65c_grow_92f84_0 rfl (lv_at hl 0 rfl) ?_
  refine g_get (ci := 0) (C := RJx4a65c) (T := TJx4a65c) (N := 3) hx hb hts hinJx4a65c hown hI ha rfl 1 (by decide) hw0 (fun _ h9 => h9) rfl dJx4a65c_grow_92f84_1 ?_
  refine va_tlen (v := 0) hx hb (gE_T hI.2.2.2.1) hI.2.1 rfl dJx4a65c_grow_92f84_4 ?_
  refine lv_istore_n (lv' := [(2, .int 0), (0, .ref a), (1, .int mn)]) hx hb dJx4a65c_grow_92f84_5 rfl hl (by decide) rfl (fun ls hl => ?_)
  refine lv_iload_n hx hb dJx4a65c_grow_92f84_6 rfl (lv_at hl 0 rfl) ?_
  refine lv_if_gt (tgt := 20) hx hb dJx4a65c_grow_92f84_7 (by decide) (fun z => absurd z (by decide)) (fun _ => ?_)
  refine lv_aload_n hx hb dJx4a65c_grow_92f84_10 rfl (lv_at hl 1 rfl) ?_
  refine g_get (ci := 0) (C := RJx4a65c) (T := TJx4a65c) (N := 3) hx hb hts hinJx4a65c hown hI ha rfl 1 (by decide) hw0 (fun _ h9 => h9) rfl dJx4a65c_grow_92f84_11 ?_
  refine va_gets hx hb (gE_Z hI.2.2.2.1) hI.2.1 hown hw1 (fun _ h9 => h9) dJx4a65c_grow_92f84_14 ?_
  refine lv_acmp_eq (rx := some de) (ry := some de) (tgt := 45) hx hb dJx4a65c_grow_92f84_17 (by decide) (fun _ => ?_) (fun z => absurd rfl z)
  refine lv_aload_n hx hb dJx4a65c_grow_92f84_45 rfl (lv_at hl 1 rfl) ?_
  refine lv_bipush (v := 10) hx hb dJx4a65c_grow_92f84_46 (by decide) ?_
  refine lv_iload_n hx hb dJx4a65c_grow_92f84_48 rfl (lv_at hl 2 rfl) ?_
  refine va_mmax hx hb (by rw [hml]; exact hl.1.symm) hown hw2 hw3 hw4 hw5 (Nat.le_of_ble_eq_true rfl) (Nat.le_of_ble_eq_true rfl) (Nat.le_of_ble_eq_true rfl) (Nat.le_of_ble_eq_true rfl) dJx4a65c_grow_92f84_49 ?_
  refine g_newq (N' := 10) hx hb hown hw6 (hI.2.2.2.1.2.2.2.2.1 "java/lang/Object" (List.mem_of_getElem? (i := 2) rfl)) hI 5 rfl (by rw [hm]; decide) (by rw [hm]; decide) (by decide) (Nat.le_of_ble_eq_true rfl) (Nat.le_of_ble_eq_true rfl) dJx4a65c_grow_92f84_52 (fun q_2 f_3 H hq_5 e_4 hI => ?_)
  have hn_6 : a ≠ q_2 := g_nn ha hq_5
  have e_4 : f_3 = va_up f q_2 (some (.inl (cy 5, 10, .inr (.inr (.inr (.inr (fun _ => none))))))) := e_4
  have hf_7 : f_3 q_2 = some (.inl (cy 5, 10, .inr (.inr (.inr (.inr (fun _ => none)))))) := by rw [e_4]; exact va_up_self _ _ _
  have hf_8 : f_3 a = some (.inr (0, [.int mc0, .ref de, .int 0])) := by rw [e_4, va_up_ne _ _ (hn_6)]; exact ha
  refine lv_dup_x1 hx hb dJx4a65c_grow_92f84_55 rfl rfl ?_
  refine g_put (ci := 0) (v := .ref q_2) (ty := (.array (.object "java/lang/Object"))) (C := RJx4a65c) (T := TJx4a65c) (N := 3) hx hb hts hinJx4a65c tyJx4a65c tyJx4a65c_ok nmJx4a65c hown hI hf_8 rfl 1 (by decide) hw0 (fun _ h9 => h9) rfl (by decide +kernel) rfl rfl (Nat.le_of_ble_eq_true rfl) dJx4a65c_grow_92f84_56 (fun f_9 H locs e_10 hI => ?_)
  have e_10 : f_9 = va_up f_3 a (some (.inr (0, [.int mc0, .ref q_2, .int 0]))) := e_10
  have hf_11 : f_9 a = some (.inr (0, [.int mc0, .ref q_2, .int 0])) := by rw [e_10]; exact va_up_self _ _ _
  have hf_12 : f_9 q_2 = some (.inl (cy 5, 10, .inr (.inr (.inr (.inr (fun _ => none)))))) := by rw [e_10, va_up_ne _ _ ((Ne.symm hn_6))]; exact hf_7
  exact g_aret hx hb hr (Or.inr ⟨_, rfl⟩) hlocks hI ⟨q_2, rfl, hq_5, (by rw [e_10, e_4])⟩ (Nat.le_of_ble_eq_true rfl) (Nat.le_of_ble_eq_true rfl) dJx4a65c_grow_92f84_59

set_option maxHeartbeats 4000000 in
set_option maxRecDepth 100000 in
theorem c_growG (l : Launch) (D : va_G) (cy : Nat → ClassId) (de : Nat) (f : gFm) (a : Nat) (mc0 : Int32) (ek : Nat) (cap : Nat) (y : Nat → Option Nat) (ha : f a = some (.inr (0, [.int mc0, .ref ek, .int (nI cap)]))) (hek : f ek = some (.inl (cy 5, cap, .inr (.inr (.inr (.inr y)))))) (hb1 : 10 ≤ cap) (hb2 : cap ≤ 130) (hel : gEl f cap y) : gMq l yJx4a65c_grow_92f84 wsJx4a65c_grow_92f84 { frames := 3, cells := 1, slots := 200, locals := 124 } D cy de [.ref a, .int (nI cap + 1)] f (fun r9 f9 => ∃ q1, r9 = some q1 ∧ f q1 = none ∧ f9 = va_up (va_up f q1 (some (.inl (cy 5, (cap + cap / 2), .inr (.inr (.inr (.inr (va_cpy y (fun _ => none) 0 0 cap)))))))) a (some (.inr (0, [.int mc0, .ref q1, .int (nI cap)])))) 1 200 := by
  refine fun sz => Met.ofW (cc := cJx4a65c_grow_92f84) (maxL := 4) (ret := (some (.array (.object "java/lang/Object")))) (by decide) rfl ?_
  intro p e s m args below meth c s₁ B hml hv
  obtain ⟨rfl, hv⟩ := hv
  obtain ⟨rfl, hI⟩ := gP_I hv
  have hx := B.exec
  have hb := B.bytes
  have hr := B.returns
  have hts := atoms_spec (ws := wsJx4a65c_grow_92f84) B.pre
  have hown : s.vm.findClass RJx4a65c = some m.cls := findClass_of_methodNamed B.named
  have hlocks := B.notSynchronized
  have hinJx4a65c : ∀ w ∈ wsJx4a65c0, w ∈ wsJx4a65c_grow_92f84 := by decide +kernel
  have hw0 := hts (.fieldLink RJx4a65c 9 "java/util/ArrayList" "elementData" "[Ljava/lang/Object;") (by decide +kernel)
  have hl := lv_entry ([.ref a, .int (nI cap + 1)]) (n := 4) (Nat.le_of_ble_eq_true rfl)
  rw [lg_entry_eq]
  generalize (lg_sl ([.ref a, .int (nI cap + 1)]) ++ List.replicate (4 - (lg_sl ([.ref a, .int (nI cap + 1)])).length) Slot.unset).toArray = ls at hl ⊢
  have hl : lv_has ls 4 [(0, .ref a), (1, .int (nI cap + 1))] := hl
  have hea : ek ≠ a := g_neA ha hek
  have h0c : (0 : Int32) < nI cap := (by rw [← nI_0]; exact nI_lt (by omega) (by omega))
  have hT := g_len1 (cap := cap) (by omega) (by omega)
  have hl0 : 0 < nI cap + (if nI cap + 1 - nI cap < nI cap >>> ((1 : Int32) &&& 31) then nI cap >>> ((1 : Int32) &&& 31) else nI cap + 1 - nI cap) := (by rw [hT, ← nI_0]; exact nI_lt (by omega) (by omega))
  have hl1 : ¬ 2147483639 < nI cap + (if nI cap + 1 - nI cap < nI cap >>> ((1 : Int32) &&& 31) then nI cap >>> ((1 : Int32) &&& 31) else nI cap + 1 - nI cap) := (by rw [hT]; exact (show ¬ nI 2147483639 < nI (cap + cap / 2) from nI_nlt (by omega) (by decide)))
  refine lv_aload_n hx hb dJx4a65c_grow_92f84_0 rfl (lv_at hl 0 rfl) ?_
  refine g_get (ci := 0) (C := RJx4a65c) (T := TJx4a65c) (N := 3) hx hb hts hinJx4a65c hown hI ha rfl 1 (by decide) hw0 (fun _ h9 => h9) rfl dJx4a65c_grow_92f84_1 ?_
  refine g_alen (v := nI cap) hx hb hI hek 5 rfl rfl dJx4a65c_grow_92f84_4 ?_
  refine lv_istore_n (lv' := [(2, .int (nI cap)), (0, .ref a), (1, .int (nI cap + 1))]) hx hb dJx4a65c_grow_92f84_5 rfl hl (by decide) rfl (fun ls hl => ?_)
  refine lv_iload_n hx hb dJx4a65c_grow_92f84_6 rfl (lv_at hl 0 rfl) ?_
  refine lv_if_gt (tgt := 20) hx hb dJx4a65c_grow_92f84_7 (by decide) (fun _ => ?_) (fun z => absurd h0c z)
  refine lv_iload_n hx hb dJx4a65c_grow_92f84_20 rfl (lv_at hl 0 rfl) ?_
  refine lv_iload_n hx hb dJx4a65c_grow_92f84_21 rfl (lv_at hl 2 rfl) ?_
  refine lv_iload_n hx hb dJx4a65c_grow_92f84_22 rfl (lv_at hl 0 rfl) ?_
  refine lv_isub hx hb dJx4a65c_grow_92f84_23 ?_
  refine lv_iload_n hx hb dJx4a65c_grow_92f84_24 rfl (lv_at hl 0 rfl) ?_
  refine lv_iconst (v := 1) hx hb dJx4a65c_grow_92f84_25 (by decide) ?_
  refine lv_ishr hx hb dJx4a65c_grow_92f84_26 ?_
  refine g_calli hI (va_runS (As := [.int (nI cap), .int ((nI cap + 1) - (nI cap)), .int ((nI cap) >>> (1 &&& 31))]) (rest := []) ⟨hx, hb, hml, hown, hts⟩ (c_J8_newLength_cabcc l D cy de f (nI cap) ((nI cap + 1) - (nI cap)) ((nI cap) >>> (1 &&& 31)) hl0 hl1 s.heap.size) (va_cwS 3 hts gJx4a65c_grow_92f84_J8_newLength_cabcc rfl rfl rfl (by decide +kernel) ⟨Nat.le_of_ble_eq_true rfl, Nat.le_of_ble_eq_true rfl⟩) (g_preS hI) rfl rfl hl.1 rfl (lv_room (Nat.le_of_ble_eq_true rfl)) dJx4a65c_grow_92f84_27 ⟨Nat.le_of_ble_eq_true rfl, Nat.le_of_ble_eq_true rfl⟩) (fun r_2 f_3 H locs hw_4 hI => ?_)
  obtain ⟨e_5_r, e_5⟩ := hw_4
  rw [e_5_r, hT]
  rw [e_5] at hI
  refine lv_istore_n (lv' := [(3, .int (nI (cap + cap / 2))), (2, .int (nI cap)), (0, .ref a), (1, .int (nI cap + 1))]) hx hb dJx4a65c_grow_92f84_30 rfl hl (by decide) rfl (fun ls hl => ?_)
  refine lv_aload_n hx hb dJx4a65c_grow_92f84_31 rfl (lv_at hl 2 rfl) ?_
  refine lv_aload_n hx hb dJx4a65c_grow_92f84_32 rfl (lv_at hl 2 rfl) ?_
  refine g_get (ci := 0) (C := RJx4a65c) (T := TJx4a65c) (N := 3) hx hb hts hinJx4a65c hown hI ha rfl 1 (by decide) hw0 (fun _ h9 => h9) rfl dJx4a65c_grow_92f84_33 ?_
  refine lv_iload_n hx hb dJx4a65c_grow_92f84_36 rfl (lv_at hl 0 rfl) ?_
  refine g_callq hI (va_runS (As := [.ref ek, .int (nI (cap + cap / 2))]) (rest := [.ref a]) ⟨hx, hb, hml, hown, hts⟩ (c_J7_copyOf_1904c l D cy de f ek cap y (cap + cap / 2) hek (by omega) (by omega) hel H.size) (va_cwS 2 hts gJx4a65c_grow_92f84_J7_copyOf_1904c rfl rfl rfl (by decide +kernel) ⟨Nat.le_of_ble_eq_true rfl, Nat.le_of_ble_eq_true rfl⟩) (g_preS hI) rfl rfl hl.1 rfl (lv_room (Nat.le_of_ble_eq_true rfl)) dJx4a65c_grow_92f84_37 ⟨Nat.le_of_ble_eq_true rfl, Nat.le_of_ble_eq_true rfl⟩) (fun r_6 f_7 H locs hw_8 hI => ?_)
  obtain ⟨q_9, rfl, hq_10, e_11⟩ := hw_8
  have hn_12 : a ≠ q_9 := g_nn ha hq_10
  have hn_13 : ek ≠ q_9 := g_nn hek hq_10
  have e_11 : f_7 = va_up f q_9 (some (.inl (cy 5, (cap + cap / 2), .inr (.inr (.inr (.inr (va_cpy y (fun _ => none) 0 0 cap))))))) := e_11
  have hf_14 : f_7 q_9 = some (.inl (cy 5, (cap + cap / 2), .inr (.inr (.inr (.inr (va_cpy y (fun _ => none) 0 0 cap)))))) := by rw [e_11]; exact va_up_self _ _ _
  have hf_15 : f_7 a = some (.inr (0, [.int mc0, .ref ek, .int (nI cap)])) := by rw [e_11, va_up_ne _ _ (hn_12)]; exact ha
  have hf_16 : f_7 ek = some (.inl (cy 5, cap, .inr (.inr (.inr (.inr y))))) := by rw [e_11, va_up_ne _ _ (hn_13)]; exact hek
  refine lv_dup_x1 hx hb dJx4a65c_grow_92f84_40 rfl rfl ?_
  refine g_put (ci := 0) (v := .ref q_9) (ty := (.array (.object "java/lang/Object"))) (C := RJx4a65c) (T := TJx4a65c) (N := 3) hx hb hts hinJx4a65c tyJx4a65c tyJx4a65c_ok nmJx4a65c hown hI hf_15 rfl 1 (by decide) hw0 (fun _ h9 => h9) rfl (by decide +kernel) rfl rfl (Nat.le_of_ble_eq_true rfl) dJx4a65c_grow_92f84_41 (fun f_17 H locs e_18 hI => ?_)
  have e_18 : f_17 = va_up f_7 a (some (.inr (0, [.int mc0, .ref q_9, .int (nI cap)]))) := e_18
  have hf_19 : f_17 a = some (.inr (0, [.int mc0, .ref q_9, .int (nI cap)])) := by rw [e_18]; exact va_up_self _ _ _
  have hf_20 : f_17 ek = some (.inl (cy 5, cap, .inr (.inr (.inr (.inr y))))) := by rw [e_18, va_up_ne _ _ (hea)]; exact hf_16
  have hf_21 : f_17 q_9 = some (.inl (cy 5, (cap + cap / 2), .inr (.inr (.inr (.inr (va_cpy y (fun _ => none) 0 0 cap)))))) := by rw [e_18, va_up_ne _ _ ((Ne.symm hn_12))]; exact hf_14
  exact g_aret hx hb hr (Or.inr ⟨_, rfl⟩) hlocks hI ⟨q_9, rfl, hq_10, (by rw [e_18, e_11])⟩ (Nat.le_of_ble_eq_true rfl) (Nat.le_of_ble_eq_true rfl) dJx4a65c_grow_92f84_44

set_option maxHeartbeats 4000000 in
set_option maxRecDepth 100000 in
theorem c_grow0F (l : Launch) (D : va_G) (cy : Nat → ClassId) (de : Nat) (f : gFm) (a : Nat) (mc0 : Int32) (ha : f a = some (.inr (0, [.int mc0, .ref de, .int 0]))) : gMq l yJx4a65c_grow_d5877 wsJx4a65c_grow_d5877 { frames := 4, cells := 1, slots := 200, locals := 147 } D cy de [.ref a] f (fun r9 f9 => ∃ q1, r9 = some q1 ∧ f q1 = none ∧ f9 = va_up (va_up f q1 (some (.inl (cy 5, 10, .inr (.inr (.inr (.inr (fun _ => none)))))))) a (some (.inr (0, [.int mc0, .ref q1, .int 0])))) 1 200 := by
  refine fun sz => Met.ofW (cc := cJx4a65c_grow_d5877) (maxL := 1) (ret := (some (.array (.object "java/lang/Object")))) (by decide) rfl ?_
  intro p e s m args below meth c s₁ B hml hv
  obtain ⟨rfl, hv⟩ := hv
  obtain ⟨rfl, hI⟩ := gP_I hv
  have hx := B.exec
  have hb := B.bytes
  have hr := B.returns
  have hts := atoms_spec (ws := wsJx4a65c_grow_d5877) B.pre
  have hown : s.vm.findClass RJx4a65c = some m.cls := findClass_of_methodNamed B.named
  have hlocks := B.notSynchronized
  have hinJx4a65c : ∀ w ∈ wsJx4a65c0, w ∈ wsJx4a65c_grow_d5877 := by decide +kernel
  have hw0 := hts (.fieldLink RJx4a65c 48 "java/util/ArrayList" "size" "I") (by decide +kernel)
  have hl := lv_entry ([.ref a]) (n := 1) (Nat.le_of_ble_eq_true rfl)
  rw [lg_entry_eq]
  generalize (lg_sl ([.ref a]) ++ List.replicate (1 - (lg_sl ([.ref a])).length) Slot.unset).toArray = ls at hl ⊢
  have hl : lv_has ls 1 [(0, .ref a)] := hl
  refine lv_aload_n hx hb dJx4a65c_grow_d5877_0 rfl (lv_at hl 0 rfl) ?_
  refine lv_aload_n hx hb dJx4a65c_grow_d5877_1 rfl (lv_at hl 0 rfl) ?_
  refine g_get (ci := 0) (C := RJx4a65c) (T := TJx4a65c) (N := 3) hx hb hts hinJx4a65c hown hI ha rfl 2 (by decide) hw0 (fun _ h9 => h9) rfl dJx4a65c_grow_d5877_2 ?_
  refine lv_iconst (v := 1) hx hb dJx4a65c_grow_d5877_5 (by decide) ?_
  refine lv_iadd hx hb dJx4a65c_grow_d5877_6 ?_
  refine g_callq hI (va_runV (As := [.int (0 + 1)]) (rest := []) ⟨hx, hb, hml, hown, hts⟩ (c_growF l D cy de f a mc0 (0 + 1) ha (by decide) s.heap.size) (cwV 1 hts gJx4a65c_grow_d5877_Jx4a65c_grow_92f84 rfl rfl rfl (by decide +kernel) ⟨Nat.le_of_ble_eq_true rfl, Nat.le_of_ble_eq_true rfl⟩) (g_preV hI ha rfl) rfl rfl hl.1 rfl (lv_room (Nat.le_of_ble_eq_true rfl)) dJx4a65c_grow_d5877_7 ⟨Nat.le_of_ble_eq_true rfl, Nat.le_of_ble_eq_true rfl⟩) (fun r_1 f_2 H locs hw_3 hI => ?_)
  obtain ⟨q_4, rfl, hq_5, e_6⟩ := hw_3
  have hn_9 : a ≠ q_4 := g_nn ha hq_5
  obtain ⟨f_7, e_8⟩ : ∃ z, z = va_up f q_4 (some (.inl (cy 5, 10, .inr (.inr (.inr (.inr (fun _ => none))))))) := ⟨_, rfl⟩
  rw [← e_8] at e_6
  have e_8 : f_7 = va_up f q_4 (some (.inl (cy 5, 10, .inr (.inr (.inr (.inr (fun _ => none))))))) := e_8
  have hf_10 : f_7 q_4 = some (.inl (cy 5, 10, .inr (.inr (.inr (.inr (fun _ => none)))))) := by rw [e_8]; exact va_up_self _ _ _
  have hf_11 : f_7 a = some (.inr (0, [.int mc0, .ref de, .int 0])) := by rw [e_8, va_up_ne _ _ (hn_9)]; exact ha
  have e_6 : f_2 = va_up f_7 a (some (.inr (0, [.int mc0, .ref q_4, .int 0]))) := e_6
  have hf_12 : f_2 a = some (.inr (0, [.int mc0, .ref q_4, .int 0])) := by rw [e_6]; exact va_up_self _ _ _
  have hf_13 : f_2 q_4 = some (.inl (cy 5, 10, .inr (.inr (.inr (.inr (fun _ => none)))))) := by rw [e_6, va_up_ne _ _ ((Ne.symm hn_9))]; exact hf_10
  exact g_aret hx hb hr (Or.inr ⟨_, rfl⟩) hlocks hI ⟨q_4, rfl, hq_5, (by rw [e_6, e_8])⟩ (Nat.le_of_ble_eq_true rfl) (Nat.le_of_ble_eq_true rfl) dJx4a65c_grow_d5877_10

set_option maxHeartbeats 4000000 in
set_option maxRecDepth 100000 in
theorem c_grow0G (l : Launch) (D : va_G) (cy : Nat → ClassId) (de : Nat) (f : gFm) (a : Nat) (mc0 : Int32) (ek : Nat) (cap : Nat) (y : Nat → Option Nat) (ha : f a = some (.inr (0, [.int mc0, .ref ek, .int (nI cap)]))) (hek : f ek = some (.inl (cy 5, cap, .inr (.inr (.inr (.inr y)))))) (hb1 : 10 ≤ cap) (hb2 : cap ≤ 130) (hel : gEl f cap y) : gMq l yJx4a65c_grow_d5877 wsJx4a65c_grow_d5877 { frames := 4, cells := 1, slots := 200, locals := 147 } D cy de [.ref a] f (fun r9 f9 => ∃ q1, r9 = some q1 ∧ f q1 = none ∧ f9 = va_up (va_up f q1 (some (.inl (cy 5, (cap + cap / 2), .inr (.inr (.inr (.inr (va_cpy y (fun _ => none) 0 0 cap)))))))) a (some (.inr (0, [.int mc0, .ref q1, .int (nI cap)])))) 1 200 := by
  refine fun sz => Met.ofW (cc := cJx4a65c_grow_d5877) (maxL := 1) (ret := (some (.array (.object "java/lang/Object")))) (by decide) rfl ?_
  intro p e s m args below meth c s₁ B hml hv
  obtain ⟨rfl, hv⟩ := hv
  obtain ⟨rfl, hI⟩ := gP_I hv
  have hx := B.exec
  have hb := B.bytes
  have hr := B.returns
  have hts := atoms_spec (ws := wsJx4a65c_grow_d5877) B.pre
  have hown : s.vm.findClass RJx4a65c = some m.cls := findClass_of_methodNamed B.named
  have hlocks := B.notSynchronized
  have hinJx4a65c : ∀ w ∈ wsJx4a65c0, w ∈ wsJx4a65c_grow_d5877 := by decide +kernel
  have hw0 := hts (.fieldLink RJx4a65c 48 "java/util/ArrayList" "size" "I") (by decide +kernel)
  have hl := lv_entry ([.ref a]) (n := 1) (Nat.le_of_ble_eq_true rfl)
  rw [lg_entry_eq]
  generalize (lg_sl ([.ref a]) ++ List.replicate (1 - (lg_sl ([.ref a])).length) Slot.unset).toArray = ls at hl ⊢
  have hl : lv_has ls 1 [(0, .ref a)] := hl
  have hea : ek ≠ a := g_neA ha hek
  refine lv_aload_n hx hb dJx4a65c_grow_d5877_0 rfl (lv_at hl 0 rfl) ?_
  refine lv_aload_n hx hb dJx4a65c_grow_d5877_1 rfl (lv_at hl 0 rfl) ?_
  refine g_get (ci := 0) (C := RJx4a65c) (T := TJx4a65c) (N := 3) hx hb hts hinJx4a65c hown hI ha rfl 2 (by decide) hw0 (fun _ h9 => h9) rfl dJx4a65c_grow_d5877_2 ?_
  refine lv_iconst (v := 1) hx hb dJx4a65c_grow_d5877_5 (by decide) ?_
  refine lv_iadd hx hb dJx4a65c_grow_d5877_6 ?_
  refine g_callq hI (va_runV (As := [.int ((nI cap) + 1)]) (rest := []) ⟨hx, hb, hml, hown, hts⟩ (c_growG l D cy de f a mc0 ek cap y ha hek hb1 hb2 hel s.heap.size) (cwV 1 hts gJx4a65c_grow_d5877_Jx4a65c_grow_92f84 rfl rfl rfl (by decide +kernel) ⟨Nat.le_of_ble_eq_true rfl, Nat.le_of_ble_eq_true rfl⟩) (g_preV hI ha rfl) rfl rfl hl.1 rfl (lv_room (Nat.le_of_ble_eq_true rfl)) dJx4a65c_grow_d5877_7 ⟨Nat.le_of_ble_eq_true rfl, Nat.le_of_ble_eq_true rfl⟩) (fun r_1 f_2 H locs hw_3 hI => ?_)
  obtain ⟨q_4, rfl, hq_5, e_6⟩ := hw_3
  have hn_9 : a ≠ q_4 := g_nn ha hq_5
  have hn_10 : ek ≠ q_4 := g_nn hek hq_5
  obtain ⟨f_7, e_8⟩ : ∃ z, z = va_up f q_4 (some (.inl (cy 5, (cap + cap / 2), .inr (.inr (.inr (.inr (va_cpy y (fun _ => none) 0 0 cap))))))) := ⟨_, rfl⟩
  rw [← e_8] at e_6
  have e_8 : f_7 = va_up f q_4 (some (.inl (cy 5, (cap + cap / 2), .inr (.inr (.inr (.inr (va_cpy y (fun _ => none) 0 0 cap))))))) := e_8
  have hf_11 : f_7 q_4 = some (.inl (cy 5, (cap + cap / 2), .inr (.inr (.inr (.inr (va_cpy y (fun _ => none) 0 0 cap)))))) := by rw [e_8]; exact va_up_self _ _ _
  have hf_12 : f_7 a = some (.inr (0, [.int mc0, .ref ek, .int (nI cap)])) := by rw [e_8, va_up_ne _ _ (hn_9)]; exact ha
  have hf_13 : f_7 ek = some (.inl (cy 5, cap, .inr (.inr (.inr (.inr y))))) := by rw [e_8, va_up_ne _ _ (hn_10)]; exact hek
  have e_6 : f_2 = va_up f_7 a (some (.inr (0, [.int mc0, .ref q_4, .int (nI cap)]))) := e_6
  have hf_14 : f_2 a = some (.inr (0, [.int mc0, .ref q_4, .int (nI cap)])) := by rw [e_6]; exact va_up_self _ _ _
  have hf_15 : f_2 ek = some (.inl (cy 5, cap, .inr (.inr (.inr (.inr y))))) := by rw [e_6, va_up_ne _ _ (hea)]; exact hf_13
  have hf_16 : f_2 q_4 = some (.inl (cy 5, (cap + cap / 2), .inr (.inr (.inr (.inr (va_cpy y (fun _ => none) 0 0 cap)))))) := by rw [e_6, va_up_ne _ _ ((Ne.symm hn_9))]; exact hf_11
  exact g_aret hx hb hr (Or.inr ⟨_, rfl⟩) hlocks hI ⟨q_4, rfl, hq_5, (by rw [e_6, e_8])⟩ (Nat.le_of_ble_eq_true rfl) (Nat.le_of_ble_eq_true rfl) dJx4a65c_grow_d5877_10

set_option maxHeartbeats 4000000 in
set_option maxRecDepth 100000 in
theorem c_add3F (l : Launch) (D : va_G) (cy : Nat → ClassId) (de : Nat) (f : gFm) (a : Nat) (mc0 : Int32) (q : Nat) (ci : Nat) (qs : List Value) (rc : vw_C) (ha : f a = some (.inr (0, [.int mc0, .ref de, .int 0]))) (hq : f q = some (.inr (ci, qs))) (hrc : vwCl[ci]? = some rc) (hca : (rc.1, "java/lang/Object") ∈ gCs) (hqa : q ≠ a) : gMv l yJx4a65c_add_72be8 wsJx4a65c_add_72be8 { frames := 5, cells := 1, slots := 200, locals := 167 } D cy de [.ref a, .ref q, .ref de, .int 0] f (fun f9 => ∃ q1, f q1 = none ∧ f9 = va_up (va_up f q1 (some (.inl (cy 5, 10, .inr (.inr (.inr (.inr (va_up (fun _ => none) (ix 0) (some q))))))))) a (some (.inr (0, [.int mc0, .ref q1, .int (0 + 1)])))) 1 200 := by
  refine fun sz => Met.ofW (cc := cJx4a65c_add_72be8) (maxL := 4) (ret := none) (by decide) rfl ?_
  intro p e s m args below meth c s₁ B hml hv
  obtain ⟨rfl, hv⟩ := hv
  obtain ⟨rfl, hI⟩ := gP_I hv
  have hx := B.exec
  have hb := B.bytes
  have hr := B.returns
  have hts := atoms_spec (ws := wsJx4a65c_add_72be8) B.pre
  have hown : s.vm.findClass RJx4a65c = some m.cls := findClass_of_methodNamed B.named
  have hlocks := B.notSynchronized
  have hinJx4a65c : ∀ w ∈ wsJx4a65c0, w ∈ wsJx4a65c_add_72be8 := by decide +kernel
  have hw0 := hts (.fieldLink RJx4a65c 48 "java/util/ArrayList" "size" "I") (by decide +kernel)
  have hl := lv_entry ([.ref a, .ref q, .ref de, .int 0]) (n := 4) (Nat.le_of_ble_eq_true rfl)
  rw [lg_entry_eq]
  generalize (lg_sl ([.ref a, .ref q, .ref de, .int 0]) ++ List.replicate (4 - (lg_sl ([.ref a, .ref q, .ref de, .int 0])).length) Slot.unset).toArray = ls at hl ⊢
  have hl : lv_has ls 4 [(0, .ref a), (1, .ref q), (2, .ref de), (3, .int 0)] := hl
  refine lv_iload_n hx hb dJx4a65c_add_72be8_0 rfl (lv_at hl 3 rfl) ?_
  refine lv_aload_n hx hb dJx4a65c_add_72be8_1 rfl (lv_at hl 2 rfl) ?_
  refine va_tlen (v := 0) hx hb (gE_T hI.2.2.2.1) hI.2.1 rfl dJx4a65c_add_72be8_2 ?_
  refine lv_icmp_ne (tgt := 11) hx hb dJx4a65c_add_72be8_3 (by decide) (fun z => absurd z (by decide)) (fun _ => ?_)
  refine lv_aload_n hx hb dJx4a65c_add_72be8_6 rfl (lv_at hl 0 rfl) ?_
  refine g_callq hI (va_runV (As := []) (rest := []) ⟨hx, hb, hml, hown, hts⟩ (c_grow0F l D cy de f a mc0 ha s.heap.size) (cwV 0 hts gJx4a65c_add_72be8_Jx4a65c_grow_d5877 rfl rfl rfl (by decide +kernel) ⟨Nat.le_of_ble_eq_true rfl, Nat.le_of_ble_eq_true rfl⟩) (g_preV hI ha rfl) rfl rfl hl.1 rfl (lv_room (Nat.le_of_ble_eq_true rfl)) dJx4a65c_add_72be8_7 ⟨Nat.le_of_ble_eq_true rfl, Nat.le_of_ble_eq_true rfl⟩) (fun r_2 f_3 H locs hw_4 hI => ?_)
  obtain ⟨q_5, rfl, hq_6, e_7⟩ := hw_4
  have hn_10 : a ≠ q_5 := g_nn ha hq_6
  have hn_11 : q ≠ q_5 := g_nn hq hq_6
  obtain ⟨f_8, e_9⟩ : ∃ z, z = va_up f q_5 (some (.inl (cy 5, 10, .inr (.inr (.inr (.inr (fun _ => none))))))) := ⟨_, rfl⟩
  rw [← e_9] at e_7
  have e_9 : f_8 = va_up f q_5 (some (.inl (cy 5, 10, .inr (.inr (.inr (.inr (fun _ => none))))))) := e_9
  have hf_12 : f_8 q_5 = some (.inl (cy 5, 10, .inr (.inr (.inr (.inr (fun _ => none)))))) := by rw [e_9]; exact va_up_self _ _ _
  have hf_13 : f_8 a = some (.inr (0, [.int mc0, .ref de, .int 0])) := by rw [e_9, va_up_ne _ _ (hn_10)]; exact ha
  have hf_14 : f_8 q = some (.inr (ci, qs)) := by rw [e_9, va_up_ne _ _ (hn_11)]; exact hq
  have e_7 : f_3 = va_up f_8 a (some (.inr (0, [.int mc0, .ref q_5, .int 0]))) := e_7
  have hf_15 : f_3 a = some (.inr (0, [.int mc0, .ref q_5, .int 0])) := by rw [e_7]; exact va_up_self _ _ _
  have hf_16 : f_3 q = some (.inr (ci, qs)) := by rw [e_7, va_up_ne _ _ (hqa)]; exact hf_14
  have hf_17 : f_3 q_5 = some (.inl (cy 5, 10, .inr (.inr (.inr (.inr (fun _ => none)))))) := by rw [e_7, va_up_ne _ _ ((Ne.symm hn_10))]; exact hf_12
  refine lv_astore_n (lv' := [(2, .ref q_5), (0, .ref a), (1, .ref q), (3, .int 0)]) hx hb dJx4a65c_add_72be8_10 rfl hl (by decide) rfl (fun ls hl => ?_)
  refine lv_aload_n hx hb dJx4a65c_add_72be8_11 rfl (lv_at hl 0 rfl) ?_
  refine lv_iload_n hx hb dJx4a65c_add_72be8_12 rfl (lv_at hl 3 rfl) ?_
  refine lv_aload_n hx hb dJx4a65c_add_72be8_13 rfl (lv_at hl 2 rfl) ?_
  refine g_aast (C := "java/lang/Object") hx hb hI hf_17 5 rfl (g_anyC hI hf_16 hrc (hI.2.2.2.1.2.2.1 _ hca)) (by unfold vp_in; decide) dJx4a65c_add_72be8_14 (fun f_18 H locs e_19 hI => ?_)
  have e_19 : f_18 = va_up f_3 q_5 (some (.inl (cy 5, 10, .inr (.inr (.inr (.inr (va_up (fun _ => none) (ix 0) (some q)))))))) := e_19
  have hf_20 : f_18 q_5 = some (.inl (cy 5, 10, .inr (.inr (.inr (.inr (va_up (fun _ => none) (ix 0) (some q))))))) := by rw [e_19]; exact va_up_self _ _ _
  have hf_21 : f_18 a = some (.inr (0, [.int mc0, .ref q_5, .int 0])) := by rw [e_19, va_up_ne _ _ (hn_10)]; exact hf_15
  have hf_22 : f_18 q = some (.inr (ci, qs)) := by rw [e_19, va_up_ne _ _ (hn_11)]; exact hf_16
  refine lv_aload_n hx hb dJx4a65c_add_72be8_15 rfl (lv_at hl 1 rfl) ?_
  refine lv_iload_n hx hb dJx4a65c_add_72be8_16 rfl (lv_at hl 3 rfl) ?_
  refine lv_iconst (v := 1) hx hb dJx4a65c_add_72be8_17 (by decide) ?_
  refine lv_iadd hx hb dJx4a65c_add_72be8_18 ?_
  refine g_put (ci := 0) (v := .int (0 + 1)) (ty := .int) (C := RJx4a65c) (T := TJx4a65c) (N := 3) hx hb hts hinJx4a65c tyJx4a65c tyJx4a65c_ok nmJx4a65c hown hI hf_21 rfl 2 (by decide) hw0 (fun _ h9 => h9) rfl (by decide +kernel) rfl rfl (Nat.le_of_ble_eq_true rfl) dJx4a65c_add_72be8_19 (fun f_23 H locs e_24 hI => ?_)
  have e_24 : f_23 = va_up f_18 a (some (.inr (0, [.int mc0, .ref q_5, .int (0 + 1)]))) := e_24
  have hf_25 : f_23 a = some (.inr (0, [.int mc0, .ref q_5, .int (0 + 1)])) := by rw [e_24]; exact va_up_self _ _ _
  have hf_26 : f_23 q = some (.inr (ci, qs)) := by rw [e_24, va_up_ne _ _ (hqa)]; exact hf_22
  have hf_27 : f_23 q_5 = some (.inl (cy 5, 10, .inr (.inr (.inr (.inr (va_up (fun _ => none) (ix 0) (some q))))))) := by rw [e_24, va_up_ne _ _ ((Ne.symm hn_10))]; exact hf_20
  exact g_vret hx hb hr hlocks hI ⟨q_5, hq_6, (by rw [e_24, e_19, e_7, e_9] <;> simp only [g_u3, g_uu])⟩ (Nat.le_of_ble_eq_true rfl) (Nat.le_of_ble_eq_true rfl) dJx4a65c_add_72be8_22

set_option maxHeartbeats 4000000 in
set_option maxRecDepth 100000 in
theorem c_add3R (l : Launch) (D : va_G) (cy : Nat → ClassId) (de : Nat) (f : gFm) (a : Nat) (mc0 : Int32) (ek : Nat) (cap : Nat) (y : Nat → Option Nat) (n : Nat) (q : Nat) (ci : Nat) (qs : List Value) (rc : vw_C) (ha : f a = some (.inr (0, [.int mc0, .ref ek, .int (nI n)]))) (hek : f ek = some (.inl (cy 5, cap, .inr (.inr (.inr (.inr y)))))) (hq : f q = some (.inr (ci, qs))) (hrc : vwCl[ci]? = some rc) (hca : (rc.1, "java/lang/Object") ∈ gCs) (hqa : q ≠ a) (hn1 : n < cap) (hn2 : cap ≤ 1000) (hqe : q ≠ ek) : gMv l yJx4a65c_add_72be8 wsJx4a65c_add_72be8 { frames := 5, cells := 1, slots := 200, locals := 167 } D cy de [.ref a, .ref q, .ref ek, .int (nI n)] f (fun f9 => f9 = va_up (va_up f ek (some (.inl (cy 5, cap, .inr (.inr (.inr (.inr (va_up y (ix (nI n)) (some q))))))))) a (some (.inr (0, [.int mc0, .ref ek, .int (nI n + 1)])))) 1 200 := by
  refine fun sz => Met.ofW (cc := cJx4a65c_add_72be8) (maxL := 4) (ret := none) (by decide) rfl ?_
  intro p e s m args below meth c s₁ B hml hv
  obtain ⟨rfl, hv⟩ := hv
  obtain ⟨rfl, hI⟩ := gP_I hv
  have hx := B.exec
  have hb := B.bytes
  have hr := B.returns
  have hts := atoms_spec (ws := wsJx4a65c_add_72be8) B.pre
  have hown : s.vm.findClass RJx4a65c = some m.cls := findClass_of_methodNamed B.named
  have hlocks := B.notSynchronized
  have hinJx4a65c : ∀ w ∈ wsJx4a65c0, w ∈ wsJx4a65c_add_72be8 := by decide +kernel
  have hw0 := hts (.fieldLink RJx4a65c 48 "java/util/ArrayList" "size" "I") (by decide +kernel)
  have hl := lv_entry ([.ref a, .ref q, .ref ek, .int (nI n)]) (n := 4) (Nat.le_of_ble_eq_true rfl)
  rw [lg_entry_eq]
  generalize (lg_sl ([.ref a, .ref q, .ref ek, .int (nI n)]) ++ List.replicate (4 - (lg_sl ([.ref a, .ref q, .ref ek, .int (nI n)])).length) Slot.unset).toArray = ls at hl ⊢
  have hl : lv_has ls 4 [(0, .ref a), (1, .ref q), (2, .ref ek), (3, .int (nI n))] := hl
  have hea : ek ≠ a := g_neA ha hek
  have hne : ¬ nI n = nI cap := fun e => absurd ((nI_eq (by omega) (by omega)).mp e) (by omega)
  refine lv_iload_n hx hb dJx4a65c_add_72be8_0 rfl (lv_at hl 3 rfl) ?_
  refine lv_aload_n hx hb dJx4a65c_add_72be8_1 rfl (lv_at hl 2 rfl) ?_
  refine g_alen (v := nI cap) hx hb hI hek 5 rfl rfl dJx4a65c_add_72be8_2 ?_
  refine lv_icmp_ne (tgt := 11) hx hb dJx4a65c_add_72be8_3 (by decide) (fun _ => ?_) (fun z => absurd z hne)
  refine lv_aload_n hx hb dJx4a65c_add_72be8_11 rfl (lv_at hl 2 rfl) ?_
  refine lv_iload_n hx hb dJx4a65c_add_72be8_12 rfl (lv_at hl 3 rfl) ?_
  refine lv_aload_n hx hb dJx4a65c_add_72be8_13 rfl (lv_at hl 1 rfl) ?_
  refine g_aast (C := "java/lang/Object") hx hb hI hek 5 rfl (g_anyC hI hq hrc (hI.2.2.2.1.2.2.1 _ hca)) (vp_in_nI hn1 (by omega)) dJx4a65c_add_72be8_14 (fun f_2 H locs e_3 hI => ?_)
  have e_3 : f_2 = va_up f ek (some (.inl (cy 5, cap, .inr (.inr (.inr (.inr (va_up y (ix (nI n)) (some q)))))))) := e_3
  have hf_4 : f_2 ek = some (.inl (cy 5, cap, .inr (.inr (.inr (.inr (va_up y (ix (nI n)) (some q))))))) := by rw [e_3]; exact va_up_self _ _ _
  have hf_5 : f_2 a = some (.inr (0, [.int mc0, .ref ek, .int (nI n)])) := by rw [e_3, va_up_ne _ _ ((Ne.symm hea))]; exact ha
  have hf_6 : f_2 q = some (.inr (ci, qs)) := by rw [e_3, va_up_ne _ _ (hqe)]; exact hq
  refine lv_aload_n hx hb dJx4a65c_add_72be8_15 rfl (lv_at hl 0 rfl) ?_
  refine lv_iload_n hx hb dJx4a65c_add_72be8_16 rfl (lv_at hl 3 rfl) ?_
  refine lv_iconst (v := 1) hx hb dJx4a65c_add_72be8_17 (by decide) ?_
  refine lv_iadd hx hb dJx4a65c_add_72be8_18 ?_
  refine g_put (ci := 0) (v := .int ((nI n) + 1)) (ty := .int) (C := RJx4a65c) (T := TJx4a65c) (N := 3) hx hb hts hinJx4a65c tyJx4a65c tyJx4a65c_ok nmJx4a65c hown hI hf_5 rfl 2 (by decide) hw0 (fun _ h9 => h9) rfl (by decide +kernel) rfl rfl (Nat.le_of_ble_eq_true rfl) dJx4a65c_add_72be8_19 (fun f_7 H locs e_8 hI => ?_)
  have e_8 : f_7 = va_up f_2 a (some (.inr (0, [.int mc0, .ref ek, .int ((nI n) + 1)]))) := e_8
  have hf_9 : f_7 a = some (.inr (0, [.int mc0, .ref ek, .int ((nI n) + 1)])) := by rw [e_8]; exact va_up_self _ _ _
  have hf_10 : f_7 ek = some (.inl (cy 5, cap, .inr (.inr (.inr (.inr (va_up y (ix (nI n)) (some q))))))) := by rw [e_8, va_up_ne _ _ (hea)]; exact hf_4
  have hf_11 : f_7 q = some (.inr (ci, qs)) := by rw [e_8, va_up_ne _ _ (hqa)]; exact hf_6
  exact g_vret hx hb hr hlocks hI (by rw [e_8, e_3] <;> simp only [g_u3, g_uu]) (Nat.le_of_ble_eq_true rfl) (Nat.le_of_ble_eq_true rfl) dJx4a65c_add_72be8_22

set_option maxHeartbeats 4000000 in
set_option maxRecDepth 100000 in
theorem c_add3G (l : Launch) (D : va_G) (cy : Nat → ClassId) (de : Nat) (f : gFm) (a : Nat) (mc0 : Int32) (ek : Nat) (cap : Nat) (y : Nat → Option Nat) (q : Nat) (ci : Nat) (qs : List Value) (rc : vw_C) (ha : f a = some (.inr (0, [.int mc0, .ref ek, .int (nI cap)]))) (hek : f ek = some (.inl (cy 5, cap, .inr (.inr (.inr (.inr y)))))) (hq : f q = some (.inr (ci, qs))) (hrc : vwCl[ci]? = some rc) (hca : (rc.1, "java/lang/Object") ∈ gCs) (hqa : q ≠ a) (hb1 : 10 ≤ cap) (hb2 : cap ≤ 130) (hel : gEl f cap y) (hqe : q ≠ ek) : gMv l yJx4a65c_add_72be8 wsJx4a65c_add_72be8 { frames := 5, cells := 1, slots := 200, locals := 167 } D cy de [.ref a, .ref q, .ref ek, .int (nI cap)] f (fun f9 => ∃ q1, f q1 = none ∧ f9 = va_up (va_up f q1 (some (.inl (cy 5, (cap + cap / 2), .inr (.inr (.inr (.inr (va_up (va_cpy y (fun _ => none) 0 0 cap) (ix (nI cap)) (some q))))))))) a (some (.inr (0, [.int mc0, .ref q1, .int (nI cap + 1)])))) 1 200 := by
  refine fun sz => Met.ofW (cc := cJx4a65c_add_72be8) (maxL := 4) (ret := none) (by decide) rfl ?_
  intro p e s m args below meth c s₁ B hml hv
  obtain ⟨rfl, hv⟩ := hv
  obtain ⟨rfl, hI⟩ := gP_I hv
  have hx := B.exec
  have hb := B.bytes
  have hr := B.returns
  have hts := atoms_spec (ws := wsJx4a65c_add_72be8) B.pre
  have hown : s.vm.findClass RJx4a65c = some m.cls := findClass_of_methodNamed B.named
  have hlocks := B.notSynchronized
  have hinJx4a65c : ∀ w ∈ wsJx4a65c0, w ∈ wsJx4a65c_add_72be8 := by decide +kernel
  have hw0 := hts (.fieldLink RJx4a65c 48 "java/util/ArrayList" "size" "I") (by decide +kernel)
  have hl := lv_entry ([.ref a, .ref q, .ref ek, .int (nI cap)]) (n := 4) (Nat.le_of_ble_eq_true rfl)
  rw [lg_entry_eq]
  generalize (lg_sl ([.ref a, .ref q, .ref ek, .int (nI cap)]) ++ List.replicate (4 - (lg_sl ([.ref a, .ref q, .ref ek, .int (nI cap)])).length) Slot.unset).toArray = ls at hl ⊢
  have hl : lv_has ls 4 [(0, .ref a), (1, .ref q), (2, .ref ek), (3, .int (nI cap))] := hl
  have hea : ek ≠ a := g_neA ha hek
  have hrf : nI cap = nI cap := rfl
  refine lv_iload_n hx hb dJx4a65c_add_72be8_0 rfl (lv_at hl 3 rfl) ?_
  refine lv_aload_n hx hb dJx4a65c_add_72be8_1 rfl (lv_at hl 2 rfl) ?_
  refine g_alen (v := nI cap) hx hb hI hek 5 rfl rfl dJx4a65c_add_72be8_2 ?_
  refine lv_icmp_ne (tgt := 11) hx hb dJx4a65c_add_72be8_3 (by decide) (fun z => absurd hrf z) (fun _ => ?_)
  refine lv_aload_n hx hb dJx4a65c_add_72be8_6 rfl (lv_at hl 0 rfl) ?_
  refine g_callq hI (va_runV (As := []) (rest := []) ⟨hx, hb, hml, hown, hts⟩ (c_grow0G l D cy de f a mc0 ek cap y ha hek hb1 hb2 hel s.heap.size) (cwV 0 hts gJx4a65c_add_72be8_Jx4a65c_grow_d5877 rfl rfl rfl (by decide +kernel) ⟨Nat.le_of_ble_eq_true rfl, Nat.le_of_ble_eq_true rfl⟩) (g_preV hI ha rfl) rfl rfl hl.1 rfl (lv_room (Nat.le_of_ble_eq_true rfl)) dJx4a65c_add_72be8_7 ⟨Nat.le_of_ble_eq_true rfl, Nat.le_of_ble_eq_true rfl⟩) (fun r_2 f_3 H locs hw_4 hI => ?_)
  obtain ⟨q_5, rfl, hq_6, e_7⟩ := hw_4
  have hn_10 : a ≠ q_5 := g_nn ha hq_6
  have hn_11 : ek ≠ q_5 := g_nn hek hq_6
  have hn_12 : q ≠ q_5 := g_nn hq hq_6
  obtain ⟨f_8, e_9⟩ : ∃ z, z = va_up f q_5 (some (.inl (cy 5, (cap + cap / 2), .inr (.inr (.inr (.inr (va_cpy y (fun _ => none) 0 0 cap))))))) := ⟨_, rfl⟩
  rw [← e_9] at e_7
  have e_9 : f_8 = va_up f q_5 (some (.inl (cy 5, (cap + cap / 2), .inr (.inr (.inr (.inr (va_cpy y (fun _ => none) 0 0 cap))))))) := e_9
  have hf_13 : f_8 q_5 = some (.inl (cy 5, (cap + cap / 2), .inr (.inr (.inr (.inr (va_cpy y (fun _ => none) 0 0 cap)))))) := by rw [e_9]; exact va_up_self _ _ _
  have hf_14 : f_8 a = some (.inr (0, [.int mc0, .ref ek, .int (nI cap)])) := by rw [e_9, va_up_ne _ _ (hn_10)]; exact ha
  have hf_15 : f_8 ek = some (.inl (cy 5, cap, .inr (.inr (.inr (.inr y))))) := by rw [e_9, va_up_ne _ _ (hn_11)]; exact hek
  have hf_16 : f_8 q = some (.inr (ci, qs)) := by rw [e_9, va_up_ne _ _ (hn_12)]; exact hq
  have e_7 : f_3 = va_up f_8 a (some (.inr (0, [.int mc0, .ref q_5, .int (nI cap)]))) := e_7
  have hf_17 : f_3 a = some (.inr (0, [.int mc0, .ref q_5, .int (nI cap)])) := by rw [e_7]; exact va_up_self _ _ _
  have hf_18 : f_3 ek = some (.inl (cy 5, cap, .inr (.inr (.inr (.inr y))))) := by rw [e_7, va_up_ne _ _ (hea)]; exact hf_15
  have hf_19 : f_3 q = some (.inr (ci, qs)) := by rw [e_7, va_up_ne _ _ (hqa)]; exact hf_16
  have hf_20 : f_3 q_5 = some (.inl (cy 5, (cap + cap / 2), .inr (.inr (.inr (.inr (va_cpy y (fun _ => none) 0 0 cap)))))) := by rw [e_7, va_up_ne _ _ ((Ne.symm hn_10))]; exact hf_13
  refine lv_astore_n (lv' := [(2, .ref q_5), (0, .ref a), (1, .ref q), (3, .int (nI cap))]) hx hb dJx4a65c_add_72be8_10 rfl hl (by decide) rfl (fun ls hl => ?_)
  refine lv_aload_n hx hb dJx4a65c_add_72be8_11 rfl (lv_at hl 0 rfl) ?_
  refine lv_iload_n hx hb dJx4a65c_add_72be8_12 rfl (lv_at hl 3 rfl) ?_
  refine lv_aload_n hx hb dJx4a65c_add_72be8_13 rfl (lv_at hl 2 rfl) ?_
  refine g_aast (C := "java/lang/Object") hx hb hI hf_20 5 rfl (g_anyC hI hf_19 hrc (hI.2.2.2.1.2.2.1 _ hca)) (vp_in_nI (by omega) (by omega)) dJx4a65c_add_72be8_14 (fun f_21 H locs e_22 hI => ?_)
  have e_22 : f_21 = va_up f_3 q_5 (some (.inl (cy 5, (cap + cap / 2), .inr (.inr (.inr (.inr (va_up (va_cpy y (fun _ => none) 0 0 cap) (ix (nI cap)) (some q)))))))) := e_22
  have hf_23 : f_21 q_5 = some (.inl (cy 5, (cap + cap / 2), .inr (.inr (.inr (.inr (va_up (va_cpy y (fun _ => none) 0 0 cap) (ix (nI cap)) (some q))))))) := by rw [e_22]; exact va_up_self _ _ _
  have hf_24 : f_21 a = some (.inr (0, [.int mc0, .ref q_5, .int (nI cap)])) := by rw [e_22, va_up_ne _ _ (hn_10)]; exact hf_17
  have hf_25 : f_21 ek = some (.inl (cy 5, cap, .inr (.inr (.inr (.inr y))))) := by rw [e_22, va_up_ne _ _ (hn_11)]; exact hf_18
  have hf_26 : f_21 q = some (.inr (ci, qs)) := by rw [e_22, va_up_ne _ _ (hn_12)]; exact hf_19
  refine lv_aload_n hx hb dJx4a65c_add_72be8_15 rfl (lv_at hl 1 rfl) ?_
  refine lv_iload_n hx hb dJx4a65c_add_72be8_16 rfl (lv_at hl 3 rfl) ?_
  refine lv_iconst (v := 1) hx hb dJx4a65c_add_72be8_17 (by decide) ?_
  refine lv_iadd hx hb dJx4a65c_add_72be8_18 ?_
  refine g_put (ci := 0) (v := .int ((nI cap) + 1)) (ty := .int) (C := RJx4a65c) (T := TJx4a65c) (N := 3) hx hb hts hinJx4a65c tyJx4a65c tyJx4a65c_ok nmJx4a65c hown hI hf_24 rfl 2 (by decide) hw0 (fun _ h9 => h9) rfl (by decide +kernel) rfl rfl (Nat.le_of_ble_eq_true rfl) dJx4a65c_add_72be8_19 (fun f_27 H locs e_28 hI => ?_)
  have e_28 : f_27 = va_up f_21 a (some (.inr (0, [.int mc0, .ref q_5, .int ((nI cap) + 1)]))) := e_28
  have hf_29 : f_27 a = some (.inr (0, [.int mc0, .ref q_5, .int ((nI cap) + 1)])) := by rw [e_28]; exact va_up_self _ _ _
  have hf_30 : f_27 ek = some (.inl (cy 5, cap, .inr (.inr (.inr (.inr y))))) := by rw [e_28, va_up_ne _ _ (hea)]; exact hf_25
  have hf_31 : f_27 q = some (.inr (ci, qs)) := by rw [e_28, va_up_ne _ _ (hqa)]; exact hf_26
  have hf_32 : f_27 q_5 = some (.inl (cy 5, (cap + cap / 2), .inr (.inr (.inr (.inr (va_up (va_cpy y (fun _ => none) 0 0 cap) (ix (nI cap)) (some q))))))) := by rw [e_28, va_up_ne _ _ ((Ne.symm hn_10))]; exact hf_23
  exact g_vret hx hb hr hlocks hI ⟨q_5, hq_6, (by rw [e_28, e_22, e_7, e_9] <;> simp only [g_u3, g_uu])⟩ (Nat.le_of_ble_eq_true rfl) (Nat.le_of_ble_eq_true rfl) dJx4a65c_add_72be8_22

/-- only a list's own cell has changed: what the array holds is as it was -/
theorem gEl_list {f : gFm} {n : Nat} {y : Nat → Option Nat} {a : Nat} {x : va_E} {f1 : gFm} {v : List Value} (h : gEl f n y) (ha : f a = some (.inr (0, v))) (h1 : f1 a = some x) (hk : ∀ b, b ≠ a → f1 b = f b) : gEl f1 n y := fun j hj q hq => by
  obtain ⟨ci, fs, r, h1, h2, h3⟩ := h j hj q hq
  refine ⟨ci, fs, r, ?_, h2, h3⟩
  rw [hk q (fun e => by
    rw [e, ha] at h1
    cases h1
    cases h2
    exact absurd h3 (by decide))]
  exact h1

set_option maxHeartbeats 4000000 in
set_option maxRecDepth 100000 in
theorem c_addF (l : Launch) (D : va_G) (cy : Nat → ClassId) (de : Nat) (f : gFm) (a : Nat) (mc0 : Int32) (q : Nat) (ci : Nat) (qs : List Value) (rc : vw_C) (ha : f a = some (.inr (0, [.int mc0, .ref de, .int 0]))) (hq : f q = some (.inr (ci, qs))) (hrc : vwCl[ci]? = some rc) (hca : (rc.1, "java/lang/Object") ∈ gCs) (hqa : q ≠ a) : gMi l yJx4a65c_add_9ea2d wsJx4a65c_add_9ea2d { frames := 6, cells := 1, slots := 200, locals := 190 } D cy de [.ref a, .ref q] f (fun r9 f9 => r9 = 1 ∧ ∃ q1, f q1 = none ∧ f9 = va_up (va_up f q1 (some (.inl (cy 5, 10, .inr (.inr (.inr (.inr (va_up (fun _ => none) (ix 0) (some q))))))))) a (some (.inr (0, [.int (mc0 + 1), .ref q1, .int (0 + 1)])))) 1 200 := by
  refine fun sz => Met.ofW (cc := cJx4a65c_add_9ea2d) (maxL := 2) (ret := (some .boolean)) (by decide) rfl ?_
  intro p e s m args below meth c s₁ B hml hv
  obtain ⟨rfl, hv⟩ := hv
  obtain ⟨rfl, hI⟩ := gP_I hv
  have hx := B.exec
  have hb := B.bytes
  have hr := B.returns
  have hts := atoms_spec (ws := wsJx4a65c_add_9ea2d) B.pre
  have hown : s.vm.findClass RJx4a65c = some m.cls := findClass_of_methodNamed B.named
  have hlocks := B.notSynchronized
  have hinJx4a65c : ∀ w ∈ wsJx4a65c0, w ∈ wsJx4a65c_add_9ea2d := by decide +kernel
  have hw0 := hts (.sameField "java/util/ArrayList" "java/util/AbstractList" "modCount" "I") (by decide +kernel)
  have hw1 := hts (.fieldLink RJx4a65c 63 "java/util/ArrayList" "modCount" "I") (by decide +kernel)
  have hw2 := hts (.fieldLink RJx4a65c 9 "java/util/ArrayList" "elementData" "[Ljava/lang/Object;") (by decide +kernel)
  have hw3 := hts (.fieldLink RJx4a65c 48 "java/util/ArrayList" "size" "I") (by decide +kernel)
  have hl := lv_entry ([.ref a, .ref q]) (n := 2) (Nat.le_of_ble_eq_true rfl)
  rw [lg_entry_eq]
  generalize (lg_sl ([.ref a, .ref q]) ++ List.replicate (2 - (lg_sl ([.ref a, .ref q])).length) Slot.unset).toArray = ls at hl ⊢
  have hl : lv_has ls 2 [(0, .ref a), (1, .ref q)] := hl
  refine lv_aload_n hx hb dJx4a65c_add_9ea2d_0 rfl (lv_at hl 0 rfl) ?_
  refine lv_dup hx hb dJx4a65c_add_9ea2d_1 rfl ?_
  refine g_get (ci := 0) (C := RJx4a65c) (T := TJx4a65c) (N := 3) hx hb hts hinJx4a65c hown hI ha rfl 0 (by decide) hw1 (u_same hw0) rfl dJx4a65c_add_9ea2d_2 ?_
  refine lv_iconst (v := 1) hx hb dJx4a65c_add_9ea2d_5 (by decide) ?_
  refine lv_iadd hx hb dJx4a65c_add_9ea2d_6 ?_
  refine g_put (ci := 0) (v := .int (mc0 + 1)) (ty := .int) (C := RJx4a65c) (T := TJx4a65c) (N := 3) hx hb hts hinJx4a65c tyJx4a65c tyJx4a65c_ok nmJx4a65c hown hI ha rfl 0 (by decide) hw1 (u_same hw0) rfl (by decide +kernel) rfl rfl (Nat.le_of_ble_eq_true rfl) dJx4a65c_add_9ea2d_7 (fun f_1 H locs e_2 hI => ?_)
  have e_2 : f_1 = va_up f a (some (.inr (0, [.int (mc0 + 1), .ref de, .int 0]))) := e_2
  have hf_3 : f_1 a = some (.inr (0, [.int (mc0 + 1), .ref de, .int 0])) := by rw [e_2]; exact va_up_self _ _ _
  have hf_4 : f_1 q = some (.inr (ci, qs)) := by rw [e_2, va_up_ne _ _ (hqa)]; exact hq
  refine lv_aload_n hx hb dJx4a65c_add_9ea2d_10 rfl (lv_at hl 0 rfl) ?_
  refine lv_aload_n hx hb dJx4a65c_add_9ea2d_11 rfl (lv_at hl 1 rfl) ?_
  refine lv_aload_n hx hb dJx4a65c_add_9ea2d_12 rfl (lv_at hl 0 rfl) ?_
  refine g_get (ci := 0) (C := RJx4a65c) (T := TJx4a65c) (N := 3) hx hb hts hinJx4a65c hown hI hf_3 rfl 1 (by decide) hw2 (fun _ h9 => h9) rfl dJx4a65c_add_9ea2d_13 ?_
  refine lv_aload_n hx hb dJx4a65c_add_9ea2d_16 rfl (lv_at hl 0 rfl) ?_
  refine g_get (ci := 0) (C := RJx4a65c) (T := TJx4a65c) (N := 3) hx hb hts hinJx4a65c hown hI hf_3 rfl 2 (by decide) hw3 (fun _ h9 => h9) rfl dJx4a65c_add_9ea2d_17 ?_
  refine g_callv hI (va_runV (As := [.ref q, .ref de, .int 0]) (rest := []) ⟨hx, hb, hml, hown, hts⟩ (c_add3F l D cy de f_1 a (mc0 + 1) q ci qs rc hf_3 hf_4 hrc hca hqa H.size) (cwV 3 hts gJx4a65c_add_9ea2d_Jx4a65c_add_72be8 rfl rfl rfl (by decide +kernel) ⟨Nat.le_of_ble_eq_true rfl, Nat.le_of_ble_eq_true rfl⟩) (g_preV hI hf_3 rfl) rfl rfl hl.1 rfl (lv_room (Nat.le_of_ble_eq_true rfl)) dJx4a65c_add_9ea2d_20 ⟨Nat.le_of_ble_eq_true rfl, Nat.le_of_ble_eq_true rfl⟩) (fun f_6 H locs hw_7 hI => ?_)
  obtain ⟨q_11, hq_12, e_8⟩ := hw_7
  have hn_13 : a ≠ q_11 := g_nn hf_3 hq_12
  have hn_14 : q ≠ q_11 := g_nn hf_4 hq_12
  obtain ⟨f_9, e_10⟩ : ∃ z, z = va_up f_1 q_11 (some (.inl (cy 5, 10, .inr (.inr (.inr (.inr (va_up (fun _ => none) (ix 0) (some q)))))))) := ⟨_, rfl⟩
  rw [← e_10] at e_8
  have e_10 : f_9 = va_up f_1 q_11 (some (.inl (cy 5, 10, .inr (.inr (.inr (.inr (va_up (fun _ => none) (ix 0) (some q)))))))) := e_10
  have hf_15 : f_9 q_11 = some (.inl (cy 5, 10, .inr (.inr (.inr (.inr (va_up (fun _ => none) (ix 0) (some q))))))) := by rw [e_10]; exact va_up_self _ _ _
  have hf_16 : f_9 a = some (.inr (0, [.int (mc0 + 1), .ref de, .int 0])) := by rw [e_10, va_up_ne _ _ (hn_13)]; exact hf_3
  have hf_17 : f_9 q = some (.inr (ci, qs)) := by rw [e_10, va_up_ne _ _ (hn_14)]; exact hf_4
  have e_8 : f_6 = va_up f_9 a (some (.inr (0, [.int (mc0 + 1), .ref q_11, .int (0 + 1)]))) := e_8
  have hf_18 : f_6 a = some (.inr (0, [.int (mc0 + 1), .ref q_11, .int (0 + 1)])) := by rw [e_8]; exact va_up_self _ _ _
  have hf_19 : f_6 q = some (.inr (ci, qs)) := by rw [e_8, va_up_ne _ _ (hqa)]; exact hf_17
  have hf_20 : f_6 q_11 = some (.inl (cy 5, 10, .inr (.inr (.inr (.inr (va_up (fun _ => none) (ix 0) (some q))))))) := by rw [e_8, va_up_ne _ _ ((Ne.symm hn_13))]; exact hf_15
  refine lv_iconst (v := 1) hx hb dJx4a65c_add_9ea2d_23 (by decide) ?_
  exact g_zret hx hb hr hlocks hI rfl ⟨rfl, ⟨q_11, (g_frU e_2 hq_12), (by rw [e_8, e_10, e_2] <;> simp only [g_u3, g_uu])⟩⟩ (Nat.le_of_ble_eq_true rfl) (Nat.le_of_ble_eq_true rfl) dJx4a65c_add_9ea2d_24

set_option maxHeartbeats 4000000 in
set_option maxRecDepth 100000 in
theorem c_addR (l : Launch) (D : va_G) (cy : Nat → ClassId) (de : Nat) (f : gFm) (a : Nat) (mc0 : Int32) (ek : Nat) (cap : Nat) (y : Nat → Option Nat) (n : Nat) (q : Nat) (ci : Nat) (qs : List Value) (rc : vw_C) (ha : f a = some (.inr (0, [.int mc0, .ref ek, .int (nI n)]))) (hek : f ek = some (.inl (cy 5, cap, .inr (.inr (.inr (.inr y)))))) (hq : f q = some (.inr (ci, qs))) (hrc : vwCl[ci]? = some rc) (hca : (rc.1, "java/lang/Object") ∈ gCs) (hqa : q ≠ a) (hn1 : n < cap) (hn2 : cap ≤ 1000) (hqe : q ≠ ek) : gMi l yJx4a65c_add_9ea2d wsJx4a65c_add_9ea2d { frames := 6, cells := 1, slots := 200, locals := 190 } D cy de [.ref a, .ref q] f (fun r9 f9 => r9 = 1 ∧ f9 = va_up (va_up f ek (some (.inl (cy 5, cap, .inr (.inr (.inr (.inr (va_up y (ix (nI n)) (some q))))))))) a (some (.inr (0, [.int (mc0 + 1), .ref ek, .int (nI n + 1)])))) 1 200 := by
  refine fun sz => Met.ofW (cc := cJx4a65c_add_9ea2d) (maxL := 2) (ret := (some .boolean)) (by decide) rfl ?_
  intro p e s m args below meth c s₁ B hml hv
  obtain ⟨rfl, hv⟩ := hv
  obtain ⟨rfl, hI⟩ := gP_I hv
  have hx := B.exec
  have hb := B.bytes
  have hr := B.returns
  have hts := atoms_spec (ws := wsJx4a65c_add_9ea2d) B.pre
  have hown : s.vm.findClass RJx4a65c = some m.cls := findClass_of_methodNamed B.named
  have hlocks := B.notSynchronized
  have hinJx4a65c : ∀ w ∈ wsJx4a65c0, w ∈ wsJx4a65c_add_9ea2d := by decide +kernel
  have hw0 := hts (.sameField "java/util/ArrayList" "java/util/AbstractList" "modCount" "I") (by decide +kernel)
  have hw1 := hts (.fieldLink RJx4a65c 63 "java/util/ArrayList" "modCount" "I") (by decide +kernel)
  have hw2 := hts (.fieldLink RJx4a65c 9 "java/util/ArrayList" "elementData" "[Ljava/lang/Object;") (by decide +kernel)
  have hw3 := hts (.fieldLink RJx4a65c 48 "java/util/ArrayList" "size" "I") (by decide +kernel)
  have hl := lv_entry ([.ref a, .ref q]) (n := 2) (Nat.le_of_ble_eq_true rfl)
  rw [lg_entry_eq]
  generalize (lg_sl ([.ref a, .ref q]) ++ List.replicate (2 - (lg_sl ([.ref a, .ref q])).length) Slot.unset).toArray = ls at hl ⊢
  have hl : lv_has ls 2 [(0, .ref a), (1, .ref q)] := hl
  have hea : ek ≠ a := g_neA ha hek
  refine lv_aload_n hx hb dJx4a65c_add_9ea2d_0 rfl (lv_at hl 0 rfl) ?_
  refine lv_dup hx hb dJx4a65c_add_9ea2d_1 rfl ?_
  refine g_get (ci := 0) (C := RJx4a65c) (T := TJx4a65c) (N := 3) hx hb hts hinJx4a65c hown hI ha rfl 0 (by decide) hw1 (u_same hw0) rfl dJx4a65c_add_9ea2d_2 ?_
  refine lv_iconst (v := 1) hx hb dJx4a65c_add_9ea2d_5 (by decide) ?_
  refine lv_iadd hx hb dJx4a65c_add_9ea2d_6 ?_
  refine g_put (ci := 0) (v := .int (mc0 + 1)) (ty := .int) (C := RJx4a65c) (T := TJx4a65c) (N := 3) hx hb hts hinJx4a65c tyJx4a65c tyJx4a65c_ok nmJx4a65c hown hI ha rfl 0 (by decide) hw1 (u_same hw0) rfl (by decide +kernel) rfl rfl (Nat.le_of_ble_eq_true rfl) dJx4a65c_add_9ea2d_7 (fun f_1 H locs e_2 hI => ?_)
  have e_2 : f_1 = va_up f a (some (.inr (0, [.int (mc0 + 1), .ref ek, .int (nI n)]))) := e_2
  have hf_3 : f_1 a = some (.inr (0, [.int (mc0 + 1), .ref ek, .int (nI n)])) := by rw [e_2]; exact va_up_self _ _ _
  have hf_4 : f_1 ek = some (.inl (cy 5, cap, .inr (.inr (.inr (.inr y))))) := by rw [e_2, va_up_ne _ _ (hea)]; exact hek
  have hf_5 : f_1 q = some (.inr (ci, qs)) := by rw [e_2, va_up_ne _ _ (hqa)]; exact hq
  refine lv_aload_n hx hb dJx4a65c_add_9ea2d_10 rfl (lv_at hl 0 rfl) ?_
  refine lv_aload_n hx hb dJx4a65c_add_9ea2d_11 rfl (lv_at hl 1 rfl) ?_
  refine lv_aload_n hx hb dJx4a65c_add_9ea2d_12 rfl (lv_at hl 0 rfl) ?_
  refine g_get (ci := 0) (C := RJx4a65c) (T := TJx4a65c) (N := 3) hx hb hts hinJx4a65c hown hI hf_3 rfl 1 (by decide) hw2 (fun _ h9 => h9) rfl dJx4a65c_add_9ea2d_13 ?_
  refine lv_aload_n hx hb dJx4a65c_add_9ea2d_16 rfl (lv_at hl 0 rfl) ?_
  refine g_get (ci := 0) (C := RJx4a65c) (T := TJx4a65c) (N := 3) hx hb hts hinJx4a65c hown hI hf_3 rfl 2 (by decide) hw3 (fun _ h9 => h9) rfl dJx4a65c_add_9ea2d_17 ?_
  refine g_callv hI (va_runV (As := [.ref q, .ref ek, .int (nI n)]) (rest := []) ⟨hx, hb, hml, hown, hts⟩ (c_add3R l D cy de f_1 a (mc0 + 1) ek cap y n q ci qs rc hf_3 hf_4 hf_5 hrc hca hqa hn1 hn2 hqe H.size) (cwV 3 hts gJx4a65c_add_9ea2d_Jx4a65c_add_72be8 rfl rfl rfl (by decide +kernel) ⟨Nat.le_of_ble_eq_true rfl, Nat.le_of_ble_eq_true rfl⟩) (g_preV hI hf_3 rfl) rfl rfl hl.1 rfl (lv_room (Nat.le_of_ble_eq_true rfl)) dJx4a65c_add_9ea2d_20 ⟨Nat.le_of_ble_eq_true rfl, Nat.le_of_ble_eq_true rfl⟩) (fun f_7 H locs hw_8 hI => ?_)
  have e_9 := hw_8
  obtain ⟨f_10, e_11⟩ : ∃ z, z = va_up f_1 ek (some (.inl (cy 5, cap, .inr (.inr (.inr (.inr (va_up y (ix (nI n)) (some q)))))))) := ⟨_, rfl⟩
  rw [← e_11] at e_9
  have e_11 : f_10 = va_up f_1 ek (some (.inl (cy 5, cap, .inr (.inr (.inr (.inr (va_up y (ix (nI n)) (some q)))))))) := e_11
  have hf_12 : f_10 ek = some (.inl (cy 5, cap, .inr (.inr (.inr (.inr (va_up y (ix (nI n)) (some q))))))) := by rw [e_11]; exact va_up_self _ _ _
  have hf_13 : f_10 a = some (.inr (0, [.int (mc0 + 1), .ref ek, .int (nI n)])) := by rw [e_11, va_up_ne _ _ ((Ne.symm hea))]; exact hf_3
  have hf_14 : f_10 q = some (.inr (ci, qs)) := by rw [e_11, va_up_ne _ _ (hqe)]; exact hf_5
  have e_9 : f_7 = va_up f_10 a (some (.inr (0, [.int (mc0 + 1), .ref ek, .int (nI n + 1)]))) := e_9
  have hf_15 : f_7 a = some (.inr (0, [.int (mc0 + 1), .ref ek, .int (nI n + 1)])) := by rw [e_9]; exact va_up_self _ _ _
  have hf_16 : f_7 ek = some (.inl (cy 5, cap, .inr (.inr (.inr (.inr (va_up y (ix (nI n)) (some q))))))) := by rw [e_9, va_up_ne _ _ (hea)]; exact hf_12
  have hf_17 : f_7 q = some (.inr (ci, qs)) := by rw [e_9, va_up_ne _ _ (hqa)]; exact hf_14
  refine lv_iconst (v := 1) hx hb dJx4a65c_add_9ea2d_23 (by decide) ?_
  exact g_zret hx hb hr hlocks hI rfl ⟨rfl, (by rw [e_9, e_11, e_2] <;> simp only [g_u3, g_uu])⟩ (Nat.le_of_ble_eq_true rfl) (Nat.le_of_ble_eq_true rfl) dJx4a65c_add_9ea2d_24

set_option maxHeartbeats 4000000 in
set_option maxRecDepth 100000 in
theorem c_addG (l : Launch) (D : va_G) (cy : Nat → ClassId) (de : Nat) (f : gFm) (a : Nat) (mc0 : Int32) (ek : Nat) (cap : Nat) (y : Nat → Option Nat) (q : Nat) (ci : Nat) (qs : List Value) (rc : vw_C) (ha : f a = some (.inr (0, [.int mc0, .ref ek, .int (nI cap)]))) (hek : f ek = some (.inl (cy 5, cap, .inr (.inr (.inr (.inr y)))))) (hq : f q = some (.inr (ci, qs))) (hrc : vwCl[ci]? = some rc) (hca : (rc.1, "java/lang/Object") ∈ gCs) (hqa : q ≠ a) (hb1 : 10 ≤ cap) (hb2 : cap ≤ 130) (hel : gEl f cap y) (hqe : q ≠ ek) : gMi l yJx4a65c_add_9ea2d wsJx4a65c_add_9ea2d { frames := 6, cells := 1, slots := 200, locals := 190 } D cy de [.ref a, .ref q] f (fun r9 f9 => r9 = 1 ∧ ∃ q1, f q1 = none ∧ f9 = va_up (va_up f q1 (some (.inl (cy 5, (cap + cap / 2), .inr (.inr (.inr (.inr (va_up (va_cpy y (fun _ => none) 0 0 cap) (ix (nI cap)) (some q))))))))) a (some (.inr (0, [.int (mc0 + 1), .ref q1, .int (nI cap + 1)])))) 1 200 := by
  refine fun sz => Met.ofW (cc := cJx4a65c_add_9ea2d) (maxL := 2) (ret := (some .boolean)) (by decide) rfl ?_
  intro p e s m args below meth c s₁ B hml hv
  obtain ⟨rfl, hv⟩ := hv
  obtain ⟨rfl, hI⟩ := gP_I hv
  have hx := B.exec
  have hb := B.bytes
  have hr := B.returns
  have hts := atoms_spec (ws := wsJx4a65c_add_9ea2d) B.pre
  have hown : s.vm.findClass RJx4a65c = some m.cls := findClass_of_methodNamed B.named
  have hlocks := B.notSynchronized
  have hinJx4a65c : ∀ w ∈ wsJx4a65c0, w ∈ wsJx4a65c_add_9ea2d := by decide +kernel
  have hw0 := hts (.sameField "java/util/ArrayList" "java/util/AbstractList" "modCount" "I") (by decide +kernel)
  have hw1 := hts (.fieldLink RJx4a65c 63 "java/util/ArrayList" "modCount" "I") (by decide +kernel)
  have hw2 := hts (.fieldLink RJx4a65c 9 "java/util/ArrayList" "elementData" "[Ljava/lang/Object;") (by decide +kernel)
  have hw3 := hts (.fieldLink RJx4a65c 48 "java/util/ArrayList" "size" "I") (by decide +kernel)
  have hl := lv_entry ([.ref a, .ref q]) (n := 2) (Nat.le_of_ble_eq_true rfl)
  rw [lg_entry_eq]
  generalize (lg_sl ([.ref a, .ref q]) ++ List.replicate (2 - (lg_sl ([.ref a, .ref q])).length) Slot.unset).toArray = ls at hl ⊢
  have hl : lv_has ls 2 [(0, .ref a), (1, .ref q)] := hl
  have hea : ek ≠ a := g_neA ha hek
  refine lv_aload_n hx hb dJx4a65c_add_9ea2d_0 rfl (lv_at hl 0 rfl) ?_
  refine lv_dup hx hb dJx4a65c_add_9ea2d_1 rfl ?_
  refine g_get (ci := 0) (C := RJx4a65c) (T := TJx4a65c) (N := 3) hx hb hts hinJx4a65c hown hI ha rfl 0 (by decide) hw1 (u_same hw0) rfl dJx4a65c_add_9ea2d_2 ?_
  refine lv_iconst (v := 1) hx hb dJx4a65c_add_9ea2d_5 (by decide) ?_
  refine lv_iadd hx hb dJx4a65c_add_9ea2d_6 ?_
  refine g_put (ci := 0) (v := .int (mc0 + 1)) (ty := .int) (C := RJx4a65c) (T := TJx4a65c) (N := 3) hx hb hts hinJx4a65c tyJx4a65c tyJx4a65c_ok nmJx4a65c hown hI ha rfl 0 (by decide) hw1 (u_same hw0) rfl (by decide +kernel) rfl rfl (Nat.le_of_ble_eq_true rfl) dJx4a65c_add_9ea2d_7 (fun f_1 H locs e_2 hI => ?_)
  have e_2 : f_1 = va_up f a (some (.inr (0, [.int (mc0 + 1), .ref ek, .int (nI cap)]))) := e_2
  have hf_3 : f_1 a = some (.inr (0, [.int (mc0 + 1), .ref ek, .int (nI cap)])) := by rw [e_2]; exact va_up_self _ _ _
  have hf_4 : f_1 ek = some (.inl (cy 5, cap, .inr (.inr (.inr (.inr y))))) := by rw [e_2, va_up_ne _ _ (hea)]; exact hek
  have hf_5 : f_1 q = some (.inr (ci, qs)) := by rw [e_2, va_up_ne _ _ (hqa)]; exact hq
  refine lv_aload_n hx hb dJx4a65c_add_9ea2d_10 rfl (lv_at hl 0 rfl) ?_
  refine lv_aload_n hx hb dJx4a65c_add_9ea2d_11 rfl (lv_at hl 1 rfl) ?_
  refine lv_aload_n hx hb dJx4a65c_add_9ea2d_12 rfl (lv_at hl 0 rfl) ?_
  refine g_get (ci := 0) (C := RJx4a65c) (T := TJx4a65c) (N := 3) hx hb hts hinJx4a65c hown hI hf_3 rfl 1 (by decide) hw2 (fun _ h9 => h9) rfl dJx4a65c_add_9ea2d_13 ?_
  refine lv_aload_n hx hb dJx4a65c_add_9ea2d_16 rfl (lv_at hl 0 rfl) ?_
  refine g_get (ci := 0) (C := RJx4a65c) (T := TJx4a65c) (N := 3) hx hb hts hinJx4a65c hown hI hf_3 rfl 2 (by decide) hw3 (fun _ h9 => h9) rfl dJx4a65c_add_9ea2d_17 ?_
  refine g_callv hI (va_runV (As := [.ref q, .ref ek, .int (nI cap)]) (rest := []) ⟨hx, hb, hml, hown, hts⟩ (c_add3G l D cy de f_1 a (mc0 + 1) ek cap y q ci qs rc hf_3 hf_4 hf_5 hrc hca hqa hb1 hb2 (gEl_list hel ha hf_3 (fun b hb => by rw [e_2]; exact va_up_ne _ _ hb)) hqe H.size) (cwV 3 hts gJx4a65c_add_9ea2d_Jx4a65c_add_72be8 rfl rfl rfl (by decide +kernel) ⟨Nat.le_of_ble_eq_true rfl, Nat.le_of_ble_eq_true rfl⟩) (g_preV hI hf_3 rfl) rfl rfl hl.1 rfl (lv_room (Nat.le_of_ble_eq_true rfl)) dJx4a65c_add_9ea2d_20 ⟨Nat.le_of_ble_eq_true rfl, Nat.le_of_ble_eq_true rfl⟩) (fun f_7 H locs hw_8 hI => ?_)
  obtain ⟨q_12, hq_13, e_9⟩ := hw_8
  have hn_14 : a ≠ q_12 := g_nn hf_3 hq_13
  have hn_15 : ek ≠ q_12 := g_nn hf_4 hq_13
  have hn_16 : q ≠ q_12 := g_nn hf_5 hq_13
  obtain ⟨f_10, e_11⟩ : ∃ z, z = va_up f_1 q_12 (some (.inl (cy 5, (cap + cap / 2), .inr (.inr (.inr (.inr (va_up (va_cpy y (fun _ => none) 0 0 cap) (ix (nI cap)) (some q)))))))) := ⟨_, rfl⟩
  rw [← e_11] at e_9
  have e_11 : f_10 = va_up f_1 q_12 (some (.inl (cy 5, (cap + cap / 2), .inr (.inr (.inr (.inr (va_up (va_cpy y (fun _ => none) 0 0 cap) (ix (nI cap)) (some q)))))))) := e_11
  have hf_17 : f_10 q_12 = some (.inl (cy 5, (cap + cap / 2), .inr (.inr (.inr (.inr (va_up (va_cpy y (fun _ => none) 0 0 cap) (ix (nI cap)) (some q))))))) := by rw [e_11]; exact va_up_self _ _ _
  have hf_18 : f_10 a = some (.inr (0, [.int (mc0 + 1), .ref ek, .int (nI cap)])) := by rw [e_11, va_up_ne _ _ (hn_14)]; exact hf_3
  have hf_19 : f_10 ek = some (.inl (cy 5, cap, .inr (.inr (.inr (.inr y))))) := by rw [e_11, va_up_ne _ _ (hn_15)]; exact hf_4
  have hf_20 : f_10 q = some (.inr (ci, qs)) := by rw [e_11, va_up_ne _ _ (hn_16)]; exact hf_5
  have e_9 : f_7 = va_up f_10 a (some (.inr (0, [.int (mc0 + 1), .ref q_12, .int (nI cap + 1)]))) := e_9
  have hf_21 : f_7 a = some (.inr (0, [.int (mc0 + 1), .ref q_12, .int (nI cap + 1)])) := by rw [e_9]; exact va_up_self _ _ _
  have hf_22 : f_7 ek = some (.inl (cy 5, cap, .inr (.inr (.inr (.inr y))))) := by rw [e_9, va_up_ne _ _ (hea)]; exact hf_19
  have hf_23 : f_7 q = some (.inr (ci, qs)) := by rw [e_9, va_up_ne _ _ (hqa)]; exact hf_20
  have hf_24 : f_7 q_12 = some (.inl (cy 5, (cap + cap / 2), .inr (.inr (.inr (.inr (va_up (va_cpy y (fun _ => none) 0 0 cap) (ix (nI cap)) (some q))))))) := by rw [e_9, va_up_ne _ _ ((Ne.symm hn_14))]; exact hf_17
  refine lv_iconst (v := 1) hx hb dJx4a65c_add_9ea2d_23 (by decide) ?_
  exact g_zret hx hb hr hlocks hI rfl ⟨rfl, ⟨q_12, (g_frU e_2 hq_13), (by rw [e_9, e_11, e_2] <;> simp only [g_u3, g_uu])⟩⟩ (Nat.le_of_ble_eq_true rfl) (Nat.le_of_ble_eq_true rfl) dJx4a65c_add_9ea2d_24
