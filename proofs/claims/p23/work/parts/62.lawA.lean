set_option maxHeartbeats 4000000 in
set_option maxRecDepth 100000 in
theorem c_L_setPlan (l : Launch) (hl0 : l.stackTraces = false) (D : va_G) (cy : Nat → ClassId) (de : Nat) (f : gFm) (N : gNm) (I : gMd) (plan : Int32) (size : Int32) (refill : Int32) (slow : Int32) (hR : gR cy de N I f) : gMi l yL_setPlan wsL_setPlan { frames := 8, cells := 4, slots := 24, locals := 129 } D cy de [.ref (N 0 0), .int plan, .int size, .int refill, .int slow] f (fun r9 f9 => (((fun E9 => (E9 = "java/lang/IllegalArgumentException" ∧ ¬ pI plan (4)) ∨ ∃ jplan, jplan < 4 ∧ plan = nI jplan ∧ ((E9 = "java/lang/IllegalArgumentException" ∧ ¬ (mIn size 1 100 = true)) ∨ (mIn size 1 100 = true) ∧ ((E9 = "java/lang/IllegalArgumentException" ∧ ¬ (mIn refill 0 100 = true)) ∨ (mIn refill 0 100 = true) ∧ (E9 = "java/lang/IllegalArgumentException" ∧ ¬ (mIn slow 0 refill = true))))) "java/lang/IllegalArgumentException") ∧ r9 = (-99999) ∧ f9 = f) ∨ (r9 = 0 ∧ (fun f9 => ∃ jplan, jplan < 4 ∧ plan = nI jplan ∧ (mIn size 1 100 = true) ∧ (mIn refill 0 100 = true) ∧ (mIn slow 0 refill = true) ∧ (gR cy de N (iP I jplan size refill slow) f9)) f9)) 4 24 := by
  refine gMi_of (fun sz => vx_ofWH (cc := cL_setPlan) (maxL := 6) (ret := (some .int)) (hh := [(0, 10, 11, 14)]) (by decide) rfl ?_)
  intro p e s m args below meth c s₁ B hml hv
  obtain ⟨rfl, hv⟩ := hv
  obtain ⟨rfl, hI⟩ := gP_I hv
  have hx := B.exec
  have hb := B.bytes
  have hr := B.returns
  have hts := atoms_spec (ws := wsL_setPlan) B.pre
  have htab : c.exceptionTable.toList = tableOf [(0, 10, 11, 14)] := vx_table (x := yL_setPlan) B (hts _ List.mem_cons_self)
  have hown : s.vm.findClass RL = some m.cls := findClass_of_methodNamed B.named
  have hlocks := B.notSynchronized
  have hw0 := hts (.classLink RL 14 "java/lang/IllegalArgumentException") (by decide +kernel)
  have hw1 := hts (.constant RL 16 (-99999)) (by decide +kernel)
  have hl := lv_entry ([.ref (N 0 0), .int plan, .int size, .int refill, .int slow]) (n := 6) (Nat.le_of_ble_eq_true rfl)
  rw [lg_entry_eq]
  generalize (lg_sl ([.ref (N 0 0), .int plan, .int size, .int refill, .int slow]) ++ List.replicate (6 - (lg_sl ([.ref (N 0 0), .int plan, .int size, .int refill, .int slow])).length) Slot.unset).toArray = ls at hl ⊢
  have hl : lv_has ls 6 [(0, .ref (N 0 0)), (1, .int plan), (2, .int size), (3, .int refill), (4, .int slow)] := hl
  refine lv_aload_n hx hb dL_setPlan_0 rfl (lv_at hl 0 rfl) ?_
  refine lv_iload_n hx hb dL_setPlan_1 rfl (lv_at hl 1 rfl) ?_
  refine lv_iload_n hx hb dL_setPlan_2 rfl (lv_at hl 2 rfl) ?_
  refine lv_iload_n hx hb dL_setPlan_3 rfl (lv_at hl 3 rfl) ?_
  refine lv_iload hx hb dL_setPlan_4 (lv_at hl 4 rfl) ?_
  refine gw_callv hI (vx_runV (As := [.int plan, .int size, .int refill, .int slow]) (rest := []) ⟨hx, hb, hml, hown, hts⟩ ((c_X4_setPlan l hl0 D cy de f N I plan size refill slow hR) s.heap.size) (cwV 4 hts gL_setPlan_X4_setPlan rfl rfl rfl (by decide +kernel) ⟨Nat.le_of_ble_eq_true rfl, Nat.le_of_ble_eq_true rfl⟩) (g_preV hI (gR_tg hR) rfl) rfl rfl hl.1 rfl (lv_room (Nat.le_of_ble_eq_true rfl)) dL_setPlan_6 ⟨Nat.le_of_ble_eq_true rfl, Nat.le_of_ble_eq_true rfl⟩) (fun E ce q9 H locs hp9 hI h91 h92 h93 => ?_) (fun f_1 H locs hw_2 hI => ?_)
  · have hE : E = "java/lang/IllegalArgumentException" := by
      rcases hp9 with ⟨e9, -⟩ | ⟨_, -, -, (⟨e9, -⟩ | ⟨-, (⟨e9, -⟩ | ⟨-, ⟨e9, -⟩⟩)⟩)⟩ <;> first | exact e9
    subst hE
    refine vx_catch hown [] ⟨0, 10, 11, 14⟩ [] (htab.trans rfl) (fun z hz => nomatch hz) (by decide) (by decide) hw0 (gE_ct hI.2.2.2.1 (q := ("java/lang/IllegalArgumentException", "java/lang/IllegalArgumentException")) (by decide)) h91 h92 h93 ?_
    refine lv_astore (lv' := [(5, .ref q9), (0, .ref (N 0 0)), (1, .int plan), (2, .int size), (3, .int refill), (4, .int slow)]) hx hb dL_setPlan_11 hl (by decide) rfl (fun ls hl => ?_)
    refine lv_ldc (v := -99999) hx hb hown hw1 dL_setPlan_13 ?_
    exact gx_iret hx hb hr hlocks hI (Or.inl ⟨hp9, rfl, rfl⟩) (Nat.le_of_ble_eq_true rfl) (Nat.le_of_ble_eq_true rfl) dL_setPlan_15
  · refine lv_iconst (v := 0) hx hb dL_setPlan_9 (by decide) ?_
    exact gx_iret hx hb hr hlocks hI (Or.inr (⟨rfl, hw_2⟩)) (Nat.le_of_ble_eq_true rfl) (Nat.le_of_ble_eq_true rfl) dL_setPlan_10

set_option maxHeartbeats 4000000 in
set_option maxRecDepth 100000 in
theorem c_L_setRoute (l : Launch) (hl0 : l.stackTraces = false) (D : va_G) (cy : Nat → ClassId) (de : Nat) (f : gFm) (N : gNm) (I : gMd) (route : Int32) (price : Int32) (weight : Int32) (hR : gR cy de N I f) : gMi l yL_setRoute wsL_setRoute { frames := 8, cells := 3, slots := 18, locals := 128 } D cy de [.ref (N 0 0), .int route, .int price, .int weight] f (fun r9 f9 => (((fun E9 => (E9 = "java/lang/IllegalArgumentException" ∧ ¬ pI route (6)) ∨ ∃ jroute, jroute < 6 ∧ route = nI jroute ∧ ((E9 = "java/lang/IllegalArgumentException" ∧ ¬ (mIn price 0 1000 = true)) ∨ (mIn price 0 1000 = true) ∧ (E9 = "java/lang/IllegalArgumentException" ∧ ¬ (mIn weight 1 20 = true)))) "java/lang/IllegalArgumentException") ∧ r9 = (-99999) ∧ f9 = f) ∨ (r9 = 0 ∧ (fun f9 => ∃ jroute, jroute < 6 ∧ route = nI jroute ∧ (mIn price 0 1000 = true) ∧ (mIn weight 1 20 = true) ∧ (gR cy de N (iRt I jroute price weight) f9)) f9)) 3 18 := by
  refine gMi_of (fun sz => vx_ofWH (cc := cL_setRoute) (maxL := 5) (ret := (some .int)) (hh := [(0, 8, 9, 14)]) (by decide) rfl ?_)
  intro p e s m args below meth c s₁ B hml hv
  obtain ⟨rfl, hv⟩ := hv
  obtain ⟨rfl, hI⟩ := gP_I hv
  have hx := B.exec
  have hb := B.bytes
  have hr := B.returns
  have hts := atoms_spec (ws := wsL_setRoute) B.pre
  have htab : c.exceptionTable.toList = tableOf [(0, 8, 9, 14)] := vx_table (x := yL_setRoute) B (hts _ List.mem_cons_self)
  have hown : s.vm.findClass RL = some m.cls := findClass_of_methodNamed B.named
  have hlocks := B.notSynchronized
  have hw0 := hts (.classLink RL 14 "java/lang/IllegalArgumentException") (by decide +kernel)
  have hw1 := hts (.constant RL 16 (-99999)) (by decide +kernel)
  have hl := lv_entry ([.ref (N 0 0), .int route, .int price, .int weight]) (n := 5) (Nat.le_of_ble_eq_true rfl)
  rw [lg_entry_eq]
  generalize (lg_sl ([.ref (N 0 0), .int route, .int price, .int weight]) ++ List.replicate (5 - (lg_sl ([.ref (N 0 0), .int route, .int price, .int weight])).length) Slot.unset).toArray = ls at hl ⊢
  have hl : lv_has ls 5 [(0, .ref (N 0 0)), (1, .int route), (2, .int price), (3, .int weight)] := hl
  refine lv_aload_n hx hb dL_setRoute_0 rfl (lv_at hl 0 rfl) ?_
  refine lv_iload_n hx hb dL_setRoute_1 rfl (lv_at hl 1 rfl) ?_
  refine lv_iload_n hx hb dL_setRoute_2 rfl (lv_at hl 2 rfl) ?_
  refine lv_iload_n hx hb dL_setRoute_3 rfl (lv_at hl 3 rfl) ?_
  refine gw_callv hI (vx_runV (As := [.int route, .int price, .int weight]) (rest := []) ⟨hx, hb, hml, hown, hts⟩ ((c_X4_setRoute l hl0 D cy de f N I route price weight hR) s.heap.size) (cwV 3 hts gL_setRoute_X4_setRoute rfl rfl rfl (by decide +kernel) ⟨Nat.le_of_ble_eq_true rfl, Nat.le_of_ble_eq_true rfl⟩) (g_preV hI (gR_tg hR) rfl) rfl rfl hl.1 rfl (lv_room (Nat.le_of_ble_eq_true rfl)) dL_setRoute_4 ⟨Nat.le_of_ble_eq_true rfl, Nat.le_of_ble_eq_true rfl⟩) (fun E ce q9 H locs hp9 hI h91 h92 h93 => ?_) (fun f_1 H locs hw_2 hI => ?_)
  · have hE : E = "java/lang/IllegalArgumentException" := by
      rcases hp9 with ⟨e9, -⟩ | ⟨_, -, -, (⟨e9, -⟩ | ⟨-, ⟨e9, -⟩⟩)⟩ <;> first | exact e9
    subst hE
    refine vx_catch hown [] ⟨0, 8, 9, 14⟩ [] (htab.trans rfl) (fun z hz => nomatch hz) (by decide) (by decide) hw0 (gE_ct hI.2.2.2.1 (q := ("java/lang/IllegalArgumentException", "java/lang/IllegalArgumentException")) (by decide)) h91 h92 h93 ?_
    refine lv_astore (lv' := [(4, .ref q9), (0, .ref (N 0 0)), (1, .int route), (2, .int price), (3, .int weight)]) hx hb dL_setRoute_9 hl (by decide) rfl (fun ls hl => ?_)
    refine lv_ldc (v := -99999) hx hb hown hw1 dL_setRoute_11 ?_
    exact gx_iret hx hb hr hlocks hI (Or.inl ⟨hp9, rfl, rfl⟩) (Nat.le_of_ble_eq_true rfl) (Nat.le_of_ble_eq_true rfl) dL_setRoute_13
  · refine lv_iconst (v := 0) hx hb dL_setRoute_7 (by decide) ?_
    exact gx_iret hx hb hr hlocks hI (Or.inr (⟨rfl, hw_2⟩)) (Nat.le_of_ble_eq_true rfl) (Nat.le_of_ble_eq_true rfl) dL_setRoute_8

set_option maxHeartbeats 4000000 in
set_option maxRecDepth 100000 in
theorem c_L_addKey (l : Launch) (hl0 : l.stackTraces = false) (D : va_G) (cy : Nat → ClassId) (de : Nat) (f : gFm) (N : gNm) (I : gMd) (plan : Int32) (hR : gR cy de N I f) : gMi l yL_addKey wsL_addKey { frames := 8, cells := 3, slots := 215, locals := 233 } D cy de [.ref (N 0 0), .int plan] f (fun r9 f9 => (((fun E9 => (E9 = "java/lang/IllegalArgumentException" ∧ ¬ pI plan (4)) ∨ ∃ jplan, jplan < 4 ∧ plan = nI jplan ∧ (E9 = "java/lang/IllegalStateException" ∧ ¬ (nI (N 0 7) < 8))) "java/lang/IllegalArgumentException") ∧ r9 = (-99999) ∧ f9 = f) ∨ (((fun E9 => (E9 = "java/lang/IllegalArgumentException" ∧ ¬ pI plan (4)) ∨ ∃ jplan, jplan < 4 ∧ plan = nI jplan ∧ (E9 = "java/lang/IllegalStateException" ∧ ¬ (nI (N 0 7) < 8))) "java/lang/IllegalStateException") ∧ r9 = (-99999) ∧ f9 = f) ∨ ((fun r9 f9 => ∃ jplan, jplan < 4 ∧ plan = nI jplan ∧ (nI (N 0 7) < 8) ∧ (∃ ek_40, ∃ q_15, r9 = nI (N 0 7) ∧ gR cy de (nKey N ek_40 q_15 jplan) (iK I (N 0 7) (I 2 jplan) 0 0 0 0 0 0 0) f9)) r9 f9)) 3 215 := by
  refine gMi_of (fun sz => vx_ofWH (cc := cL_addKey) (maxL := 3) (ret := (some .int)) (hh := [(0, 5, 6, 14), (0, 5, 10, 25)]) (by decide) rfl ?_)
  intro p e s m args below meth c s₁ B hml hv
  obtain ⟨rfl, hv⟩ := hv
  obtain ⟨rfl, hI⟩ := gP_I hv
  have hx := B.exec
  have hb := B.bytes
  have hr := B.returns
  have hts := atoms_spec (ws := wsL_addKey) B.pre
  have htab : c.exceptionTable.toList = tableOf [(0, 5, 6, 14), (0, 5, 10, 25)] := vx_table (x := yL_addKey) B (hts _ List.mem_cons_self)
  have hown : s.vm.findClass RL = some m.cls := findClass_of_methodNamed B.named
  have hlocks := B.notSynchronized
  have hw0 := hts (.classLink RL 14 "java/lang/IllegalArgumentException") (by decide +kernel)
  have hw1 := hts (.constant RL 16 (-99999)) (by decide +kernel)
  have hw2 := hts (.classLink RL 25 "java/lang/IllegalStateException") (by decide +kernel)
  have hl := lv_entry ([.ref (N 0 0), .int plan]) (n := 3) (Nat.le_of_ble_eq_true rfl)
  rw [lg_entry_eq]
  generalize (lg_sl ([.ref (N 0 0), .int plan]) ++ List.replicate (3 - (lg_sl ([.ref (N 0 0), .int plan])).length) Slot.unset).toArray = ls at hl ⊢
  have hl : lv_has ls 3 [(0, .ref (N 0 0)), (1, .int plan)] := hl
  refine lv_aload_n hx hb dL_addKey_0 rfl (lv_at hl 0 rfl) ?_
  refine lv_iload_n hx hb dL_addKey_1 rfl (lv_at hl 1 rfl) ?_
  refine gw_calli hI (vx_runV (As := [.int plan]) (rest := []) ⟨hx, hb, hml, hown, hts⟩ ((c_X4_addKey l hl0 D cy de f N I plan hR) s.heap.size) (cwV 1 hts gL_addKey_X4_addKey rfl rfl rfl (by decide +kernel) ⟨Nat.le_of_ble_eq_true rfl, Nat.le_of_ble_eq_true rfl⟩) (g_preV hI (gR_tg hR) rfl) rfl rfl hl.1 rfl (lv_room (Nat.le_of_ble_eq_true rfl)) dL_addKey_2 ⟨Nat.le_of_ble_eq_true rfl, Nat.le_of_ble_eq_true rfl⟩) (fun E ce q9 H locs hp9 hI h91 h92 h93 => ?_) (fun r_3 f_1 H locs hw_2 hI => ?_)
  · have hE : E = "java/lang/IllegalArgumentException" ∨ E = "java/lang/IllegalStateException" := by
      rcases hp9 with ⟨e9, -⟩ | ⟨_, -, -, ⟨e9, -⟩⟩ <;> first | exact e9 | exact Or.inl e9 | exact Or.inr e9 | exact Or.inr (Or.inl e9) | exact Or.inr (Or.inr e9)
    rcases hE with hE | hE
    · subst hE
      refine vx_catch hown [] ⟨0, 5, 6, 14⟩ [⟨0, 5, 10, 25⟩] (htab.trans rfl) (fun z hz => nomatch hz) (by decide) (by decide) hw0 (gE_ct hI.2.2.2.1 (q := ("java/lang/IllegalArgumentException", "java/lang/IllegalArgumentException")) (by decide)) h91 h92 h93 ?_
      refine lv_astore_n (lv' := [(2, .ref q9), (0, .ref (N 0 0)), (1, .int plan)]) hx hb dL_addKey_6 rfl hl (by decide) rfl (fun ls hl => ?_)
      refine lv_ldc (v := -99999) hx hb hown hw1 dL_addKey_7 ?_
      exact gx_iret hx hb hr hlocks hI (Or.inl ⟨hp9, rfl, rfl⟩) (Nat.le_of_ble_eq_true rfl) (Nat.le_of_ble_eq_true rfl) dL_addKey_9
    · subst hE
      refine vx_catch hown [⟨0, 5, 6, 14⟩] ⟨0, 5, 10, 25⟩ [] (htab.trans rfl) (fun z hz => by
          simp only [List.mem_cons, List.not_mem_nil, or_false] at hz
          rcases hz with rfl
          · exact Or.inr ⟨by decide, _, hw0, gE_nc hI.2.2.2.1 (q := ("java/lang/IllegalStateException", "java/lang/IllegalArgumentException")) (by decide)⟩) (by decide) (by decide) hw2 (gE_ct hI.2.2.2.1 (q := ("java/lang/IllegalStateException", "java/lang/IllegalStateException")) (by decide)) h91 h92 h93 ?_
      refine lv_astore_n (lv' := [(2, .ref q9), (0, .ref (N 0 0)), (1, .int plan)]) hx hb dL_addKey_10 rfl hl (by decide) rfl (fun ls hl => ?_)
      refine lv_ldc (v := -99999) hx hb hown hw1 dL_addKey_11 ?_
      exact gx_iret hx hb hr hlocks hI (Or.inr (Or.inl ⟨hp9, rfl, rfl⟩)) (Nat.le_of_ble_eq_true rfl) (Nat.le_of_ble_eq_true rfl) dL_addKey_13
  · exact gx_iret hx hb hr hlocks hI (Or.inr (Or.inr (hw_2))) (Nat.le_of_ble_eq_true rfl) (Nat.le_of_ble_eq_true rfl) dL_addKey_5

set_option maxHeartbeats 4000000 in
set_option maxRecDepth 100000 in
theorem c_L_setKeyPlan (l : Launch) (hl0 : l.stackTraces = false) (D : va_G) (cy : Nat → ClassId) (de : Nat) (f : gFm) (N : gNm) (I : gMd) (key : Int32) (plan : Int32) (hR : gR cy de N I f) : gMi l yL_setKeyPlan wsL_setKeyPlan { frames := 8, cells := 2, slots := 12, locals := 128 } D cy de [.ref (N 0 0), .int key, .int plan] f (fun r9 f9 => (((fun E9 => (E9 = "java/lang/IndexOutOfBoundsException" ∧ ¬ pI key (N 0 7)) ∨ ∃ jkey, jkey < N 0 7 ∧ key = nI jkey ∧ (E9 = "java/lang/IllegalArgumentException" ∧ ¬ pI plan (4))) "java/lang/IndexOutOfBoundsException") ∧ r9 = (-99999) ∧ f9 = f) ∨ (((fun E9 => (E9 = "java/lang/IndexOutOfBoundsException" ∧ ¬ pI key (N 0 7)) ∨ ∃ jkey, jkey < N 0 7 ∧ key = nI jkey ∧ (E9 = "java/lang/IllegalArgumentException" ∧ ¬ pI plan (4))) "java/lang/IllegalArgumentException") ∧ r9 = (-99999) ∧ f9 = f) ∨ ((fun r9 f9 => ∃ jkey, jkey < N 0 7 ∧ key = nI jkey ∧ ∃ jplan, jplan < 4 ∧ plan = nI jplan ∧ (r9 = nI (N 5 jkey) ∧ gR cy de (nPlan N jkey jplan) I f9)) r9 f9)) 2 12 := by
  refine gMi_of (fun sz => vx_ofWH (cc := cL_setKeyPlan) (maxL := 4) (ret := (some .int)) (hh := [(0, 6, 7, 31), (0, 6, 11, 14)]) (by decide) rfl ?_)
  intro p e s m args below meth c s₁ B hml hv
  obtain ⟨rfl, hv⟩ := hv
  obtain ⟨rfl, hI⟩ := gP_I hv
  have hx := B.exec
  have hb := B.bytes
  have hr := B.returns
  have hts := atoms_spec (ws := wsL_setKeyPlan) B.pre
  have htab : c.exceptionTable.toList = tableOf [(0, 6, 7, 31), (0, 6, 11, 14)] := vx_table (x := yL_setKeyPlan) B (hts _ List.mem_cons_self)
  have hown : s.vm.findClass RL = some m.cls := findClass_of_methodNamed B.named
  have hlocks := B.notSynchronized
  have hw0 := hts (.classLink RL 31 "java/lang/IndexOutOfBoundsException") (by decide +kernel)
  have hw1 := hts (.constant RL 16 (-99999)) (by decide +kernel)
  have hw2 := hts (.classLink RL 14 "java/lang/IllegalArgumentException") (by decide +kernel)
  have hl := lv_entry ([.ref (N 0 0), .int key, .int plan]) (n := 4) (Nat.le_of_ble_eq_true rfl)
  rw [lg_entry_eq]
  generalize (lg_sl ([.ref (N 0 0), .int key, .int plan]) ++ List.replicate (4 - (lg_sl ([.ref (N 0 0), .int key, .int plan])).length) Slot.unset).toArray = ls at hl ⊢
  have hl : lv_has ls 4 [(0, .ref (N 0 0)), (1, .int key), (2, .int plan)] := hl
  refine lv_aload_n hx hb dL_setKeyPlan_0 rfl (lv_at hl 0 rfl) ?_
  refine lv_iload_n hx hb dL_setKeyPlan_1 rfl (lv_at hl 1 rfl) ?_
  refine lv_iload_n hx hb dL_setKeyPlan_2 rfl (lv_at hl 2 rfl) ?_
  refine gw_calli hI (vx_runV (As := [.int key, .int plan]) (rest := []) ⟨hx, hb, hml, hown, hts⟩ ((c_X4_setKeyPlan l hl0 D cy de f N I key plan hR) s.heap.size) (cwV 2 hts gL_setKeyPlan_X4_setKeyPlan rfl rfl rfl (by decide +kernel) ⟨Nat.le_of_ble_eq_true rfl, Nat.le_of_ble_eq_true rfl⟩) (g_preV hI (gR_tg hR) rfl) rfl rfl hl.1 rfl (lv_room (Nat.le_of_ble_eq_true rfl)) dL_setKeyPlan_3 ⟨Nat.le_of_ble_eq_true rfl, Nat.le_of_ble_eq_true rfl⟩) (fun E ce q9 H locs hp9 hI h91 h92 h93 => ?_) (fun r_3 f_1 H locs hw_2 hI => ?_)
  · have hE : E = "java/lang/IndexOutOfBoundsException" ∨ E = "java/lang/IllegalArgumentException" := by
      rcases hp9 with ⟨e9, -⟩ | ⟨_, -, -, ⟨e9, -⟩⟩ <;> first | exact e9 | exact Or.inl e9 | exact Or.inr e9 | exact Or.inr (Or.inl e9) | exact Or.inr (Or.inr e9)
    rcases hE with hE | hE
    · subst hE
      refine vx_catch hown [] ⟨0, 6, 7, 31⟩ [⟨0, 6, 11, 14⟩] (htab.trans rfl) (fun z hz => nomatch hz) (by decide) (by decide) hw0 (gE_ct hI.2.2.2.1 (q := ("java/lang/IndexOutOfBoundsException", "java/lang/IndexOutOfBoundsException")) (by decide)) h91 h92 h93 ?_
      refine lv_astore_n (lv' := [(3, .ref q9), (0, .ref (N 0 0)), (1, .int key), (2, .int plan)]) hx hb dL_setKeyPlan_7 rfl hl (by decide) rfl (fun ls hl => ?_)
      refine lv_ldc (v := -99999) hx hb hown hw1 dL_setKeyPlan_8 ?_
      exact gx_iret hx hb hr hlocks hI (Or.inl ⟨hp9, rfl, rfl⟩) (Nat.le_of_ble_eq_true rfl) (Nat.le_of_ble_eq_true rfl) dL_setKeyPlan_10
    · subst hE
      refine vx_catch hown [⟨0, 6, 7, 31⟩] ⟨0, 6, 11, 14⟩ [] (htab.trans rfl) (fun z hz => by
          simp only [List.mem_cons, List.not_mem_nil, or_false] at hz
          rcases hz with rfl
          · exact Or.inr ⟨by decide, _, hw0, gE_nc hI.2.2.2.1 (q := ("java/lang/IllegalArgumentException", "java/lang/IndexOutOfBoundsException")) (by decide)⟩) (by decide) (by decide) hw2 (gE_ct hI.2.2.2.1 (q := ("java/lang/IllegalArgumentException", "java/lang/IllegalArgumentException")) (by decide)) h91 h92 h93 ?_
      refine lv_astore_n (lv' := [(3, .ref q9), (0, .ref (N 0 0)), (1, .int key), (2, .int plan)]) hx hb dL_setKeyPlan_11 rfl hl (by decide) rfl (fun ls hl => ?_)
      refine lv_ldc (v := -99999) hx hb hown hw1 dL_setKeyPlan_12 ?_
      exact gx_iret hx hb hr hlocks hI (Or.inr (Or.inl ⟨hp9, rfl, rfl⟩)) (Nat.le_of_ble_eq_true rfl) (Nat.le_of_ble_eq_true rfl) dL_setKeyPlan_14
  · exact gx_iret hx hb hr hlocks hI (Or.inr (Or.inr (hw_2))) (Nat.le_of_ble_eq_true rfl) (Nat.le_of_ble_eq_true rfl) dL_setKeyPlan_6

set_option maxHeartbeats 4000000 in
set_option maxRecDepth 100000 in
theorem c_L_setTrust (l : Launch) (hl0 : l.stackTraces = false) (D : va_G) (cy : Nat → ClassId) (de : Nat) (f : gFm) (N : gNm) (I : gMd) (key : Int32) (line : Int32) (hR : gR cy de N I f) : gMi l yL_setTrust wsL_setTrust { frames := 8, cells := 2, slots := 12, locals := 128 } D cy de [.ref (N 0 0), .int key, .int line] f (fun r9 f9 => (((fun E9 => (E9 = "java/lang/IndexOutOfBoundsException" ∧ ¬ pI key (N 0 7)) ∨ ∃ jkey, jkey < N 0 7 ∧ key = nI jkey ∧ (E9 = "java/lang/IllegalArgumentException" ∧ ¬ (mIn line 0 10000 = true))) "java/lang/IndexOutOfBoundsException") ∧ r9 = (-99999) ∧ f9 = f) ∨ (((fun E9 => (E9 = "java/lang/IndexOutOfBoundsException" ∧ ¬ pI key (N 0 7)) ∨ ∃ jkey, jkey < N 0 7 ∧ key = nI jkey ∧ (E9 = "java/lang/IllegalArgumentException" ∧ ¬ (mIn line 0 10000 = true))) "java/lang/IllegalArgumentException") ∧ r9 = (-99999) ∧ f9 = f) ∨ ((fun r9 f9 => ∃ jkey, jkey < N 0 7 ∧ key = nI jkey ∧ (mIn line 0 10000 = true) ∧ (r9 = I 8 jkey ∧ gR cy de N (iK I jkey (I 7 jkey) line (I 9 jkey) (I 10 jkey) (I 11 jkey) (I 12 jkey) (I 13 jkey) (I 14 jkey)) f9)) r9 f9)) 2 12 := by
  refine gMi_of (fun sz => vx_ofWH (cc := cL_setTrust) (maxL := 4) (ret := (some .int)) (hh := [(0, 6, 7, 31), (0, 6, 11, 14)]) (by decide) rfl ?_)
  intro p e s m args below meth c s₁ B hml hv
  obtain ⟨rfl, hv⟩ := hv
  obtain ⟨rfl, hI⟩ := gP_I hv
  have hx := B.exec
  have hb := B.bytes
  have hr := B.returns
  have hts := atoms_spec (ws := wsL_setTrust) B.pre
  have htab : c.exceptionTable.toList = tableOf [(0, 6, 7, 31), (0, 6, 11, 14)] := vx_table (x := yL_setTrust) B (hts _ List.mem_cons_self)
  have hown : s.vm.findClass RL = some m.cls := findClass_of_methodNamed B.named
  have hlocks := B.notSynchronized
  have hw0 := hts (.classLink RL 31 "java/lang/IndexOutOfBoundsException") (by decide +kernel)
  have hw1 := hts (.constant RL 16 (-99999)) (by decide +kernel)
  have hw2 := hts (.classLink RL 14 "java/lang/IllegalArgumentException") (by decide +kernel)
  have hl := lv_entry ([.ref (N 0 0), .int key, .int line]) (n := 4) (Nat.le_of_ble_eq_true rfl)
  rw [lg_entry_eq]
  generalize (lg_sl ([.ref (N 0 0), .int key, .int line]) ++ List.replicate (4 - (lg_sl ([.ref (N 0 0), .int key, .int line])).length) Slot.unset).toArray = ls at hl ⊢
  have hl : lv_has ls 4 [(0, .ref (N 0 0)), (1, .int key), (2, .int line)] := hl
  refine lv_aload_n hx hb dL_setTrust_0 rfl (lv_at hl 0 rfl) ?_
  refine lv_iload_n hx hb dL_setTrust_1 rfl (lv_at hl 1 rfl) ?_
  refine lv_iload_n hx hb dL_setTrust_2 rfl (lv_at hl 2 rfl) ?_
  refine gw_calli hI (vx_runV (As := [.int key, .int line]) (rest := []) ⟨hx, hb, hml, hown, hts⟩ ((c_X4_setTrust l hl0 D cy de f N I key line hR) s.heap.size) (cwV 2 hts gL_setTrust_X4_setTrust rfl rfl rfl (by decide +kernel) ⟨Nat.le_of_ble_eq_true rfl, Nat.le_of_ble_eq_true rfl⟩) (g_preV hI (gR_tg hR) rfl) rfl rfl hl.1 rfl (lv_room (Nat.le_of_ble_eq_true rfl)) dL_setTrust_3 ⟨Nat.le_of_ble_eq_true rfl, Nat.le_of_ble_eq_true rfl⟩) (fun E ce q9 H locs hp9 hI h91 h92 h93 => ?_) (fun r_3 f_1 H locs hw_2 hI => ?_)
  · have hE : E = "java/lang/IndexOutOfBoundsException" ∨ E = "java/lang/IllegalArgumentException" := by
      rcases hp9 with ⟨e9, -⟩ | ⟨_, -, -, ⟨e9, -⟩⟩ <;> first | exact e9 | exact Or.inl e9 | exact Or.inr e9 | exact Or.inr (Or.inl e9) | exact Or.inr (Or.inr e9)
    rcases hE with hE | hE
    · subst hE
      refine vx_catch hown [] ⟨0, 6, 7, 31⟩ [⟨0, 6, 11, 14⟩] (htab.trans rfl) (fun z hz => nomatch hz) (by decide) (by decide) hw0 (gE_ct hI.2.2.2.1 (q := ("java/lang/IndexOutOfBoundsException", "java/lang/IndexOutOfBoundsException")) (by decide)) h91 h92 h93 ?_
      refine lv_astore_n (lv' := [(3, .ref q9), (0, .ref (N 0 0)), (1, .int key), (2, .int line)]) hx hb dL_setTrust_7 rfl hl (by decide) rfl (fun ls hl => ?_)
      refine lv_ldc (v := -99999) hx hb hown hw1 dL_setTrust_8 ?_
      exact gx_iret hx hb hr hlocks hI (Or.inl ⟨hp9, rfl, rfl⟩) (Nat.le_of_ble_eq_true rfl) (Nat.le_of_ble_eq_true rfl) dL_setTrust_10
    · subst hE
      refine vx_catch hown [⟨0, 6, 7, 31⟩] ⟨0, 6, 11, 14⟩ [] (htab.trans rfl) (fun z hz => by
          simp only [List.mem_cons, List.not_mem_nil, or_false] at hz
          rcases hz with rfl
          · exact Or.inr ⟨by decide, _, hw0, gE_nc hI.2.2.2.1 (q := ("java/lang/IllegalArgumentException", "java/lang/IndexOutOfBoundsException")) (by decide)⟩) (by decide) (by decide) hw2 (gE_ct hI.2.2.2.1 (q := ("java/lang/IllegalArgumentException", "java/lang/IllegalArgumentException")) (by decide)) h91 h92 h93 ?_
      refine lv_astore_n (lv' := [(3, .ref q9), (0, .ref (N 0 0)), (1, .int key), (2, .int line)]) hx hb dL_setTrust_11 rfl hl (by decide) rfl (fun ls hl => ?_)
      refine lv_ldc (v := -99999) hx hb hown hw1 dL_setTrust_12 ?_
      exact gx_iret hx hb hr hlocks hI (Or.inr (Or.inl ⟨hp9, rfl, rfl⟩)) (Nat.le_of_ble_eq_true rfl) (Nat.le_of_ble_eq_true rfl) dL_setTrust_14
  · exact gx_iret hx hb hr hlocks hI (Or.inr (Or.inr (hw_2))) (Nat.le_of_ble_eq_true rfl) (Nat.le_of_ble_eq_true rfl) dL_setTrust_6

set_option maxHeartbeats 4000000 in
set_option maxRecDepth 100000 in
theorem c_L_pay (l : Launch) (hl0 : l.stackTraces = false) (D : va_G) (cy : Nat → ClassId) (de : Nat) (f : gFm) (N : gNm) (I : gMd) (key : Int32) (money : Int32) (hR : gR cy de N I f) : gMi l yL_pay wsL_pay { frames := 8, cells := 2, slots := 12, locals := 127 } D cy de [.ref (N 0 0), .int key, .int money] f (fun r9 f9 => (((fun E9 => (E9 = "java/lang/IndexOutOfBoundsException" ∧ ¬ pI key (N 0 7)) ∨ ∃ jkey, jkey < N 0 7 ∧ key = nI jkey ∧ (E9 = "java/lang/IllegalArgumentException" ∧ ¬ (mIn money 1 100000 = true))) "java/lang/IndexOutOfBoundsException") ∧ r9 = (-99999) ∧ f9 = f) ∨ (((fun E9 => (E9 = "java/lang/IndexOutOfBoundsException" ∧ ¬ pI key (N 0 7)) ∨ ∃ jkey, jkey < N 0 7 ∧ key = nI jkey ∧ (E9 = "java/lang/IllegalArgumentException" ∧ ¬ (mIn money 1 100000 = true))) "java/lang/IllegalArgumentException") ∧ r9 = (-99999) ∧ f9 = f) ∨ ((fun r9 f9 => ∃ jkey, jkey < N 0 7 ∧ key = nI jkey ∧ (mIn money 1 100000 = true) ∧ (r9 = (I 9 jkey) + (money - (if money < (I 10 jkey) then money else (I 10 jkey))) ∧ gR cy de N (iK I jkey (I 7 jkey) (I 8 jkey) ((I 9 jkey) + (money - (if money < (I 10 jkey) then money else (I 10 jkey)))) ((I 10 jkey) - (if money < (I 10 jkey) then money else (I 10 jkey))) (I 11 jkey) (I 12 jkey) (I 13 jkey) ((I 14 jkey) + money)) f9)) r9 f9)) 2 12 := by
  refine gMi_of (fun sz => vx_ofWH (cc := cL_pay) (maxL := 4) (ret := (some .int)) (hh := [(0, 6, 7, 31), (0, 6, 11, 14)]) (by decide) rfl ?_)
  intro p e s m args below meth c s₁ B hml hv
  obtain ⟨rfl, hv⟩ := hv
  obtain ⟨rfl, hI⟩ := gP_I hv
  have hx := B.exec
  have hb := B.bytes
  have hr := B.returns
  have hts := atoms_spec (ws := wsL_pay) B.pre
  have htab : c.exceptionTable.toList = tableOf [(0, 6, 7, 31), (0, 6, 11, 14)] := vx_table (x := yL_pay) B (hts _ List.mem_cons_self)
  have hown : s.vm.findClass RL = some m.cls := findClass_of_methodNamed B.named
  have hlocks := B.notSynchronized
  have hw0 := hts (.classLink RL 31 "java/lang/IndexOutOfBoundsException") (by decide +kernel)
  have hw1 := hts (.constant RL 16 (-99999)) (by decide +kernel)
  have hw2 := hts (.classLink RL 14 "java/lang/IllegalArgumentException") (by decide +kernel)
  have hl := lv_entry ([.ref (N 0 0), .int key, .int money]) (n := 4) (Nat.le_of_ble_eq_true rfl)
  rw [lg_entry_eq]
  generalize (lg_sl ([.ref (N 0 0), .int key, .int money]) ++ List.replicate (4 - (lg_sl ([.ref (N 0 0), .int key, .int money])).length) Slot.unset).toArray = ls at hl ⊢
  have hl : lv_has ls 4 [(0, .ref (N 0 0)), (1, .int key), (2, .int money)] := hl
  refine lv_aload_n hx hb dL_pay_0 rfl (lv_at hl 0 rfl) ?_
  refine lv_iload_n hx hb dL_pay_1 rfl (lv_at hl 1 rfl) ?_
  refine lv_iload_n hx hb dL_pay_2 rfl (lv_at hl 2 rfl) ?_
  refine gw_calli hI (vx_runV (As := [.int key, .int money]) (rest := []) ⟨hx, hb, hml, hown, hts⟩ ((c_X4_pay l hl0 D cy de f N I key money hR) s.heap.size) (cwV 2 hts gL_pay_X4_pay rfl rfl rfl (by decide +kernel) ⟨Nat.le_of_ble_eq_true rfl, Nat.le_of_ble_eq_true rfl⟩) (g_preV hI (gR_tg hR) rfl) rfl rfl hl.1 rfl (lv_room (Nat.le_of_ble_eq_true rfl)) dL_pay_3 ⟨Nat.le_of_ble_eq_true rfl, Nat.le_of_ble_eq_true rfl⟩) (fun E ce q9 H locs hp9 hI h91 h92 h93 => ?_) (fun r_3 f_1 H locs hw_2 hI => ?_)
  · have hE : E = "java/lang/IndexOutOfBoundsException" ∨ E = "java/lang/IllegalArgumentException" := by
      rcases hp9 with ⟨e9, -⟩ | ⟨_, -, -, ⟨e9, -⟩⟩ <;> first | exact e9 | exact Or.inl e9 | exact Or.inr e9 | exact Or.inr (Or.inl e9) | exact Or.inr (Or.inr e9)
    rcases hE with hE | hE
    · subst hE
      refine vx_catch hown [] ⟨0, 6, 7, 31⟩ [⟨0, 6, 11, 14⟩] (htab.trans rfl) (fun z hz => nomatch hz) (by decide) (by decide) hw0 (gE_ct hI.2.2.2.1 (q := ("java/lang/IndexOutOfBoundsException", "java/lang/IndexOutOfBoundsException")) (by decide)) h91 h92 h93 ?_
      refine lv_astore_n (lv' := [(3, .ref q9), (0, .ref (N 0 0)), (1, .int key), (2, .int money)]) hx hb dL_pay_7 rfl hl (by decide) rfl (fun ls hl => ?_)
      refine lv_ldc (v := -99999) hx hb hown hw1 dL_pay_8 ?_
      exact gx_iret hx hb hr hlocks hI (Or.inl ⟨hp9, rfl, rfl⟩) (Nat.le_of_ble_eq_true rfl) (Nat.le_of_ble_eq_true rfl) dL_pay_10
    · subst hE
      refine vx_catch hown [⟨0, 6, 7, 31⟩] ⟨0, 6, 11, 14⟩ [] (htab.trans rfl) (fun z hz => by
          simp only [List.mem_cons, List.not_mem_nil, or_false] at hz
          rcases hz with rfl
          · exact Or.inr ⟨by decide, _, hw0, gE_nc hI.2.2.2.1 (q := ("java/lang/IllegalArgumentException", "java/lang/IndexOutOfBoundsException")) (by decide)⟩) (by decide) (by decide) hw2 (gE_ct hI.2.2.2.1 (q := ("java/lang/IllegalArgumentException", "java/lang/IllegalArgumentException")) (by decide)) h91 h92 h93 ?_
      refine lv_astore_n (lv' := [(3, .ref q9), (0, .ref (N 0 0)), (1, .int key), (2, .int money)]) hx hb dL_pay_11 rfl hl (by decide) rfl (fun ls hl => ?_)
      refine lv_ldc (v := -99999) hx hb hown hw1 dL_pay_12 ?_
      exact gx_iret hx hb hr hlocks hI (Or.inr (Or.inl ⟨hp9, rfl, rfl⟩)) (Nat.le_of_ble_eq_true rfl) (Nat.le_of_ble_eq_true rfl) dL_pay_14
  · exact gx_iret hx hb hr hlocks hI (Or.inr (Or.inr (hw_2))) (Nat.le_of_ble_eq_true rfl) (Nat.le_of_ble_eq_true rfl) dL_pay_6

set_option maxHeartbeats 4000000 in
set_option maxRecDepth 100000 in
theorem c_L_call (l : Launch) (hl0 : l.stackTraces = false) (D : va_G) (cy : Nat → ClassId) (de : Nat) (f : gFm) (N : gNm) (I : gMd) (key : Int32) (route : Int32) (size : Int32) (hR : gR cy de N I f) : gMi l yL_call wsL_call { frames := 8, cells := 5, slots := 225, locals := 237 } D cy de [.ref (N 0 0), .int key, .int route, .int size] f (fun r9 f9 => (((fun E9 => (E9 = "java/lang/IndexOutOfBoundsException" ∧ ¬ pI key (N 0 7)) ∨ ∃ jkey, jkey < N 0 7 ∧ key = nI jkey ∧ ((E9 = "java/lang/IllegalArgumentException" ∧ ¬ pI route (6)) ∨ ∃ jroute, jroute < 6 ∧ route = nI jroute ∧ ((E9 = "java/lang/IllegalArgumentException" ∧ ¬ (mIn size 1 9 = true)) ∨ (mIn size 1 9 = true) ∧ (E9 = "java/lang/IllegalStateException" ∧ ¬ (nI (N 0 8) < 80))))) "java/lang/IndexOutOfBoundsException") ∧ r9 = (-99999) ∧ f9 = f) ∨ (((fun E9 => (E9 = "java/lang/IndexOutOfBoundsException" ∧ ¬ pI key (N 0 7)) ∨ ∃ jkey, jkey < N 0 7 ∧ key = nI jkey ∧ ((E9 = "java/lang/IllegalArgumentException" ∧ ¬ pI route (6)) ∨ ∃ jroute, jroute < 6 ∧ route = nI jroute ∧ ((E9 = "java/lang/IllegalArgumentException" ∧ ¬ (mIn size 1 9 = true)) ∨ (mIn size 1 9 = true) ∧ (E9 = "java/lang/IllegalStateException" ∧ ¬ (nI (N 0 8) < 80))))) "java/lang/IllegalArgumentException") ∧ r9 = (-99999) ∧ f9 = f) ∨ (((fun E9 => (E9 = "java/lang/IndexOutOfBoundsException" ∧ ¬ pI key (N 0 7)) ∨ ∃ jkey, jkey < N 0 7 ∧ key = nI jkey ∧ ((E9 = "java/lang/IllegalArgumentException" ∧ ¬ pI route (6)) ∨ ∃ jroute, jroute < 6 ∧ route = nI jroute ∧ ((E9 = "java/lang/IllegalArgumentException" ∧ ¬ (mIn size 1 9 = true)) ∨ (mIn size 1 9 = true) ∧ (E9 = "java/lang/IllegalStateException" ∧ ¬ (nI (N 0 8) < 80))))) "java/lang/IllegalStateException") ∧ r9 = (-99999) ∧ f9 = f) ∨ ((fun r9 f9 => ∃ jkey, jkey < N 0 7 ∧ key = nI jkey ∧ ∃ jroute, jroute < 6 ∧ route = nI jroute ∧ (mIn size 1 9 = true) ∧ (nI (N 0 8) < 80) ∧ ((∃ ek_76, ∃ q_47, ((I 6 jroute) ≤ (I 7 jkey)) ∧ ((!decide ((I 9 jkey) + (if 0 < (I 8 jkey) - (I 10 jkey) then (I 8 jkey) - (I 10 jkey) else 0) < ((I 5 jroute) * size))) = true) ∧ r9 = 0 ∧ gR cy de (nCall N ek_76 q_47 jkey) (iC (iK I jkey ((I 7 jkey) - (I 6 jroute)) (I 8 jkey) ((I 9 jkey) - (if ((I 5 jroute) * size) < (I 9 jkey) then ((I 5 jroute) * size) else (I 9 jkey))) ((I 10 jkey) + (((I 5 jroute) * size) - (if ((I 5 jroute) * size) < (I 9 jkey) then ((I 5 jroute) * size) else (I 9 jkey)))) ((I 11 jkey) + ((I 5 jroute) * size)) ((I 12 jkey) + 1) (I 13 jkey) (I 14 jkey)) (N 0 8) ((I 5 jroute) * size) (I 6 jroute) ((I 0 0) + 20) (-1) 0 0) f9) ∨ (((I 6 jroute) ≤ (I 7 jkey)) ∧ ((!decide ((I 9 jkey) + (if 0 < (I 8 jkey) - (I 10 jkey) then (I 8 jkey) - (I 10 jkey) else 0) < ((I 5 jroute) * size))) = false) ∧ r9 = 2 ∧ f9 = f) ∨ ((¬ (I 6 jroute) ≤ (I 7 jkey)) ∧ r9 = 1 ∧ f9 = f))) r9 f9)) 5 225 := by
  refine gMi_of (fun sz => vx_ofWH (cc := cL_call) (maxL := 5) (ret := (some .int)) (hh := [(0, 7, 8, 31), (0, 7, 13, 14), (0, 7, 18, 25)]) (by decide) rfl ?_)
  intro p e s m args below meth c s₁ B hml hv
  obtain ⟨rfl, hv⟩ := hv
  obtain ⟨rfl, hI⟩ := gP_I hv
  have hx := B.exec
  have hb := B.bytes
  have hr := B.returns
  have hts := atoms_spec (ws := wsL_call) B.pre
  have htab : c.exceptionTable.toList = tableOf [(0, 7, 8, 31), (0, 7, 13, 14), (0, 7, 18, 25)] := vx_table (x := yL_call) B (hts _ List.mem_cons_self)
  have hown : s.vm.findClass RL = some m.cls := findClass_of_methodNamed B.named
  have hlocks := B.notSynchronized
  have hw0 := hts (.classLink RL 31 "java/lang/IndexOutOfBoundsException") (by decide +kernel)
  have hw1 := hts (.constant RL 16 (-99999)) (by decide +kernel)
  have hw2 := hts (.classLink RL 14 "java/lang/IllegalArgumentException") (by decide +kernel)
  have hw3 := hts (.classLink RL 25 "java/lang/IllegalStateException") (by decide +kernel)
  have hl := lv_entry ([.ref (N 0 0), .int key, .int route, .int size]) (n := 5) (Nat.le_of_ble_eq_true rfl)
  rw [lg_entry_eq]
  generalize (lg_sl ([.ref (N 0 0), .int key, .int route, .int size]) ++ List.replicate (5 - (lg_sl ([.ref (N 0 0), .int key, .int route, .int size])).length) Slot.unset).toArray = ls at hl ⊢
  have hl : lv_has ls 5 [(0, .ref (N 0 0)), (1, .int key), (2, .int route), (3, .int size)] := hl
  refine lv_aload_n hx hb dL_call_0 rfl (lv_at hl 0 rfl) ?_
  refine lv_iload_n hx hb dL_call_1 rfl (lv_at hl 1 rfl) ?_
  refine lv_iload_n hx hb dL_call_2 rfl (lv_at hl 2 rfl) ?_
  refine lv_iload_n hx hb dL_call_3 rfl (lv_at hl 3 rfl) ?_
  refine gw_calli hI (vx_runV (As := [.int key, .int route, .int size]) (rest := []) ⟨hx, hb, hml, hown, hts⟩ ((c_X4_call l hl0 D cy de f N I key route size hR) s.heap.size) (cwV 3 hts gL_call_X4_call rfl rfl rfl (by decide +kernel) ⟨Nat.le_of_ble_eq_true rfl, Nat.le_of_ble_eq_true rfl⟩) (g_preV hI (gR_tg hR) rfl) rfl rfl hl.1 rfl (lv_room (Nat.le_of_ble_eq_true rfl)) dL_call_4 ⟨Nat.le_of_ble_eq_true rfl, Nat.le_of_ble_eq_true rfl⟩) (fun E ce q9 H locs hp9 hI h91 h92 h93 => ?_) (fun r_3 f_1 H locs hw_2 hI => ?_)
  · have hE : E = "java/lang/IndexOutOfBoundsException" ∨ E = "java/lang/IllegalArgumentException" ∨ E = "java/lang/IllegalStateException" := by
      rcases hp9 with ⟨e9, -⟩ | ⟨_, -, -, (⟨e9, -⟩ | ⟨_, -, -, (⟨e9, -⟩ | ⟨-, ⟨e9, -⟩⟩)⟩)⟩ <;> first | exact e9 | exact Or.inl e9 | exact Or.inr e9 | exact Or.inr (Or.inl e9) | exact Or.inr (Or.inr e9)
    rcases hE with hE | hE | hE
    · subst hE
      refine vx_catch hown [] ⟨0, 7, 8, 31⟩ [⟨0, 7, 13, 14⟩, ⟨0, 7, 18, 25⟩] (htab.trans rfl) (fun z hz => nomatch hz) (by decide) (by decide) hw0 (gE_ct hI.2.2.2.1 (q := ("java/lang/IndexOutOfBoundsException", "java/lang/IndexOutOfBoundsException")) (by decide)) h91 h92 h93 ?_
      refine lv_astore (lv' := [(4, .ref q9), (0, .ref (N 0 0)), (1, .int key), (2, .int route), (3, .int size)]) hx hb dL_call_8 hl (by decide) rfl (fun ls hl => ?_)
      refine lv_ldc (v := -99999) hx hb hown hw1 dL_call_10 ?_
      exact gx_iret hx hb hr hlocks hI (Or.inl ⟨hp9, rfl, rfl⟩) (Nat.le_of_ble_eq_true rfl) (Nat.le_of_ble_eq_true rfl) dL_call_12
    · subst hE
      refine vx_catch hown [⟨0, 7, 8, 31⟩] ⟨0, 7, 13, 14⟩ [⟨0, 7, 18, 25⟩] (htab.trans rfl) (fun z hz => by
          simp only [List.mem_cons, List.not_mem_nil, or_false] at hz
          rcases hz with rfl
          · exact Or.inr ⟨by decide, _, hw0, gE_nc hI.2.2.2.1 (q := ("java/lang/IllegalArgumentException", "java/lang/IndexOutOfBoundsException")) (by decide)⟩) (by decide) (by decide) hw2 (gE_ct hI.2.2.2.1 (q := ("java/lang/IllegalArgumentException", "java/lang/IllegalArgumentException")) (by decide)) h91 h92 h93 ?_
      refine lv_astore (lv' := [(4, .ref q9), (0, .ref (N 0 0)), (1, .int key), (2, .int route), (3, .int size)]) hx hb dL_call_13 hl (by decide) rfl (fun ls hl => ?_)
      refine lv_ldc (v := -99999) hx hb hown hw1 dL_call_15 ?_
      exact gx_iret hx hb hr hlocks hI (Or.inr (Or.inl ⟨hp9, rfl, rfl⟩)) (Nat.le_of_ble_eq_true rfl) (Nat.le_of_ble_eq_true rfl) dL_call_17
    · subst hE
      refine vx_catch hown [⟨0, 7, 8, 31⟩, ⟨0, 7, 13, 14⟩] ⟨0, 7, 18, 25⟩ [] (htab.trans rfl) (fun z hz => by
          simp only [List.mem_cons, List.not_mem_nil, or_false] at hz
          rcases hz with rfl | rfl
          · exact Or.inr ⟨by decide, _, hw0, gE_nc hI.2.2.2.1 (q := ("java/lang/IllegalStateException", "java/lang/IndexOutOfBoundsException")) (by decide)⟩
          · exact Or.inr ⟨by decide, _, hw2, gE_nc hI.2.2.2.1 (q := ("java/lang/IllegalStateException", "java/lang/IllegalArgumentException")) (by decide)⟩) (by decide) (by decide) hw3 (gE_ct hI.2.2.2.1 (q := ("java/lang/IllegalStateException", "java/lang/IllegalStateException")) (by decide)) h91 h92 h93 ?_
      refine lv_astore (lv' := [(4, .ref q9), (0, .ref (N 0 0)), (1, .int key), (2, .int route), (3, .int size)]) hx hb dL_call_18 hl (by decide) rfl (fun ls hl => ?_)
      refine lv_ldc (v := -99999) hx hb hown hw1 dL_call_20 ?_
      exact gx_iret hx hb hr hlocks hI (Or.inr (Or.inr (Or.inl ⟨hp9, rfl, rfl⟩))) (Nat.le_of_ble_eq_true rfl) (Nat.le_of_ble_eq_true rfl) dL_call_22
  · exact gx_iret hx hb hr hlocks hI (Or.inr (Or.inr (Or.inr (hw_2)))) (Nat.le_of_ble_eq_true rfl) (Nat.le_of_ble_eq_true rfl) dL_call_7

set_option maxHeartbeats 4000000 in
set_option maxRecDepth 100000 in
theorem c_L_end (l : Launch) (hl0 : l.stackTraces = false) (D : va_G) (cy : Nat → ClassId) (de : Nat) (f : gFm) (N : gNm) (I : gMd) (call : Int32) (oc : Int32) (hR : gR cy de N I f) : gMi l yL_end wsL_end { frames := 8, cells := 3, slots := 18, locals := 127 } D cy de [.ref (N 0 0), .int call, .int oc] f (fun r9 f9 => (((fun E9 => (E9 = "java/lang/IndexOutOfBoundsException" ∧ ¬ pI call (N 0 8)) ∨ ∃ jcall, jcall < N 0 8 ∧ call = nI jcall ∧ ((E9 = "java/lang/IllegalArgumentException" ∧ ¬ (mIn oc 0 2 = true)) ∨ (mIn oc 0 2 = true) ∧ (E9 = "java/lang/IllegalStateException" ∧ ¬ ((!decide (I 18 jcall = -1)) = false)))) "java/lang/IndexOutOfBoundsException") ∧ r9 = (-99999) ∧ f9 = f) ∨ (((fun E9 => (E9 = "java/lang/IndexOutOfBoundsException" ∧ ¬ pI call (N 0 8)) ∨ ∃ jcall, jcall < N 0 8 ∧ call = nI jcall ∧ ((E9 = "java/lang/IllegalArgumentException" ∧ ¬ (mIn oc 0 2 = true)) ∨ (mIn oc 0 2 = true) ∧ (E9 = "java/lang/IllegalStateException" ∧ ¬ ((!decide (I 18 jcall = -1)) = false)))) "java/lang/IllegalArgumentException") ∧ r9 = (-99999) ∧ f9 = f) ∨ (((fun E9 => (E9 = "java/lang/IndexOutOfBoundsException" ∧ ¬ pI call (N 0 8)) ∨ ∃ jcall, jcall < N 0 8 ∧ call = nI jcall ∧ ((E9 = "java/lang/IllegalArgumentException" ∧ ¬ (mIn oc 0 2 = true)) ∨ (mIn oc 0 2 = true) ∧ (E9 = "java/lang/IllegalStateException" ∧ ¬ ((!decide (I 18 jcall = -1)) = false)))) "java/lang/IllegalStateException") ∧ r9 = (-99999) ∧ f9 = f) ∨ ((fun r9 f9 => ∃ jcall, jcall < N 0 8 ∧ call = nI jcall ∧ (mIn oc 0 2 = true) ∧ ((!decide (I 18 jcall = -1)) = false) ∧ (r9 = (if oc = 0 then (I 15 jcall) else if oc = 1 then ((I 15 jcall) + 1) / 2 else 0) ∧ gR cy de N (iK (iC I jcall (I 15 jcall) (I 16 jcall) (I 17 jcall) (if oc = 0 then (I 15 jcall) else if oc = 1 then ((I 15 jcall) + 1) / 2 else 0) (I 0 0) (I 20 jcall)) (N 6 jcall) (I 7 (N 6 jcall)) (I 8 (N 6 jcall)) ((I 9 (N 6 jcall)) + (((I 15 jcall) - (if oc = 0 then (I 15 jcall) else if oc = 1 then ((I 15 jcall) + 1) / 2 else 0)) - (if ((I 15 jcall) - (if oc = 0 then (I 15 jcall) else if oc = 1 then ((I 15 jcall) + 1) / 2 else 0)) < (I 10 (N 6 jcall)) then ((I 15 jcall) - (if oc = 0 then (I 15 jcall) else if oc = 1 then ((I 15 jcall) + 1) / 2 else 0)) else (I 10 (N 6 jcall))))) ((I 10 (N 6 jcall)) - (if ((I 15 jcall) - (if oc = 0 then (I 15 jcall) else if oc = 1 then ((I 15 jcall) + 1) / 2 else 0)) < (I 10 (N 6 jcall)) then ((I 15 jcall) - (if oc = 0 then (I 15 jcall) else if oc = 1 then ((I 15 jcall) + 1) / 2 else 0)) else (I 10 (N 6 jcall)))) ((I 11 (N 6 jcall)) - (I 15 jcall)) ((I 12 (N 6 jcall)) - 1) ((I 13 (N 6 jcall)) + (if oc = 0 then (I 15 jcall) else if oc = 1 then ((I 15 jcall) + 1) / 2 else 0)) (I 14 (N 6 jcall))) f9)) r9 f9)) 3 18 := by
  refine gMi_of (fun sz => vx_ofWH (cc := cL_end) (maxL := 4) (ret := (some .int)) (hh := [(0, 6, 7, 31), (0, 6, 11, 14), (0, 6, 15, 25)]) (by decide) rfl ?_)
  intro p e s m args below meth c s₁ B hml hv
  obtain ⟨rfl, hv⟩ := hv
  obtain ⟨rfl, hI⟩ := gP_I hv
  have hx := B.exec
  have hb := B.bytes
  have hr := B.returns
  have hts := atoms_spec (ws := wsL_end) B.pre
  have htab : c.exceptionTable.toList = tableOf [(0, 6, 7, 31), (0, 6, 11, 14), (0, 6, 15, 25)] := vx_table (x := yL_end) B (hts _ List.mem_cons_self)
  have hown : s.vm.findClass RL = some m.cls := findClass_of_methodNamed B.named
  have hlocks := B.notSynchronized
  have hw0 := hts (.classLink RL 31 "java/lang/IndexOutOfBoundsException") (by decide +kernel)
  have hw1 := hts (.constant RL 16 (-99999)) (by decide +kernel)
  have hw2 := hts (.classLink RL 14 "java/lang/IllegalArgumentException") (by decide +kernel)
  have hw3 := hts (.classLink RL 25 "java/lang/IllegalStateException") (by decide +kernel)
  have hl := lv_entry ([.ref (N 0 0), .int call, .int oc]) (n := 4) (Nat.le_of_ble_eq_true rfl)
  rw [lg_entry_eq]
  generalize (lg_sl ([.ref (N 0 0), .int call, .int oc]) ++ List.replicate (4 - (lg_sl ([.ref (N 0 0), .int call, .int oc])).length) Slot.unset).toArray = ls at hl ⊢
  have hl : lv_has ls 4 [(0, .ref (N 0 0)), (1, .int call), (2, .int oc)] := hl
  refine lv_aload_n hx hb dL_end_0 rfl (lv_at hl 0 rfl) ?_
  refine lv_iload_n hx hb dL_end_1 rfl (lv_at hl 1 rfl) ?_
  refine lv_iload_n hx hb dL_end_2 rfl (lv_at hl 2 rfl) ?_
  refine gw_calli hI (vx_runV (As := [.int call, .int oc]) (rest := []) ⟨hx, hb, hml, hown, hts⟩ ((c_X4_end l hl0 D cy de f N I call oc hR) s.heap.size) (cwV 2 hts gL_end_X4_end rfl rfl rfl (by decide +kernel) ⟨Nat.le_of_ble_eq_true rfl, Nat.le_of_ble_eq_true rfl⟩) (g_preV hI (gR_tg hR) rfl) rfl rfl hl.1 rfl (lv_room (Nat.le_of_ble_eq_true rfl)) dL_end_3 ⟨Nat.le_of_ble_eq_true rfl, Nat.le_of_ble_eq_true rfl⟩) (fun E ce q9 H locs hp9 hI h91 h92 h93 => ?_) (fun r_3 f_1 H locs hw_2 hI => ?_)
  · have hE : E = "java/lang/IndexOutOfBoundsException" ∨ E = "java/lang/IllegalArgumentException" ∨ E = "java/lang/IllegalStateException" := by
      rcases hp9 with ⟨e9, -⟩ | ⟨_, -, -, (⟨e9, -⟩ | ⟨-, ⟨e9, -⟩⟩)⟩ <;> first | exact e9 | exact Or.inl e9 | exact Or.inr e9 | exact Or.inr (Or.inl e9) | exact Or.inr (Or.inr e9)
    rcases hE with hE | hE | hE
    · subst hE
      refine vx_catch hown [] ⟨0, 6, 7, 31⟩ [⟨0, 6, 11, 14⟩, ⟨0, 6, 15, 25⟩] (htab.trans rfl) (fun z hz => nomatch hz) (by decide) (by decide) hw0 (gE_ct hI.2.2.2.1 (q := ("java/lang/IndexOutOfBoundsException", "java/lang/IndexOutOfBoundsException")) (by decide)) h91 h92 h93 ?_
      refine lv_astore_n (lv' := [(3, .ref q9), (0, .ref (N 0 0)), (1, .int call), (2, .int oc)]) hx hb dL_end_7 rfl hl (by decide) rfl (fun ls hl => ?_)
      refine lv_ldc (v := -99999) hx hb hown hw1 dL_end_8 ?_
      exact gx_iret hx hb hr hlocks hI (Or.inl ⟨hp9, rfl, rfl⟩) (Nat.le_of_ble_eq_true rfl) (Nat.le_of_ble_eq_true rfl) dL_end_10
    · subst hE
      refine vx_catch hown [⟨0, 6, 7, 31⟩] ⟨0, 6, 11, 14⟩ [⟨0, 6, 15, 25⟩] (htab.trans rfl) (fun z hz => by
          simp only [List.mem_cons, List.not_mem_nil, or_false] at hz
          rcases hz with rfl
          · exact Or.inr ⟨by decide, _, hw0, gE_nc hI.2.2.2.1 (q := ("java/lang/IllegalArgumentException", "java/lang/IndexOutOfBoundsException")) (by decide)⟩) (by decide) (by decide) hw2 (gE_ct hI.2.2.2.1 (q := ("java/lang/IllegalArgumentException", "java/lang/IllegalArgumentException")) (by decide)) h91 h92 h93 ?_
      refine lv_astore_n (lv' := [(3, .ref q9), (0, .ref (N 0 0)), (1, .int call), (2, .int oc)]) hx hb dL_end_11 rfl hl (by decide) rfl (fun ls hl => ?_)
      refine lv_ldc (v := -99999) hx hb hown hw1 dL_end_12 ?_
      exact gx_iret hx hb hr hlocks hI (Or.inr (Or.inl ⟨hp9, rfl, rfl⟩)) (Nat.le_of_ble_eq_true rfl) (Nat.le_of_ble_eq_true rfl) dL_end_14
    · subst hE
      refine vx_catch hown [⟨0, 6, 7, 31⟩, ⟨0, 6, 11, 14⟩] ⟨0, 6, 15, 25⟩ [] (htab.trans rfl) (fun z hz => by
          simp only [List.mem_cons, List.not_mem_nil, or_false] at hz
          rcases hz with rfl | rfl
          · exact Or.inr ⟨by decide, _, hw0, gE_nc hI.2.2.2.1 (q := ("java/lang/IllegalStateException", "java/lang/IndexOutOfBoundsException")) (by decide)⟩
          · exact Or.inr ⟨by decide, _, hw2, gE_nc hI.2.2.2.1 (q := ("java/lang/IllegalStateException", "java/lang/IllegalArgumentException")) (by decide)⟩) (by decide) (by decide) hw3 (gE_ct hI.2.2.2.1 (q := ("java/lang/IllegalStateException", "java/lang/IllegalStateException")) (by decide)) h91 h92 h93 ?_
      refine lv_astore_n (lv' := [(3, .ref q9), (0, .ref (N 0 0)), (1, .int call), (2, .int oc)]) hx hb dL_end_15 rfl hl (by decide) rfl (fun ls hl => ?_)
      refine lv_ldc (v := -99999) hx hb hown hw1 dL_end_16 ?_
      exact gx_iret hx hb hr hlocks hI (Or.inr (Or.inr (Or.inl ⟨hp9, rfl, rfl⟩))) (Nat.le_of_ble_eq_true rfl) (Nat.le_of_ble_eq_true rfl) dL_end_18
  · exact gx_iret hx hb hr hlocks hI (Or.inr (Or.inr (Or.inr (hw_2)))) (Nat.le_of_ble_eq_true rfl) (Nat.le_of_ble_eq_true rfl) dL_end_6

set_option maxHeartbeats 4000000 in
set_option maxRecDepth 100000 in
theorem c_L_dispute (l : Launch) (hl0 : l.stackTraces = false) (D : va_G) (cy : Nat → ClassId) (de : Nat) (f : gFm) (N : gNm) (I : gMd) (call : Int32) (hR : gR cy de N I f) : gMi l yL_dispute wsL_dispute { frames := 8, cells := 2, slots := 12, locals := 125 } D cy de [.ref (N 0 0), .int call] f (fun r9 f9 => (((fun E9 => (E9 = "java/lang/IndexOutOfBoundsException" ∧ ¬ pI call (N 0 8)) ∨ ∃ jcall, jcall < N 0 8 ∧ call = nI jcall ∧ ((E9 = "java/lang/IllegalStateException" ∧ ¬ ((!decide (I 18 jcall = -1)) = true)) ∨ ((!decide (I 18 jcall = -1)) = true) ∧ ((E9 = "java/lang/IllegalStateException" ∧ ¬ (I 20 jcall = 0)) ∨ (I 20 jcall = 0) ∧ (E9 = "java/lang/IllegalStateException" ∧ ¬ (I 0 0 - I 19 jcall ≤ 50))))) "java/lang/IndexOutOfBoundsException") ∧ r9 = (-99999) ∧ f9 = f) ∨ (((fun E9 => (E9 = "java/lang/IndexOutOfBoundsException" ∧ ¬ pI call (N 0 8)) ∨ ∃ jcall, jcall < N 0 8 ∧ call = nI jcall ∧ ((E9 = "java/lang/IllegalStateException" ∧ ¬ ((!decide (I 18 jcall = -1)) = true)) ∨ ((!decide (I 18 jcall = -1)) = true) ∧ ((E9 = "java/lang/IllegalStateException" ∧ ¬ (I 20 jcall = 0)) ∨ (I 20 jcall = 0) ∧ (E9 = "java/lang/IllegalStateException" ∧ ¬ (I 0 0 - I 19 jcall ≤ 50))))) "java/lang/IllegalStateException") ∧ r9 = (-99999) ∧ f9 = f) ∨ ((fun r9 f9 => ∃ jcall, jcall < N 0 8 ∧ call = nI jcall ∧ ((!decide (I 18 jcall = -1)) = true) ∧ (I 20 jcall = 0) ∧ (I 0 0 - I 19 jcall ≤ 50) ∧ (r9 = (I 18 jcall) ∧ gR cy de N (iK (iC I jcall (I 15 jcall) (I 16 jcall) (I 17 jcall) 0 (I 19 jcall) 1) (N 6 jcall) ((I 7 (N 6 jcall)) + (I 16 jcall)) (I 8 (N 6 jcall)) ((I 9 (N 6 jcall)) + ((I 18 jcall) - (if (I 18 jcall) < (I 10 (N 6 jcall)) then (I 18 jcall) else (I 10 (N 6 jcall))))) ((I 10 (N 6 jcall)) - (if (I 18 jcall) < (I 10 (N 6 jcall)) then (I 18 jcall) else (I 10 (N 6 jcall)))) (I 11 (N 6 jcall)) (I 12 (N 6 jcall)) ((I 13 (N 6 jcall)) - (I 18 jcall)) (I 14 (N 6 jcall))) f9)) r9 f9)) 2 12 := by
  refine gMi_of (fun sz => vx_ofWH (cc := cL_dispute) (maxL := 3) (ret := (some .int)) (hh := [(0, 5, 6, 31), (0, 5, 10, 25)]) (by decide) rfl ?_)
  intro p e s m args below meth c s₁ B hml hv
  obtain ⟨rfl, hv⟩ := hv
  obtain ⟨rfl, hI⟩ := gP_I hv
  have hx := B.exec
  have hb := B.bytes
  have hr := B.returns
  have hts := atoms_spec (ws := wsL_dispute) B.pre
  have htab : c.exceptionTable.toList = tableOf [(0, 5, 6, 31), (0, 5, 10, 25)] := vx_table (x := yL_dispute) B (hts _ List.mem_cons_self)
  have hown : s.vm.findClass RL = some m.cls := findClass_of_methodNamed B.named
  have hlocks := B.notSynchronized
  have hw0 := hts (.classLink RL 31 "java/lang/IndexOutOfBoundsException") (by decide +kernel)
  have hw1 := hts (.constant RL 16 (-99999)) (by decide +kernel)
  have hw2 := hts (.classLink RL 25 "java/lang/IllegalStateException") (by decide +kernel)
  have hl := lv_entry ([.ref (N 0 0), .int call]) (n := 3) (Nat.le_of_ble_eq_true rfl)
  rw [lg_entry_eq]
  generalize (lg_sl ([.ref (N 0 0), .int call]) ++ List.replicate (3 - (lg_sl ([.ref (N 0 0), .int call])).length) Slot.unset).toArray = ls at hl ⊢
  have hl : lv_has ls 3 [(0, .ref (N 0 0)), (1, .int call)] := hl
  refine lv_aload_n hx hb dL_dispute_0 rfl (lv_at hl 0 rfl) ?_
  refine lv_iload_n hx hb dL_dispute_1 rfl (lv_at hl 1 rfl) ?_
  refine gw_calli hI (vx_runV (As := [.int call]) (rest := []) ⟨hx, hb, hml, hown, hts⟩ ((c_X4_dispute l hl0 D cy de f N I call hR) s.heap.size) (cwV 1 hts gL_dispute_X4_dispute rfl rfl rfl (by decide +kernel) ⟨Nat.le_of_ble_eq_true rfl, Nat.le_of_ble_eq_true rfl⟩) (g_preV hI (gR_tg hR) rfl) rfl rfl hl.1 rfl (lv_room (Nat.le_of_ble_eq_true rfl)) dL_dispute_2 ⟨Nat.le_of_ble_eq_true rfl, Nat.le_of_ble_eq_true rfl⟩) (fun E ce q9 H locs hp9 hI h91 h92 h93 => ?_) (fun r_3 f_1 H locs hw_2 hI => ?_)
  · have hE : E = "java/lang/IndexOutOfBoundsException" ∨ E = "java/lang/IllegalStateException" := by
      rcases hp9 with ⟨e9, -⟩ | ⟨_, -, -, (⟨e9, -⟩ | ⟨-, (⟨e9, -⟩ | ⟨-, ⟨e9, -⟩⟩)⟩)⟩ <;> first | exact e9 | exact Or.inl e9 | exact Or.inr e9 | exact Or.inr (Or.inl e9) | exact Or.inr (Or.inr e9)
    rcases hE with hE | hE
    · subst hE
      refine vx_catch hown [] ⟨0, 5, 6, 31⟩ [⟨0, 5, 10, 25⟩] (htab.trans rfl) (fun z hz => nomatch hz) (by decide) (by decide) hw0 (gE_ct hI.2.2.2.1 (q := ("java/lang/IndexOutOfBoundsException", "java/lang/IndexOutOfBoundsException")) (by decide)) h91 h92 h93 ?_
      refine lv_astore_n (lv' := [(2, .ref q9), (0, .ref (N 0 0)), (1, .int call)]) hx hb dL_dispute_6 rfl hl (by decide) rfl (fun ls hl => ?_)
      refine lv_ldc (v := -99999) hx hb hown hw1 dL_dispute_7 ?_
      exact gx_iret hx hb hr hlocks hI (Or.inl ⟨hp9, rfl, rfl⟩) (Nat.le_of_ble_eq_true rfl) (Nat.le_of_ble_eq_true rfl) dL_dispute_9
    · subst hE
      refine vx_catch hown [⟨0, 5, 6, 31⟩] ⟨0, 5, 10, 25⟩ [] (htab.trans rfl) (fun z hz => by
          simp only [List.mem_cons, List.not_mem_nil, or_false] at hz
          rcases hz with rfl
          · exact Or.inr ⟨by decide, _, hw0, gE_nc hI.2.2.2.1 (q := ("java/lang/IllegalStateException", "java/lang/IndexOutOfBoundsException")) (by decide)⟩) (by decide) (by decide) hw2 (gE_ct hI.2.2.2.1 (q := ("java/lang/IllegalStateException", "java/lang/IllegalStateException")) (by decide)) h91 h92 h93 ?_
      refine lv_astore_n (lv' := [(2, .ref q9), (0, .ref (N 0 0)), (1, .int call)]) hx hb dL_dispute_10 rfl hl (by decide) rfl (fun ls hl => ?_)
      refine lv_ldc (v := -99999) hx hb hown hw1 dL_dispute_11 ?_
      exact gx_iret hx hb hr hlocks hI (Or.inr (Or.inl ⟨hp9, rfl, rfl⟩)) (Nat.le_of_ble_eq_true rfl) (Nat.le_of_ble_eq_true rfl) dL_dispute_13
  · exact gx_iret hx hb hr hlocks hI (Or.inr (Or.inr (hw_2))) (Nat.le_of_ble_eq_true rfl) (Nat.le_of_ble_eq_true rfl) dL_dispute_5

set_option maxHeartbeats 4000000 in
set_option maxRecDepth 100000 in
theorem c_L_pass (l : Launch) (hl0 : l.stackTraces = false) (D : va_G) (cy : Nat → ClassId) (de : Nat) (f : gFm) (N : gNm) (I : gMd) (ticks : Int32) (hR : gR cy de N I f) (hN : gNx N I) : gMi l yL_pass wsL_pass { frames := 8, cells := 1, slots := 6, locals := 127 } D cy de [.ref (N 0 0), .int ticks] f (fun r9 f9 => (((fun E9 => E9 = "java/lang/IllegalArgumentException" ∧ ¬ (mIn ticks 1 100 = true)) "java/lang/IllegalArgumentException") ∧ r9 = (-99999) ∧ f9 = f) ∨ ((fun r9 f9 => (mIn ticks 1 100 = true) ∧ r9 = (iPassL N (ix ticks) 0 I).1 ∧ gR cy de N (iPassL N (ix ticks) 0 I).2 f9) r9 f9)) 1 6 := by
  refine gMi_of (fun sz => vx_ofWH (cc := cL_pass) (maxL := 3) (ret := (some .int)) (hh := [(0, 5, 6, 14)]) (by decide) rfl ?_)
  intro p e s m args below meth c s₁ B hml hv
  obtain ⟨rfl, hv⟩ := hv
  obtain ⟨rfl, hI⟩ := gP_I hv
  have hx := B.exec
  have hb := B.bytes
  have hr := B.returns
  have hts := atoms_spec (ws := wsL_pass) B.pre
  have htab : c.exceptionTable.toList = tableOf [(0, 5, 6, 14)] := vx_table (x := yL_pass) B (hts _ List.mem_cons_self)
  have hown : s.vm.findClass RL = some m.cls := findClass_of_methodNamed B.named
  have hlocks := B.notSynchronized
  have hw0 := hts (.classLink RL 14 "java/lang/IllegalArgumentException") (by decide +kernel)
  have hw1 := hts (.constant RL 16 (-99999)) (by decide +kernel)
  have hl := lv_entry ([.ref (N 0 0), .int ticks]) (n := 3) (Nat.le_of_ble_eq_true rfl)
  rw [lg_entry_eq]
  generalize (lg_sl ([.ref (N 0 0), .int ticks]) ++ List.replicate (3 - (lg_sl ([.ref (N 0 0), .int ticks])).length) Slot.unset).toArray = ls at hl ⊢
  have hl : lv_has ls 3 [(0, .ref (N 0 0)), (1, .int ticks)] := hl
  refine lv_aload_n hx hb dL_pass_0 rfl (lv_at hl 0 rfl) ?_
  refine lv_iload_n hx hb dL_pass_1 rfl (lv_at hl 1 rfl) ?_
  refine gw_calli hI (vx_runV (As := [.int ticks]) (rest := []) ⟨hx, hb, hml, hown, hts⟩ ((c_X4_pass l hl0 D cy de f N I ticks hR hN) s.heap.size) (cwV 1 hts gL_pass_X4_pass rfl rfl rfl (by decide +kernel) ⟨Nat.le_of_ble_eq_true rfl, Nat.le_of_ble_eq_true rfl⟩) (g_preV hI (gR_tg hR) rfl) rfl rfl hl.1 rfl (lv_room (Nat.le_of_ble_eq_true rfl)) dL_pass_2 ⟨Nat.le_of_ble_eq_true rfl, Nat.le_of_ble_eq_true rfl⟩) (fun E ce q9 H locs hp9 hI h91 h92 h93 => ?_) (fun r_3 f_1 H locs hw_2 hI => ?_)
  · have hE : E = "java/lang/IllegalArgumentException" := by
      rcases hp9 with ⟨e9, -⟩ <;> first | exact e9
    subst hE
    refine vx_catch hown [] ⟨0, 5, 6, 14⟩ [] (htab.trans rfl) (fun z hz => nomatch hz) (by decide) (by decide) hw0 (gE_ct hI.2.2.2.1 (q := ("java/lang/IllegalArgumentException", "java/lang/IllegalArgumentException")) (by decide)) h91 h92 h93 ?_
    refine lv_astore_n (lv' := [(2, .ref q9), (0, .ref (N 0 0)), (1, .int ticks)]) hx hb dL_pass_6 rfl hl (by decide) rfl (fun ls hl => ?_)
    refine lv_ldc (v := -99999) hx hb hown hw1 dL_pass_7 ?_
    exact gx_iret hx hb hr hlocks hI (Or.inl ⟨hp9, rfl, rfl⟩) (Nat.le_of_ble_eq_true rfl) (Nat.le_of_ble_eq_true rfl) dL_pass_9
  · exact gx_iret hx hb hr hlocks hI (Or.inr (hw_2)) (Nat.le_of_ble_eq_true rfl) (Nat.le_of_ble_eq_true rfl) dL_pass_5

set_option maxHeartbeats 4000000 in
set_option maxRecDepth 100000 in
theorem c_L_credit (l : Launch) (hl0 : l.stackTraces = false) (D : va_G) (cy : Nat → ClassId) (de : Nat) (f : gFm) (N : gNm) (I : gMd) (key : Int32) (hR : gR cy de N I f) : gMi l yL_credit wsL_credit { frames := 8, cells := 1, slots := 6, locals := 124 } D cy de [.ref (N 0 0), .int key] f (fun r9 f9 => (((fun E9 => E9 = "java/lang/IndexOutOfBoundsException" ∧ ¬ pI key (N 0 7)) "java/lang/IndexOutOfBoundsException") ∧ r9 = (-1) ∧ f9 = f) ∨ ((fun r9 f9 => ∃ jkey, jkey < N 0 7 ∧ key = nI jkey ∧ (r9 = I 9 jkey ∧ f9 = f)) r9 f9)) 1 6 := by
  refine gMi_of (fun sz => vx_ofWH (cc := cL_credit) (maxL := 3) (ret := (some .int)) (hh := [(0, 5, 6, 31)]) (by decide) rfl ?_)
  intro p e s m args below meth c s₁ B hml hv
  obtain ⟨rfl, hv⟩ := hv
  obtain ⟨rfl, hI⟩ := gP_I hv
  have hx := B.exec
  have hb := B.bytes
  have hr := B.returns
  have hts := atoms_spec (ws := wsL_credit) B.pre
  have htab : c.exceptionTable.toList = tableOf [(0, 5, 6, 31)] := vx_table (x := yL_credit) B (hts _ List.mem_cons_self)
  have hown : s.vm.findClass RL = some m.cls := findClass_of_methodNamed B.named
  have hlocks := B.notSynchronized
  have hw0 := hts (.classLink RL 31 "java/lang/IndexOutOfBoundsException") (by decide +kernel)
  have hl := lv_entry ([.ref (N 0 0), .int key]) (n := 3) (Nat.le_of_ble_eq_true rfl)
  rw [lg_entry_eq]
  generalize (lg_sl ([.ref (N 0 0), .int key]) ++ List.replicate (3 - (lg_sl ([.ref (N 0 0), .int key])).length) Slot.unset).toArray = ls at hl ⊢
  have hl : lv_has ls 3 [(0, .ref (N 0 0)), (1, .int key)] := hl
  refine lv_aload_n hx hb dL_credit_0 rfl (lv_at hl 0 rfl) ?_
  refine lv_iload_n hx hb dL_credit_1 rfl (lv_at hl 1 rfl) ?_
  refine gw_calli hI (vx_runV (As := [.int key]) (rest := []) ⟨hx, hb, hml, hown, hts⟩ ((c_X4_credit l hl0 D cy de f N I key hR) s.heap.size) (cwV 1 hts gL_credit_X4_credit rfl rfl rfl (by decide +kernel) ⟨Nat.le_of_ble_eq_true rfl, Nat.le_of_ble_eq_true rfl⟩) (g_preV hI (gR_tg hR) rfl) rfl rfl hl.1 rfl (lv_room (Nat.le_of_ble_eq_true rfl)) dL_credit_2 ⟨Nat.le_of_ble_eq_true rfl, Nat.le_of_ble_eq_true rfl⟩) (fun E ce q9 H locs hp9 hI h91 h92 h93 => ?_) (fun r_3 f_1 H locs hw_2 hI => ?_)
  · have hE : E = "java/lang/IndexOutOfBoundsException" := by
      rcases hp9 with ⟨e9, -⟩ <;> first | exact e9
    subst hE
    refine vx_catch hown [] ⟨0, 5, 6, 31⟩ [] (htab.trans rfl) (fun z hz => nomatch hz) (by decide) (by decide) hw0 (gE_ct hI.2.2.2.1 (q := ("java/lang/IndexOutOfBoundsException", "java/lang/IndexOutOfBoundsException")) (by decide)) h91 h92 h93 ?_
    refine lv_astore_n (lv' := [(2, .ref q9), (0, .ref (N 0 0)), (1, .int key)]) hx hb dL_credit_6 rfl hl (by decide) rfl (fun ls hl => ?_)
    refine lv_iconst (v := -1) hx hb dL_credit_7 (by decide) ?_
    exact gx_iret hx hb hr hlocks hI (Or.inl ⟨hp9, rfl, rfl⟩) (Nat.le_of_ble_eq_true rfl) (Nat.le_of_ble_eq_true rfl) dL_credit_8
  · exact gx_iret hx hb hr hlocks hI (Or.inr (hw_2)) (Nat.le_of_ble_eq_true rfl) (Nat.le_of_ble_eq_true rfl) dL_credit_5
