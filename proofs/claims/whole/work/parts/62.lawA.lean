/-- the law's one long -/
def gO (cy : Nat → ClassId) (ou : Nat) (y : Nat → Int64) : gFm := va_up (fun _ => none) ou (some (.inl (cy 2, 1, .inr (.inl y))))
theorem gO_self {cy : Nat → ClassId} {ou : Nat} {y : Nat → Int64} : gO cy ou y ou = some (.inl (cy 2, 1, .inr (.inl y))) := va_up_self _ _ _
theorem gJ_up {f g : gFm} {a : Nat} {x : Option va_E} (h : f a = none) : va_up (gJ f g) a x = gJ f (va_up g a x) := by
  funext j
  by_cases e : j = a
  · subst e
    rw [va_up_self, gJ_r h, va_up_self]
  · rw [va_up_ne _ _ e]
    cases hf : f j with
    | none => rw [gJ_r hf, gJ_r hf, va_up_ne _ _ e]
    | some z => rw [gJ_l hf, gJ_l hf]
theorem gO_up {f : gFm} {cy : Nat → ClassId} {ou : Nat} {y y1 : Nat → Int64} (hd : gDj f (gO cy ou y)) : va_up (gJ f (gO cy ou y)) ou (some (.inl (cy 2, 1, .inr (.inl y1)))) = gJ f (gO cy ou y1) := by
  rw [gJ_up (gDj_r hd (by rw [gO_self]; exact Option.some_ne_none _))]
  unfold gO
  rw [g_uu]
theorem gO_dj {f : gFm} {cy : Nat → ClassId} {ou : Nat} {y y1 : Nat → Int64} (hd : gDj f (gO cy ou y)) : gDj f (gO cy ou y1) := fun a ha => by
  have h := hd a ha
  have e : a ≠ ou := fun e => by rw [e, gO_self] at h; cases h
  exact va_up_ne _ _ e
theorem gO_at {f : gFm} {cy : Nat → ClassId} {ou : Nat} {y : Nat → Int64} (hd : gDj f (gO cy ou y)) : gJ f (gO cy ou y) ou = some (.inl (cy 2, 1, .inr (.inl y))) := (gJ_r (gDj_r hd (by rw [gO_self]; exact Option.some_ne_none _))).trans gO_self

set_option maxHeartbeats 4000000 in
set_option maxRecDepth 100000 in
theorem c_L_setPlan (l : Launch) (hl0 : l.stackTraces = false) (D : va_G) (cy : Nat → ClassId) (de : Nat) (f : gFm) (N : gNm) (I : gMd) (plan : Int32) (size : Int32) (refill : Int32) (slow : Int32) (hR : gR cy de N I f) : gMi l yL_setPlan wsL_setPlan { frames := 8, cells := 4, slots := 24, locals := 129 } D cy de [.ref (N 0 0), .int plan, .int size, .int refill, .int slow] f (fun r9 f9 => (((fun E9 => (E9 = "java/lang/IllegalArgumentException" ∧ ¬ pI plan (4)) ∨ ∃ jplan, jplan < 4 ∧ plan = nI jplan ∧ ((E9 = "java/lang/IllegalArgumentException" ∧ ¬ (mIn size 1 100 = true)) ∨ (mIn size 1 100 = true) ∧ ((E9 = "java/lang/IllegalArgumentException" ∧ ¬ (mIn refill 0 100 = true)) ∨ (mIn refill 0 100 = true) ∧ (E9 = "java/lang/IllegalArgumentException" ∧ ¬ (mIn slow 0 refill = true))))) "java/lang/IllegalArgumentException") ∧ r9 = 1 ∧ f9 = f) ∨ (r9 = 0 ∧ (fun f9 => ∃ jplan, jplan < 4 ∧ plan = nI jplan ∧ (mIn size 1 100 = true) ∧ (mIn refill 0 100 = true) ∧ (mIn slow 0 refill = true) ∧ (gR cy de N (iP I jplan size refill slow) f9)) f9)) 4 24 := by
  refine gMi_of (fun sz => vx_ofWH (cc := cL_setPlan) (maxL := 6) (ret := (some .int)) (hh := [(0, 9, 12, 13)]) (by decide) rfl ?_)
  intro p e s m args below meth c s₁ B hml hv
  obtain ⟨rfl, hv⟩ := hv
  obtain ⟨rfl, hI⟩ := gP_I hv
  have hx := B.exec
  have hb := B.bytes
  have hr := B.returns
  have hts := atoms_spec (ws := wsL_setPlan) B.pre
  have htab : c.exceptionTable.toList = tableOf [(0, 9, 12, 13)] := vx_table (x := yL_setPlan) B (hts _ List.mem_cons_self)
  have hown : s.vm.findClass RL = some m.cls := findClass_of_methodNamed B.named
  have hlocks := B.notSynchronized
  have hw0 := hts (.classLink RL 13 "java/lang/IllegalArgumentException") (by decide +kernel)
  have hl := lv_entry ([.ref (N 0 0), .int plan, .int size, .int refill, .int slow]) (n := 6) (Nat.le_of_ble_eq_true rfl)
  rw [lg_entry_eq]
  generalize (lg_sl ([.ref (N 0 0), .int plan, .int size, .int refill, .int slow]) ++ List.replicate (6 - (lg_sl ([.ref (N 0 0), .int plan, .int size, .int refill, .int slow])).length) Slot.unset).toArray = ls at hl ⊢
  have hl : lv_has ls 6 [(0, .ref (N 0 0)), (1, .int plan), (2, .int size), (3, .int refill), (4, .int slow)] := hl
  refine lv_aload_n hx hb dL_setPlan_0 rfl (lv_at hl 0 rfl) ?_
  refine lv_iload_n hx hb dL_setPlan_1 rfl (lv_at hl 1 rfl) ?_
  refine lv_iload_n hx hb dL_setPlan_2 rfl (lv_at hl 2 rfl) ?_
  refine lv_iload_n hx hb dL_setPlan_3 rfl (lv_at hl 3 rfl) ?_
  refine lv_iload hx hb dL_setPlan_4 (lv_at hl 4 rfl) ?_
  refine gw_callv hI (vx_runV (As := [.int plan, .int size, .int refill, .int slow]) (rest := []) ⟨hx, hb, hml, hown, hts⟩ ((c_X4_setPlan l hl0 D cy de f N I plan size refill slow hR) s.heap.size) (cwV 4 hts gL_setPlan_X4_setPlan rfl rfl rfl (by decide +kernel) ⟨Nat.le_of_ble_eq_true rfl, Nat.le_of_ble_eq_true rfl⟩) (g_preV hI (gR_tg hR) rfl) rfl rfl hl.1 rfl (lv_room (Nat.le_of_ble_eq_true rfl)) dL_setPlan_6 ⟨Nat.le_of_ble_eq_true rfl, Nat.le_of_ble_eq_true rfl⟩) (fun E ce q9 H locs hp9 hI h91 h92 h93 => ?_) (fun f_1 H locs hw_2 hI => ?_)
  · have hE : E = "java/lang/IllegalArgumentException" := by
      rcases hp9 with ⟨e9, -⟩ | ⟨_, -, -, (⟨e9, -⟩ | ⟨-, (⟨e9, -⟩ | ⟨-, ⟨e9, -⟩⟩)⟩)⟩ <;> first | exact e9
    subst hE
    refine vx_catch hown [] ⟨0, 9, 12, 13⟩ [] (htab.trans rfl) (fun z hz => nomatch hz) (by decide) (by decide) hw0 (gE_ct hI.2.2.2.1 (q := ("java/lang/IllegalArgumentException", "java/lang/IllegalArgumentException")) (by decide)) h91 h92 h93 ?_
    refine lv_astore (lv' := [(5, .ref q9), (0, .ref (N 0 0)), (1, .int plan), (2, .int size), (3, .int refill), (4, .int slow)]) hx hb dL_setPlan_12 hl (by decide) rfl (fun ls hl => ?_)
    refine lv_iconst (v := 1) hx hb dL_setPlan_14 (by decide) ?_
    exact gx_iret hx hb hr hlocks hI (Or.inl ⟨hp9, rfl, rfl⟩) (Nat.le_of_ble_eq_true rfl) (Nat.le_of_ble_eq_true rfl) dL_setPlan_15
  · refine lv_goto (tgt := 16) hx hb dL_setPlan_9 (by decide) ?_
    refine lv_iconst (v := 0) hx hb dL_setPlan_16 (by decide) ?_
    exact gx_iret hx hb hr hlocks hI (Or.inr (⟨rfl, hw_2⟩)) (Nat.le_of_ble_eq_true rfl) (Nat.le_of_ble_eq_true rfl) dL_setPlan_17

set_option maxHeartbeats 4000000 in
set_option maxRecDepth 100000 in
theorem c_L_setRoute (l : Launch) (hl0 : l.stackTraces = false) (D : va_G) (cy : Nat → ClassId) (de : Nat) (f : gFm) (N : gNm) (I : gMd) (route : Int32) (price : Int32) (weight : Int32) (hR : gR cy de N I f) : gMi l yL_setRoute wsL_setRoute { frames := 8, cells := 3, slots := 18, locals := 128 } D cy de [.ref (N 0 0), .int route, .int price, .int weight] f (fun r9 f9 => (((fun E9 => (E9 = "java/lang/IllegalArgumentException" ∧ ¬ pI route (6)) ∨ ∃ jroute, jroute < 6 ∧ route = nI jroute ∧ ((E9 = "java/lang/IllegalArgumentException" ∧ ¬ (mIn price 0 1000 = true)) ∨ (mIn price 0 1000 = true) ∧ (E9 = "java/lang/IllegalArgumentException" ∧ ¬ (mIn weight 1 20 = true)))) "java/lang/IllegalArgumentException") ∧ r9 = 1 ∧ f9 = f) ∨ (r9 = 0 ∧ (fun f9 => ∃ jroute, jroute < 6 ∧ route = nI jroute ∧ (mIn price 0 1000 = true) ∧ (mIn weight 1 20 = true) ∧ (gR cy de N (iRt I jroute price weight) f9)) f9)) 3 18 := by
  refine gMi_of (fun sz => vx_ofWH (cc := cL_setRoute) (maxL := 5) (ret := (some .int)) (hh := [(0, 7, 10, 13)]) (by decide) rfl ?_)
  intro p e s m args below meth c s₁ B hml hv
  obtain ⟨rfl, hv⟩ := hv
  obtain ⟨rfl, hI⟩ := gP_I hv
  have hx := B.exec
  have hb := B.bytes
  have hr := B.returns
  have hts := atoms_spec (ws := wsL_setRoute) B.pre
  have htab : c.exceptionTable.toList = tableOf [(0, 7, 10, 13)] := vx_table (x := yL_setRoute) B (hts _ List.mem_cons_self)
  have hown : s.vm.findClass RL = some m.cls := findClass_of_methodNamed B.named
  have hlocks := B.notSynchronized
  have hw0 := hts (.classLink RL 13 "java/lang/IllegalArgumentException") (by decide +kernel)
  have hl := lv_entry ([.ref (N 0 0), .int route, .int price, .int weight]) (n := 5) (Nat.le_of_ble_eq_true rfl)
  rw [lg_entry_eq]
  generalize (lg_sl ([.ref (N 0 0), .int route, .int price, .int weight]) ++ List.replicate (5 - (lg_sl ([.ref (N 0 0), .int route, .int price, .int weight])).length) Slot.unset).toArray = ls at hl ⊢
  have hl : lv_has ls 5 [(0, .ref (N 0 0)), (1, .int route), (2, .int price), (3, .int weight)] := hl
  refine lv_aload_n hx hb dL_setRoute_0 rfl (lv_at hl 0 rfl) ?_
  refine lv_iload_n hx hb dL_setRoute_1 rfl (lv_at hl 1 rfl) ?_
  refine lv_iload_n hx hb dL_setRoute_2 rfl (lv_at hl 2 rfl) ?_
  refine lv_iload_n hx hb dL_setRoute_3 rfl (lv_at hl 3 rfl) ?_
  refine gw_callv hI (vx_runV (As := [.int route, .int price, .int weight]) (rest := []) ⟨hx, hb, hml, hown, hts⟩ ((c_X4_setRoute l hl0 D cy de f N I route price weight hR) s.heap.size) (cwV 3 hts gL_setRoute_X4_setRoute rfl rfl rfl (by decide +kernel) ⟨Nat.le_of_ble_eq_true rfl, Nat.le_of_ble_eq_true rfl⟩) (g_preV hI (gR_tg hR) rfl) rfl rfl hl.1 rfl (lv_room (Nat.le_of_ble_eq_true rfl)) dL_setRoute_4 ⟨Nat.le_of_ble_eq_true rfl, Nat.le_of_ble_eq_true rfl⟩) (fun E ce q9 H locs hp9 hI h91 h92 h93 => ?_) (fun f_1 H locs hw_2 hI => ?_)
  · have hE : E = "java/lang/IllegalArgumentException" := by
      rcases hp9 with ⟨e9, -⟩ | ⟨_, -, -, (⟨e9, -⟩ | ⟨-, ⟨e9, -⟩⟩)⟩ <;> first | exact e9
    subst hE
    refine vx_catch hown [] ⟨0, 7, 10, 13⟩ [] (htab.trans rfl) (fun z hz => nomatch hz) (by decide) (by decide) hw0 (gE_ct hI.2.2.2.1 (q := ("java/lang/IllegalArgumentException", "java/lang/IllegalArgumentException")) (by decide)) h91 h92 h93 ?_
    refine lv_astore (lv' := [(4, .ref q9), (0, .ref (N 0 0)), (1, .int route), (2, .int price), (3, .int weight)]) hx hb dL_setRoute_10 hl (by decide) rfl (fun ls hl => ?_)
    refine lv_iconst (v := 1) hx hb dL_setRoute_12 (by decide) ?_
    exact gx_iret hx hb hr hlocks hI (Or.inl ⟨hp9, rfl, rfl⟩) (Nat.le_of_ble_eq_true rfl) (Nat.le_of_ble_eq_true rfl) dL_setRoute_13
  · refine lv_goto (tgt := 14) hx hb dL_setRoute_7 (by decide) ?_
    refine lv_iconst (v := 0) hx hb dL_setRoute_14 (by decide) ?_
    exact gx_iret hx hb hr hlocks hI (Or.inr (⟨rfl, hw_2⟩)) (Nat.le_of_ble_eq_true rfl) (Nat.le_of_ble_eq_true rfl) dL_setRoute_15

set_option maxHeartbeats 4000000 in
set_option maxRecDepth 100000 in
theorem c_L_addKey (l : Launch) (hl0 : l.stackTraces = false) (D : va_G) (cy : Nat → ClassId) (de : Nat) (fG : gFm) (ou : Nat) (y : Nat → Int64) (N : gNm) (I : gMd) (plan : Int32) (hR : gR cy de N I fG) (hd : gDj fG (gO cy ou y)) : gMi l yL_addKey wsL_addKey { frames := 8, cells := 3, slots := 215, locals := 233 } D cy de [.ref (N 0 0), .int plan, .ref ou] (gJ fG (gO cy ou y)) (fun r9 f9 => (((fun E9 => (E9 = "java/lang/IllegalArgumentException" ∧ ¬ pI plan (4)) ∨ ∃ jplan, jplan < 4 ∧ plan = nI jplan ∧ (E9 = "java/lang/IllegalStateException" ∧ ¬ (nI (N 0 7) < 8))) "java/lang/IllegalArgumentException") ∧ r9 = 1 ∧ f9 = (gJ fG (gO cy ou y))) ∨ (((fun E9 => (E9 = "java/lang/IllegalArgumentException" ∧ ¬ pI plan (4)) ∨ ∃ jplan, jplan < 4 ∧ plan = nI jplan ∧ (E9 = "java/lang/IllegalStateException" ∧ ¬ (nI (N 0 7) < 8))) "java/lang/IllegalStateException") ∧ r9 = 2 ∧ f9 = (gJ fG (gO cy ou y))) ∨ (r9 = 0 ∧ ∃ v9 g9, (fun r9 f9 => ∃ jplan, jplan < 4 ∧ plan = nI jplan ∧ (nI (N 0 7) < 8) ∧ (∃ ek_40, ∃ q_15, r9 = nI (N 0 7) ∧ gR cy de (nKey N ek_40 q_15 jplan) (iK I (N 0 7) (I 2 jplan) 0 0 0 0 0 0 0) f9)) v9 g9 ∧ f9 = gJ g9 (gO cy ou (vp_updL y (Int32.toNatClampNeg 0) (Int32.toInt64 v9))) ∧ gDj g9 (gO cy ou y))) 3 215 := by
  refine gMi_of (fun sz => vx_ofWH (cc := cL_addKey) (maxL := 4) (ret := (some .int)) (hh := [(0, 9, 12, 13), (0, 9, 15, 23)]) (by decide) rfl ?_)
  intro p e s m args below meth c s₁ B hml hv
  obtain ⟨rfl, hv⟩ := hv
  obtain ⟨rfl, hI⟩ := gP_I hv
  have hx := B.exec
  have hb := B.bytes
  have hr := B.returns
  have hts := atoms_spec (ws := wsL_addKey) B.pre
  have htab : c.exceptionTable.toList = tableOf [(0, 9, 12, 13), (0, 9, 15, 23)] := vx_table (x := yL_addKey) B (hts _ List.mem_cons_self)
  have hown : s.vm.findClass RL = some m.cls := findClass_of_methodNamed B.named
  have hlocks := B.notSynchronized
  have hw0 := hts (.classLink RL 13 "java/lang/IllegalArgumentException") (by decide +kernel)
  have hw1 := hts (.classLink RL 23 "java/lang/IllegalStateException") (by decide +kernel)
  have hl := lv_entry ([.ref (N 0 0), .int plan, .ref ou]) (n := 4) (Nat.le_of_ble_eq_true rfl)
  rw [lg_entry_eq]
  generalize (lg_sl ([.ref (N 0 0), .int plan, .ref ou]) ++ List.replicate (4 - (lg_sl ([.ref (N 0 0), .int plan, .ref ou])).length) Slot.unset).toArray = ls at hl ⊢
  have hl : lv_has ls 4 [(0, .ref (N 0 0)), (1, .int plan), (2, .ref ou)] := hl
  refine lv_aload_n hx hb dL_addKey_0 rfl (lv_at hl 2 rfl) ?_
  refine lv_iconst (v := 0) hx hb dL_addKey_1 (by decide) ?_
  refine lv_aload_n hx hb dL_addKey_2 rfl (lv_at hl 0 rfl) ?_
  refine lv_iload_n hx hb dL_addKey_3 rfl (lv_at hl 1 rfl) ?_
  refine gw_calli hI (vx_runV (As := [.int plan]) (rest := [.int 0, .ref ou]) ⟨hx, hb, hml, hown, hts⟩ (gXi_frame (c_X4_addKey l hl0 D cy de fG N I plan hR) hd s.heap.size) (cwV 1 hts gL_addKey_X4_addKey rfl rfl rfl (by decide +kernel) ⟨Nat.le_of_ble_eq_true rfl, Nat.le_of_ble_eq_true rfl⟩) (g_preV hI (gJ_l (gR_tg hR)) rfl) rfl rfl hl.1 rfl (lv_room (Nat.le_of_ble_eq_true rfl)) dL_addKey_4 ⟨Nat.le_of_ble_eq_true rfl, Nat.le_of_ble_eq_true rfl⟩) (fun E ce q9 H locs hp9 hI h91 h92 h93 => ?_) (fun r_3 f_1 H locs hw_2 hI => ?_)
  · have hE : E = "java/lang/IllegalArgumentException" ∨ E = "java/lang/IllegalStateException" := by
      rcases hp9 with ⟨e9, -⟩ | ⟨_, -, -, ⟨e9, -⟩⟩ <;> first | exact e9 | exact Or.inl e9 | exact Or.inr e9 | exact Or.inr (Or.inl e9) | exact Or.inr (Or.inr e9)
    rcases hE with hE | hE
    · subst hE
      refine vx_catch hown [] ⟨0, 9, 12, 13⟩ [⟨0, 9, 15, 23⟩] (htab.trans rfl) (fun z hz => nomatch hz) (by decide) (by decide) hw0 (gE_ct hI.2.2.2.1 (q := ("java/lang/IllegalArgumentException", "java/lang/IllegalArgumentException")) (by decide)) h91 h92 h93 ?_
      refine lv_astore_n (lv' := [(3, .ref q9), (0, .ref (N 0 0)), (1, .int plan), (2, .ref ou)]) hx hb dL_addKey_12 rfl hl (by decide) rfl (fun ls hl => ?_)
      refine lv_iconst (v := 1) hx hb dL_addKey_13 (by decide) ?_
      exact gx_iret hx hb hr hlocks hI (Or.inl ⟨hp9, rfl, rfl⟩) (Nat.le_of_ble_eq_true rfl) (Nat.le_of_ble_eq_true rfl) dL_addKey_14
    · subst hE
      refine vx_catch hown [⟨0, 9, 12, 13⟩] ⟨0, 9, 15, 23⟩ [] (htab.trans rfl) (fun z hz => by
          simp only [List.mem_cons, List.not_mem_nil, or_false] at hz
          rcases hz with rfl
          · exact Or.inr ⟨by decide, _, hw0, gE_nc hI.2.2.2.1 (q := ("java/lang/IllegalStateException", "java/lang/IllegalArgumentException")) (by decide)⟩) (by decide) (by decide) hw1 (gE_ct hI.2.2.2.1 (q := ("java/lang/IllegalStateException", "java/lang/IllegalStateException")) (by decide)) h91 h92 h93 ?_
      refine lv_astore_n (lv' := [(3, .ref q9), (0, .ref (N 0 0)), (1, .int plan), (2, .ref ou)]) hx hb dL_addKey_15 rfl hl (by decide) rfl (fun ls hl => ?_)
      refine lv_iconst (v := 2) hx hb dL_addKey_16 (by decide) ?_
      exact gx_iret hx hb hr hlocks hI (Or.inr (Or.inl ⟨hp9, rfl, rfl⟩)) (Nat.le_of_ble_eq_true rfl) (Nat.le_of_ble_eq_true rfl) dL_addKey_17
  · obtain ⟨g_4, hp_5, e_6, hd_7⟩ := hw_2
    rw [e_6] at hI
    refine lv_i2l (v := Int32.toInt64 r_3) hx hb dL_addKey_7 rfl ?_
    refine g_last hx hb hI (gO_at hd_7) (by unfold vp_in; decide) dL_addKey_8 (fun f_8 H locs e_9 hI => ?_)
    rw [gO_up hd_7] at e_9
    refine lv_goto (tgt := 18) hx hb dL_addKey_9 (by decide) ?_
    refine lv_iconst (v := 0) hx hb dL_addKey_18 (by decide) ?_
    exact gx_iret hx hb hr hlocks hI (Or.inr (Or.inr (⟨rfl, r_3, g_4, hp_5, e_9, hd_7⟩))) (Nat.le_of_ble_eq_true rfl) (Nat.le_of_ble_eq_true rfl) dL_addKey_19

set_option maxHeartbeats 4000000 in
set_option maxRecDepth 100000 in
theorem c_L_setKeyPlan (l : Launch) (hl0 : l.stackTraces = false) (D : va_G) (cy : Nat → ClassId) (de : Nat) (fG : gFm) (ou : Nat) (y : Nat → Int64) (N : gNm) (I : gMd) (key : Int32) (plan : Int32) (hR : gR cy de N I fG) (hd : gDj fG (gO cy ou y)) : gMi l yL_setKeyPlan wsL_setKeyPlan { frames := 8, cells := 2, slots := 12, locals := 128 } D cy de [.ref (N 0 0), .int key, .int plan, .ref ou] (gJ fG (gO cy ou y)) (fun r9 f9 => (((fun E9 => (E9 = "java/lang/IndexOutOfBoundsException" ∧ ¬ pI key (N 0 7)) ∨ ∃ jkey, jkey < N 0 7 ∧ key = nI jkey ∧ (E9 = "java/lang/IllegalArgumentException" ∧ ¬ pI plan (4))) "java/lang/IndexOutOfBoundsException") ∧ r9 = 1 ∧ f9 = (gJ fG (gO cy ou y))) ∨ (((fun E9 => (E9 = "java/lang/IndexOutOfBoundsException" ∧ ¬ pI key (N 0 7)) ∨ ∃ jkey, jkey < N 0 7 ∧ key = nI jkey ∧ (E9 = "java/lang/IllegalArgumentException" ∧ ¬ pI plan (4))) "java/lang/IllegalArgumentException") ∧ r9 = 2 ∧ f9 = (gJ fG (gO cy ou y))) ∨ (r9 = 0 ∧ ∃ v9 g9, (fun r9 f9 => ∃ jkey, jkey < N 0 7 ∧ key = nI jkey ∧ ∃ jplan, jplan < 4 ∧ plan = nI jplan ∧ (r9 = nI (N 5 jkey) ∧ gR cy de (nPlan N jkey jplan) I f9)) v9 g9 ∧ f9 = gJ g9 (gO cy ou (vp_updL y (Int32.toNatClampNeg 0) (Int32.toInt64 v9))) ∧ gDj g9 (gO cy ou y))) 2 12 := by
  refine gMi_of (fun sz => vx_ofWH (cc := cL_setKeyPlan) (maxL := 5) (ret := (some .int)) (hh := [(0, 10, 13, 29), (0, 10, 17, 13)]) (by decide) rfl ?_)
  intro p e s m args below meth c s₁ B hml hv
  obtain ⟨rfl, hv⟩ := hv
  obtain ⟨rfl, hI⟩ := gP_I hv
  have hx := B.exec
  have hb := B.bytes
  have hr := B.returns
  have hts := atoms_spec (ws := wsL_setKeyPlan) B.pre
  have htab : c.exceptionTable.toList = tableOf [(0, 10, 13, 29), (0, 10, 17, 13)] := vx_table (x := yL_setKeyPlan) B (hts _ List.mem_cons_self)
  have hown : s.vm.findClass RL = some m.cls := findClass_of_methodNamed B.named
  have hlocks := B.notSynchronized
  have hw0 := hts (.classLink RL 29 "java/lang/IndexOutOfBoundsException") (by decide +kernel)
  have hw1 := hts (.classLink RL 13 "java/lang/IllegalArgumentException") (by decide +kernel)
  have hl := lv_entry ([.ref (N 0 0), .int key, .int plan, .ref ou]) (n := 5) (Nat.le_of_ble_eq_true rfl)
  rw [lg_entry_eq]
  generalize (lg_sl ([.ref (N 0 0), .int key, .int plan, .ref ou]) ++ List.replicate (5 - (lg_sl ([.ref (N 0 0), .int key, .int plan, .ref ou])).length) Slot.unset).toArray = ls at hl ⊢
  have hl : lv_has ls 5 [(0, .ref (N 0 0)), (1, .int key), (2, .int plan), (3, .ref ou)] := hl
  refine lv_aload_n hx hb dL_setKeyPlan_0 rfl (lv_at hl 3 rfl) ?_
  refine lv_iconst (v := 0) hx hb dL_setKeyPlan_1 (by decide) ?_
  refine lv_aload_n hx hb dL_setKeyPlan_2 rfl (lv_at hl 0 rfl) ?_
  refine lv_iload_n hx hb dL_setKeyPlan_3 rfl (lv_at hl 1 rfl) ?_
  refine lv_iload_n hx hb dL_setKeyPlan_4 rfl (lv_at hl 2 rfl) ?_
  refine gw_calli hI (vx_runV (As := [.int key, .int plan]) (rest := [.int 0, .ref ou]) ⟨hx, hb, hml, hown, hts⟩ (gXi_frame (c_X4_setKeyPlan l hl0 D cy de fG N I key plan hR) hd s.heap.size) (cwV 2 hts gL_setKeyPlan_X4_setKeyPlan rfl rfl rfl (by decide +kernel) ⟨Nat.le_of_ble_eq_true rfl, Nat.le_of_ble_eq_true rfl⟩) (g_preV hI (gJ_l (gR_tg hR)) rfl) rfl rfl hl.1 rfl (lv_room (Nat.le_of_ble_eq_true rfl)) dL_setKeyPlan_5 ⟨Nat.le_of_ble_eq_true rfl, Nat.le_of_ble_eq_true rfl⟩) (fun E ce q9 H locs hp9 hI h91 h92 h93 => ?_) (fun r_3 f_1 H locs hw_2 hI => ?_)
  · have hE : E = "java/lang/IndexOutOfBoundsException" ∨ E = "java/lang/IllegalArgumentException" := by
      rcases hp9 with ⟨e9, -⟩ | ⟨_, -, -, ⟨e9, -⟩⟩ <;> first | exact e9 | exact Or.inl e9 | exact Or.inr e9 | exact Or.inr (Or.inl e9) | exact Or.inr (Or.inr e9)
    rcases hE with hE | hE
    · subst hE
      refine vx_catch hown [] ⟨0, 10, 13, 29⟩ [⟨0, 10, 17, 13⟩] (htab.trans rfl) (fun z hz => nomatch hz) (by decide) (by decide) hw0 (gE_ct hI.2.2.2.1 (q := ("java/lang/IndexOutOfBoundsException", "java/lang/IndexOutOfBoundsException")) (by decide)) h91 h92 h93 ?_
      refine lv_astore (lv' := [(4, .ref q9), (0, .ref (N 0 0)), (1, .int key), (2, .int plan), (3, .ref ou)]) hx hb dL_setKeyPlan_13 hl (by decide) rfl (fun ls hl => ?_)
      refine lv_iconst (v := 1) hx hb dL_setKeyPlan_15 (by decide) ?_
      exact gx_iret hx hb hr hlocks hI (Or.inl ⟨hp9, rfl, rfl⟩) (Nat.le_of_ble_eq_true rfl) (Nat.le_of_ble_eq_true rfl) dL_setKeyPlan_16
    · subst hE
      refine vx_catch hown [⟨0, 10, 13, 29⟩] ⟨0, 10, 17, 13⟩ [] (htab.trans rfl) (fun z hz => by
          simp only [List.mem_cons, List.not_mem_nil, or_false] at hz
          rcases hz with rfl
          · exact Or.inr ⟨by decide, _, hw0, gE_nc hI.2.2.2.1 (q := ("java/lang/IllegalArgumentException", "java/lang/IndexOutOfBoundsException")) (by decide)⟩) (by decide) (by decide) hw1 (gE_ct hI.2.2.2.1 (q := ("java/lang/IllegalArgumentException", "java/lang/IllegalArgumentException")) (by decide)) h91 h92 h93 ?_
      refine lv_astore (lv' := [(4, .ref q9), (0, .ref (N 0 0)), (1, .int key), (2, .int plan), (3, .ref ou)]) hx hb dL_setKeyPlan_17 hl (by decide) rfl (fun ls hl => ?_)
      refine lv_iconst (v := 2) hx hb dL_setKeyPlan_19 (by decide) ?_
      exact gx_iret hx hb hr hlocks hI (Or.inr (Or.inl ⟨hp9, rfl, rfl⟩)) (Nat.le_of_ble_eq_true rfl) (Nat.le_of_ble_eq_true rfl) dL_setKeyPlan_20
  · obtain ⟨g_4, hp_5, e_6, hd_7⟩ := hw_2
    rw [e_6] at hI
    refine lv_i2l (v := Int32.toInt64 r_3) hx hb dL_setKeyPlan_8 rfl ?_
    refine g_last hx hb hI (gO_at hd_7) (by unfold vp_in; decide) dL_setKeyPlan_9 (fun f_8 H locs e_9 hI => ?_)
    rw [gO_up hd_7] at e_9
    refine lv_goto (tgt := 21) hx hb dL_setKeyPlan_10 (by decide) ?_
    refine lv_iconst (v := 0) hx hb dL_setKeyPlan_21 (by decide) ?_
    exact gx_iret hx hb hr hlocks hI (Or.inr (Or.inr (⟨rfl, r_3, g_4, hp_5, e_9, hd_7⟩))) (Nat.le_of_ble_eq_true rfl) (Nat.le_of_ble_eq_true rfl) dL_setKeyPlan_22

set_option maxHeartbeats 4000000 in
set_option maxRecDepth 100000 in
theorem c_L_setTrust (l : Launch) (hl0 : l.stackTraces = false) (D : va_G) (cy : Nat → ClassId) (de : Nat) (fG : gFm) (ou : Nat) (y : Nat → Int64) (N : gNm) (I : gMd) (key : Int32) (line : Int32) (hR : gR cy de N I fG) (hd : gDj fG (gO cy ou y)) : gMi l yL_setTrust wsL_setTrust { frames := 8, cells := 2, slots := 12, locals := 128 } D cy de [.ref (N 0 0), .int key, .int line, .ref ou] (gJ fG (gO cy ou y)) (fun r9 f9 => (((fun E9 => (E9 = "java/lang/IndexOutOfBoundsException" ∧ ¬ pI key (N 0 7)) ∨ ∃ jkey, jkey < N 0 7 ∧ key = nI jkey ∧ (E9 = "java/lang/IllegalArgumentException" ∧ ¬ (mIn line 0 10000 = true))) "java/lang/IndexOutOfBoundsException") ∧ r9 = 1 ∧ f9 = (gJ fG (gO cy ou y))) ∨ (((fun E9 => (E9 = "java/lang/IndexOutOfBoundsException" ∧ ¬ pI key (N 0 7)) ∨ ∃ jkey, jkey < N 0 7 ∧ key = nI jkey ∧ (E9 = "java/lang/IllegalArgumentException" ∧ ¬ (mIn line 0 10000 = true))) "java/lang/IllegalArgumentException") ∧ r9 = 2 ∧ f9 = (gJ fG (gO cy ou y))) ∨ (r9 = 0 ∧ ∃ v9 g9, (fun r9 f9 => ∃ jkey, jkey < N 0 7 ∧ key = nI jkey ∧ (mIn line 0 10000 = true) ∧ (r9 = I 8 jkey ∧ gR cy de N (iK I jkey (I 7 jkey) line (I 9 jkey) (I 10 jkey) (I 11 jkey) (I 12 jkey) (I 13 jkey) (I 14 jkey)) f9)) v9 g9 ∧ f9 = gJ g9 (gO cy ou (vp_updL y (Int32.toNatClampNeg 0) (Int32.toInt64 v9))) ∧ gDj g9 (gO cy ou y))) 2 12 := by
  refine gMi_of (fun sz => vx_ofWH (cc := cL_setTrust) (maxL := 5) (ret := (some .int)) (hh := [(0, 10, 13, 29), (0, 10, 17, 13)]) (by decide) rfl ?_)
  intro p e s m args below meth c s₁ B hml hv
  obtain ⟨rfl, hv⟩ := hv
  obtain ⟨rfl, hI⟩ := gP_I hv
  have hx := B.exec
  have hb := B.bytes
  have hr := B.returns
  have hts := atoms_spec (ws := wsL_setTrust) B.pre
  have htab : c.exceptionTable.toList = tableOf [(0, 10, 13, 29), (0, 10, 17, 13)] := vx_table (x := yL_setTrust) B (hts _ List.mem_cons_self)
  have hown : s.vm.findClass RL = some m.cls := findClass_of_methodNamed B.named
  have hlocks := B.notSynchronized
  have hw0 := hts (.classLink RL 29 "java/lang/IndexOutOfBoundsException") (by decide +kernel)
  have hw1 := hts (.classLink RL 13 "java/lang/IllegalArgumentException") (by decide +kernel)
  have hl := lv_entry ([.ref (N 0 0), .int key, .int line, .ref ou]) (n := 5) (Nat.le_of_ble_eq_true rfl)
  rw [lg_entry_eq]
  generalize (lg_sl ([.ref (N 0 0), .int key, .int line, .ref ou]) ++ List.replicate (5 - (lg_sl ([.ref (N 0 0), .int key, .int line, .ref ou])).length) Slot.unset).toArray = ls at hl ⊢
  have hl : lv_has ls 5 [(0, .ref (N 0 0)), (1, .int key), (2, .int line), (3, .ref ou)] := hl
  refine lv_aload_n hx hb dL_setTrust_0 rfl (lv_at hl 3 rfl) ?_
  refine lv_iconst (v := 0) hx hb dL_setTrust_1 (by decide) ?_
  refine lv_aload_n hx hb dL_setTrust_2 rfl (lv_at hl 0 rfl) ?_
  refine lv_iload_n hx hb dL_setTrust_3 rfl (lv_at hl 1 rfl) ?_
  refine lv_iload_n hx hb dL_setTrust_4 rfl (lv_at hl 2 rfl) ?_
  refine gw_calli hI (vx_runV (As := [.int key, .int line]) (rest := [.int 0, .ref ou]) ⟨hx, hb, hml, hown, hts⟩ (gXi_frame (c_X4_setTrust l hl0 D cy de fG N I key line hR) hd s.heap.size) (cwV 2 hts gL_setTrust_X4_setTrust rfl rfl rfl (by decide +kernel) ⟨Nat.le_of_ble_eq_true rfl, Nat.le_of_ble_eq_true rfl⟩) (g_preV hI (gJ_l (gR_tg hR)) rfl) rfl rfl hl.1 rfl (lv_room (Nat.le_of_ble_eq_true rfl)) dL_setTrust_5 ⟨Nat.le_of_ble_eq_true rfl, Nat.le_of_ble_eq_true rfl⟩) (fun E ce q9 H locs hp9 hI h91 h92 h93 => ?_) (fun r_3 f_1 H locs hw_2 hI => ?_)
  · have hE : E = "java/lang/IndexOutOfBoundsException" ∨ E = "java/lang/IllegalArgumentException" := by
      rcases hp9 with ⟨e9, -⟩ | ⟨_, -, -, ⟨e9, -⟩⟩ <;> first | exact e9 | exact Or.inl e9 | exact Or.inr e9 | exact Or.inr (Or.inl e9) | exact Or.inr (Or.inr e9)
    rcases hE with hE | hE
    · subst hE
      refine vx_catch hown [] ⟨0, 10, 13, 29⟩ [⟨0, 10, 17, 13⟩] (htab.trans rfl) (fun z hz => nomatch hz) (by decide) (by decide) hw0 (gE_ct hI.2.2.2.1 (q := ("java/lang/IndexOutOfBoundsException", "java/lang/IndexOutOfBoundsException")) (by decide)) h91 h92 h93 ?_
      refine lv_astore (lv' := [(4, .ref q9), (0, .ref (N 0 0)), (1, .int key), (2, .int line), (3, .ref ou)]) hx hb dL_setTrust_13 hl (by decide) rfl (fun ls hl => ?_)
      refine lv_iconst (v := 1) hx hb dL_setTrust_15 (by decide) ?_
      exact gx_iret hx hb hr hlocks hI (Or.inl ⟨hp9, rfl, rfl⟩) (Nat.le_of_ble_eq_true rfl) (Nat.le_of_ble_eq_true rfl) dL_setTrust_16
    · subst hE
      refine vx_catch hown [⟨0, 10, 13, 29⟩] ⟨0, 10, 17, 13⟩ [] (htab.trans rfl) (fun z hz => by
          simp only [List.mem_cons, List.not_mem_nil, or_false] at hz
          rcases hz with rfl
          · exact Or.inr ⟨by decide, _, hw0, gE_nc hI.2.2.2.1 (q := ("java/lang/IllegalArgumentException", "java/lang/IndexOutOfBoundsException")) (by decide)⟩) (by decide) (by decide) hw1 (gE_ct hI.2.2.2.1 (q := ("java/lang/IllegalArgumentException", "java/lang/IllegalArgumentException")) (by decide)) h91 h92 h93 ?_
      refine lv_astore (lv' := [(4, .ref q9), (0, .ref (N 0 0)), (1, .int key), (2, .int line), (3, .ref ou)]) hx hb dL_setTrust_17 hl (by decide) rfl (fun ls hl => ?_)
      refine lv_iconst (v := 2) hx hb dL_setTrust_19 (by decide) ?_
      exact gx_iret hx hb hr hlocks hI (Or.inr (Or.inl ⟨hp9, rfl, rfl⟩)) (Nat.le_of_ble_eq_true rfl) (Nat.le_of_ble_eq_true rfl) dL_setTrust_20
  · obtain ⟨g_4, hp_5, e_6, hd_7⟩ := hw_2
    rw [e_6] at hI
    refine lv_i2l (v := Int32.toInt64 r_3) hx hb dL_setTrust_8 rfl ?_
    refine g_last hx hb hI (gO_at hd_7) (by unfold vp_in; decide) dL_setTrust_9 (fun f_8 H locs e_9 hI => ?_)
    rw [gO_up hd_7] at e_9
    refine lv_goto (tgt := 21) hx hb dL_setTrust_10 (by decide) ?_
    refine lv_iconst (v := 0) hx hb dL_setTrust_21 (by decide) ?_
    exact gx_iret hx hb hr hlocks hI (Or.inr (Or.inr (⟨rfl, r_3, g_4, hp_5, e_9, hd_7⟩))) (Nat.le_of_ble_eq_true rfl) (Nat.le_of_ble_eq_true rfl) dL_setTrust_22

set_option maxHeartbeats 4000000 in
set_option maxRecDepth 100000 in
theorem c_L_pay (l : Launch) (hl0 : l.stackTraces = false) (D : va_G) (cy : Nat → ClassId) (de : Nat) (fG : gFm) (ou : Nat) (y : Nat → Int64) (N : gNm) (I : gMd) (key : Int32) (money : Int32) (hR : gR cy de N I fG) (hd : gDj fG (gO cy ou y)) : gMi l yL_pay wsL_pay { frames := 8, cells := 2, slots := 12, locals := 127 } D cy de [.ref (N 0 0), .int key, .int money, .ref ou] (gJ fG (gO cy ou y)) (fun r9 f9 => (((fun E9 => (E9 = "java/lang/IndexOutOfBoundsException" ∧ ¬ pI key (N 0 7)) ∨ ∃ jkey, jkey < N 0 7 ∧ key = nI jkey ∧ (E9 = "java/lang/IllegalArgumentException" ∧ ¬ (mIn money 1 100000 = true))) "java/lang/IndexOutOfBoundsException") ∧ r9 = 1 ∧ f9 = (gJ fG (gO cy ou y))) ∨ (((fun E9 => (E9 = "java/lang/IndexOutOfBoundsException" ∧ ¬ pI key (N 0 7)) ∨ ∃ jkey, jkey < N 0 7 ∧ key = nI jkey ∧ (E9 = "java/lang/IllegalArgumentException" ∧ ¬ (mIn money 1 100000 = true))) "java/lang/IllegalArgumentException") ∧ r9 = 2 ∧ f9 = (gJ fG (gO cy ou y))) ∨ (r9 = 0 ∧ ∃ v9 g9, (fun r9 f9 => ∃ jkey, jkey < N 0 7 ∧ key = nI jkey ∧ (mIn money 1 100000 = true) ∧ (r9 = (I 9 jkey) + (money - (if money < (I 10 jkey) then money else (I 10 jkey))) ∧ gR cy de N (iK I jkey (I 7 jkey) (I 8 jkey) ((I 9 jkey) + (money - (if money < (I 10 jkey) then money else (I 10 jkey)))) ((I 10 jkey) - (if money < (I 10 jkey) then money else (I 10 jkey))) (I 11 jkey) (I 12 jkey) (I 13 jkey) ((I 14 jkey) + money)) f9)) v9 g9 ∧ f9 = gJ g9 (gO cy ou (vp_updL y (Int32.toNatClampNeg 0) (Int32.toInt64 v9))) ∧ gDj g9 (gO cy ou y))) 2 12 := by
  refine gMi_of (fun sz => vx_ofWH (cc := cL_pay) (maxL := 5) (ret := (some .int)) (hh := [(0, 10, 13, 29), (0, 10, 17, 13)]) (by decide) rfl ?_)
  intro p e s m args below meth c s₁ B hml hv
  obtain ⟨rfl, hv⟩ := hv
  obtain ⟨rfl, hI⟩ := gP_I hv
  have hx := B.exec
  have hb := B.bytes
  have hr := B.returns
  have hts := atoms_spec (ws := wsL_pay) B.pre
  have htab : c.exceptionTable.toList = tableOf [(0, 10, 13, 29), (0, 10, 17, 13)] := vx_table (x := yL_pay) B (hts _ List.mem_cons_self)
  have hown : s.vm.findClass RL = some m.cls := findClass_of_methodNamed B.named
  have hlocks := B.notSynchronized
  have hw0 := hts (.classLink RL 29 "java/lang/IndexOutOfBoundsException") (by decide +kernel)
  have hw1 := hts (.classLink RL 13 "java/lang/IllegalArgumentException") (by decide +kernel)
  have hl := lv_entry ([.ref (N 0 0), .int key, .int money, .ref ou]) (n := 5) (Nat.le_of_ble_eq_true rfl)
  rw [lg_entry_eq]
  generalize (lg_sl ([.ref (N 0 0), .int key, .int money, .ref ou]) ++ List.replicate (5 - (lg_sl ([.ref (N 0 0), .int key, .int money, .ref ou])).length) Slot.unset).toArray = ls at hl ⊢
  have hl : lv_has ls 5 [(0, .ref (N 0 0)), (1, .int key), (2, .int money), (3, .ref ou)] := hl
  refine lv_aload_n hx hb dL_pay_0 rfl (lv_at hl 3 rfl) ?_
  refine lv_iconst (v := 0) hx hb dL_pay_1 (by decide) ?_
  refine lv_aload_n hx hb dL_pay_2 rfl (lv_at hl 0 rfl) ?_
  refine lv_iload_n hx hb dL_pay_3 rfl (lv_at hl 1 rfl) ?_
  refine lv_iload_n hx hb dL_pay_4 rfl (lv_at hl 2 rfl) ?_
  refine gw_calli hI (vx_runV (As := [.int key, .int money]) (rest := [.int 0, .ref ou]) ⟨hx, hb, hml, hown, hts⟩ (gXi_frame (c_X4_pay l hl0 D cy de fG N I key money hR) hd s.heap.size) (cwV 2 hts gL_pay_X4_pay rfl rfl rfl (by decide +kernel) ⟨Nat.le_of_ble_eq_true rfl, Nat.le_of_ble_eq_true rfl⟩) (g_preV hI (gJ_l (gR_tg hR)) rfl) rfl rfl hl.1 rfl (lv_room (Nat.le_of_ble_eq_true rfl)) dL_pay_5 ⟨Nat.le_of_ble_eq_true rfl, Nat.le_of_ble_eq_true rfl⟩) (fun E ce q9 H locs hp9 hI h91 h92 h93 => ?_) (fun r_3 f_1 H locs hw_2 hI => ?_)
  · have hE : E = "java/lang/IndexOutOfBoundsException" ∨ E = "java/lang/IllegalArgumentException" := by
      rcases hp9 with ⟨e9, -⟩ | ⟨_, -, -, ⟨e9, -⟩⟩ <;> first | exact e9 | exact Or.inl e9 | exact Or.inr e9 | exact Or.inr (Or.inl e9) | exact Or.inr (Or.inr e9)
    rcases hE with hE | hE
    · subst hE
      refine vx_catch hown [] ⟨0, 10, 13, 29⟩ [⟨0, 10, 17, 13⟩] (htab.trans rfl) (fun z hz => nomatch hz) (by decide) (by decide) hw0 (gE_ct hI.2.2.2.1 (q := ("java/lang/IndexOutOfBoundsException", "java/lang/IndexOutOfBoundsException")) (by decide)) h91 h92 h93 ?_
      refine lv_astore (lv' := [(4, .ref q9), (0, .ref (N 0 0)), (1, .int key), (2, .int money), (3, .ref ou)]) hx hb dL_pay_13 hl (by decide) rfl (fun ls hl => ?_)
      refine lv_iconst (v := 1) hx hb dL_pay_15 (by decide) ?_
      exact gx_iret hx hb hr hlocks hI (Or.inl ⟨hp9, rfl, rfl⟩) (Nat.le_of_ble_eq_true rfl) (Nat.le_of_ble_eq_true rfl) dL_pay_16
    · subst hE
      refine vx_catch hown [⟨0, 10, 13, 29⟩] ⟨0, 10, 17, 13⟩ [] (htab.trans rfl) (fun z hz => by
          simp only [List.mem_cons, List.not_mem_nil, or_false] at hz
          rcases hz with rfl
          · exact Or.inr ⟨by decide, _, hw0, gE_nc hI.2.2.2.1 (q := ("java/lang/IllegalArgumentException", "java/lang/IndexOutOfBoundsException")) (by decide)⟩) (by decide) (by decide) hw1 (gE_ct hI.2.2.2.1 (q := ("java/lang/IllegalArgumentException", "java/lang/IllegalArgumentException")) (by decide)) h91 h92 h93 ?_
      refine lv_astore (lv' := [(4, .ref q9), (0, .ref (N 0 0)), (1, .int key), (2, .int money), (3, .ref ou)]) hx hb dL_pay_17 hl (by decide) rfl (fun ls hl => ?_)
      refine lv_iconst (v := 2) hx hb dL_pay_19 (by decide) ?_
      exact gx_iret hx hb hr hlocks hI (Or.inr (Or.inl ⟨hp9, rfl, rfl⟩)) (Nat.le_of_ble_eq_true rfl) (Nat.le_of_ble_eq_true rfl) dL_pay_20
  · obtain ⟨g_4, hp_5, e_6, hd_7⟩ := hw_2
    rw [e_6] at hI
    refine lv_i2l (v := Int32.toInt64 r_3) hx hb dL_pay_8 rfl ?_
    refine g_last hx hb hI (gO_at hd_7) (by unfold vp_in; decide) dL_pay_9 (fun f_8 H locs e_9 hI => ?_)
    rw [gO_up hd_7] at e_9
    refine lv_goto (tgt := 21) hx hb dL_pay_10 (by decide) ?_
    refine lv_iconst (v := 0) hx hb dL_pay_21 (by decide) ?_
    exact gx_iret hx hb hr hlocks hI (Or.inr (Or.inr (⟨rfl, r_3, g_4, hp_5, e_9, hd_7⟩))) (Nat.le_of_ble_eq_true rfl) (Nat.le_of_ble_eq_true rfl) dL_pay_22

set_option maxHeartbeats 4000000 in
set_option maxRecDepth 100000 in
theorem c_L_call (l : Launch) (hl0 : l.stackTraces = false) (D : va_G) (cy : Nat → ClassId) (de : Nat) (fG : gFm) (ou : Nat) (y : Nat → Int64) (N : gNm) (I : gMd) (key : Int32) (route : Int32) (size : Int32) (hR : gR cy de N I fG) (hd : gDj fG (gO cy ou y)) : gMi l yL_call wsL_call { frames := 8, cells := 5, slots := 225, locals := 237 } D cy de [.ref (N 0 0), .int key, .int route, .int size, .ref ou] (gJ fG (gO cy ou y)) (fun r9 f9 => (((fun E9 => (E9 = "java/lang/IndexOutOfBoundsException" ∧ ¬ pI key (N 0 7)) ∨ ∃ jkey, jkey < N 0 7 ∧ key = nI jkey ∧ ((E9 = "java/lang/IllegalArgumentException" ∧ ¬ pI route (6)) ∨ ∃ jroute, jroute < 6 ∧ route = nI jroute ∧ ((E9 = "java/lang/IllegalArgumentException" ∧ ¬ (mIn size 1 9 = true)) ∨ (mIn size 1 9 = true) ∧ (E9 = "java/lang/IllegalStateException" ∧ ¬ (nI (N 0 8) < 80))))) "java/lang/IndexOutOfBoundsException") ∧ r9 = 1 ∧ f9 = (gJ fG (gO cy ou y))) ∨ (((fun E9 => (E9 = "java/lang/IndexOutOfBoundsException" ∧ ¬ pI key (N 0 7)) ∨ ∃ jkey, jkey < N 0 7 ∧ key = nI jkey ∧ ((E9 = "java/lang/IllegalArgumentException" ∧ ¬ pI route (6)) ∨ ∃ jroute, jroute < 6 ∧ route = nI jroute ∧ ((E9 = "java/lang/IllegalArgumentException" ∧ ¬ (mIn size 1 9 = true)) ∨ (mIn size 1 9 = true) ∧ (E9 = "java/lang/IllegalStateException" ∧ ¬ (nI (N 0 8) < 80))))) "java/lang/IllegalArgumentException") ∧ r9 = 2 ∧ f9 = (gJ fG (gO cy ou y))) ∨ (((fun E9 => (E9 = "java/lang/IndexOutOfBoundsException" ∧ ¬ pI key (N 0 7)) ∨ ∃ jkey, jkey < N 0 7 ∧ key = nI jkey ∧ ((E9 = "java/lang/IllegalArgumentException" ∧ ¬ pI route (6)) ∨ ∃ jroute, jroute < 6 ∧ route = nI jroute ∧ ((E9 = "java/lang/IllegalArgumentException" ∧ ¬ (mIn size 1 9 = true)) ∨ (mIn size 1 9 = true) ∧ (E9 = "java/lang/IllegalStateException" ∧ ¬ (nI (N 0 8) < 80))))) "java/lang/IllegalStateException") ∧ r9 = 3 ∧ f9 = (gJ fG (gO cy ou y))) ∨ (r9 = 0 ∧ ∃ v9 g9, (fun r9 f9 => ∃ jkey, jkey < N 0 7 ∧ key = nI jkey ∧ ∃ jroute, jroute < 6 ∧ route = nI jroute ∧ (mIn size 1 9 = true) ∧ (nI (N 0 8) < 80) ∧ ((∃ ek_76, ∃ q_47, ((I 6 jroute) ≤ (I 7 jkey)) ∧ ((!decide ((I 9 jkey) + (if 0 < (I 8 jkey) - (I 10 jkey) then (I 8 jkey) - (I 10 jkey) else 0) < ((I 5 jroute) * size))) = true) ∧ r9 = 0 ∧ gR cy de (nCall N ek_76 q_47 jkey) (iC (iK I jkey ((I 7 jkey) - (I 6 jroute)) (I 8 jkey) ((I 9 jkey) - (if ((I 5 jroute) * size) < (I 9 jkey) then ((I 5 jroute) * size) else (I 9 jkey))) ((I 10 jkey) + (((I 5 jroute) * size) - (if ((I 5 jroute) * size) < (I 9 jkey) then ((I 5 jroute) * size) else (I 9 jkey)))) ((I 11 jkey) + ((I 5 jroute) * size)) ((I 12 jkey) + 1) (I 13 jkey) (I 14 jkey)) (N 0 8) ((I 5 jroute) * size) (I 6 jroute) ((I 0 0) + 20) (-1) 0 0) f9) ∨ (((I 6 jroute) ≤ (I 7 jkey)) ∧ ((!decide ((I 9 jkey) + (if 0 < (I 8 jkey) - (I 10 jkey) then (I 8 jkey) - (I 10 jkey) else 0) < ((I 5 jroute) * size))) = false) ∧ r9 = 2 ∧ f9 = fG) ∨ ((¬ (I 6 jroute) ≤ (I 7 jkey)) ∧ r9 = 1 ∧ f9 = fG))) v9 g9 ∧ f9 = gJ g9 (gO cy ou (vp_updL y (Int32.toNatClampNeg 0) (Int32.toInt64 v9))) ∧ gDj g9 (gO cy ou y))) 5 225 := by
  refine gMi_of (fun sz => vx_ofWH (cc := cL_call) (maxL := 6) (ret := (some .int)) (hh := [(0, 12, 15, 29), (0, 12, 19, 13), (0, 12, 23, 23)]) (by decide) rfl ?_)
  intro p e s m args below meth c s₁ B hml hv
  obtain ⟨rfl, hv⟩ := hv
  obtain ⟨rfl, hI⟩ := gP_I hv
  have hx := B.exec
  have hb := B.bytes
  have hr := B.returns
  have hts := atoms_spec (ws := wsL_call) B.pre
  have htab : c.exceptionTable.toList = tableOf [(0, 12, 15, 29), (0, 12, 19, 13), (0, 12, 23, 23)] := vx_table (x := yL_call) B (hts _ List.mem_cons_self)
  have hown : s.vm.findClass RL = some m.cls := findClass_of_methodNamed B.named
  have hlocks := B.notSynchronized
  have hw0 := hts (.classLink RL 29 "java/lang/IndexOutOfBoundsException") (by decide +kernel)
  have hw1 := hts (.classLink RL 13 "java/lang/IllegalArgumentException") (by decide +kernel)
  have hw2 := hts (.classLink RL 23 "java/lang/IllegalStateException") (by decide +kernel)
  have hl := lv_entry ([.ref (N 0 0), .int key, .int route, .int size, .ref ou]) (n := 6) (Nat.le_of_ble_eq_true rfl)
  rw [lg_entry_eq]
  generalize (lg_sl ([.ref (N 0 0), .int key, .int route, .int size, .ref ou]) ++ List.replicate (6 - (lg_sl ([.ref (N 0 0), .int key, .int route, .int size, .ref ou])).length) Slot.unset).toArray = ls at hl ⊢
  have hl : lv_has ls 6 [(0, .ref (N 0 0)), (1, .int key), (2, .int route), (3, .int size), (4, .ref ou)] := hl
  refine lv_aload hx hb dL_call_0 (lv_at hl 4 rfl) ?_
  refine lv_iconst (v := 0) hx hb dL_call_2 (by decide) ?_
  refine lv_aload_n hx hb dL_call_3 rfl (lv_at hl 0 rfl) ?_
  refine lv_iload_n hx hb dL_call_4 rfl (lv_at hl 1 rfl) ?_
  refine lv_iload_n hx hb dL_call_5 rfl (lv_at hl 2 rfl) ?_
  refine lv_iload_n hx hb dL_call_6 rfl (lv_at hl 3 rfl) ?_
  refine gw_calli hI (vx_runV (As := [.int key, .int route, .int size]) (rest := [.int 0, .ref ou]) ⟨hx, hb, hml, hown, hts⟩ (gXi_frame (c_X4_call l hl0 D cy de fG N I key route size hR) hd s.heap.size) (cwV 3 hts gL_call_X4_call rfl rfl rfl (by decide +kernel) ⟨Nat.le_of_ble_eq_true rfl, Nat.le_of_ble_eq_true rfl⟩) (g_preV hI (gJ_l (gR_tg hR)) rfl) rfl rfl hl.1 rfl (lv_room (Nat.le_of_ble_eq_true rfl)) dL_call_7 ⟨Nat.le_of_ble_eq_true rfl, Nat.le_of_ble_eq_true rfl⟩) (fun E ce q9 H locs hp9 hI h91 h92 h93 => ?_) (fun r_3 f_1 H locs hw_2 hI => ?_)
  · have hE : E = "java/lang/IndexOutOfBoundsException" ∨ E = "java/lang/IllegalArgumentException" ∨ E = "java/lang/IllegalStateException" := by
      rcases hp9 with ⟨e9, -⟩ | ⟨_, -, -, (⟨e9, -⟩ | ⟨_, -, -, (⟨e9, -⟩ | ⟨-, ⟨e9, -⟩⟩)⟩)⟩ <;> first | exact e9 | exact Or.inl e9 | exact Or.inr e9 | exact Or.inr (Or.inl e9) | exact Or.inr (Or.inr e9)
    rcases hE with hE | hE | hE
    · subst hE
      refine vx_catch hown [] ⟨0, 12, 15, 29⟩ [⟨0, 12, 19, 13⟩, ⟨0, 12, 23, 23⟩] (htab.trans rfl) (fun z hz => nomatch hz) (by decide) (by decide) hw0 (gE_ct hI.2.2.2.1 (q := ("java/lang/IndexOutOfBoundsException", "java/lang/IndexOutOfBoundsException")) (by decide)) h91 h92 h93 ?_
      refine lv_astore (lv' := [(5, .ref q9), (0, .ref (N 0 0)), (1, .int key), (2, .int route), (3, .int size), (4, .ref ou)]) hx hb dL_call_15 hl (by decide) rfl (fun ls hl => ?_)
      refine lv_iconst (v := 1) hx hb dL_call_17 (by decide) ?_
      exact gx_iret hx hb hr hlocks hI (Or.inl ⟨hp9, rfl, rfl⟩) (Nat.le_of_ble_eq_true rfl) (Nat.le_of_ble_eq_true rfl) dL_call_18
    · subst hE
      refine vx_catch hown [⟨0, 12, 15, 29⟩] ⟨0, 12, 19, 13⟩ [⟨0, 12, 23, 23⟩] (htab.trans rfl) (fun z hz => by
          simp only [List.mem_cons, List.not_mem_nil, or_false] at hz
          rcases hz with rfl
          · exact Or.inr ⟨by decide, _, hw0, gE_nc hI.2.2.2.1 (q := ("java/lang/IllegalArgumentException", "java/lang/IndexOutOfBoundsException")) (by decide)⟩) (by decide) (by decide) hw1 (gE_ct hI.2.2.2.1 (q := ("java/lang/IllegalArgumentException", "java/lang/IllegalArgumentException")) (by decide)) h91 h92 h93 ?_
      refine lv_astore (lv' := [(5, .ref q9), (0, .ref (N 0 0)), (1, .int key), (2, .int route), (3, .int size), (4, .ref ou)]) hx hb dL_call_19 hl (by decide) rfl (fun ls hl => ?_)
      refine lv_iconst (v := 2) hx hb dL_call_21 (by decide) ?_
      exact gx_iret hx hb hr hlocks hI (Or.inr (Or.inl ⟨hp9, rfl, rfl⟩)) (Nat.le_of_ble_eq_true rfl) (Nat.le_of_ble_eq_true rfl) dL_call_22
    · subst hE
      refine vx_catch hown [⟨0, 12, 15, 29⟩, ⟨0, 12, 19, 13⟩] ⟨0, 12, 23, 23⟩ [] (htab.trans rfl) (fun z hz => by
          simp only [List.mem_cons, List.not_mem_nil, or_false] at hz
          rcases hz with rfl | rfl
          · exact Or.inr ⟨by decide, _, hw0, gE_nc hI.2.2.2.1 (q := ("java/lang/IllegalStateException", "java/lang/IndexOutOfBoundsException")) (by decide)⟩
          · exact Or.inr ⟨by decide, _, hw1, gE_nc hI.2.2.2.1 (q := ("java/lang/IllegalStateException", "java/lang/IllegalArgumentException")) (by decide)⟩) (by decide) (by decide) hw2 (gE_ct hI.2.2.2.1 (q := ("java/lang/IllegalStateException", "java/lang/IllegalStateException")) (by decide)) h91 h92 h93 ?_
      refine lv_astore (lv' := [(5, .ref q9), (0, .ref (N 0 0)), (1, .int key), (2, .int route), (3, .int size), (4, .ref ou)]) hx hb dL_call_23 hl (by decide) rfl (fun ls hl => ?_)
      refine lv_iconst (v := 3) hx hb dL_call_25 (by decide) ?_
      exact gx_iret hx hb hr hlocks hI (Or.inr (Or.inr (Or.inl ⟨hp9, rfl, rfl⟩))) (Nat.le_of_ble_eq_true rfl) (Nat.le_of_ble_eq_true rfl) dL_call_26
  · obtain ⟨g_4, hp_5, e_6, hd_7⟩ := hw_2
    rw [e_6] at hI
    refine lv_i2l (v := Int32.toInt64 r_3) hx hb dL_call_10 rfl ?_
    refine g_last hx hb hI (gO_at hd_7) (by unfold vp_in; decide) dL_call_11 (fun f_8 H locs e_9 hI => ?_)
    rw [gO_up hd_7] at e_9
    refine lv_goto (tgt := 27) hx hb dL_call_12 (by decide) ?_
    refine lv_iconst (v := 0) hx hb dL_call_27 (by decide) ?_
    exact gx_iret hx hb hr hlocks hI (Or.inr (Or.inr (Or.inr (⟨rfl, r_3, g_4, hp_5, e_9, hd_7⟩)))) (Nat.le_of_ble_eq_true rfl) (Nat.le_of_ble_eq_true rfl) dL_call_28

set_option maxHeartbeats 4000000 in
set_option maxRecDepth 100000 in
theorem c_L_end (l : Launch) (hl0 : l.stackTraces = false) (D : va_G) (cy : Nat → ClassId) (de : Nat) (fG : gFm) (ou : Nat) (y : Nat → Int64) (N : gNm) (I : gMd) (call : Int32) (oc : Int32) (hR : gR cy de N I fG) (hd : gDj fG (gO cy ou y)) : gMi l yL_end wsL_end { frames := 8, cells := 3, slots := 18, locals := 127 } D cy de [.ref (N 0 0), .int call, .int oc, .ref ou] (gJ fG (gO cy ou y)) (fun r9 f9 => (((fun E9 => (E9 = "java/lang/IndexOutOfBoundsException" ∧ ¬ pI call (N 0 8)) ∨ ∃ jcall, jcall < N 0 8 ∧ call = nI jcall ∧ ((E9 = "java/lang/IllegalArgumentException" ∧ ¬ (mIn oc 0 2 = true)) ∨ (mIn oc 0 2 = true) ∧ (E9 = "java/lang/IllegalStateException" ∧ ¬ ((!decide (I 18 jcall = -1)) = false)))) "java/lang/IndexOutOfBoundsException") ∧ r9 = 1 ∧ f9 = (gJ fG (gO cy ou y))) ∨ (((fun E9 => (E9 = "java/lang/IndexOutOfBoundsException" ∧ ¬ pI call (N 0 8)) ∨ ∃ jcall, jcall < N 0 8 ∧ call = nI jcall ∧ ((E9 = "java/lang/IllegalArgumentException" ∧ ¬ (mIn oc 0 2 = true)) ∨ (mIn oc 0 2 = true) ∧ (E9 = "java/lang/IllegalStateException" ∧ ¬ ((!decide (I 18 jcall = -1)) = false)))) "java/lang/IllegalArgumentException") ∧ r9 = 2 ∧ f9 = (gJ fG (gO cy ou y))) ∨ (((fun E9 => (E9 = "java/lang/IndexOutOfBoundsException" ∧ ¬ pI call (N 0 8)) ∨ ∃ jcall, jcall < N 0 8 ∧ call = nI jcall ∧ ((E9 = "java/lang/IllegalArgumentException" ∧ ¬ (mIn oc 0 2 = true)) ∨ (mIn oc 0 2 = true) ∧ (E9 = "java/lang/IllegalStateException" ∧ ¬ ((!decide (I 18 jcall = -1)) = false)))) "java/lang/IllegalStateException") ∧ r9 = 3 ∧ f9 = (gJ fG (gO cy ou y))) ∨ (r9 = 0 ∧ ∃ v9 g9, (fun r9 f9 => ∃ jcall, jcall < N 0 8 ∧ call = nI jcall ∧ (mIn oc 0 2 = true) ∧ ((!decide (I 18 jcall = -1)) = false) ∧ (r9 = (if oc = 0 then (I 15 jcall) else if oc = 1 then ((I 15 jcall) + 1) / 2 else 0) ∧ gR cy de N (iK (iC I jcall (I 15 jcall) (I 16 jcall) (I 17 jcall) (if oc = 0 then (I 15 jcall) else if oc = 1 then ((I 15 jcall) + 1) / 2 else 0) (I 0 0) (I 20 jcall)) (N 6 jcall) (I 7 (N 6 jcall)) (I 8 (N 6 jcall)) ((I 9 (N 6 jcall)) + (((I 15 jcall) - (if oc = 0 then (I 15 jcall) else if oc = 1 then ((I 15 jcall) + 1) / 2 else 0)) - (if ((I 15 jcall) - (if oc = 0 then (I 15 jcall) else if oc = 1 then ((I 15 jcall) + 1) / 2 else 0)) < (I 10 (N 6 jcall)) then ((I 15 jcall) - (if oc = 0 then (I 15 jcall) else if oc = 1 then ((I 15 jcall) + 1) / 2 else 0)) else (I 10 (N 6 jcall))))) ((I 10 (N 6 jcall)) - (if ((I 15 jcall) - (if oc = 0 then (I 15 jcall) else if oc = 1 then ((I 15 jcall) + 1) / 2 else 0)) < (I 10 (N 6 jcall)) then ((I 15 jcall) - (if oc = 0 then (I 15 jcall) else if oc = 1 then ((I 15 jcall) + 1) / 2 else 0)) else (I 10 (N 6 jcall)))) ((I 11 (N 6 jcall)) - (I 15 jcall)) ((I 12 (N 6 jcall)) - 1) ((I 13 (N 6 jcall)) + (if oc = 0 then (I 15 jcall) else if oc = 1 then ((I 15 jcall) + 1) / 2 else 0)) (I 14 (N 6 jcall))) f9)) v9 g9 ∧ f9 = gJ g9 (gO cy ou (vp_updL y (Int32.toNatClampNeg 0) (Int32.toInt64 v9))) ∧ gDj g9 (gO cy ou y))) 3 18 := by
  refine gMi_of (fun sz => vx_ofWH (cc := cL_end) (maxL := 5) (ret := (some .int)) (hh := [(0, 10, 13, 29), (0, 10, 17, 13), (0, 10, 21, 23)]) (by decide) rfl ?_)
  intro p e s m args below meth c s₁ B hml hv
  obtain ⟨rfl, hv⟩ := hv
  obtain ⟨rfl, hI⟩ := gP_I hv
  have hx := B.exec
  have hb := B.bytes
  have hr := B.returns
  have hts := atoms_spec (ws := wsL_end) B.pre
  have htab : c.exceptionTable.toList = tableOf [(0, 10, 13, 29), (0, 10, 17, 13), (0, 10, 21, 23)] := vx_table (x := yL_end) B (hts _ List.mem_cons_self)
  have hown : s.vm.findClass RL = some m.cls := findClass_of_methodNamed B.named
  have hlocks := B.notSynchronized
  have hw0 := hts (.classLink RL 29 "java/lang/IndexOutOfBoundsException") (by decide +kernel)
  have hw1 := hts (.classLink RL 13 "java/lang/IllegalArgumentException") (by decide +kernel)
  have hw2 := hts (.classLink RL 23 "java/lang/IllegalStateException") (by decide +kernel)
  have hl := lv_entry ([.ref (N 0 0), .int call, .int oc, .ref ou]) (n := 5) (Nat.le_of_ble_eq_true rfl)
  rw [lg_entry_eq]
  generalize (lg_sl ([.ref (N 0 0), .int call, .int oc, .ref ou]) ++ List.replicate (5 - (lg_sl ([.ref (N 0 0), .int call, .int oc, .ref ou])).length) Slot.unset).toArray = ls at hl ⊢
  have hl : lv_has ls 5 [(0, .ref (N 0 0)), (1, .int call), (2, .int oc), (3, .ref ou)] := hl
  refine lv_aload_n hx hb dL_end_0 rfl (lv_at hl 3 rfl) ?_
  refine lv_iconst (v := 0) hx hb dL_end_1 (by decide) ?_
  refine lv_aload_n hx hb dL_end_2 rfl (lv_at hl 0 rfl) ?_
  refine lv_iload_n hx hb dL_end_3 rfl (lv_at hl 1 rfl) ?_
  refine lv_iload_n hx hb dL_end_4 rfl (lv_at hl 2 rfl) ?_
  refine gw_calli hI (vx_runV (As := [.int call, .int oc]) (rest := [.int 0, .ref ou]) ⟨hx, hb, hml, hown, hts⟩ (gXi_frame (c_X4_end l hl0 D cy de fG N I call oc hR) hd s.heap.size) (cwV 2 hts gL_end_X4_end rfl rfl rfl (by decide +kernel) ⟨Nat.le_of_ble_eq_true rfl, Nat.le_of_ble_eq_true rfl⟩) (g_preV hI (gJ_l (gR_tg hR)) rfl) rfl rfl hl.1 rfl (lv_room (Nat.le_of_ble_eq_true rfl)) dL_end_5 ⟨Nat.le_of_ble_eq_true rfl, Nat.le_of_ble_eq_true rfl⟩) (fun E ce q9 H locs hp9 hI h91 h92 h93 => ?_) (fun r_3 f_1 H locs hw_2 hI => ?_)
  · have hE : E = "java/lang/IndexOutOfBoundsException" ∨ E = "java/lang/IllegalArgumentException" ∨ E = "java/lang/IllegalStateException" := by
      rcases hp9 with ⟨e9, -⟩ | ⟨_, -, -, (⟨e9, -⟩ | ⟨-, ⟨e9, -⟩⟩)⟩ <;> first | exact e9 | exact Or.inl e9 | exact Or.inr e9 | exact Or.inr (Or.inl e9) | exact Or.inr (Or.inr e9)
    rcases hE with hE | hE | hE
    · subst hE
      refine vx_catch hown [] ⟨0, 10, 13, 29⟩ [⟨0, 10, 17, 13⟩, ⟨0, 10, 21, 23⟩] (htab.trans rfl) (fun z hz => nomatch hz) (by decide) (by decide) hw0 (gE_ct hI.2.2.2.1 (q := ("java/lang/IndexOutOfBoundsException", "java/lang/IndexOutOfBoundsException")) (by decide)) h91 h92 h93 ?_
      refine lv_astore (lv' := [(4, .ref q9), (0, .ref (N 0 0)), (1, .int call), (2, .int oc), (3, .ref ou)]) hx hb dL_end_13 hl (by decide) rfl (fun ls hl => ?_)
      refine lv_iconst (v := 1) hx hb dL_end_15 (by decide) ?_
      exact gx_iret hx hb hr hlocks hI (Or.inl ⟨hp9, rfl, rfl⟩) (Nat.le_of_ble_eq_true rfl) (Nat.le_of_ble_eq_true rfl) dL_end_16
    · subst hE
      refine vx_catch hown [⟨0, 10, 13, 29⟩] ⟨0, 10, 17, 13⟩ [⟨0, 10, 21, 23⟩] (htab.trans rfl) (fun z hz => by
          simp only [List.mem_cons, List.not_mem_nil, or_false] at hz
          rcases hz with rfl
          · exact Or.inr ⟨by decide, _, hw0, gE_nc hI.2.2.2.1 (q := ("java/lang/IllegalArgumentException", "java/lang/IndexOutOfBoundsException")) (by decide)⟩) (by decide) (by decide) hw1 (gE_ct hI.2.2.2.1 (q := ("java/lang/IllegalArgumentException", "java/lang/IllegalArgumentException")) (by decide)) h91 h92 h93 ?_
      refine lv_astore (lv' := [(4, .ref q9), (0, .ref (N 0 0)), (1, .int call), (2, .int oc), (3, .ref ou)]) hx hb dL_end_17 hl (by decide) rfl (fun ls hl => ?_)
      refine lv_iconst (v := 2) hx hb dL_end_19 (by decide) ?_
      exact gx_iret hx hb hr hlocks hI (Or.inr (Or.inl ⟨hp9, rfl, rfl⟩)) (Nat.le_of_ble_eq_true rfl) (Nat.le_of_ble_eq_true rfl) dL_end_20
    · subst hE
      refine vx_catch hown [⟨0, 10, 13, 29⟩, ⟨0, 10, 17, 13⟩] ⟨0, 10, 21, 23⟩ [] (htab.trans rfl) (fun z hz => by
          simp only [List.mem_cons, List.not_mem_nil, or_false] at hz
          rcases hz with rfl | rfl
          · exact Or.inr ⟨by decide, _, hw0, gE_nc hI.2.2.2.1 (q := ("java/lang/IllegalStateException", "java/lang/IndexOutOfBoundsException")) (by decide)⟩
          · exact Or.inr ⟨by decide, _, hw1, gE_nc hI.2.2.2.1 (q := ("java/lang/IllegalStateException", "java/lang/IllegalArgumentException")) (by decide)⟩) (by decide) (by decide) hw2 (gE_ct hI.2.2.2.1 (q := ("java/lang/IllegalStateException", "java/lang/IllegalStateException")) (by decide)) h91 h92 h93 ?_
      refine lv_astore (lv' := [(4, .ref q9), (0, .ref (N 0 0)), (1, .int call), (2, .int oc), (3, .ref ou)]) hx hb dL_end_21 hl (by decide) rfl (fun ls hl => ?_)
      refine lv_iconst (v := 3) hx hb dL_end_23 (by decide) ?_
      exact gx_iret hx hb hr hlocks hI (Or.inr (Or.inr (Or.inl ⟨hp9, rfl, rfl⟩))) (Nat.le_of_ble_eq_true rfl) (Nat.le_of_ble_eq_true rfl) dL_end_24
  · obtain ⟨g_4, hp_5, e_6, hd_7⟩ := hw_2
    rw [e_6] at hI
    refine lv_i2l (v := Int32.toInt64 r_3) hx hb dL_end_8 rfl ?_
    refine g_last hx hb hI (gO_at hd_7) (by unfold vp_in; decide) dL_end_9 (fun f_8 H locs e_9 hI => ?_)
    rw [gO_up hd_7] at e_9
    refine lv_goto (tgt := 25) hx hb dL_end_10 (by decide) ?_
    refine lv_iconst (v := 0) hx hb dL_end_25 (by decide) ?_
    exact gx_iret hx hb hr hlocks hI (Or.inr (Or.inr (Or.inr (⟨rfl, r_3, g_4, hp_5, e_9, hd_7⟩)))) (Nat.le_of_ble_eq_true rfl) (Nat.le_of_ble_eq_true rfl) dL_end_26

set_option maxHeartbeats 4000000 in
set_option maxRecDepth 100000 in
theorem c_L_dispute (l : Launch) (hl0 : l.stackTraces = false) (D : va_G) (cy : Nat → ClassId) (de : Nat) (fG : gFm) (ou : Nat) (y : Nat → Int64) (N : gNm) (I : gMd) (call : Int32) (hR : gR cy de N I fG) (hd : gDj fG (gO cy ou y)) : gMi l yL_dispute wsL_dispute { frames := 8, cells := 2, slots := 12, locals := 125 } D cy de [.ref (N 0 0), .int call, .ref ou] (gJ fG (gO cy ou y)) (fun r9 f9 => (((fun E9 => (E9 = "java/lang/IndexOutOfBoundsException" ∧ ¬ pI call (N 0 8)) ∨ ∃ jcall, jcall < N 0 8 ∧ call = nI jcall ∧ ((E9 = "java/lang/IllegalStateException" ∧ ¬ ((!decide (I 18 jcall = -1)) = true)) ∨ ((!decide (I 18 jcall = -1)) = true) ∧ ((E9 = "java/lang/IllegalStateException" ∧ ¬ (I 20 jcall = 0)) ∨ (I 20 jcall = 0) ∧ (E9 = "java/lang/IllegalStateException" ∧ ¬ (I 0 0 - I 19 jcall ≤ 50))))) "java/lang/IndexOutOfBoundsException") ∧ r9 = 1 ∧ f9 = (gJ fG (gO cy ou y))) ∨ (((fun E9 => (E9 = "java/lang/IndexOutOfBoundsException" ∧ ¬ pI call (N 0 8)) ∨ ∃ jcall, jcall < N 0 8 ∧ call = nI jcall ∧ ((E9 = "java/lang/IllegalStateException" ∧ ¬ ((!decide (I 18 jcall = -1)) = true)) ∨ ((!decide (I 18 jcall = -1)) = true) ∧ ((E9 = "java/lang/IllegalStateException" ∧ ¬ (I 20 jcall = 0)) ∨ (I 20 jcall = 0) ∧ (E9 = "java/lang/IllegalStateException" ∧ ¬ (I 0 0 - I 19 jcall ≤ 50))))) "java/lang/IllegalStateException") ∧ r9 = 2 ∧ f9 = (gJ fG (gO cy ou y))) ∨ (r9 = 0 ∧ ∃ v9 g9, (fun r9 f9 => ∃ jcall, jcall < N 0 8 ∧ call = nI jcall ∧ ((!decide (I 18 jcall = -1)) = true) ∧ (I 20 jcall = 0) ∧ (I 0 0 - I 19 jcall ≤ 50) ∧ (r9 = (I 18 jcall) ∧ gR cy de N (iK (iC I jcall (I 15 jcall) (I 16 jcall) (I 17 jcall) 0 (I 19 jcall) 1) (N 6 jcall) ((I 7 (N 6 jcall)) + (I 16 jcall)) (I 8 (N 6 jcall)) ((I 9 (N 6 jcall)) + ((I 18 jcall) - (if (I 18 jcall) < (I 10 (N 6 jcall)) then (I 18 jcall) else (I 10 (N 6 jcall))))) ((I 10 (N 6 jcall)) - (if (I 18 jcall) < (I 10 (N 6 jcall)) then (I 18 jcall) else (I 10 (N 6 jcall)))) (I 11 (N 6 jcall)) (I 12 (N 6 jcall)) ((I 13 (N 6 jcall)) - (I 18 jcall)) (I 14 (N 6 jcall))) f9)) v9 g9 ∧ f9 = gJ g9 (gO cy ou (vp_updL y (Int32.toNatClampNeg 0) (Int32.toInt64 v9))) ∧ gDj g9 (gO cy ou y))) 2 12 := by
  refine gMi_of (fun sz => vx_ofWH (cc := cL_dispute) (maxL := 4) (ret := (some .int)) (hh := [(0, 9, 12, 29), (0, 9, 15, 23)]) (by decide) rfl ?_)
  intro p e s m args below meth c s₁ B hml hv
  obtain ⟨rfl, hv⟩ := hv
  obtain ⟨rfl, hI⟩ := gP_I hv
  have hx := B.exec
  have hb := B.bytes
  have hr := B.returns
  have hts := atoms_spec (ws := wsL_dispute) B.pre
  have htab : c.exceptionTable.toList = tableOf [(0, 9, 12, 29), (0, 9, 15, 23)] := vx_table (x := yL_dispute) B (hts _ List.mem_cons_self)
  have hown : s.vm.findClass RL = some m.cls := findClass_of_methodNamed B.named
  have hlocks := B.notSynchronized
  have hw0 := hts (.classLink RL 29 "java/lang/IndexOutOfBoundsException") (by decide +kernel)
  have hw1 := hts (.classLink RL 23 "java/lang/IllegalStateException") (by decide +kernel)
  have hl := lv_entry ([.ref (N 0 0), .int call, .ref ou]) (n := 4) (Nat.le_of_ble_eq_true rfl)
  rw [lg_entry_eq]
  generalize (lg_sl ([.ref (N 0 0), .int call, .ref ou]) ++ List.replicate (4 - (lg_sl ([.ref (N 0 0), .int call, .ref ou])).length) Slot.unset).toArray = ls at hl ⊢
  have hl : lv_has ls 4 [(0, .ref (N 0 0)), (1, .int call), (2, .ref ou)] := hl
  refine lv_aload_n hx hb dL_dispute_0 rfl (lv_at hl 2 rfl) ?_
  refine lv_iconst (v := 0) hx hb dL_dispute_1 (by decide) ?_
  refine lv_aload_n hx hb dL_dispute_2 rfl (lv_at hl 0 rfl) ?_
  refine lv_iload_n hx hb dL_dispute_3 rfl (lv_at hl 1 rfl) ?_
  refine gw_calli hI (vx_runV (As := [.int call]) (rest := [.int 0, .ref ou]) ⟨hx, hb, hml, hown, hts⟩ (gXi_frame (c_X4_dispute l hl0 D cy de fG N I call hR) hd s.heap.size) (cwV 1 hts gL_dispute_X4_dispute rfl rfl rfl (by decide +kernel) ⟨Nat.le_of_ble_eq_true rfl, Nat.le_of_ble_eq_true rfl⟩) (g_preV hI (gJ_l (gR_tg hR)) rfl) rfl rfl hl.1 rfl (lv_room (Nat.le_of_ble_eq_true rfl)) dL_dispute_4 ⟨Nat.le_of_ble_eq_true rfl, Nat.le_of_ble_eq_true rfl⟩) (fun E ce q9 H locs hp9 hI h91 h92 h93 => ?_) (fun r_3 f_1 H locs hw_2 hI => ?_)
  · have hE : E = "java/lang/IndexOutOfBoundsException" ∨ E = "java/lang/IllegalStateException" := by
      rcases hp9 with ⟨e9, -⟩ | ⟨_, -, -, (⟨e9, -⟩ | ⟨-, (⟨e9, -⟩ | ⟨-, ⟨e9, -⟩⟩)⟩)⟩ <;> first | exact e9 | exact Or.inl e9 | exact Or.inr e9 | exact Or.inr (Or.inl e9) | exact Or.inr (Or.inr e9)
    rcases hE with hE | hE
    · subst hE
      refine vx_catch hown [] ⟨0, 9, 12, 29⟩ [⟨0, 9, 15, 23⟩] (htab.trans rfl) (fun z hz => nomatch hz) (by decide) (by decide) hw0 (gE_ct hI.2.2.2.1 (q := ("java/lang/IndexOutOfBoundsException", "java/lang/IndexOutOfBoundsException")) (by decide)) h91 h92 h93 ?_
      refine lv_astore_n (lv' := [(3, .ref q9), (0, .ref (N 0 0)), (1, .int call), (2, .ref ou)]) hx hb dL_dispute_12 rfl hl (by decide) rfl (fun ls hl => ?_)
      refine lv_iconst (v := 1) hx hb dL_dispute_13 (by decide) ?_
      exact gx_iret hx hb hr hlocks hI (Or.inl ⟨hp9, rfl, rfl⟩) (Nat.le_of_ble_eq_true rfl) (Nat.le_of_ble_eq_true rfl) dL_dispute_14
    · subst hE
      refine vx_catch hown [⟨0, 9, 12, 29⟩] ⟨0, 9, 15, 23⟩ [] (htab.trans rfl) (fun z hz => by
          simp only [List.mem_cons, List.not_mem_nil, or_false] at hz
          rcases hz with rfl
          · exact Or.inr ⟨by decide, _, hw0, gE_nc hI.2.2.2.1 (q := ("java/lang/IllegalStateException", "java/lang/IndexOutOfBoundsException")) (by decide)⟩) (by decide) (by decide) hw1 (gE_ct hI.2.2.2.1 (q := ("java/lang/IllegalStateException", "java/lang/IllegalStateException")) (by decide)) h91 h92 h93 ?_
      refine lv_astore_n (lv' := [(3, .ref q9), (0, .ref (N 0 0)), (1, .int call), (2, .ref ou)]) hx hb dL_dispute_15 rfl hl (by decide) rfl (fun ls hl => ?_)
      refine lv_iconst (v := 2) hx hb dL_dispute_16 (by decide) ?_
      exact gx_iret hx hb hr hlocks hI (Or.inr (Or.inl ⟨hp9, rfl, rfl⟩)) (Nat.le_of_ble_eq_true rfl) (Nat.le_of_ble_eq_true rfl) dL_dispute_17
  · obtain ⟨g_4, hp_5, e_6, hd_7⟩ := hw_2
    rw [e_6] at hI
    refine lv_i2l (v := Int32.toInt64 r_3) hx hb dL_dispute_7 rfl ?_
    refine g_last hx hb hI (gO_at hd_7) (by unfold vp_in; decide) dL_dispute_8 (fun f_8 H locs e_9 hI => ?_)
    rw [gO_up hd_7] at e_9
    refine lv_goto (tgt := 18) hx hb dL_dispute_9 (by decide) ?_
    refine lv_iconst (v := 0) hx hb dL_dispute_18 (by decide) ?_
    exact gx_iret hx hb hr hlocks hI (Or.inr (Or.inr (⟨rfl, r_3, g_4, hp_5, e_9, hd_7⟩))) (Nat.le_of_ble_eq_true rfl) (Nat.le_of_ble_eq_true rfl) dL_dispute_19

set_option maxHeartbeats 4000000 in
set_option maxRecDepth 100000 in
theorem c_L_pass (l : Launch) (hl0 : l.stackTraces = false) (D : va_G) (cy : Nat → ClassId) (de : Nat) (fG : gFm) (ou : Nat) (y : Nat → Int64) (N : gNm) (I : gMd) (ticks : Int32) (hR : gR cy de N I fG) (hd : gDj fG (gO cy ou y)) (hN : gNx N I) : gMi l yL_pass wsL_pass { frames := 8, cells := 1, slots := 6, locals := 127 } D cy de [.ref (N 0 0), .int ticks, .ref ou] (gJ fG (gO cy ou y)) (fun r9 f9 => (((fun E9 => E9 = "java/lang/IllegalArgumentException" ∧ ¬ (mIn ticks 1 100 = true)) "java/lang/IllegalArgumentException") ∧ r9 = 1 ∧ f9 = (gJ fG (gO cy ou y))) ∨ (r9 = 0 ∧ ∃ v9 g9, (fun r9 f9 => (mIn ticks 1 100 = true) ∧ r9 = (iPassL N (ix ticks) 0 I).1 ∧ gR cy de N (iPassL N (ix ticks) 0 I).2 f9) v9 g9 ∧ f9 = gJ g9 (gO cy ou (vp_updL y (Int32.toNatClampNeg 0) (Int32.toInt64 v9))) ∧ gDj g9 (gO cy ou y))) 1 6 := by
  refine gMi_of (fun sz => vx_ofWH (cc := cL_pass) (maxL := 4) (ret := (some .int)) (hh := [(0, 9, 12, 13)]) (by decide) rfl ?_)
  intro p e s m args below meth c s₁ B hml hv
  obtain ⟨rfl, hv⟩ := hv
  obtain ⟨rfl, hI⟩ := gP_I hv
  have hx := B.exec
  have hb := B.bytes
  have hr := B.returns
  have hts := atoms_spec (ws := wsL_pass) B.pre
  have htab : c.exceptionTable.toList = tableOf [(0, 9, 12, 13)] := vx_table (x := yL_pass) B (hts _ List.mem_cons_self)
  have hown : s.vm.findClass RL = some m.cls := findClass_of_methodNamed B.named
  have hlocks := B.notSynchronized
  have hw0 := hts (.classLink RL 13 "java/lang/IllegalArgumentException") (by decide +kernel)
  have hl := lv_entry ([.ref (N 0 0), .int ticks, .ref ou]) (n := 4) (Nat.le_of_ble_eq_true rfl)
  rw [lg_entry_eq]
  generalize (lg_sl ([.ref (N 0 0), .int ticks, .ref ou]) ++ List.replicate (4 - (lg_sl ([.ref (N 0 0), .int ticks, .ref ou])).length) Slot.unset).toArray = ls at hl ⊢
  have hl : lv_has ls 4 [(0, .ref (N 0 0)), (1, .int ticks), (2, .ref ou)] := hl
  refine lv_aload_n hx hb dL_pass_0 rfl (lv_at hl 2 rfl) ?_
  refine lv_iconst (v := 0) hx hb dL_pass_1 (by decide) ?_
  refine lv_aload_n hx hb dL_pass_2 rfl (lv_at hl 0 rfl) ?_
  refine lv_iload_n hx hb dL_pass_3 rfl (lv_at hl 1 rfl) ?_
  refine gw_calli hI (vx_runV (As := [.int ticks]) (rest := [.int 0, .ref ou]) ⟨hx, hb, hml, hown, hts⟩ (gXi_frame (c_X4_pass l hl0 D cy de fG N I ticks hR hN) hd s.heap.size) (cwV 1 hts gL_pass_X4_pass rfl rfl rfl (by decide +kernel) ⟨Nat.le_of_ble_eq_true rfl, Nat.le_of_ble_eq_true rfl⟩) (g_preV hI (gJ_l (gR_tg hR)) rfl) rfl rfl hl.1 rfl (lv_room (Nat.le_of_ble_eq_true rfl)) dL_pass_4 ⟨Nat.le_of_ble_eq_true rfl, Nat.le_of_ble_eq_true rfl⟩) (fun E ce q9 H locs hp9 hI h91 h92 h93 => ?_) (fun r_3 f_1 H locs hw_2 hI => ?_)
  · have hE : E = "java/lang/IllegalArgumentException" := by
      rcases hp9 with ⟨e9, -⟩ <;> first | exact e9
    subst hE
    refine vx_catch hown [] ⟨0, 9, 12, 13⟩ [] (htab.trans rfl) (fun z hz => nomatch hz) (by decide) (by decide) hw0 (gE_ct hI.2.2.2.1 (q := ("java/lang/IllegalArgumentException", "java/lang/IllegalArgumentException")) (by decide)) h91 h92 h93 ?_
    refine lv_astore_n (lv' := [(3, .ref q9), (0, .ref (N 0 0)), (1, .int ticks), (2, .ref ou)]) hx hb dL_pass_12 rfl hl (by decide) rfl (fun ls hl => ?_)
    refine lv_iconst (v := 1) hx hb dL_pass_13 (by decide) ?_
    exact gx_iret hx hb hr hlocks hI (Or.inl ⟨hp9, rfl, rfl⟩) (Nat.le_of_ble_eq_true rfl) (Nat.le_of_ble_eq_true rfl) dL_pass_14
  · obtain ⟨g_4, hp_5, e_6, hd_7⟩ := hw_2
    rw [e_6] at hI
    refine lv_i2l (v := Int32.toInt64 r_3) hx hb dL_pass_7 rfl ?_
    refine g_last hx hb hI (gO_at hd_7) (by unfold vp_in; decide) dL_pass_8 (fun f_8 H locs e_9 hI => ?_)
    rw [gO_up hd_7] at e_9
    refine lv_goto (tgt := 15) hx hb dL_pass_9 (by decide) ?_
    refine lv_iconst (v := 0) hx hb dL_pass_15 (by decide) ?_
    exact gx_iret hx hb hr hlocks hI (Or.inr (⟨rfl, r_3, g_4, hp_5, e_9, hd_7⟩)) (Nat.le_of_ble_eq_true rfl) (Nat.le_of_ble_eq_true rfl) dL_pass_16

set_option maxHeartbeats 4000000 in
set_option maxRecDepth 100000 in
theorem c_L_credit (l : Launch) (hl0 : l.stackTraces = false) (D : va_G) (cy : Nat → ClassId) (de : Nat) (fG : gFm) (ou : Nat) (y : Nat → Int64) (N : gNm) (I : gMd) (key : Int32) (hR : gR cy de N I fG) (hd : gDj fG (gO cy ou y)) : gMi l yL_credit wsL_credit { frames := 8, cells := 1, slots := 6, locals := 124 } D cy de [.ref (N 0 0), .int key, .ref ou] (gJ fG (gO cy ou y)) (fun r9 f9 => (((fun E9 => E9 = "java/lang/IndexOutOfBoundsException" ∧ ¬ pI key (N 0 7)) "java/lang/IndexOutOfBoundsException") ∧ r9 = 1 ∧ f9 = (gJ fG (gO cy ou y))) ∨ (r9 = 0 ∧ ∃ v9 g9, (fun r9 f9 => ∃ jkey, jkey < N 0 7 ∧ key = nI jkey ∧ (r9 = I 9 jkey ∧ f9 = fG)) v9 g9 ∧ f9 = gJ g9 (gO cy ou (vp_updL y (Int32.toNatClampNeg 0) (Int32.toInt64 v9))) ∧ gDj g9 (gO cy ou y))) 1 6 := by
  refine gMi_of (fun sz => vx_ofWH (cc := cL_credit) (maxL := 4) (ret := (some .int)) (hh := [(0, 9, 12, 29)]) (by decide) rfl ?_)
  intro p e s m args below meth c s₁ B hml hv
  obtain ⟨rfl, hv⟩ := hv
  obtain ⟨rfl, hI⟩ := gP_I hv
  have hx := B.exec
  have hb := B.bytes
  have hr := B.returns
  have hts := atoms_spec (ws := wsL_credit) B.pre
  have htab : c.exceptionTable.toList = tableOf [(0, 9, 12, 29)] := vx_table (x := yL_credit) B (hts _ List.mem_cons_self)
  have hown : s.vm.findClass RL = some m.cls := findClass_of_methodNamed B.named
  have hlocks := B.notSynchronized
  have hw0 := hts (.classLink RL 29 "java/lang/IndexOutOfBoundsException") (by decide +kernel)
  have hl := lv_entry ([.ref (N 0 0), .int key, .ref ou]) (n := 4) (Nat.le_of_ble_eq_true rfl)
  rw [lg_entry_eq]
  generalize (lg_sl ([.ref (N 0 0), .int key, .ref ou]) ++ List.replicate (4 - (lg_sl ([.ref (N 0 0), .int key, .ref ou])).length) Slot.unset).toArray = ls at hl ⊢
  have hl : lv_has ls 4 [(0, .ref (N 0 0)), (1, .int key), (2, .ref ou)] := hl
  refine lv_aload_n hx hb dL_credit_0 rfl (lv_at hl 2 rfl) ?_
  refine lv_iconst (v := 0) hx hb dL_credit_1 (by decide) ?_
  refine lv_aload_n hx hb dL_credit_2 rfl (lv_at hl 0 rfl) ?_
  refine lv_iload_n hx hb dL_credit_3 rfl (lv_at hl 1 rfl) ?_
  refine gw_calli hI (vx_runV (As := [.int key]) (rest := [.int 0, .ref ou]) ⟨hx, hb, hml, hown, hts⟩ (gXi_frame (c_X4_credit l hl0 D cy de fG N I key hR) hd s.heap.size) (cwV 1 hts gL_credit_X4_credit rfl rfl rfl (by decide +kernel) ⟨Nat.le_of_ble_eq_true rfl, Nat.le_of_ble_eq_true rfl⟩) (g_preV hI (gJ_l (gR_tg hR)) rfl) rfl rfl hl.1 rfl (lv_room (Nat.le_of_ble_eq_true rfl)) dL_credit_4 ⟨Nat.le_of_ble_eq_true rfl, Nat.le_of_ble_eq_true rfl⟩) (fun E ce q9 H locs hp9 hI h91 h92 h93 => ?_) (fun r_3 f_1 H locs hw_2 hI => ?_)
  · have hE : E = "java/lang/IndexOutOfBoundsException" := by
      rcases hp9 with ⟨e9, -⟩ <;> first | exact e9
    subst hE
    refine vx_catch hown [] ⟨0, 9, 12, 29⟩ [] (htab.trans rfl) (fun z hz => nomatch hz) (by decide) (by decide) hw0 (gE_ct hI.2.2.2.1 (q := ("java/lang/IndexOutOfBoundsException", "java/lang/IndexOutOfBoundsException")) (by decide)) h91 h92 h93 ?_
    refine lv_astore_n (lv' := [(3, .ref q9), (0, .ref (N 0 0)), (1, .int key), (2, .ref ou)]) hx hb dL_credit_12 rfl hl (by decide) rfl (fun ls hl => ?_)
    refine lv_iconst (v := 1) hx hb dL_credit_13 (by decide) ?_
    exact gx_iret hx hb hr hlocks hI (Or.inl ⟨hp9, rfl, rfl⟩) (Nat.le_of_ble_eq_true rfl) (Nat.le_of_ble_eq_true rfl) dL_credit_14
  · obtain ⟨g_4, hp_5, e_6, hd_7⟩ := hw_2
    rw [e_6] at hI
    refine lv_i2l (v := Int32.toInt64 r_3) hx hb dL_credit_7 rfl ?_
    refine g_last hx hb hI (gO_at hd_7) (by unfold vp_in; decide) dL_credit_8 (fun f_8 H locs e_9 hI => ?_)
    rw [gO_up hd_7] at e_9
    refine lv_goto (tgt := 15) hx hb dL_credit_9 (by decide) ?_
    refine lv_iconst (v := 0) hx hb dL_credit_15 (by decide) ?_
    exact gx_iret hx hb hr hlocks hI (Or.inr (⟨rfl, r_3, g_4, hp_5, e_9, hd_7⟩)) (Nat.le_of_ble_eq_true rfl) (Nat.le_of_ble_eq_true rfl) dL_credit_16

set_option maxHeartbeats 4000000 in
set_option maxRecDepth 100000 in
theorem c_L_debt (l : Launch) (hl0 : l.stackTraces = false) (D : va_G) (cy : Nat → ClassId) (de : Nat) (fG : gFm) (ou : Nat) (y : Nat → Int64) (N : gNm) (I : gMd) (key : Int32) (hR : gR cy de N I fG) (hd : gDj fG (gO cy ou y)) : gMi l yL_debt wsL_debt { frames := 8, cells := 1, slots := 6, locals := 124 } D cy de [.ref (N 0 0), .int key, .ref ou] (gJ fG (gO cy ou y)) (fun r9 f9 => (((fun E9 => E9 = "java/lang/IndexOutOfBoundsException" ∧ ¬ pI key (N 0 7)) "java/lang/IndexOutOfBoundsException") ∧ r9 = 1 ∧ f9 = (gJ fG (gO cy ou y))) ∨ (r9 = 0 ∧ ∃ v9 g9, (fun r9 f9 => ∃ jkey, jkey < N 0 7 ∧ key = nI jkey ∧ (r9 = I 10 jkey ∧ f9 = fG)) v9 g9 ∧ f9 = gJ g9 (gO cy ou (vp_updL y (Int32.toNatClampNeg 0) (Int32.toInt64 v9))) ∧ gDj g9 (gO cy ou y))) 1 6 := by
  refine gMi_of (fun sz => vx_ofWH (cc := cL_debt) (maxL := 4) (ret := (some .int)) (hh := [(0, 9, 12, 29)]) (by decide) rfl ?_)
  intro p e s m args below meth c s₁ B hml hv
  obtain ⟨rfl, hv⟩ := hv
  obtain ⟨rfl, hI⟩ := gP_I hv
  have hx := B.exec
  have hb := B.bytes
  have hr := B.returns
  have hts := atoms_spec (ws := wsL_debt) B.pre
  have htab : c.exceptionTable.toList = tableOf [(0, 9, 12, 29)] := vx_table (x := yL_debt) B (hts _ List.mem_cons_self)
  have hown : s.vm.findClass RL = some m.cls := findClass_of_methodNamed B.named
  have hlocks := B.notSynchronized
  have hw0 := hts (.classLink RL 29 "java/lang/IndexOutOfBoundsException") (by decide +kernel)
  have hl := lv_entry ([.ref (N 0 0), .int key, .ref ou]) (n := 4) (Nat.le_of_ble_eq_true rfl)
  rw [lg_entry_eq]
  generalize (lg_sl ([.ref (N 0 0), .int key, .ref ou]) ++ List.replicate (4 - (lg_sl ([.ref (N 0 0), .int key, .ref ou])).length) Slot.unset).toArray = ls at hl ⊢
  have hl : lv_has ls 4 [(0, .ref (N 0 0)), (1, .int key), (2, .ref ou)] := hl
  refine lv_aload_n hx hb dL_debt_0 rfl (lv_at hl 2 rfl) ?_
  refine lv_iconst (v := 0) hx hb dL_debt_1 (by decide) ?_
  refine lv_aload_n hx hb dL_debt_2 rfl (lv_at hl 0 rfl) ?_
  refine lv_iload_n hx hb dL_debt_3 rfl (lv_at hl 1 rfl) ?_
  refine gw_calli hI (vx_runV (As := [.int key]) (rest := [.int 0, .ref ou]) ⟨hx, hb, hml, hown, hts⟩ (gXi_frame (c_X4_debt l hl0 D cy de fG N I key hR) hd s.heap.size) (cwV 1 hts gL_debt_X4_debt rfl rfl rfl (by decide +kernel) ⟨Nat.le_of_ble_eq_true rfl, Nat.le_of_ble_eq_true rfl⟩) (g_preV hI (gJ_l (gR_tg hR)) rfl) rfl rfl hl.1 rfl (lv_room (Nat.le_of_ble_eq_true rfl)) dL_debt_4 ⟨Nat.le_of_ble_eq_true rfl, Nat.le_of_ble_eq_true rfl⟩) (fun E ce q9 H locs hp9 hI h91 h92 h93 => ?_) (fun r_3 f_1 H locs hw_2 hI => ?_)
  · have hE : E = "java/lang/IndexOutOfBoundsException" := by
      rcases hp9 with ⟨e9, -⟩ <;> first | exact e9
    subst hE
    refine vx_catch hown [] ⟨0, 9, 12, 29⟩ [] (htab.trans rfl) (fun z hz => nomatch hz) (by decide) (by decide) hw0 (gE_ct hI.2.2.2.1 (q := ("java/lang/IndexOutOfBoundsException", "java/lang/IndexOutOfBoundsException")) (by decide)) h91 h92 h93 ?_
    refine lv_astore_n (lv' := [(3, .ref q9), (0, .ref (N 0 0)), (1, .int key), (2, .ref ou)]) hx hb dL_debt_12 rfl hl (by decide) rfl (fun ls hl => ?_)
    refine lv_iconst (v := 1) hx hb dL_debt_13 (by decide) ?_
    exact gx_iret hx hb hr hlocks hI (Or.inl ⟨hp9, rfl, rfl⟩) (Nat.le_of_ble_eq_true rfl) (Nat.le_of_ble_eq_true rfl) dL_debt_14
  · obtain ⟨g_4, hp_5, e_6, hd_7⟩ := hw_2
    rw [e_6] at hI
    refine lv_i2l (v := Int32.toInt64 r_3) hx hb dL_debt_7 rfl ?_
    refine g_last hx hb hI (gO_at hd_7) (by unfold vp_in; decide) dL_debt_8 (fun f_8 H locs e_9 hI => ?_)
    rw [gO_up hd_7] at e_9
    refine lv_goto (tgt := 15) hx hb dL_debt_9 (by decide) ?_
    refine lv_iconst (v := 0) hx hb dL_debt_15 (by decide) ?_
    exact gx_iret hx hb hr hlocks hI (Or.inr (⟨rfl, r_3, g_4, hp_5, e_9, hd_7⟩)) (Nat.le_of_ble_eq_true rfl) (Nat.le_of_ble_eq_true rfl) dL_debt_16

set_option maxHeartbeats 4000000 in
set_option maxRecDepth 100000 in
theorem c_L_held (l : Launch) (hl0 : l.stackTraces = false) (D : va_G) (cy : Nat → ClassId) (de : Nat) (fG : gFm) (ou : Nat) (y : Nat → Int64) (N : gNm) (I : gMd) (key : Int32) (hR : gR cy de N I fG) (hd : gDj fG (gO cy ou y)) : gMi l yL_held wsL_held { frames := 8, cells := 1, slots := 6, locals := 124 } D cy de [.ref (N 0 0), .int key, .ref ou] (gJ fG (gO cy ou y)) (fun r9 f9 => (((fun E9 => E9 = "java/lang/IndexOutOfBoundsException" ∧ ¬ pI key (N 0 7)) "java/lang/IndexOutOfBoundsException") ∧ r9 = 1 ∧ f9 = (gJ fG (gO cy ou y))) ∨ (r9 = 0 ∧ ∃ v9 g9, (fun r9 f9 => ∃ jkey, jkey < N 0 7 ∧ key = nI jkey ∧ (r9 = I 11 jkey ∧ f9 = fG)) v9 g9 ∧ f9 = gJ g9 (gO cy ou (vp_updL y (Int32.toNatClampNeg 0) (Int32.toInt64 v9))) ∧ gDj g9 (gO cy ou y))) 1 6 := by
  refine gMi_of (fun sz => vx_ofWH (cc := cL_held) (maxL := 4) (ret := (some .int)) (hh := [(0, 9, 12, 29)]) (by decide) rfl ?_)
  intro p e s m args below meth c s₁ B hml hv
  obtain ⟨rfl, hv⟩ := hv
  obtain ⟨rfl, hI⟩ := gP_I hv
  have hx := B.exec
  have hb := B.bytes
  have hr := B.returns
  have hts := atoms_spec (ws := wsL_held) B.pre
  have htab : c.exceptionTable.toList = tableOf [(0, 9, 12, 29)] := vx_table (x := yL_held) B (hts _ List.mem_cons_self)
  have hown : s.vm.findClass RL = some m.cls := findClass_of_methodNamed B.named
  have hlocks := B.notSynchronized
  have hw0 := hts (.classLink RL 29 "java/lang/IndexOutOfBoundsException") (by decide +kernel)
  have hl := lv_entry ([.ref (N 0 0), .int key, .ref ou]) (n := 4) (Nat.le_of_ble_eq_true rfl)
  rw [lg_entry_eq]
  generalize (lg_sl ([.ref (N 0 0), .int key, .ref ou]) ++ List.replicate (4 - (lg_sl ([.ref (N 0 0), .int key, .ref ou])).length) Slot.unset).toArray = ls at hl ⊢
  have hl : lv_has ls 4 [(0, .ref (N 0 0)), (1, .int key), (2, .ref ou)] := hl
  refine lv_aload_n hx hb dL_held_0 rfl (lv_at hl 2 rfl) ?_
  refine lv_iconst (v := 0) hx hb dL_held_1 (by decide) ?_
  refine lv_aload_n hx hb dL_held_2 rfl (lv_at hl 0 rfl) ?_
  refine lv_iload_n hx hb dL_held_3 rfl (lv_at hl 1 rfl) ?_
  refine gw_calli hI (vx_runV (As := [.int key]) (rest := [.int 0, .ref ou]) ⟨hx, hb, hml, hown, hts⟩ (gXi_frame (c_X4_held l hl0 D cy de fG N I key hR) hd s.heap.size) (cwV 1 hts gL_held_X4_held rfl rfl rfl (by decide +kernel) ⟨Nat.le_of_ble_eq_true rfl, Nat.le_of_ble_eq_true rfl⟩) (g_preV hI (gJ_l (gR_tg hR)) rfl) rfl rfl hl.1 rfl (lv_room (Nat.le_of_ble_eq_true rfl)) dL_held_4 ⟨Nat.le_of_ble_eq_true rfl, Nat.le_of_ble_eq_true rfl⟩) (fun E ce q9 H locs hp9 hI h91 h92 h93 => ?_) (fun r_3 f_1 H locs hw_2 hI => ?_)
  · have hE : E = "java/lang/IndexOutOfBoundsException" := by
      rcases hp9 with ⟨e9, -⟩ <;> first | exact e9
    subst hE
    refine vx_catch hown [] ⟨0, 9, 12, 29⟩ [] (htab.trans rfl) (fun z hz => nomatch hz) (by decide) (by decide) hw0 (gE_ct hI.2.2.2.1 (q := ("java/lang/IndexOutOfBoundsException", "java/lang/IndexOutOfBoundsException")) (by decide)) h91 h92 h93 ?_
    refine lv_astore_n (lv' := [(3, .ref q9), (0, .ref (N 0 0)), (1, .int key), (2, .ref ou)]) hx hb dL_held_12 rfl hl (by decide) rfl (fun ls hl => ?_)
    refine lv_iconst (v := 1) hx hb dL_held_13 (by decide) ?_
    exact gx_iret hx hb hr hlocks hI (Or.inl ⟨hp9, rfl, rfl⟩) (Nat.le_of_ble_eq_true rfl) (Nat.le_of_ble_eq_true rfl) dL_held_14
  · obtain ⟨g_4, hp_5, e_6, hd_7⟩ := hw_2
    rw [e_6] at hI
    refine lv_i2l (v := Int32.toInt64 r_3) hx hb dL_held_7 rfl ?_
    refine g_last hx hb hI (gO_at hd_7) (by unfold vp_in; decide) dL_held_8 (fun f_8 H locs e_9 hI => ?_)
    rw [gO_up hd_7] at e_9
    refine lv_goto (tgt := 15) hx hb dL_held_9 (by decide) ?_
    refine lv_iconst (v := 0) hx hb dL_held_15 (by decide) ?_
    exact gx_iret hx hb hr hlocks hI (Or.inr (⟨rfl, r_3, g_4, hp_5, e_9, hd_7⟩)) (Nat.le_of_ble_eq_true rfl) (Nat.le_of_ble_eq_true rfl) dL_held_16

set_option maxHeartbeats 4000000 in
set_option maxRecDepth 100000 in
theorem c_L_tokens (l : Launch) (hl0 : l.stackTraces = false) (D : va_G) (cy : Nat → ClassId) (de : Nat) (fG : gFm) (ou : Nat) (y : Nat → Int64) (N : gNm) (I : gMd) (key : Int32) (hR : gR cy de N I fG) (hd : gDj fG (gO cy ou y)) : gMi l yL_tokens wsL_tokens { frames := 8, cells := 1, slots := 6, locals := 124 } D cy de [.ref (N 0 0), .int key, .ref ou] (gJ fG (gO cy ou y)) (fun r9 f9 => (((fun E9 => E9 = "java/lang/IndexOutOfBoundsException" ∧ ¬ pI key (N 0 7)) "java/lang/IndexOutOfBoundsException") ∧ r9 = 1 ∧ f9 = (gJ fG (gO cy ou y))) ∨ (r9 = 0 ∧ ∃ v9 g9, (fun r9 f9 => ∃ jkey, jkey < N 0 7 ∧ key = nI jkey ∧ (r9 = I 7 jkey ∧ f9 = fG)) v9 g9 ∧ f9 = gJ g9 (gO cy ou (vp_updL y (Int32.toNatClampNeg 0) (Int32.toInt64 v9))) ∧ gDj g9 (gO cy ou y))) 1 6 := by
  refine gMi_of (fun sz => vx_ofWH (cc := cL_tokens) (maxL := 4) (ret := (some .int)) (hh := [(0, 9, 12, 29)]) (by decide) rfl ?_)
  intro p e s m args below meth c s₁ B hml hv
  obtain ⟨rfl, hv⟩ := hv
  obtain ⟨rfl, hI⟩ := gP_I hv
  have hx := B.exec
  have hb := B.bytes
  have hr := B.returns
  have hts := atoms_spec (ws := wsL_tokens) B.pre
  have htab : c.exceptionTable.toList = tableOf [(0, 9, 12, 29)] := vx_table (x := yL_tokens) B (hts _ List.mem_cons_self)
  have hown : s.vm.findClass RL = some m.cls := findClass_of_methodNamed B.named
  have hlocks := B.notSynchronized
  have hw0 := hts (.classLink RL 29 "java/lang/IndexOutOfBoundsException") (by decide +kernel)
  have hl := lv_entry ([.ref (N 0 0), .int key, .ref ou]) (n := 4) (Nat.le_of_ble_eq_true rfl)
  rw [lg_entry_eq]
  generalize (lg_sl ([.ref (N 0 0), .int key, .ref ou]) ++ List.replicate (4 - (lg_sl ([.ref (N 0 0), .int key, .ref ou])).length) Slot.unset).toArray = ls at hl ⊢
  have hl : lv_has ls 4 [(0, .ref (N 0 0)), (1, .int key), (2, .ref ou)] := hl
  refine lv_aload_n hx hb dL_tokens_0 rfl (lv_at hl 2 rfl) ?_
  refine lv_iconst (v := 0) hx hb dL_tokens_1 (by decide) ?_
  refine lv_aload_n hx hb dL_tokens_2 rfl (lv_at hl 0 rfl) ?_
  refine lv_iload_n hx hb dL_tokens_3 rfl (lv_at hl 1 rfl) ?_
  refine gw_calli hI (vx_runV (As := [.int key]) (rest := [.int 0, .ref ou]) ⟨hx, hb, hml, hown, hts⟩ (gXi_frame (c_X4_tokens l hl0 D cy de fG N I key hR) hd s.heap.size) (cwV 1 hts gL_tokens_X4_tokens rfl rfl rfl (by decide +kernel) ⟨Nat.le_of_ble_eq_true rfl, Nat.le_of_ble_eq_true rfl⟩) (g_preV hI (gJ_l (gR_tg hR)) rfl) rfl rfl hl.1 rfl (lv_room (Nat.le_of_ble_eq_true rfl)) dL_tokens_4 ⟨Nat.le_of_ble_eq_true rfl, Nat.le_of_ble_eq_true rfl⟩) (fun E ce q9 H locs hp9 hI h91 h92 h93 => ?_) (fun r_3 f_1 H locs hw_2 hI => ?_)
  · have hE : E = "java/lang/IndexOutOfBoundsException" := by
      rcases hp9 with ⟨e9, -⟩ <;> first | exact e9
    subst hE
    refine vx_catch hown [] ⟨0, 9, 12, 29⟩ [] (htab.trans rfl) (fun z hz => nomatch hz) (by decide) (by decide) hw0 (gE_ct hI.2.2.2.1 (q := ("java/lang/IndexOutOfBoundsException", "java/lang/IndexOutOfBoundsException")) (by decide)) h91 h92 h93 ?_
    refine lv_astore_n (lv' := [(3, .ref q9), (0, .ref (N 0 0)), (1, .int key), (2, .ref ou)]) hx hb dL_tokens_12 rfl hl (by decide) rfl (fun ls hl => ?_)
    refine lv_iconst (v := 1) hx hb dL_tokens_13 (by decide) ?_
    exact gx_iret hx hb hr hlocks hI (Or.inl ⟨hp9, rfl, rfl⟩) (Nat.le_of_ble_eq_true rfl) (Nat.le_of_ble_eq_true rfl) dL_tokens_14
  · obtain ⟨g_4, hp_5, e_6, hd_7⟩ := hw_2
    rw [e_6] at hI
    refine lv_i2l (v := Int32.toInt64 r_3) hx hb dL_tokens_7 rfl ?_
    refine g_last hx hb hI (gO_at hd_7) (by unfold vp_in; decide) dL_tokens_8 (fun f_8 H locs e_9 hI => ?_)
    rw [gO_up hd_7] at e_9
    refine lv_goto (tgt := 15) hx hb dL_tokens_9 (by decide) ?_
    refine lv_iconst (v := 0) hx hb dL_tokens_15 (by decide) ?_
    exact gx_iret hx hb hr hlocks hI (Or.inr (⟨rfl, r_3, g_4, hp_5, e_9, hd_7⟩)) (Nat.le_of_ble_eq_true rfl) (Nat.le_of_ble_eq_true rfl) dL_tokens_16

set_option maxHeartbeats 4000000 in
set_option maxRecDepth 100000 in
theorem c_L_isSlowed (l : Launch) (hl0 : l.stackTraces = false) (D : va_G) (cy : Nat → ClassId) (de : Nat) (fG : gFm) (ou : Nat) (y : Nat → Int64) (N : gNm) (I : gMd) (key : Int32) (hR : gR cy de N I fG) (hd : gDj fG (gO cy ou y)) : gMi l yL_isSlowed wsL_isSlowed { frames := 8, cells := 1, slots := 6, locals := 124 } D cy de [.ref (N 0 0), .int key, .ref ou] (gJ fG (gO cy ou y)) (fun r9 f9 => (((fun E9 => E9 = "java/lang/IndexOutOfBoundsException" ∧ ¬ pI key (N 0 7)) "java/lang/IndexOutOfBoundsException") ∧ r9 = 1 ∧ f9 = (gJ fG (gO cy ou y))) ∨ (r9 = 0 ∧ ∃ v9 g9, (fun r9 f9 => ∃ jkey, jkey < N 0 7 ∧ key = nI jkey ∧ (r9 = b2i (decide ((I 9 jkey) = 0) && decide ((I 12 jkey) = 0)) ∧ f9 = fG)) v9 g9 ∧ f9 = gJ g9 (gO cy ou (vp_updL y (Int32.toNatClampNeg 0) (if v9 = 0 then 0 else 1))) ∧ gDj g9 (gO cy ou y))) 1 6 := by
  refine gMi_of (fun sz => vx_ofWH (cc := cL_isSlowed) (maxL := 4) (ret := (some .int)) (hh := [(0, 16, 19, 29)]) (by decide) rfl ?_)
  intro p e s m args below meth c s₁ B hml hv
  obtain ⟨rfl, hv⟩ := hv
  obtain ⟨rfl, hI⟩ := gP_I hv
  have hx := B.exec
  have hb := B.bytes
  have hr := B.returns
  have hts := atoms_spec (ws := wsL_isSlowed) B.pre
  have htab : c.exceptionTable.toList = tableOf [(0, 16, 19, 29)] := vx_table (x := yL_isSlowed) B (hts _ List.mem_cons_self)
  have hown : s.vm.findClass RL = some m.cls := findClass_of_methodNamed B.named
  have hlocks := B.notSynchronized
  have hw0 := hts (.classLink RL 29 "java/lang/IndexOutOfBoundsException") (by decide +kernel)
  have hl := lv_entry ([.ref (N 0 0), .int key, .ref ou]) (n := 4) (Nat.le_of_ble_eq_true rfl)
  rw [lg_entry_eq]
  generalize (lg_sl ([.ref (N 0 0), .int key, .ref ou]) ++ List.replicate (4 - (lg_sl ([.ref (N 0 0), .int key, .ref ou])).length) Slot.unset).toArray = ls at hl ⊢
  have hl : lv_has ls 4 [(0, .ref (N 0 0)), (1, .int key), (2, .ref ou)] := hl
  refine lv_aload_n hx hb dL_isSlowed_0 rfl (lv_at hl 2 rfl) ?_
  refine lv_iconst (v := 0) hx hb dL_isSlowed_1 (by decide) ?_
  refine lv_aload_n hx hb dL_isSlowed_2 rfl (lv_at hl 0 rfl) ?_
  refine lv_iload_n hx hb dL_isSlowed_3 rfl (lv_at hl 1 rfl) ?_
  refine gw_calli hI (vx_runV (As := [.int key]) (rest := [.int 0, .ref ou]) ⟨hx, hb, hml, hown, hts⟩ (gXi_frame (c_X4_isSlowed l hl0 D cy de fG N I key hR) hd s.heap.size) (cwV 1 hts gL_isSlowed_X4_isSlowed rfl rfl rfl (by decide +kernel) ⟨Nat.le_of_ble_eq_true rfl, Nat.le_of_ble_eq_true rfl⟩) (g_preV hI (gJ_l (gR_tg hR)) rfl) rfl rfl hl.1 rfl (lv_room (Nat.le_of_ble_eq_true rfl)) dL_isSlowed_4 ⟨Nat.le_of_ble_eq_true rfl, Nat.le_of_ble_eq_true rfl⟩) (fun E ce q9 H locs hp9 hI h91 h92 h93 => ?_) (fun r_3 f_1 H locs hw_2 hI => ?_)
  · have hE : E = "java/lang/IndexOutOfBoundsException" := by
      rcases hp9 with ⟨e9, -⟩ <;> first | exact e9
    subst hE
    refine vx_catch hown [] ⟨0, 16, 19, 29⟩ [] (htab.trans rfl) (fun z hz => nomatch hz) (by decide) (by decide) hw0 (gE_ct hI.2.2.2.1 (q := ("java/lang/IndexOutOfBoundsException", "java/lang/IndexOutOfBoundsException")) (by decide)) h91 h92 h93 ?_
    refine lv_astore_n (lv' := [(3, .ref q9), (0, .ref (N 0 0)), (1, .int key), (2, .ref ou)]) hx hb dL_isSlowed_19 rfl hl (by decide) rfl (fun ls hl => ?_)
    refine lv_iconst (v := 1) hx hb dL_isSlowed_20 (by decide) ?_
    exact gx_iret hx hb hr hlocks hI (Or.inl ⟨hp9, rfl, rfl⟩) (Nat.le_of_ble_eq_true rfl) (Nat.le_of_ble_eq_true rfl) dL_isSlowed_21
  · obtain ⟨g_4, hp_5, e_6, hd_7⟩ := hw_2
    rw [e_6] at hI
    refine lv_if_eq (tgt := 14) hx hb dL_isSlowed_7 (by decide) (fun c_8 => ?_) (fun c_8 => ?_)
    · refine lv_lconst (v := 0) hx hb dL_isSlowed_14 (by decide) ?_
      refine g_last hx hb hI (gO_at hd_7) (by unfold vp_in; decide) dL_isSlowed_15 (fun f_9 H locs e_10 hI => ?_)
      rw [gO_up hd_7] at e_10
      refine lv_goto (tgt := 22) hx hb dL_isSlowed_16 (by decide) ?_
      refine lv_iconst (v := 0) hx hb dL_isSlowed_22 (by decide) ?_
      exact gx_iret hx hb hr hlocks hI (Or.inr (⟨rfl, r_3, g_4, hp_5, (by rw [e_10, if_pos c_8]), hd_7⟩)) (Nat.le_of_ble_eq_true rfl) (Nat.le_of_ble_eq_true rfl) dL_isSlowed_23
    · refine lv_lconst (v := 1) hx hb dL_isSlowed_10 (by decide) ?_
      refine lv_goto (tgt := 15) hx hb dL_isSlowed_11 (by decide) ?_
      refine g_last hx hb hI (gO_at hd_7) (by unfold vp_in; decide) dL_isSlowed_15 (fun f_11 H locs e_12 hI => ?_)
      rw [gO_up hd_7] at e_12
      refine lv_goto (tgt := 22) hx hb dL_isSlowed_16 (by decide) ?_
      refine lv_iconst (v := 0) hx hb dL_isSlowed_22 (by decide) ?_
      exact gx_iret hx hb hr hlocks hI (Or.inr (⟨rfl, r_3, g_4, hp_5, (by rw [e_12, if_neg c_8]), hd_7⟩)) (Nat.le_of_ble_eq_true rfl) (Nat.le_of_ble_eq_true rfl) dL_isSlowed_23

set_option maxHeartbeats 4000000 in
set_option maxRecDepth 100000 in
theorem c_L_cost (l : Launch) (hl0 : l.stackTraces = false) (D : va_G) (cy : Nat → ClassId) (de : Nat) (fG : gFm) (ou : Nat) (y : Nat → Int64) (N : gNm) (I : gMd) (call : Int32) (hR : gR cy de N I fG) (hd : gDj fG (gO cy ou y)) : gMi l yL_cost wsL_cost { frames := 8, cells := 1, slots := 6, locals := 124 } D cy de [.ref (N 0 0), .int call, .ref ou] (gJ fG (gO cy ou y)) (fun r9 f9 => (((fun E9 => E9 = "java/lang/IndexOutOfBoundsException" ∧ ¬ pI call (N 0 8)) "java/lang/IndexOutOfBoundsException") ∧ r9 = 1 ∧ f9 = (gJ fG (gO cy ou y))) ∨ (r9 = 0 ∧ ∃ v9 g9, (fun r9 f9 => ∃ jcall, jcall < N 0 8 ∧ call = nI jcall ∧ (r9 = I 18 jcall ∧ f9 = fG)) v9 g9 ∧ f9 = gJ g9 (gO cy ou (vp_updL y (Int32.toNatClampNeg 0) (Int32.toInt64 v9))) ∧ gDj g9 (gO cy ou y))) 1 6 := by
  refine gMi_of (fun sz => vx_ofWH (cc := cL_cost) (maxL := 4) (ret := (some .int)) (hh := [(0, 9, 12, 29)]) (by decide) rfl ?_)
  intro p e s m args below meth c s₁ B hml hv
  obtain ⟨rfl, hv⟩ := hv
  obtain ⟨rfl, hI⟩ := gP_I hv
  have hx := B.exec
  have hb := B.bytes
  have hr := B.returns
  have hts := atoms_spec (ws := wsL_cost) B.pre
  have htab : c.exceptionTable.toList = tableOf [(0, 9, 12, 29)] := vx_table (x := yL_cost) B (hts _ List.mem_cons_self)
  have hown : s.vm.findClass RL = some m.cls := findClass_of_methodNamed B.named
  have hlocks := B.notSynchronized
  have hw0 := hts (.classLink RL 29 "java/lang/IndexOutOfBoundsException") (by decide +kernel)
  have hl := lv_entry ([.ref (N 0 0), .int call, .ref ou]) (n := 4) (Nat.le_of_ble_eq_true rfl)
  rw [lg_entry_eq]
  generalize (lg_sl ([.ref (N 0 0), .int call, .ref ou]) ++ List.replicate (4 - (lg_sl ([.ref (N 0 0), .int call, .ref ou])).length) Slot.unset).toArray = ls at hl ⊢
  have hl : lv_has ls 4 [(0, .ref (N 0 0)), (1, .int call), (2, .ref ou)] := hl
  refine lv_aload_n hx hb dL_cost_0 rfl (lv_at hl 2 rfl) ?_
  refine lv_iconst (v := 0) hx hb dL_cost_1 (by decide) ?_
  refine lv_aload_n hx hb dL_cost_2 rfl (lv_at hl 0 rfl) ?_
  refine lv_iload_n hx hb dL_cost_3 rfl (lv_at hl 1 rfl) ?_
  refine gw_calli hI (vx_runV (As := [.int call]) (rest := [.int 0, .ref ou]) ⟨hx, hb, hml, hown, hts⟩ (gXi_frame (c_X4_cost l hl0 D cy de fG N I call hR) hd s.heap.size) (cwV 1 hts gL_cost_X4_cost rfl rfl rfl (by decide +kernel) ⟨Nat.le_of_ble_eq_true rfl, Nat.le_of_ble_eq_true rfl⟩) (g_preV hI (gJ_l (gR_tg hR)) rfl) rfl rfl hl.1 rfl (lv_room (Nat.le_of_ble_eq_true rfl)) dL_cost_4 ⟨Nat.le_of_ble_eq_true rfl, Nat.le_of_ble_eq_true rfl⟩) (fun E ce q9 H locs hp9 hI h91 h92 h93 => ?_) (fun r_3 f_1 H locs hw_2 hI => ?_)
  · have hE : E = "java/lang/IndexOutOfBoundsException" := by
      rcases hp9 with ⟨e9, -⟩ <;> first | exact e9
    subst hE
    refine vx_catch hown [] ⟨0, 9, 12, 29⟩ [] (htab.trans rfl) (fun z hz => nomatch hz) (by decide) (by decide) hw0 (gE_ct hI.2.2.2.1 (q := ("java/lang/IndexOutOfBoundsException", "java/lang/IndexOutOfBoundsException")) (by decide)) h91 h92 h93 ?_
    refine lv_astore_n (lv' := [(3, .ref q9), (0, .ref (N 0 0)), (1, .int call), (2, .ref ou)]) hx hb dL_cost_12 rfl hl (by decide) rfl (fun ls hl => ?_)
    refine lv_iconst (v := 1) hx hb dL_cost_13 (by decide) ?_
    exact gx_iret hx hb hr hlocks hI (Or.inl ⟨hp9, rfl, rfl⟩) (Nat.le_of_ble_eq_true rfl) (Nat.le_of_ble_eq_true rfl) dL_cost_14
  · obtain ⟨g_4, hp_5, e_6, hd_7⟩ := hw_2
    rw [e_6] at hI
    refine lv_i2l (v := Int32.toInt64 r_3) hx hb dL_cost_7 rfl ?_
    refine g_last hx hb hI (gO_at hd_7) (by unfold vp_in; decide) dL_cost_8 (fun f_8 H locs e_9 hI => ?_)
    rw [gO_up hd_7] at e_9
    refine lv_goto (tgt := 15) hx hb dL_cost_9 (by decide) ?_
    refine lv_iconst (v := 0) hx hb dL_cost_15 (by decide) ?_
    exact gx_iret hx hb hr hlocks hI (Or.inr (⟨rfl, r_3, g_4, hp_5, e_9, hd_7⟩)) (Nat.le_of_ble_eq_true rfl) (Nat.le_of_ble_eq_true rfl) dL_cost_16

set_option maxHeartbeats 4000000 in
set_option maxRecDepth 100000 in
theorem c_L_spent (l : Launch) (hl0 : l.stackTraces = false) (D : va_G) (cy : Nat → ClassId) (de : Nat) (fG : gFm) (ou : Nat) (y : Nat → Int64) (N : gNm) (I : gMd) (key : Int32) (hR : gR cy de N I fG) (hd : gDj fG (gO cy ou y)) : gMi l yL_spent wsL_spent { frames := 8, cells := 1, slots := 6, locals := 124 } D cy de [.ref (N 0 0), .int key, .ref ou] (gJ fG (gO cy ou y)) (fun r9 f9 => (((fun E9 => E9 = "java/lang/IndexOutOfBoundsException" ∧ ¬ pI key (N 0 7)) "java/lang/IndexOutOfBoundsException") ∧ r9 = 1 ∧ f9 = (gJ fG (gO cy ou y))) ∨ (r9 = 0 ∧ ∃ v9 g9, (fun r9 f9 => ∃ jkey, jkey < N 0 7 ∧ key = nI jkey ∧ (r9 = I 13 jkey ∧ f9 = fG)) v9 g9 ∧ f9 = gJ g9 (gO cy ou (vp_updL y (Int32.toNatClampNeg 0) (Int32.toInt64 v9))) ∧ gDj g9 (gO cy ou y))) 1 6 := by
  refine gMi_of (fun sz => vx_ofWH (cc := cL_spent) (maxL := 4) (ret := (some .int)) (hh := [(0, 9, 12, 29)]) (by decide) rfl ?_)
  intro p e s m args below meth c s₁ B hml hv
  obtain ⟨rfl, hv⟩ := hv
  obtain ⟨rfl, hI⟩ := gP_I hv
  have hx := B.exec
  have hb := B.bytes
  have hr := B.returns
  have hts := atoms_spec (ws := wsL_spent) B.pre
  have htab : c.exceptionTable.toList = tableOf [(0, 9, 12, 29)] := vx_table (x := yL_spent) B (hts _ List.mem_cons_self)
  have hown : s.vm.findClass RL = some m.cls := findClass_of_methodNamed B.named
  have hlocks := B.notSynchronized
  have hw0 := hts (.classLink RL 29 "java/lang/IndexOutOfBoundsException") (by decide +kernel)
  have hl := lv_entry ([.ref (N 0 0), .int key, .ref ou]) (n := 4) (Nat.le_of_ble_eq_true rfl)
  rw [lg_entry_eq]
  generalize (lg_sl ([.ref (N 0 0), .int key, .ref ou]) ++ List.replicate (4 - (lg_sl ([.ref (N 0 0), .int key, .ref ou])).length) Slot.unset).toArray = ls at hl ⊢
  have hl : lv_has ls 4 [(0, .ref (N 0 0)), (1, .int key), (2, .ref ou)] := hl
  refine lv_aload_n hx hb dL_spent_0 rfl (lv_at hl 2 rfl) ?_
  refine lv_iconst (v := 0) hx hb dL_spent_1 (by decide) ?_
  refine lv_aload_n hx hb dL_spent_2 rfl (lv_at hl 0 rfl) ?_
  refine lv_iload_n hx hb dL_spent_3 rfl (lv_at hl 1 rfl) ?_
  refine gw_calli hI (vx_runV (As := [.int key]) (rest := [.int 0, .ref ou]) ⟨hx, hb, hml, hown, hts⟩ (gXi_frame (c_X4_spent l hl0 D cy de fG N I key hR) hd s.heap.size) (cwV 1 hts gL_spent_X4_spent rfl rfl rfl (by decide +kernel) ⟨Nat.le_of_ble_eq_true rfl, Nat.le_of_ble_eq_true rfl⟩) (g_preV hI (gJ_l (gR_tg hR)) rfl) rfl rfl hl.1 rfl (lv_room (Nat.le_of_ble_eq_true rfl)) dL_spent_4 ⟨Nat.le_of_ble_eq_true rfl, Nat.le_of_ble_eq_true rfl⟩) (fun E ce q9 H locs hp9 hI h91 h92 h93 => ?_) (fun r_3 f_1 H locs hw_2 hI => ?_)
  · have hE : E = "java/lang/IndexOutOfBoundsException" := by
      rcases hp9 with ⟨e9, -⟩ <;> first | exact e9
    subst hE
    refine vx_catch hown [] ⟨0, 9, 12, 29⟩ [] (htab.trans rfl) (fun z hz => nomatch hz) (by decide) (by decide) hw0 (gE_ct hI.2.2.2.1 (q := ("java/lang/IndexOutOfBoundsException", "java/lang/IndexOutOfBoundsException")) (by decide)) h91 h92 h93 ?_
    refine lv_astore_n (lv' := [(3, .ref q9), (0, .ref (N 0 0)), (1, .int key), (2, .ref ou)]) hx hb dL_spent_12 rfl hl (by decide) rfl (fun ls hl => ?_)
    refine lv_iconst (v := 1) hx hb dL_spent_13 (by decide) ?_
    exact gx_iret hx hb hr hlocks hI (Or.inl ⟨hp9, rfl, rfl⟩) (Nat.le_of_ble_eq_true rfl) (Nat.le_of_ble_eq_true rfl) dL_spent_14
  · obtain ⟨g_4, hp_5, e_6, hd_7⟩ := hw_2
    rw [e_6] at hI
    refine lv_i2l (v := Int32.toInt64 r_3) hx hb dL_spent_7 rfl ?_
    refine g_last hx hb hI (gO_at hd_7) (by unfold vp_in; decide) dL_spent_8 (fun f_8 H locs e_9 hI => ?_)
    rw [gO_up hd_7] at e_9
    refine lv_goto (tgt := 15) hx hb dL_spent_9 (by decide) ?_
    refine lv_iconst (v := 0) hx hb dL_spent_15 (by decide) ?_
    exact gx_iret hx hb hr hlocks hI (Or.inr (⟨rfl, r_3, g_4, hp_5, e_9, hd_7⟩)) (Nat.le_of_ble_eq_true rfl) (Nat.le_of_ble_eq_true rfl) dL_spent_16

set_option maxHeartbeats 4000000 in
set_option maxRecDepth 100000 in
theorem c_L_paid (l : Launch) (hl0 : l.stackTraces = false) (D : va_G) (cy : Nat → ClassId) (de : Nat) (fG : gFm) (ou : Nat) (y : Nat → Int64) (N : gNm) (I : gMd) (key : Int32) (hR : gR cy de N I fG) (hd : gDj fG (gO cy ou y)) : gMi l yL_paid wsL_paid { frames := 8, cells := 1, slots := 6, locals := 124 } D cy de [.ref (N 0 0), .int key, .ref ou] (gJ fG (gO cy ou y)) (fun r9 f9 => (((fun E9 => E9 = "java/lang/IndexOutOfBoundsException" ∧ ¬ pI key (N 0 7)) "java/lang/IndexOutOfBoundsException") ∧ r9 = 1 ∧ f9 = (gJ fG (gO cy ou y))) ∨ (r9 = 0 ∧ ∃ v9 g9, (fun r9 f9 => ∃ jkey, jkey < N 0 7 ∧ key = nI jkey ∧ (r9 = I 14 jkey ∧ f9 = fG)) v9 g9 ∧ f9 = gJ g9 (gO cy ou (vp_updL y (Int32.toNatClampNeg 0) (Int32.toInt64 v9))) ∧ gDj g9 (gO cy ou y))) 1 6 := by
  refine gMi_of (fun sz => vx_ofWH (cc := cL_paid) (maxL := 4) (ret := (some .int)) (hh := [(0, 9, 12, 29)]) (by decide) rfl ?_)
  intro p e s m args below meth c s₁ B hml hv
  obtain ⟨rfl, hv⟩ := hv
  obtain ⟨rfl, hI⟩ := gP_I hv
  have hx := B.exec
  have hb := B.bytes
  have hr := B.returns
  have hts := atoms_spec (ws := wsL_paid) B.pre
  have htab : c.exceptionTable.toList = tableOf [(0, 9, 12, 29)] := vx_table (x := yL_paid) B (hts _ List.mem_cons_self)
  have hown : s.vm.findClass RL = some m.cls := findClass_of_methodNamed B.named
  have hlocks := B.notSynchronized
  have hw0 := hts (.classLink RL 29 "java/lang/IndexOutOfBoundsException") (by decide +kernel)
  have hl := lv_entry ([.ref (N 0 0), .int key, .ref ou]) (n := 4) (Nat.le_of_ble_eq_true rfl)
  rw [lg_entry_eq]
  generalize (lg_sl ([.ref (N 0 0), .int key, .ref ou]) ++ List.replicate (4 - (lg_sl ([.ref (N 0 0), .int key, .ref ou])).length) Slot.unset).toArray = ls at hl ⊢
  have hl : lv_has ls 4 [(0, .ref (N 0 0)), (1, .int key), (2, .ref ou)] := hl
  refine lv_aload_n hx hb dL_paid_0 rfl (lv_at hl 2 rfl) ?_
  refine lv_iconst (v := 0) hx hb dL_paid_1 (by decide) ?_
  refine lv_aload_n hx hb dL_paid_2 rfl (lv_at hl 0 rfl) ?_
  refine lv_iload_n hx hb dL_paid_3 rfl (lv_at hl 1 rfl) ?_
  refine gw_calli hI (vx_runV (As := [.int key]) (rest := [.int 0, .ref ou]) ⟨hx, hb, hml, hown, hts⟩ (gXi_frame (c_X4_paid l hl0 D cy de fG N I key hR) hd s.heap.size) (cwV 1 hts gL_paid_X4_paid rfl rfl rfl (by decide +kernel) ⟨Nat.le_of_ble_eq_true rfl, Nat.le_of_ble_eq_true rfl⟩) (g_preV hI (gJ_l (gR_tg hR)) rfl) rfl rfl hl.1 rfl (lv_room (Nat.le_of_ble_eq_true rfl)) dL_paid_4 ⟨Nat.le_of_ble_eq_true rfl, Nat.le_of_ble_eq_true rfl⟩) (fun E ce q9 H locs hp9 hI h91 h92 h93 => ?_) (fun r_3 f_1 H locs hw_2 hI => ?_)
  · have hE : E = "java/lang/IndexOutOfBoundsException" := by
      rcases hp9 with ⟨e9, -⟩ <;> first | exact e9
    subst hE
    refine vx_catch hown [] ⟨0, 9, 12, 29⟩ [] (htab.trans rfl) (fun z hz => nomatch hz) (by decide) (by decide) hw0 (gE_ct hI.2.2.2.1 (q := ("java/lang/IndexOutOfBoundsException", "java/lang/IndexOutOfBoundsException")) (by decide)) h91 h92 h93 ?_
    refine lv_astore_n (lv' := [(3, .ref q9), (0, .ref (N 0 0)), (1, .int key), (2, .ref ou)]) hx hb dL_paid_12 rfl hl (by decide) rfl (fun ls hl => ?_)
    refine lv_iconst (v := 1) hx hb dL_paid_13 (by decide) ?_
    exact gx_iret hx hb hr hlocks hI (Or.inl ⟨hp9, rfl, rfl⟩) (Nat.le_of_ble_eq_true rfl) (Nat.le_of_ble_eq_true rfl) dL_paid_14
  · obtain ⟨g_4, hp_5, e_6, hd_7⟩ := hw_2
    rw [e_6] at hI
    refine lv_i2l (v := Int32.toInt64 r_3) hx hb dL_paid_7 rfl ?_
    refine g_last hx hb hI (gO_at hd_7) (by unfold vp_in; decide) dL_paid_8 (fun f_8 H locs e_9 hI => ?_)
    rw [gO_up hd_7] at e_9
    refine lv_goto (tgt := 15) hx hb dL_paid_9 (by decide) ?_
    refine lv_iconst (v := 0) hx hb dL_paid_15 (by decide) ?_
    exact gx_iret hx hb hr hlocks hI (Or.inr (⟨rfl, r_3, g_4, hp_5, e_9, hd_7⟩)) (Nat.le_of_ble_eq_true rfl) (Nat.le_of_ble_eq_true rfl) dL_paid_16
