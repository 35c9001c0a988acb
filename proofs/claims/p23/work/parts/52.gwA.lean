/-- the words of a throw: the good ones from the method's own list, those of the cast and of what the classes declare from the environment -/
theorem g_hat {own X : String} {ic : Nat} {names : List String} {Ts : List Cond} {args : Array Value} {s : State} (hts : ∀ w ∈ Ts, w.before args s = true) (hin : ∀ w ∈ (vx_atS own ic X names).filter goodWord, w ∈ Ts) (hc : va_Nw (.castable X X) s) (hd : ∀ y ∈ gDe, gDc y s) (hall : (vx_atS own ic X names).all (fun w => goodWord w || (decide (w = .castable X X) || gDe.any (fun y => decide (w = .declares y)))) = true) : ∀ w ∈ vx_atS own ic X names, w.before args s = true := by
  intro w hw
  have h1 := List.all_eq_true.mp hall w hw
  simp only [Bool.or_eq_true, decide_eq_true_eq, List.any_eq_true] at h1
  rcases h1 with h1 | h1 | ⟨y, hy, h1⟩
  · exact hts w (hin w (List.mem_filter.mpr ⟨hw, h1⟩))
  · rw [h1]
    exact va_Nw.use (A := args) rfl hc
  · rw [h1]
    exact gDc.use (hd y hy)

theorem hat_IA {Ts : List Cond} {args : Array Value} {s : State} {de mi : Nat} {A : Nat → Prop} {H : Heap} (hts : ∀ w ∈ Ts, w.before args s = true) (hin : ∀ w ∈ (vx_atS RX4 181 "java/lang/IllegalArgumentException" ["java/lang/RuntimeException", "java/lang/Exception"]).filter goodWord, w ∈ Ts) (hE : gE de mi A s H) : ∀ w ∈ vx_atS RX4 181 "java/lang/IllegalArgumentException" ["java/lang/RuntimeException", "java/lang/Exception"], w.before args s = true :=
  g_hat hts hin (gE_cast hE (q := ("java/lang/IllegalArgumentException", "java/lang/IllegalArgumentException")) (by decide)) (fun y hy => gE_dc hE hy) (by decide +kernel)
theorem good_IA : ∀ w ∈ Cond.classLink RX4 177 "java/lang/IllegalArgumentException" :: Cond.initialized "java/lang/IllegalArgumentException" :: vx_atS RX4 181 "java/lang/IllegalArgumentException" ["java/lang/RuntimeException", "java/lang/Exception"], vx_ot w = true := List.all_eq_true.mp (by decide +kernel)
theorem hat_IO {Ts : List Cond} {args : Array Value} {s : State} {de mi : Nat} {A : Nat → Prop} {H : Heap} (hts : ∀ w ∈ Ts, w.before args s = true) (hin : ∀ w ∈ (vx_atS RX4 188 "java/lang/IndexOutOfBoundsException" ["java/lang/RuntimeException", "java/lang/Exception"]).filter goodWord, w ∈ Ts) (hE : gE de mi A s H) : ∀ w ∈ vx_atS RX4 188 "java/lang/IndexOutOfBoundsException" ["java/lang/RuntimeException", "java/lang/Exception"], w.before args s = true :=
  g_hat hts hin (gE_cast hE (q := ("java/lang/IndexOutOfBoundsException", "java/lang/IndexOutOfBoundsException")) (by decide)) (fun y hy => gE_dc hE hy) (by decide +kernel)
theorem good_IO : ∀ w ∈ Cond.classLink RX4 184 "java/lang/IndexOutOfBoundsException" :: Cond.initialized "java/lang/IndexOutOfBoundsException" :: vx_atS RX4 188 "java/lang/IndexOutOfBoundsException" ["java/lang/RuntimeException", "java/lang/Exception"], vx_ot w = true := List.all_eq_true.mp (by decide +kernel)
theorem hat_IS {Ts : List Cond} {args : Array Value} {s : State} {de mi : Nat} {A : Nat → Prop} {H : Heap} (hts : ∀ w ∈ Ts, w.before args s = true) (hin : ∀ w ∈ (vx_atS RX4 70 "java/lang/IllegalStateException" ["java/lang/RuntimeException", "java/lang/Exception"]).filter goodWord, w ∈ Ts) (hE : gE de mi A s H) : ∀ w ∈ vx_atS RX4 70 "java/lang/IllegalStateException" ["java/lang/RuntimeException", "java/lang/Exception"], w.before args s = true :=
  g_hat hts hin (gE_cast hE (q := ("java/lang/IllegalStateException", "java/lang/IllegalStateException")) (by decide)) (fun y hy => gE_dc hE hy) (by decide +kernel)
theorem good_IS : ∀ w ∈ Cond.classLink RX4 66 "java/lang/IllegalStateException" :: Cond.initialized "java/lang/IllegalStateException" :: vx_atS RX4 70 "java/lang/IllegalStateException" ["java/lang/RuntimeException", "java/lang/Exception"], vx_ot w = true := List.all_eq_true.mp (by decide +kernel)
/-- an index below n -/
def pI (v : Int32) (n : Nat) : Prop := ∃ j, j < n ∧ v = nI j
theorem pI_of {v : Int32} {n : Nat} (hn : n < 1000) (h1 : ¬ v < 0) (h2 : v < nI n) : pI v n := by
  obtain ⟨j, hj, rfl⟩ := nI_of h1
  exact ⟨j, (nI_ltI hj (by omega)).mp h2, rfl⟩
theorem pI_lt {v : Int32} {n : Nat} (hn : n < 1000) (h : pI v n) : ¬ v < 0 ∧ v < nI n := by
  obtain ⟨j, hj, rfl⟩ := h
  exact ⟨nI_pos (by omega), nI_lt hj (by omega)⟩
theorem mIn_t {v a b : Int32} (h1 : ¬ v < a) (h2 : ¬ b < v) : mIn v a b = true := by simp [mIn, h1, h2]
theorem mIn_l {v a b : Int32} (h1 : v < a) : ¬ mIn v a b = true := by simp [mIn, h1]
theorem mIn_r {v a b : Int32} (h1 : b < v) : ¬ mIn v a b = true := by simp [mIn, h1]

theorem c_Lgetv (l : Launch) (D : va_G) (cy : Nat → ClassId) (de : Nat) (f : gFm) (lk : Nat) (ek : Nat) (n : Nat) (ad : Nat → Nat) (j : Nat) (v : Int32) (hL : gL cy de f lk ek n ad) (hj : j < n) (hv : v = nI j) : gMq l yJx4a65c_get_915e3 wsJx4a65c_get_915e3 { frames := 2, cells := 0, slots := 0, locals := 43 } D cy de [.ref lk, .int v] f (fun r9 f9 => r9 = some (ad j) ∧ f9 = f) 0 0 := by
  subst hv
  exact c_Lget l D cy de f lk ek n ad j hL hj

set_option maxHeartbeats 4000000 in
set_option maxRecDepth 100000 in
theorem c_X4_planAt (l : Launch) (hl0 : l.stackTraces = false) (D : va_G) (cy : Nat → ClassId) (de : Nat) (f : gFm) (N : gNm) (I : gMd) (v : Int32) (hR : gR cy de N I f) : gXq l yX4_planAt wsX4_planAt { frames := 6, cells := 1, slots := 6, locals := 82 } D cy de [.ref (N 0 0), .int v] f (fun r9 f9 => ∃ jv, jv < 4 ∧ v = nI jv ∧ (r9 = some (N 1 jv) ∧ f9 = f)) (fun E9 => E9 = "java/lang/IllegalArgumentException" ∧ ¬ pI v (4)) 1 6 := by
  refine fun sz => vx_ofW (cc := cX4_planAt) (maxL := 2) (ret := (some (.object "TollGateway$Plan"))) (by decide) rfl ?_
  intro p e s m args below meth c s₁ B hml hout hv
  obtain ⟨rfl, hv⟩ := hv
  obtain ⟨rfl, hI⟩ := gP_I hv
  have hx := B.exec
  have hb := B.bytes
  have hr := B.returns
  have hts := atoms_spec (ws := wsX4_planAt) B.pre
  have hown : s.vm.findClass RX4 = some m.cls := findClass_of_methodNamed B.named
  have hlocks := B.notSynchronized
  have hinX4 : ∀ w ∈ wsX40, w ∈ wsX4_planAt := by decide +kernel
  have hw0 := hts (.classLink RX4 177 "java/lang/IllegalArgumentException") (by decide +kernel)
  have hw1 := hts (.initialized "java/lang/IllegalArgumentException") (by decide +kernel)
  have hw2 := hts (.fieldLink RX4 11 "TollGateway" "plans" "[LTollGateway$Plan;") (by decide +kernel)
  have hl := lv_entry ([.ref (N 0 0), .int v]) (n := 2) (Nat.le_of_ble_eq_true rfl)
  rw [lg_entry_eq]
  generalize (lg_sl ([.ref (N 0 0), .int v]) ++ List.replicate (2 - (lg_sl ([.ref (N 0 0), .int v])).length) Slot.unset).toArray = ls at hl ⊢
  have hl : lv_has ls 2 [(0, .ref (N 0 0)), (1, .int v)] := hl
  have htg : f (N 0 0) = some (.inr (5, [.ref (N 0 1), .ref (N 0 2), .ref (N 0 3), .ref (N 0 4), .int (I 0 0), .int (I 1 0)])) := gR_tg hR
  obtain ⟨hyy, hya, hya2⟩ := hR.2.2.1
  refine lv_iload_n hx hb dX4_planAt_0 rfl (lv_at hl 1 rfl) ?_
  refine lv_if_lt (tgt := 13) hx hb dX4_planAt_1 (by decide) (fun c_1 => ?_) (fun c_1 => ?_)
  · refine gx_throw (px := _) hx hb hl0 hown (by decide) hw0 hw1 (st_179 hI.2.2.2.1) (hat_IA hts (fun w hw => List.mem_cons_of_mem _ (List.mem_append_right _ hw)) hI.2.2.2.1) good_IA hI (by rw [hml]; exact hl.1) dX4_planAt_13 dX4_planAt_16 dX4_planAt_17 dX4_planAt_19 dX4_planAt_22 hout (Nat.le_of_ble_eq_true rfl) (Nat.le_of_ble_eq_true rfl) (Nat.le_of_ble_eq_true rfl) (Nat.le_of_ble_eq_true rfl) hlocks ?_ (Nat.le_of_ble_eq_true rfl) (Nat.le_of_ble_eq_true rfl)
    exact ⟨rfl, (fun z => absurd c_1 (pI_lt (by first | decide | (have := gR_nk hR; have := gR_nc hR; omega)) z).1)⟩
  · refine lv_iload_n hx hb dX4_planAt_4 rfl (lv_at hl 1 rfl) ?_
    refine lv_aload_n hx hb dX4_planAt_5 rfl (lv_at hl 0 rfl) ?_
    refine g_get (ci := 5) (C := RX4) (T := TX4) (N := 6) hx hb hts hinX4 hown hI htg rfl 0 (by decide) hw2 (fun _ h9 => h9) rfl dX4_planAt_6 ?_
    refine g_alen (v := nI 4) hx hb hI hya 3 rfl rfl dX4_planAt_9 ?_
    refine lv_icmp_lt (tgt := 23) hx hb dX4_planAt_10 (by decide) (fun c_2 => ?_) (fun c_2 => ?_)
    · refine lv_aload_n hx hb dX4_planAt_23 rfl (lv_at hl 0 rfl) ?_
      refine g_get (ci := 5) (C := RX4) (T := TX4) (N := 6) hx hb hts hinX4 hown hI htg rfl 0 (by decide) hw2 (fun _ h9 => h9) rfl dX4_planAt_24 ?_
      refine lv_iload_n hx hb dX4_planAt_27 rfl (lv_at hl 1 rfl) ?_
      obtain ⟨j_3, hj, hv⟩ : pI v 4 := pI_of (by decide) c_1 c_2
      refine g_aald (C := "TollGateway$Plan") hx hb hI hya 3 rfl (by rw [hv]; exact vp_in_nI hj (by decide)) dX4_planAt_28 ?_
      rw [show hyy (ix v) = some (N 1 j_3) from (by rw [hv, show ix (nI j_3) = j_3 from nI_clamp (by omega)]; exact hya2 j_3 hj)]
      exact gx_aret hx hb hr (Or.inl ⟨_, rfl⟩) hlocks hI ⟨j_3, hj, hv, rfl, rfl⟩ (Nat.le_of_ble_eq_true rfl) (Nat.le_of_ble_eq_true rfl) dX4_planAt_29
    · refine gx_throw (px := _) hx hb hl0 hown (by decide) hw0 hw1 (st_179 hI.2.2.2.1) (hat_IA hts (fun w hw => List.mem_cons_of_mem _ (List.mem_append_right _ hw)) hI.2.2.2.1) good_IA hI (by rw [hml]; exact hl.1) dX4_planAt_13 dX4_planAt_16 dX4_planAt_17 dX4_planAt_19 dX4_planAt_22 hout (Nat.le_of_ble_eq_true rfl) (Nat.le_of_ble_eq_true rfl) (Nat.le_of_ble_eq_true rfl) (Nat.le_of_ble_eq_true rfl) hlocks ?_ (Nat.le_of_ble_eq_true rfl) (Nat.le_of_ble_eq_true rfl)
      exact ⟨rfl, (fun z => absurd (pI_lt (by first | decide | (have := gR_nk hR; have := gR_nc hR; omega)) z).2 c_2)⟩

set_option maxHeartbeats 4000000 in
set_option maxRecDepth 100000 in
theorem c_X4_routeAt (l : Launch) (hl0 : l.stackTraces = false) (D : va_G) (cy : Nat → ClassId) (de : Nat) (f : gFm) (N : gNm) (I : gMd) (v : Int32) (hR : gR cy de N I f) : gXq l yX4_routeAt wsX4_routeAt { frames := 6, cells := 1, slots := 6, locals := 82 } D cy de [.ref (N 0 0), .int v] f (fun r9 f9 => ∃ jv, jv < 6 ∧ v = nI jv ∧ (r9 = some (N 2 jv) ∧ f9 = f)) (fun E9 => E9 = "java/lang/IllegalArgumentException" ∧ ¬ pI v (6)) 1 6 := by
  refine fun sz => vx_ofW (cc := cX4_routeAt) (maxL := 2) (ret := (some (.object "TollGateway$Route"))) (by decide) rfl ?_
  intro p e s m args below meth c s₁ B hml hout hv
  obtain ⟨rfl, hv⟩ := hv
  obtain ⟨rfl, hI⟩ := gP_I hv
  have hx := B.exec
  have hb := B.bytes
  have hr := B.returns
  have hts := atoms_spec (ws := wsX4_routeAt) B.pre
  have hown : s.vm.findClass RX4 = some m.cls := findClass_of_methodNamed B.named
  have hlocks := B.notSynchronized
  have hinX4 : ∀ w ∈ wsX40, w ∈ wsX4_routeAt := by decide +kernel
  have hw0 := hts (.classLink RX4 177 "java/lang/IllegalArgumentException") (by decide +kernel)
  have hw1 := hts (.initialized "java/lang/IllegalArgumentException") (by decide +kernel)
  have hw2 := hts (.fieldLink RX4 17 "TollGateway" "routes" "[LTollGateway$Route;") (by decide +kernel)
  have hl := lv_entry ([.ref (N 0 0), .int v]) (n := 2) (Nat.le_of_ble_eq_true rfl)
  rw [lg_entry_eq]
  generalize (lg_sl ([.ref (N 0 0), .int v]) ++ List.replicate (2 - (lg_sl ([.ref (N 0 0), .int v])).length) Slot.unset).toArray = ls at hl ⊢
  have hl : lv_has ls 2 [(0, .ref (N 0 0)), (1, .int v)] := hl
  have htg : f (N 0 0) = some (.inr (5, [.ref (N 0 1), .ref (N 0 2), .ref (N 0 3), .ref (N 0 4), .int (I 0 0), .int (I 1 0)])) := gR_tg hR
  obtain ⟨hyy, hya, hya2⟩ := hR.2.2.2.1
  refine lv_iload_n hx hb dX4_routeAt_0 rfl (lv_at hl 1 rfl) ?_
  refine lv_if_lt (tgt := 13) hx hb dX4_routeAt_1 (by decide) (fun c_1 => ?_) (fun c_1 => ?_)
  · refine gx_throw (px := _) hx hb hl0 hown (by decide) hw0 hw1 (st_182 hI.2.2.2.1) (hat_IA hts (fun w hw => List.mem_cons_of_mem _ (List.mem_append_right _ hw)) hI.2.2.2.1) good_IA hI (by rw [hml]; exact hl.1) dX4_routeAt_13 dX4_routeAt_16 dX4_routeAt_17 dX4_routeAt_19 dX4_routeAt_22 hout (Nat.le_of_ble_eq_true rfl) (Nat.le_of_ble_eq_true rfl) (Nat.le_of_ble_eq_true rfl) (Nat.le_of_ble_eq_true rfl) hlocks ?_ (Nat.le_of_ble_eq_true rfl) (Nat.le_of_ble_eq_true rfl)
    exact ⟨rfl, (fun z => absurd c_1 (pI_lt (by first | decide | (have := gR_nk hR; have := gR_nc hR; omega)) z).1)⟩
  · refine lv_iload_n hx hb dX4_routeAt_4 rfl (lv_at hl 1 rfl) ?_
    refine lv_aload_n hx hb dX4_routeAt_5 rfl (lv_at hl 0 rfl) ?_
    refine g_get (ci := 5) (C := RX4) (T := TX4) (N := 6) hx hb hts hinX4 hown hI htg rfl 1 (by decide) hw2 (fun _ h9 => h9) rfl dX4_routeAt_6 ?_
    refine g_alen (v := nI 6) hx hb hI hya 4 rfl rfl dX4_routeAt_9 ?_
    refine lv_icmp_lt (tgt := 23) hx hb dX4_routeAt_10 (by decide) (fun c_2 => ?_) (fun c_2 => ?_)
    · refine lv_aload_n hx hb dX4_routeAt_23 rfl (lv_at hl 0 rfl) ?_
      refine g_get (ci := 5) (C := RX4) (T := TX4) (N := 6) hx hb hts hinX4 hown hI htg rfl 1 (by decide) hw2 (fun _ h9 => h9) rfl dX4_routeAt_24 ?_
      refine lv_iload_n hx hb dX4_routeAt_27 rfl (lv_at hl 1 rfl) ?_
      obtain ⟨j_3, hj, hv⟩ : pI v 6 := pI_of (by decide) c_1 c_2
      refine g_aald (C := "TollGateway$Route") hx hb hI hya 4 rfl (by rw [hv]; exact vp_in_nI hj (by decide)) dX4_routeAt_28 ?_
      rw [show hyy (ix v) = some (N 2 j_3) from (by rw [hv, show ix (nI j_3) = j_3 from nI_clamp (by omega)]; exact hya2 j_3 hj)]
      exact gx_aret hx hb hr (Or.inl ⟨_, rfl⟩) hlocks hI ⟨j_3, hj, hv, rfl, rfl⟩ (Nat.le_of_ble_eq_true rfl) (Nat.le_of_ble_eq_true rfl) dX4_routeAt_29
    · refine gx_throw (px := _) hx hb hl0 hown (by decide) hw0 hw1 (st_182 hI.2.2.2.1) (hat_IA hts (fun w hw => List.mem_cons_of_mem _ (List.mem_append_right _ hw)) hI.2.2.2.1) good_IA hI (by rw [hml]; exact hl.1) dX4_routeAt_13 dX4_routeAt_16 dX4_routeAt_17 dX4_routeAt_19 dX4_routeAt_22 hout (Nat.le_of_ble_eq_true rfl) (Nat.le_of_ble_eq_true rfl) (Nat.le_of_ble_eq_true rfl) (Nat.le_of_ble_eq_true rfl) hlocks ?_ (Nat.le_of_ble_eq_true rfl) (Nat.le_of_ble_eq_true rfl)
      exact ⟨rfl, (fun z => absurd (pI_lt (by first | decide | (have := gR_nk hR; have := gR_nc hR; omega)) z).2 c_2)⟩

set_option maxHeartbeats 4000000 in
set_option maxRecDepth 100000 in
theorem c_X4_keyAt (l : Launch) (hl0 : l.stackTraces = false) (D : va_G) (cy : Nat → ClassId) (de : Nat) (f : gFm) (N : gNm) (I : gMd) (v : Int32) (hR : gR cy de N I f) : gXq l yX4_keyAt wsX4_keyAt { frames := 6, cells := 1, slots := 6, locals := 82 } D cy de [.ref (N 0 0), .int v] f (fun r9 f9 => ∃ jv, jv < N 0 7 ∧ v = nI jv ∧ (r9 = some (N 3 jv) ∧ f9 = f)) (fun E9 => E9 = "java/lang/IndexOutOfBoundsException" ∧ ¬ pI v (N 0 7)) 1 6 := by
  refine fun sz => vx_ofW (cc := cX4_keyAt) (maxL := 2) (ret := (some (.object "TollGateway$Key"))) (by decide) rfl ?_
  intro p e s m args below meth c s₁ B hml hout hv
  obtain ⟨rfl, hv⟩ := hv
  obtain ⟨rfl, hI⟩ := gP_I hv
  have hx := B.exec
  have hb := B.bytes
  have hr := B.returns
  have hts := atoms_spec (ws := wsX4_keyAt) B.pre
  have hown : s.vm.findClass RX4 = some m.cls := findClass_of_methodNamed B.named
  have hlocks := B.notSynchronized
  have hinX4 : ∀ w ∈ wsX40, w ∈ wsX4_keyAt := by decide +kernel
  have hw0 := hts (.classLink RX4 184 "java/lang/IndexOutOfBoundsException") (by decide +kernel)
  have hw1 := hts (.initialized "java/lang/IndexOutOfBoundsException") (by decide +kernel)
  have hw2 := hts (.fieldLink RX4 24 "TollGateway" "keys" "Ljava/util/ArrayList;") (by decide +kernel)
  have hw3 := hts (.classLink RX4 73 "TollGateway$Key") (by decide +kernel)
  have hl := lv_entry ([.ref (N 0 0), .int v]) (n := 2) (Nat.le_of_ble_eq_true rfl)
  rw [lg_entry_eq]
  generalize (lg_sl ([.ref (N 0 0), .int v]) ++ List.replicate (2 - (lg_sl ([.ref (N 0 0), .int v])).length) Slot.unset).toArray = ls at hl ⊢
  have hl : lv_has ls 2 [(0, .ref (N 0 0)), (1, .int v)] := hl
  have htg : f (N 0 0) = some (.inr (5, [.ref (N 0 1), .ref (N 0 2), .ref (N 0 3), .ref (N 0 4), .int (I 0 0), .int (I 1 0)])) := gR_tg hR
  obtain ⟨lf_1, hlf_2⟩ := gL_lk hR.2.2.2.2.1
  obtain ⟨lf_3, hlf_4⟩ := gL_lk hR.2.2.2.2.2
  refine lv_iload_n hx hb dX4_keyAt_0 rfl (lv_at hl 1 rfl) ?_
  refine lv_if_lt (tgt := 15) hx hb dX4_keyAt_1 (by decide) (fun c_5 => ?_) (fun c_5 => ?_)
  · refine gx_throw (px := _) hx hb hl0 hown (by decide) hw0 hw1 (st_186 hI.2.2.2.1) (hat_IO hts (fun w hw => List.mem_cons_of_mem _ (List.mem_append_right _ hw)) hI.2.2.2.1) good_IO hI (by rw [hml]; exact hl.1) dX4_keyAt_15 dX4_keyAt_18 dX4_keyAt_19 dX4_keyAt_21 dX4_keyAt_24 hout (Nat.le_of_ble_eq_true rfl) (Nat.le_of_ble_eq_true rfl) (Nat.le_of_ble_eq_true rfl) (Nat.le_of_ble_eq_true rfl) hlocks ?_ (Nat.le_of_ble_eq_true rfl) (Nat.le_of_ble_eq_true rfl)
    exact ⟨rfl, (fun z => absurd c_5 (pI_lt (by first | decide | (have := gR_nk hR; have := gR_nc hR; omega)) z).1)⟩
  · refine lv_iload_n hx hb dX4_keyAt_4 rfl (lv_at hl 1 rfl) ?_
    refine lv_aload_n hx hb dX4_keyAt_5 rfl (lv_at hl 0 rfl) ?_
    refine g_get (ci := 5) (C := RX4) (T := TX4) (N := 6) hx hb hts hinX4 hown hI htg rfl 2 (by decide) hw2 (fun _ h9 => h9) rfl dX4_keyAt_6 ?_
    refine g_calli hI (va_runV (As := []) (rest := [.int v]) ⟨hx, hb, hml, hown, hts⟩ (c_Lsize l D cy de f (N 0 3) (N 0 5) (N 0 7) (N 3) hR.2.2.2.2.1 s.heap.size) (cwV 0 hts gX4_keyAt_Jx4a65c_size_8abf5 rfl rfl rfl (by decide +kernel) ⟨Nat.le_of_ble_eq_true rfl, Nat.le_of_ble_eq_true rfl⟩) (g_preV hI hlf_2 rfl) rfl rfl hl.1 rfl (lv_room (Nat.le_of_ble_eq_true rfl)) dX4_keyAt_9 ⟨Nat.le_of_ble_eq_true rfl, Nat.le_of_ble_eq_true rfl⟩) (fun r_6 f_7 H locs hw_8 hI => ?_)
    obtain ⟨e_9_r, e_9⟩ := hw_8
    rw [e_9_r]
    rw [e_9] at hI
    refine lv_icmp_lt (tgt := 25) hx hb dX4_keyAt_12 (by decide) (fun c_10 => ?_) (fun c_10 => ?_)
    · refine lv_aload_n hx hb dX4_keyAt_25 rfl (lv_at hl 0 rfl) ?_
      refine g_get (ci := 5) (C := RX4) (T := TX4) (N := 6) hx hb hts hinX4 hown hI htg rfl 2 (by decide) hw2 (fun _ h9 => h9) rfl dX4_keyAt_26 ?_
      refine lv_iload_n hx hb dX4_keyAt_29 rfl (lv_at hl 1 rfl) ?_
      obtain ⟨j_12, hj, hv⟩ : pI v (N 0 7) := pI_of (by have := gR_nk hR; have := gR_nc hR; omega) c_5 c_10
      refine g_callq hI (va_runV (As := [.int v]) (rest := []) ⟨hx, hb, hml, hown, hts⟩ (c_Lgetv l D cy de f (N 0 3) (N 0 5) (N 0 7) (N 3) j_12 v hR.2.2.2.2.1 hj hv H.size) (cwV 1 hts gX4_keyAt_Jx4a65c_get_915e3 rfl rfl rfl (by decide +kernel) ⟨Nat.le_of_ble_eq_true rfl, Nat.le_of_ble_eq_true rfl⟩) (g_preV hI hlf_2 rfl) rfl rfl hl.1 rfl (lv_room (Nat.le_of_ble_eq_true rfl)) dX4_keyAt_30 ⟨Nat.le_of_ble_eq_true rfl, Nat.le_of_ble_eq_true rfl⟩) (fun r_11 f_13 H locs hw_14 hI => ?_)
      obtain ⟨e_15_r, e_15⟩ := hw_14
      rw [e_15_r]
      rw [e_15] at hI
      have ho_16 : f (N 3 j_12) = some (.inr (2, [.ref (N 1 (N 5 j_12)), .int (I 7 j_12), .int (I 8 j_12), .int (I 9 j_12), .int (I 10 j_12), .int (I 11 j_12), .int (I 12 j_12), .int (I 13 j_12), .int (I 14 j_12)])) := gR_ke hR hj
      refine g_cast hx hb hown hI ho_16 rfl hw3 dX4_keyAt_33 ?_
      exact gx_aret hx hb hr (Or.inl ⟨_, rfl⟩) hlocks hI ⟨j_12, hj, hv, rfl, rfl⟩ (Nat.le_of_ble_eq_true rfl) (Nat.le_of_ble_eq_true rfl) dX4_keyAt_36
    · refine gx_throw (px := _) hx hb hl0 hown (by decide) hw0 hw1 (st_186 hI.2.2.2.1) (hat_IO hts (fun w hw => List.mem_cons_of_mem _ (List.mem_append_right _ hw)) hI.2.2.2.1) good_IO hI (by rw [hml]; exact hl.1) dX4_keyAt_15 dX4_keyAt_18 dX4_keyAt_19 dX4_keyAt_21 dX4_keyAt_24 hout (Nat.le_of_ble_eq_true rfl) (Nat.le_of_ble_eq_true rfl) (Nat.le_of_ble_eq_true rfl) (Nat.le_of_ble_eq_true rfl) hlocks ?_ (Nat.le_of_ble_eq_true rfl) (Nat.le_of_ble_eq_true rfl)
      exact ⟨rfl, (fun z => absurd (pI_lt (by first | decide | (have := gR_nk hR; have := gR_nc hR; omega)) z).2 c_10)⟩

set_option maxHeartbeats 4000000 in
set_option maxRecDepth 100000 in
theorem c_X4_callAt (l : Launch) (hl0 : l.stackTraces = false) (D : va_G) (cy : Nat → ClassId) (de : Nat) (f : gFm) (N : gNm) (I : gMd) (v : Int32) (hR : gR cy de N I f) : gXq l yX4_callAt wsX4_callAt { frames := 6, cells := 1, slots := 6, locals := 82 } D cy de [.ref (N 0 0), .int v] f (fun r9 f9 => ∃ jv, jv < N 0 8 ∧ v = nI jv ∧ (r9 = some (N 4 jv) ∧ f9 = f)) (fun E9 => E9 = "java/lang/IndexOutOfBoundsException" ∧ ¬ pI v (N 0 8)) 1 6 := by
  refine fun sz => vx_ofW (cc := cX4_callAt) (maxL := 2) (ret := (some (.object "TollGateway$Call"))) (by decide) rfl ?_
  intro p e s m args below meth c s₁ B hml hout hv
  obtain ⟨rfl, hv⟩ := hv
  obtain ⟨rfl, hI⟩ := gP_I hv
  have hx := B.exec
  have hb := B.bytes
  have hr := B.returns
  have hts := atoms_spec (ws := wsX4_callAt) B.pre
  have hown : s.vm.findClass RX4 = some m.cls := findClass_of_methodNamed B.named
  have hlocks := B.notSynchronized
  have hinX4 : ∀ w ∈ wsX40, w ∈ wsX4_callAt := by decide +kernel
  have hw0 := hts (.classLink RX4 184 "java/lang/IndexOutOfBoundsException") (by decide +kernel)
  have hw1 := hts (.initialized "java/lang/IndexOutOfBoundsException") (by decide +kernel)
  have hw2 := hts (.fieldLink RX4 28 "TollGateway" "letThrough" "Ljava/util/ArrayList;") (by decide +kernel)
  have hw3 := hts (.classLink RX4 118 "TollGateway$Call") (by decide +kernel)
  have hl := lv_entry ([.ref (N 0 0), .int v]) (n := 2) (Nat.le_of_ble_eq_true rfl)
  rw [lg_entry_eq]
  generalize (lg_sl ([.ref (N 0 0), .int v]) ++ List.replicate (2 - (lg_sl ([.ref (N 0 0), .int v])).length) Slot.unset).toArray = ls at hl ⊢
  have hl : lv_has ls 2 [(0, .ref (N 0 0)), (1, .int v)] := hl
  have htg : f (N 0 0) = some (.inr (5, [.ref (N 0 1), .ref (N 0 2), .ref (N 0 3), .ref (N 0 4), .int (I 0 0), .int (I 1 0)])) := gR_tg hR
  obtain ⟨lf_1, hlf_2⟩ := gL_lk hR.2.2.2.2.1
  obtain ⟨lf_3, hlf_4⟩ := gL_lk hR.2.2.2.2.2
  refine lv_iload_n hx hb dX4_callAt_0 rfl (lv_at hl 1 rfl) ?_
  refine lv_if_lt (tgt := 15) hx hb dX4_callAt_1 (by decide) (fun c_5 => ?_) (fun c_5 => ?_)
  · refine gx_throw (px := _) hx hb hl0 hown (by decide) hw0 hw1 (st_193 hI.2.2.2.1) (hat_IO hts (fun w hw => List.mem_cons_of_mem _ (List.mem_append_right _ hw)) hI.2.2.2.1) good_IO hI (by rw [hml]; exact hl.1) dX4_callAt_15 dX4_callAt_18 dX4_callAt_19 dX4_callAt_21 dX4_callAt_24 hout (Nat.le_of_ble_eq_true rfl) (Nat.le_of_ble_eq_true rfl) (Nat.le_of_ble_eq_true rfl) (Nat.le_of_ble_eq_true rfl) hlocks ?_ (Nat.le_of_ble_eq_true rfl) (Nat.le_of_ble_eq_true rfl)
    exact ⟨rfl, (fun z => absurd c_5 (pI_lt (by first | decide | (have := gR_nk hR; have := gR_nc hR; omega)) z).1)⟩
  · refine lv_iload_n hx hb dX4_callAt_4 rfl (lv_at hl 1 rfl) ?_
    refine lv_aload_n hx hb dX4_callAt_5 rfl (lv_at hl 0 rfl) ?_
    refine g_get (ci := 5) (C := RX4) (T := TX4) (N := 6) hx hb hts hinX4 hown hI htg rfl 3 (by decide) hw2 (fun _ h9 => h9) rfl dX4_callAt_6 ?_
    refine g_calli hI (va_runV (As := []) (rest := [.int v]) ⟨hx, hb, hml, hown, hts⟩ (c_Lsize l D cy de f (N 0 4) (N 0 6) (N 0 8) (N 4) hR.2.2.2.2.2 s.heap.size) (cwV 0 hts gX4_callAt_Jx4a65c_size_8abf5 rfl rfl rfl (by decide +kernel) ⟨Nat.le_of_ble_eq_true rfl, Nat.le_of_ble_eq_true rfl⟩) (g_preV hI hlf_4 rfl) rfl rfl hl.1 rfl (lv_room (Nat.le_of_ble_eq_true rfl)) dX4_callAt_9 ⟨Nat.le_of_ble_eq_true rfl, Nat.le_of_ble_eq_true rfl⟩) (fun r_6 f_7 H locs hw_8 hI => ?_)
    obtain ⟨e_9_r, e_9⟩ := hw_8
    rw [e_9_r]
    rw [e_9] at hI
    refine lv_icmp_lt (tgt := 25) hx hb dX4_callAt_12 (by decide) (fun c_10 => ?_) (fun c_10 => ?_)
    · refine lv_aload_n hx hb dX4_callAt_25 rfl (lv_at hl 0 rfl) ?_
      refine g_get (ci := 5) (C := RX4) (T := TX4) (N := 6) hx hb hts hinX4 hown hI htg rfl 3 (by decide) hw2 (fun _ h9 => h9) rfl dX4_callAt_26 ?_
      refine lv_iload_n hx hb dX4_callAt_29 rfl (lv_at hl 1 rfl) ?_
      obtain ⟨j_12, hj, hv⟩ : pI v (N 0 8) := pI_of (by have := gR_nk hR; have := gR_nc hR; omega) c_5 c_10
      refine g_callq hI (va_runV (As := [.int v]) (rest := []) ⟨hx, hb, hml, hown, hts⟩ (c_Lgetv l D cy de f (N 0 4) (N 0 6) (N 0 8) (N 4) j_12 v hR.2.2.2.2.2 hj hv H.size) (cwV 1 hts gX4_callAt_Jx4a65c_get_915e3 rfl rfl rfl (by decide +kernel) ⟨Nat.le_of_ble_eq_true rfl, Nat.le_of_ble_eq_true rfl⟩) (g_preV hI hlf_4 rfl) rfl rfl hl.1 rfl (lv_room (Nat.le_of_ble_eq_true rfl)) dX4_callAt_30 ⟨Nat.le_of_ble_eq_true rfl, Nat.le_of_ble_eq_true rfl⟩) (fun r_11 f_13 H locs hw_14 hI => ?_)
      obtain ⟨e_15_r, e_15⟩ := hw_14
      rw [e_15_r]
      rw [e_15] at hI
      have ho_16 : f (N 4 j_12) = some (.inr (1, [.ref (N 3 (N 6 j_12)), .int (I 15 j_12), .int (I 16 j_12), .int (I 17 j_12), .int (I 18 j_12), .int (I 19 j_12), .int (I 20 j_12)])) := gR_ca hR hj
      have ho_17 : f (N 3 (N 6 j_12)) = some (.inr (2, [.ref (N 1 (N 5 (N 6 j_12))), .int (I 7 (N 6 j_12)), .int (I 8 (N 6 j_12)), .int (I 9 (N 6 j_12)), .int (I 10 (N 6 j_12)), .int (I 11 (N 6 j_12)), .int (I 12 (N 6 j_12)), .int (I 13 (N 6 j_12)), .int (I 14 (N 6 j_12))])) := gR_ke hR (gR_ck hR hj)
      refine g_cast hx hb hown hI ho_16 rfl hw3 dX4_callAt_33 ?_
      exact gx_aret hx hb hr (Or.inl ⟨_, rfl⟩) hlocks hI ⟨j_12, hj, hv, rfl, rfl⟩ (Nat.le_of_ble_eq_true rfl) (Nat.le_of_ble_eq_true rfl) dX4_callAt_36
    · refine gx_throw (px := _) hx hb hl0 hown (by decide) hw0 hw1 (st_193 hI.2.2.2.1) (hat_IO hts (fun w hw => List.mem_cons_of_mem _ (List.mem_append_right _ hw)) hI.2.2.2.1) good_IO hI (by rw [hml]; exact hl.1) dX4_callAt_15 dX4_callAt_18 dX4_callAt_19 dX4_callAt_21 dX4_callAt_24 hout (Nat.le_of_ble_eq_true rfl) (Nat.le_of_ble_eq_true rfl) (Nat.le_of_ble_eq_true rfl) (Nat.le_of_ble_eq_true rfl) hlocks ?_ (Nat.le_of_ble_eq_true rfl) (Nat.le_of_ble_eq_true rfl)
      exact ⟨rfl, (fun z => absurd (pI_lt (by first | decide | (have := gR_nk hR; have := gR_nc hR; omega)) z).2 c_10)⟩

set_option maxHeartbeats 4000000 in
set_option maxRecDepth 100000 in
theorem c_X4_refuseOutside (l : Launch) (hl0 : l.stackTraces = false) (D : va_G) (cy : Nat → ClassId) (de : Nat) (f : gFm) (N : gNm) (I : gMd) (v : Int32) (lo : Int32) (hi : Int32) : gXv l yX4_refuseOutside wsX4_refuseOutside { frames := 6, cells := 1, slots := 6, locals := 82 } D cy de [.int v, .int lo, .int hi] f (fun f9 => (mIn v lo hi = true) ∧ (f9 = f)) (fun E9 => E9 = "java/lang/IllegalArgumentException" ∧ ¬ (mIn v lo hi = true)) 1 6 := by
  refine fun sz => vx_ofW (cc := cX4_refuseOutside) (maxL := 3) (ret := none) (by decide) rfl ?_
  intro p e s m args below meth c s₁ B hml hout hv
  obtain ⟨rfl, hv⟩ := hv
  obtain ⟨rfl, hI⟩ := gP_I hv
  have hx := B.exec
  have hb := B.bytes
  have hr := B.returns
  have hts := atoms_spec (ws := wsX4_refuseOutside) B.pre
  have hown : s.vm.findClass RX4 = some m.cls := findClass_of_methodNamed B.named
  have hlocks := B.notSynchronized
  have hw0 := hts (.classLink RX4 177 "java/lang/IllegalArgumentException") (by decide +kernel)
  have hw1 := hts (.initialized "java/lang/IllegalArgumentException") (by decide +kernel)
  have hl := lv_entry ([.int v, .int lo, .int hi]) (n := 3) (Nat.le_of_ble_eq_true rfl)
  rw [lg_entry_eq]
  generalize (lg_sl ([.int v, .int lo, .int hi]) ++ List.replicate (3 - (lg_sl ([.int v, .int lo, .int hi])).length) Slot.unset).toArray = ls at hl ⊢
  have hl : lv_has ls 3 [(0, .int v), (1, .int lo), (2, .int hi)] := hl
  refine lv_iload_n hx hb dX4_refuseOutside_0 rfl (lv_at hl 0 rfl) ?_
  refine lv_iload_n hx hb dX4_refuseOutside_1 rfl (lv_at hl 1 rfl) ?_
  refine lv_icmp_lt (tgt := 10) hx hb dX4_refuseOutside_2 (by decide) (fun c_1 => ?_) (fun c_1 => ?_)
  · refine gx_throw (px := _) hx hb hl0 hown (by decide) hw0 hw1 (st_195 hI.2.2.2.1) (hat_IA hts (fun w hw => List.mem_cons_of_mem _ (List.mem_append_right _ hw)) hI.2.2.2.1) good_IA hI (by rw [hml]; exact hl.1) dX4_refuseOutside_10 dX4_refuseOutside_13 dX4_refuseOutside_14 dX4_refuseOutside_16 dX4_refuseOutside_19 hout (Nat.le_of_ble_eq_true rfl) (Nat.le_of_ble_eq_true rfl) (Nat.le_of_ble_eq_true rfl) (Nat.le_of_ble_eq_true rfl) hlocks ?_ (Nat.le_of_ble_eq_true rfl) (Nat.le_of_ble_eq_true rfl)
    exact ⟨rfl, (mIn_l c_1)⟩
  · refine lv_iload_n hx hb dX4_refuseOutside_5 rfl (lv_at hl 0 rfl) ?_
    refine lv_iload_n hx hb dX4_refuseOutside_6 rfl (lv_at hl 2 rfl) ?_
    refine lv_icmp_le (tgt := 20) hx hb dX4_refuseOutside_7 (by decide) (fun c_2 => ?_) (fun c_2 => ?_)
    · have c_2' := Int32.not_lt.mpr c_2
      exact gx_vret hx hb hr hlocks hI ⟨mIn_t c_1 c_2', rfl⟩ (Nat.le_of_ble_eq_true rfl) (Nat.le_of_ble_eq_true rfl) dX4_refuseOutside_20
    · have c_2' := Int32.not_le.mp c_2
      refine gx_throw (px := _) hx hb hl0 hown (by decide) hw0 hw1 (st_195 hI.2.2.2.1) (hat_IA hts (fun w hw => List.mem_cons_of_mem _ (List.mem_append_right _ hw)) hI.2.2.2.1) good_IA hI (by rw [hml]; exact hl.1) dX4_refuseOutside_10 dX4_refuseOutside_13 dX4_refuseOutside_14 dX4_refuseOutside_16 dX4_refuseOutside_19 hout (Nat.le_of_ble_eq_true rfl) (Nat.le_of_ble_eq_true rfl) (Nat.le_of_ble_eq_true rfl) (Nat.le_of_ble_eq_true rfl) hlocks ?_ (Nat.le_of_ble_eq_true rfl) (Nat.le_of_ble_eq_true rfl)
      exact ⟨rfl, (mIn_r c_2')⟩
