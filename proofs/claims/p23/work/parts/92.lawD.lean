-- ===== act =====
set_option maxHeartbeats 4000000 in
set_option maxRecDepth 100000 in
theorem act_sw1 {p : Program} {l : Launch} {e : Env} {s : State} {m : MethodId} {args : Array Value} {below : List Frame} {meth : Method} {c : Code} {H : Heap} {locs : List Loc} {D : va_G} {cy : Nat → ClassId} {de : Nat} {A : Nat → Prop} {f : gFm} {N : gNm} {I M : gMd} {tk T : Nat} {ls : Array Slot} {v key plan route num : Int32} (hl0 : l.stackTraces = false) (S : CallFix p m c cL_act 7 s args wsL_act RL) (hr : meth.sig.returnType = some .int) (hlocks : meth.locks = false) (hR : gR cy de N I f) (h : Sim N I M tk T) (hT : T < 520) (hm : mon N I) (hI : gI D cy de A s f H locs) (hl : lv_has ls 7 [(0, .ref (N 0 0)), (1, .int v), (2, .int 1), (3, .int key), (4, .int plan), (5, .int route), (6, .int num)]) : W p l e { frames := 9, cells := 5, slots := 225, locals := 261 } s m args below meth c H locs 0 0 (MQ below (va_Qi (gZ cy de (N 0 0) T M (swX M true v key plan route num)) (gB D A) A) args s 5 225 A) (F0 m 158 ls []) := by
  obtain ⟨hx, hb, hml, hown, hts⟩ := id S
  have hw0 := hts (.constant RL 78 (100005)) (by decide +kernel)
  refine lv_iload_n hx hb dL_act_158 rfl (lv_at hl 1 rfl) ?_
  refine lv_bipush (v := 20) hx hb dL_act_159 (by decide) ?_
  refine g_calli hI (va_runS (As := [.int v, .int 20]) (rest := []) ⟨hx, hb, hml, hown, hts⟩ (c_L_low l D cy de f v 20 (by decide) H.size) (va_cwS 2 hts gL_act_L_low rfl rfl rfl (by decide +kernel) ⟨Nat.le_of_ble_eq_true rfl, Nat.le_of_ble_eq_true rfl⟩) (g_preS hI) rfl rfl hl.1 rfl (lv_room (Nat.le_of_ble_eq_true rfl)) dL_act_161 ⟨Nat.le_of_ble_eq_true rfl, Nat.le_of_ble_eq_true rfl⟩) (fun r1 f1 H locs hw hI => ?_)
  obtain ⟨hw1, hw2⟩ := hw
  rw [hw1]
  rw [hw2] at hI
  obtain ⟨x, ex⟩ : ∃ x, x = loV v 20 := ⟨_, rfl⟩
  rw [show swX M true v key plan route num = swK (swI x) M true v key plan route num from by unfold swX; rw [ex], ← ex]
  rcases sw_in x with ho | ⟨k, hk, rfl⟩
  · rw [show swI x = 12 from if_pos ho]
    refine lv_tableOut (tgt := 535) hx hb dL_act_164 ho (by decide) ?_
    refine lv_aload_n hx hb dL_act_535 rfl (lv_at hl 0 rfl) ?_
    refine lv_iload_n hx hb dL_act_536 rfl (lv_at hl 3 rfl) ?_
    refine lv_iload hx hb dL_act_537 (lv_at hl 5 rfl) ?_
    refine lv_iload_n hx hb dL_act_539 rfl (lv_at hl 2 rfl) ?_
    refine lv_if_eq (tgt := 555) hx hb dL_act_540 (by decide) (fun z => absurd z (by decide)) (fun _ => ?_)
    refine lv_iload_n hx hb dL_act_543 rfl (lv_at hl 1 rfl) ?_
    refine lv_bipush (v := 10) hx hb dL_act_544 (by decide) ?_
    refine lv_ishr hx hb dL_act_546 ?_
    refine lv_bipush (v := 11) hx hb dL_act_547 (by decide) ?_
    refine g_calli hI (va_runS (As := [.int (v >>> ((10 : Int32) &&& 31)), .int 11]) (rest := [.int route, .int key, .ref (N 0 0)]) ⟨hx, hb, hml, hown, hts⟩ (c_L_low l D cy de f (v >>> ((10 : Int32) &&& 31)) 11 (by decide) H.size) (va_cwS 2 hts gL_act_L_low rfl rfl rfl (by decide +kernel) ⟨Nat.le_of_ble_eq_true rfl, Nat.le_of_ble_eq_true rfl⟩) (g_preS hI) rfl rfl hl.1 rfl (lv_room (Nat.le_of_ble_eq_true rfl)) dL_act_549 ⟨Nat.le_of_ble_eq_true rfl, Nat.le_of_ble_eq_true rfl⟩) (fun r1 f1 H locs hw hI => ?_)
    obtain ⟨hw1, hw2⟩ := hw
    rw [hw1]
    rw [hw2] at hI
    refine lv_goto (tgt := 566) hx hb dL_act_552 (by decide) ?_
    refine g_calli hI (vx_runSW (As := [.ref (N 0 0), .int key, .int route, .int (loV (v >>> ((10 : Int32) &&& 31)) 11)]) (rest := []) ⟨hx, hb, hml, hown, hts⟩ (d_call l hl0 D cy de f N I key route (loV (v >>> ((10 : Int32) &&& 31)) 11) hR h hT hm H.size) (vx_cwSW 4 hts gL_act_L_call rfl rfl rfl (by decide +kernel) ⟨Nat.le_of_ble_eq_true rfl, Nat.le_of_ble_eq_true rfl⟩) (g_preS hI) rfl rfl hl.1 rfl (lv_room (Nat.le_of_ble_eq_true rfl)) dL_act_566 ⟨Nat.le_of_ble_eq_true rfl, Nat.le_of_ble_eq_true rfl⟩) (fun r1 f1 H locs hw hI => ?_)
    exact g_iret hx hb hr hlocks hI hw (Nat.le_of_ble_eq_true rfl) (Nat.le_of_ble_eq_true rfl) dL_act_569
  · rcases (show k = 0 ∨ k = 1 ∨ k = 2 ∨ k = 3 ∨ k = 4 ∨ k = 5 ∨ k = 6 ∨ k = 7 ∨ k = 8 ∨ k = 9 ∨ k = 10 ∨ k = 11 by omega) with rfl | rfl | rfl | rfl | rfl | rfl | rfl | rfl | rfl | rfl | rfl | rfl
    · rw [show swI (nI 0) = 0 by decide]
      refine lv_tableIn (off := 64) (tgt := 228) hx hb dL_act_164 (by decide) (by decide) (by decide) (by decide) ?_
      refine lv_aload_n hx hb dL_act_228 rfl (lv_at hl 0 rfl) ?_
      refine lv_iload hx hb dL_act_229 (lv_at hl 4 rfl) ?_
      refine lv_iload_n hx hb dL_act_231 rfl (lv_at hl 2 rfl) ?_
      refine lv_if_eq (tgt := 247) hx hb dL_act_232 (by decide) (fun z => absurd z (by decide)) (fun _ => ?_)
      refine lv_iload_n hx hb dL_act_235 rfl (lv_at hl 1 rfl) ?_
      refine lv_bipush (v := 9) hx hb dL_act_236 (by decide) ?_
      refine lv_ishr hx hb dL_act_238 ?_
      refine lv_bipush (v := 103) hx hb dL_act_239 (by decide) ?_
      refine g_calli hI (va_runS (As := [.int (v >>> ((9 : Int32) &&& 31)), .int 103]) (rest := [.int plan, .ref (N 0 0)]) ⟨hx, hb, hml, hown, hts⟩ (c_L_low l D cy de f (v >>> ((9 : Int32) &&& 31)) 103 (by decide) H.size) (va_cwS 2 hts gL_act_L_low rfl rfl rfl (by decide +kernel) ⟨Nat.le_of_ble_eq_true rfl, Nat.le_of_ble_eq_true rfl⟩) (g_preS hI) rfl rfl hl.1 rfl (lv_room (Nat.le_of_ble_eq_true rfl)) dL_act_241 ⟨Nat.le_of_ble_eq_true rfl, Nat.le_of_ble_eq_true rfl⟩) (fun r1 f1 H locs hw hI => ?_)
      obtain ⟨hw1, hw2⟩ := hw
      rw [hw1]
      rw [hw2] at hI
      refine lv_goto (tgt := 258) hx hb dL_act_244 (by decide) ?_
      refine lv_iload_n hx hb dL_act_258 rfl (lv_at hl 2 rfl) ?_
      refine lv_if_eq (tgt := 276) hx hb dL_act_259 (by decide) (fun z => absurd z (by decide)) (fun _ => ?_)
      refine lv_iload_n hx hb dL_act_262 rfl (lv_at hl 1 rfl) ?_
      refine lv_bipush (v := 13) hx hb dL_act_263 (by decide) ?_
      refine lv_ishr hx hb dL_act_265 ?_
      refine lv_bipush (v := 103) hx hb dL_act_266 (by decide) ?_
      refine g_calli hI (va_runS (As := [.int (v >>> ((13 : Int32) &&& 31)), .int 103]) (rest := [.int (loV (v >>> ((9 : Int32) &&& 31)) 103), .int plan, .ref (N 0 0)]) ⟨hx, hb, hml, hown, hts⟩ (c_L_low l D cy de f (v >>> ((13 : Int32) &&& 31)) 103 (by decide) H.size) (va_cwS 2 hts gL_act_L_low rfl rfl rfl (by decide +kernel) ⟨Nat.le_of_ble_eq_true rfl, Nat.le_of_ble_eq_true rfl⟩) (g_preS hI) rfl rfl hl.1 rfl (lv_room (Nat.le_of_ble_eq_true rfl)) dL_act_268 ⟨Nat.le_of_ble_eq_true rfl, Nat.le_of_ble_eq_true rfl⟩) (fun r1 f1 H locs hw hI => ?_)
      obtain ⟨hw1, hw2⟩ := hw
      rw [hw1]
      rw [hw2] at hI
      refine lv_iconst (v := 1) hx hb dL_act_271 (by decide) ?_
      refine lv_isub hx hb dL_act_272 ?_
      refine lv_goto (tgt := 286) hx hb dL_act_273 (by decide) ?_
      refine lv_iload_n hx hb dL_act_286 rfl (lv_at hl 1 rfl) ?_
      refine lv_bipush (v := 16) hx hb dL_act_287 (by decide) ?_
      refine lv_ishr hx hb dL_act_289 ?_
      refine lv_iload_n hx hb dL_act_290 rfl (lv_at hl 2 rfl) ?_
      refine lv_if_eq (tgt := 298) hx hb dL_act_291 (by decide) (fun z => absurd z (by decide)) (fun _ => ?_)
      refine lv_iconst (v := 5) hx hb dL_act_294 (by decide) ?_
      refine lv_goto (tgt := 299) hx hb dL_act_295 (by decide) ?_
      refine g_calli hI (va_runS (As := [.int (v >>> ((16 : Int32) &&& 31)), .int 5]) (rest := [.int ((loV (v >>> ((13 : Int32) &&& 31)) 103) - 1), .int (loV (v >>> ((9 : Int32) &&& 31)) 103), .int plan, .ref (N 0 0)]) ⟨hx, hb, hml, hown, hts⟩ (c_L_low l D cy de f (v >>> ((16 : Int32) &&& 31)) 5 (by decide) H.size) (va_cwS 2 hts gL_act_L_low rfl rfl rfl (by decide +kernel) ⟨Nat.le_of_ble_eq_true rfl, Nat.le_of_ble_eq_true rfl⟩) (g_preS hI) rfl rfl hl.1 rfl (lv_room (Nat.le_of_ble_eq_true rfl)) dL_act_299 ⟨Nat.le_of_ble_eq_true rfl, Nat.le_of_ble_eq_true rfl⟩) (fun r1 f1 H locs hw hI => ?_)
      obtain ⟨hw1, hw2⟩ := hw
      rw [hw1]
      rw [hw2] at hI
      refine g_calli hI (vx_runSW (As := [.ref (N 0 0), .int plan, .int (loV (v >>> ((9 : Int32) &&& 31)) 103), .int ((loV (v >>> ((13 : Int32) &&& 31)) 103) - 1), .int (loV (v >>> ((16 : Int32) &&& 31)) 5)]) (rest := []) ⟨hx, hb, hml, hown, hts⟩ (d_setPlan l hl0 D cy de f N I plan (loV (v >>> ((9 : Int32) &&& 31)) 103) ((loV (v >>> ((13 : Int32) &&& 31)) 103) - 1) (loV (v >>> ((16 : Int32) &&& 31)) 5) hR h hT hm H.size) (vx_cwSW 5 hts gL_act_L_setPlan rfl rfl rfl (by decide +kernel) ⟨Nat.le_of_ble_eq_true rfl, Nat.le_of_ble_eq_true rfl⟩) (g_preS hI) rfl rfl hl.1 rfl (lv_room (Nat.le_of_ble_eq_true rfl)) dL_act_302 ⟨Nat.le_of_ble_eq_true rfl, Nat.le_of_ble_eq_true rfl⟩) (fun r1 f1 H locs hw hI => ?_)
      exact g_iret hx hb hr hlocks hI hw (Nat.le_of_ble_eq_true rfl) (Nat.le_of_ble_eq_true rfl) dL_act_305
    · rw [show swI (nI 1) = 1 by decide]
      refine lv_tableIn (off := 142) (tgt := 306) hx hb dL_act_164 (by decide) (by decide) (by decide) (by decide) ?_
      refine lv_aload_n hx hb dL_act_306 rfl (lv_at hl 0 rfl) ?_
      refine lv_iload hx hb dL_act_307 (lv_at hl 5 rfl) ?_
      refine lv_iload_n hx hb dL_act_309 rfl (lv_at hl 2 rfl) ?_
      refine lv_if_eq (tgt := 328) hx hb dL_act_310 (by decide) (fun z => absurd z (by decide)) (fun _ => ?_)
      refine lv_iload_n hx hb dL_act_313 rfl (lv_at hl 1 rfl) ?_
      refine lv_bipush (v := 9) hx hb dL_act_314 (by decide) ?_
      refine lv_ishr hx hb dL_act_316 ?_
      refine lv_sipush (v := 1005) hx hb dL_act_317 (by decide) ?_
      refine g_calli hI (va_runS (As := [.int (v >>> ((9 : Int32) &&& 31)), .int 1005]) (rest := [.int route, .ref (N 0 0)]) ⟨hx, hb, hml, hown, hts⟩ (c_L_low l D cy de f (v >>> ((9 : Int32) &&& 31)) 1005 (by decide) H.size) (va_cwS 2 hts gL_act_L_low rfl rfl rfl (by decide +kernel) ⟨Nat.le_of_ble_eq_true rfl, Nat.le_of_ble_eq_true rfl⟩) (g_preS hI) rfl rfl hl.1 rfl (lv_room (Nat.le_of_ble_eq_true rfl)) dL_act_320 ⟨Nat.le_of_ble_eq_true rfl, Nat.le_of_ble_eq_true rfl⟩) (fun r1 f1 H locs hw hI => ?_)
      obtain ⟨hw1, hw2⟩ := hw
      rw [hw1]
      rw [hw2] at hI
      refine lv_iconst (v := 2) hx hb dL_act_323 (by decide) ?_
      refine lv_isub hx hb dL_act_324 ?_
      refine lv_goto (tgt := 337) hx hb dL_act_325 (by decide) ?_
      refine lv_iload_n hx hb dL_act_337 rfl (lv_at hl 2 rfl) ?_
      refine lv_if_eq (tgt := 353) hx hb dL_act_338 (by decide) (fun z => absurd z (by decide)) (fun _ => ?_)
      refine lv_iload_n hx hb dL_act_341 rfl (lv_at hl 1 rfl) ?_
      refine lv_bipush (v := 14) hx hb dL_act_342 (by decide) ?_
      refine lv_ishr hx hb dL_act_344 ?_
      refine lv_bipush (v := 23) hx hb dL_act_345 (by decide) ?_
      refine g_calli hI (va_runS (As := [.int (v >>> ((14 : Int32) &&& 31)), .int 23]) (rest := [.int ((loV (v >>> ((9 : Int32) &&& 31)) 1005) - 2), .int route, .ref (N 0 0)]) ⟨hx, hb, hml, hown, hts⟩ (c_L_low l D cy de f (v >>> ((14 : Int32) &&& 31)) 23 (by decide) H.size) (va_cwS 2 hts gL_act_L_low rfl rfl rfl (by decide +kernel) ⟨Nat.le_of_ble_eq_true rfl, Nat.le_of_ble_eq_true rfl⟩) (g_preS hI) rfl rfl hl.1 rfl (lv_room (Nat.le_of_ble_eq_true rfl)) dL_act_347 ⟨Nat.le_of_ble_eq_true rfl, Nat.le_of_ble_eq_true rfl⟩) (fun r1 f1 H locs hw hI => ?_)
      obtain ⟨hw1, hw2⟩ := hw
      rw [hw1]
      rw [hw2] at hI
      refine lv_goto (tgt := 363) hx hb dL_act_350 (by decide) ?_
      refine g_calli hI (vx_runSW (As := [.ref (N 0 0), .int route, .int ((loV (v >>> ((9 : Int32) &&& 31)) 1005) - 2), .int (loV (v >>> ((14 : Int32) &&& 31)) 23)]) (rest := []) ⟨hx, hb, hml, hown, hts⟩ (d_setRoute l hl0 D cy de f N I route ((loV (v >>> ((9 : Int32) &&& 31)) 1005) - 2) (loV (v >>> ((14 : Int32) &&& 31)) 23) hR h hT hm H.size) (vx_cwSW 4 hts gL_act_L_setRoute rfl rfl rfl (by decide +kernel) ⟨Nat.le_of_ble_eq_true rfl, Nat.le_of_ble_eq_true rfl⟩) (g_preS hI) rfl rfl hl.1 rfl (lv_room (Nat.le_of_ble_eq_true rfl)) dL_act_363 ⟨Nat.le_of_ble_eq_true rfl, Nat.le_of_ble_eq_true rfl⟩) (fun r1 f1 H locs hw hI => ?_)
      exact g_iret hx hb hr hlocks hI hw (Nat.le_of_ble_eq_true rfl) (Nat.le_of_ble_eq_true rfl) dL_act_366
    · rw [show swI (nI 2) = 2 by decide]
      refine lv_tableIn (off := 203) (tgt := 367) hx hb dL_act_164 (by decide) (by decide) (by decide) (by decide) ?_
      refine lv_aload_n hx hb dL_act_367 rfl (lv_at hl 0 rfl) ?_
      refine lv_iload hx hb dL_act_368 (lv_at hl 4 rfl) ?_
      refine g_calli hI (vx_runSW (As := [.ref (N 0 0), .int plan]) (rest := []) ⟨hx, hb, hml, hown, hts⟩ (d_addKey l hl0 D cy de f N I plan hR h hT hm H.size) (vx_cwSW 2 hts gL_act_L_addKey rfl rfl rfl (by decide +kernel) ⟨Nat.le_of_ble_eq_true rfl, Nat.le_of_ble_eq_true rfl⟩) (g_preS hI) rfl rfl hl.1 rfl (lv_room (Nat.le_of_ble_eq_true rfl)) dL_act_370 ⟨Nat.le_of_ble_eq_true rfl, Nat.le_of_ble_eq_true rfl⟩) (fun r1 f1 H locs hw hI => ?_)
      exact g_iret hx hb hr hlocks hI hw (Nat.le_of_ble_eq_true rfl) (Nat.le_of_ble_eq_true rfl) dL_act_373
    · rw [show swI (nI 3) = 3 by decide]
      refine lv_tableIn (off := 210) (tgt := 374) hx hb dL_act_164 (by decide) (by decide) (by decide) (by decide) ?_
      refine lv_iload_n hx hb dL_act_374 rfl (lv_at hl 1 rfl) ?_
      refine lv_bipush (v := 10) hx hb dL_act_375 (by decide) ?_
      refine lv_ishr hx hb dL_act_377 ?_
      refine lv_iconst (v := 2) hx hb dL_act_378 (by decide) ?_
      refine g_calli hI (va_runS (As := [.int (v >>> ((10 : Int32) &&& 31)), .int 2]) (rest := []) ⟨hx, hb, hml, hown, hts⟩ (c_L_low l D cy de f (v >>> ((10 : Int32) &&& 31)) 2 (by decide) H.size) (va_cwS 2 hts gL_act_L_low rfl rfl rfl (by decide +kernel) ⟨Nat.le_of_ble_eq_true rfl, Nat.le_of_ble_eq_true rfl⟩) (g_preS hI) rfl rfl hl.1 rfl (lv_room (Nat.le_of_ble_eq_true rfl)) dL_act_379 ⟨Nat.le_of_ble_eq_true rfl, Nat.le_of_ble_eq_true rfl⟩) (fun r1 f1 H locs hw hI => ?_)
      obtain ⟨hw1, hw2⟩ := hw
      rw [hw1]
      rw [hw2] at hI
      refine lv_if_ne (tgt := 395) hx hb dL_act_382 (by decide) (fun c_7 => ?_) (fun c_7 => ?_)
      · refine lv_aload_n hx hb dL_act_395 rfl (lv_at hl 0 rfl) ?_
        refine lv_iload_n hx hb dL_act_396 rfl (lv_at hl 3 rfl) ?_
        refine lv_iload_n hx hb dL_act_397 rfl (lv_at hl 2 rfl) ?_
        refine lv_if_eq (tgt := 416) hx hb dL_act_398 (by decide) (fun z => absurd z (by decide)) (fun _ => ?_)
        refine lv_iload_n hx hb dL_act_401 rfl (lv_at hl 1 rfl) ?_
        refine lv_bipush (v := 7) hx hb dL_act_402 (by decide) ?_
        refine lv_ishr hx hb dL_act_404 ?_
        refine lv_sipush (v := 10005) hx hb dL_act_405 (by decide) ?_
        refine g_calli hI (va_runS (As := [.int (v >>> ((7 : Int32) &&& 31)), .int 10005]) (rest := [.int key, .ref (N 0 0)]) ⟨hx, hb, hml, hown, hts⟩ (c_L_low l D cy de f (v >>> ((7 : Int32) &&& 31)) 10005 (by decide) H.size) (va_cwS 2 hts gL_act_L_low rfl rfl rfl (by decide +kernel) ⟨Nat.le_of_ble_eq_true rfl, Nat.le_of_ble_eq_true rfl⟩) (g_preS hI) rfl rfl hl.1 rfl (lv_room (Nat.le_of_ble_eq_true rfl)) dL_act_408 ⟨Nat.le_of_ble_eq_true rfl, Nat.le_of_ble_eq_true rfl⟩) (fun r1 f1 H locs hw hI => ?_)
        obtain ⟨hw1, hw2⟩ := hw
        rw [hw1]
        rw [hw2] at hI
        refine lv_iconst (v := 2) hx hb dL_act_411 (by decide) ?_
        refine lv_isub hx hb dL_act_412 ?_
        refine lv_goto (tgt := 426) hx hb dL_act_413 (by decide) ?_
        refine g_calli hI (vx_runSW (As := [.ref (N 0 0), .int key, .int ((loV (v >>> ((7 : Int32) &&& 31)) 10005) - 2)]) (rest := []) ⟨hx, hb, hml, hown, hts⟩ (d_setTrust l hl0 D cy de f N I key ((loV (v >>> ((7 : Int32) &&& 31)) 10005) - 2) hR h hT hm H.size) (vx_cwSW 3 hts gL_act_L_setTrust rfl rfl rfl (by decide +kernel) ⟨Nat.le_of_ble_eq_true rfl, Nat.le_of_ble_eq_true rfl⟩) (g_preS hI) rfl rfl hl.1 rfl (lv_room (Nat.le_of_ble_eq_true rfl)) dL_act_426 ⟨Nat.le_of_ble_eq_true rfl, Nat.le_of_ble_eq_true rfl⟩) (fun r1 f1 H locs hw hI => ?_)
        exact g_iret hx hb hr hlocks hI (by show gZ cy de (N 0 0) T M (if loV (v >>> ((10 : Int32) &&& 31)) 2 = 0 then _ else _) _ _; rw [if_neg c_7]; exact hw) (Nat.le_of_ble_eq_true rfl) (Nat.le_of_ble_eq_true rfl) dL_act_429
      · refine lv_aload_n hx hb dL_act_385 rfl (lv_at hl 0 rfl) ?_
        refine lv_iload_n hx hb dL_act_386 rfl (lv_at hl 3 rfl) ?_
        refine lv_iload hx hb dL_act_387 (lv_at hl 4 rfl) ?_
        refine g_calli hI (vx_runSW (As := [.ref (N 0 0), .int key, .int plan]) (rest := []) ⟨hx, hb, hml, hown, hts⟩ (d_setKeyPlan l hl0 D cy de f N I key plan hR h hT hm H.size) (vx_cwSW 3 hts gL_act_L_setKeyPlan rfl rfl rfl (by decide +kernel) ⟨Nat.le_of_ble_eq_true rfl, Nat.le_of_ble_eq_true rfl⟩) (g_preS hI) rfl rfl hl.1 rfl (lv_room (Nat.le_of_ble_eq_true rfl)) dL_act_389 ⟨Nat.le_of_ble_eq_true rfl, Nat.le_of_ble_eq_true rfl⟩) (fun r1 f1 H locs hw hI => ?_)
        refine lv_goto (tgt := 429) hx hb dL_act_392 (by decide) ?_
        exact g_iret hx hb hr hlocks hI (by show gZ cy de (N 0 0) T M (if loV (v >>> ((10 : Int32) &&& 31)) 2 = 0 then _ else _) _ _; rw [if_pos c_7]; exact hw) (Nat.le_of_ble_eq_true rfl) (Nat.le_of_ble_eq_true rfl) dL_act_429
    · rw [show swI (nI 4) = 4 by decide]
      refine lv_tableIn (off := 266) (tgt := 430) hx hb dL_act_164 (by decide) (by decide) (by decide) (by decide) ?_
      refine lv_aload_n hx hb dL_act_430 rfl (lv_at hl 0 rfl) ?_
      refine lv_iload_n hx hb dL_act_431 rfl (lv_at hl 3 rfl) ?_
      refine lv_iload_n hx hb dL_act_432 rfl (lv_at hl 2 rfl) ?_
      refine lv_if_eq (tgt := 450) hx hb dL_act_433 (by decide) (fun z => absurd z (by decide)) (fun _ => ?_)
      refine lv_iload_n hx hb dL_act_436 rfl (lv_at hl 1 rfl) ?_
      refine lv_bipush (v := 7) hx hb dL_act_437 (by decide) ?_
      refine lv_ishr hx hb dL_act_439 ?_
      refine lv_ldc (v := 100005) hx hb hown hw0 dL_act_440 ?_
      refine g_calli hI (va_runS (As := [.int (v >>> ((7 : Int32) &&& 31)), .int 100005]) (rest := [.int key, .ref (N 0 0)]) ⟨hx, hb, hml, hown, hts⟩ (c_L_low l D cy de f (v >>> ((7 : Int32) &&& 31)) 100005 (by decide) H.size) (va_cwS 2 hts gL_act_L_low rfl rfl rfl (by decide +kernel) ⟨Nat.le_of_ble_eq_true rfl, Nat.le_of_ble_eq_true rfl⟩) (g_preS hI) rfl rfl hl.1 rfl (lv_room (Nat.le_of_ble_eq_true rfl)) dL_act_442 ⟨Nat.le_of_ble_eq_true rfl, Nat.le_of_ble_eq_true rfl⟩) (fun r1 f1 H locs hw hI => ?_)
      obtain ⟨hw1, hw2⟩ := hw
      rw [hw1]
      rw [hw2] at hI
      refine lv_iconst (v := 1) hx hb dL_act_445 (by decide) ?_
      refine lv_isub hx hb dL_act_446 ?_
      refine lv_goto (tgt := 462) hx hb dL_act_447 (by decide) ?_
      refine g_calli hI (vx_runSW (As := [.ref (N 0 0), .int key, .int ((loV (v >>> ((7 : Int32) &&& 31)) 100005) - 1)]) (rest := []) ⟨hx, hb, hml, hown, hts⟩ (d_pay l hl0 D cy de f N I key ((loV (v >>> ((7 : Int32) &&& 31)) 100005) - 1) hR h hT hm H.size) (vx_cwSW 3 hts gL_act_L_pay rfl rfl rfl (by decide +kernel) ⟨Nat.le_of_ble_eq_true rfl, Nat.le_of_ble_eq_true rfl⟩) (g_preS hI) rfl rfl hl.1 rfl (lv_room (Nat.le_of_ble_eq_true rfl)) dL_act_462 ⟨Nat.le_of_ble_eq_true rfl, Nat.le_of_ble_eq_true rfl⟩) (fun r1 f1 H locs hw hI => ?_)
      exact g_iret hx hb hr hlocks hI hw (Nat.le_of_ble_eq_true rfl) (Nat.le_of_ble_eq_true rfl) dL_act_465
    · rw [show swI (nI 5) = 5 by decide]
      refine lv_tableIn (off := 266) (tgt := 430) hx hb dL_act_164 (by decide) (by decide) (by decide) (by decide) ?_
      refine lv_aload_n hx hb dL_act_430 rfl (lv_at hl 0 rfl) ?_
      refine lv_iload_n hx hb dL_act_431 rfl (lv_at hl 3 rfl) ?_
      refine lv_iload_n hx hb dL_act_432 rfl (lv_at hl 2 rfl) ?_
      refine lv_if_eq (tgt := 450) hx hb dL_act_433 (by decide) (fun z => absurd z (by decide)) (fun _ => ?_)
      refine lv_iload_n hx hb dL_act_436 rfl (lv_at hl 1 rfl) ?_
      refine lv_bipush (v := 7) hx hb dL_act_437 (by decide) ?_
      refine lv_ishr hx hb dL_act_439 ?_
      refine lv_ldc (v := 100005) hx hb hown hw0 dL_act_440 ?_
      refine g_calli hI (va_runS (As := [.int (v >>> ((7 : Int32) &&& 31)), .int 100005]) (rest := [.int key, .ref (N 0 0)]) ⟨hx, hb, hml, hown, hts⟩ (c_L_low l D cy de f (v >>> ((7 : Int32) &&& 31)) 100005 (by decide) H.size) (va_cwS 2 hts gL_act_L_low rfl rfl rfl (by decide +kernel) ⟨Nat.le_of_ble_eq_true rfl, Nat.le_of_ble_eq_true rfl⟩) (g_preS hI) rfl rfl hl.1 rfl (lv_room (Nat.le_of_ble_eq_true rfl)) dL_act_442 ⟨Nat.le_of_ble_eq_true rfl, Nat.le_of_ble_eq_true rfl⟩) (fun r1 f1 H locs hw hI => ?_)
      obtain ⟨hw1, hw2⟩ := hw
      rw [hw1]
      rw [hw2] at hI
      refine lv_iconst (v := 1) hx hb dL_act_445 (by decide) ?_
      refine lv_isub hx hb dL_act_446 ?_
      refine lv_goto (tgt := 462) hx hb dL_act_447 (by decide) ?_
      refine g_calli hI (vx_runSW (As := [.ref (N 0 0), .int key, .int ((loV (v >>> ((7 : Int32) &&& 31)) 100005) - 1)]) (rest := []) ⟨hx, hb, hml, hown, hts⟩ (d_pay l hl0 D cy de f N I key ((loV (v >>> ((7 : Int32) &&& 31)) 100005) - 1) hR h hT hm H.size) (vx_cwSW 3 hts gL_act_L_pay rfl rfl rfl (by decide +kernel) ⟨Nat.le_of_ble_eq_true rfl, Nat.le_of_ble_eq_true rfl⟩) (g_preS hI) rfl rfl hl.1 rfl (lv_room (Nat.le_of_ble_eq_true rfl)) dL_act_462 ⟨Nat.le_of_ble_eq_true rfl, Nat.le_of_ble_eq_true rfl⟩) (fun r1 f1 H locs hw hI => ?_)
      exact g_iret hx hb hr hlocks hI hw (Nat.le_of_ble_eq_true rfl) (Nat.le_of_ble_eq_true rfl) dL_act_465
    · rw [show swI (nI 6) = 6 by decide]
      refine lv_tableIn (off := 302) (tgt := 466) hx hb dL_act_164 (by decide) (by decide) (by decide) (by decide) ?_
      refine lv_aload_n hx hb dL_act_466 rfl (lv_at hl 0 rfl) ?_
      refine lv_iload hx hb dL_act_467 (lv_at hl 6 rfl) ?_
      refine lv_iload_n hx hb dL_act_469 rfl (lv_at hl 2 rfl) ?_
      refine lv_if_eq (tgt := 486) hx hb dL_act_470 (by decide) (fun z => absurd z (by decide)) (fun _ => ?_)
      refine lv_iload_n hx hb dL_act_473 rfl (lv_at hl 1 rfl) ?_
      refine lv_bipush (v := 10) hx hb dL_act_474 (by decide) ?_
      refine lv_ishr hx hb dL_act_476 ?_
      refine lv_iconst (v := 5) hx hb dL_act_477 (by decide) ?_
      refine g_calli hI (va_runS (As := [.int (v >>> ((10 : Int32) &&& 31)), .int 5]) (rest := [.int num, .ref (N 0 0)]) ⟨hx, hb, hml, hown, hts⟩ (c_L_low l D cy de f (v >>> ((10 : Int32) &&& 31)) 5 (by decide) H.size) (va_cwS 2 hts gL_act_L_low rfl rfl rfl (by decide +kernel) ⟨Nat.le_of_ble_eq_true rfl, Nat.le_of_ble_eq_true rfl⟩) (g_preS hI) rfl rfl hl.1 rfl (lv_room (Nat.le_of_ble_eq_true rfl)) dL_act_478 ⟨Nat.le_of_ble_eq_true rfl, Nat.le_of_ble_eq_true rfl⟩) (fun r1 f1 H locs hw hI => ?_)
      obtain ⟨hw1, hw2⟩ := hw
      rw [hw1]
      rw [hw2] at hI
      refine lv_iconst (v := 1) hx hb dL_act_481 (by decide) ?_
      refine lv_isub hx hb dL_act_482 ?_
      refine lv_goto (tgt := 494) hx hb dL_act_483 (by decide) ?_
      refine g_calli hI (vx_runSW (As := [.ref (N 0 0), .int num, .int ((loV (v >>> ((10 : Int32) &&& 31)) 5) - 1)]) (rest := []) ⟨hx, hb, hml, hown, hts⟩ (d_end l hl0 D cy de f N I num ((loV (v >>> ((10 : Int32) &&& 31)) 5) - 1) hR h hT hm H.size) (vx_cwSW 3 hts gL_act_L_end rfl rfl rfl (by decide +kernel) ⟨Nat.le_of_ble_eq_true rfl, Nat.le_of_ble_eq_true rfl⟩) (g_preS hI) rfl rfl hl.1 rfl (lv_room (Nat.le_of_ble_eq_true rfl)) dL_act_494 ⟨Nat.le_of_ble_eq_true rfl, Nat.le_of_ble_eq_true rfl⟩) (fun r1 f1 H locs hw hI => ?_)
      exact g_iret hx hb hr hlocks hI hw (Nat.le_of_ble_eq_true rfl) (Nat.le_of_ble_eq_true rfl) dL_act_497
    · rw [show swI (nI 7) = 7 by decide]
      refine lv_tableIn (off := 302) (tgt := 466) hx hb dL_act_164 (by decide) (by decide) (by decide) (by decide) ?_
      refine lv_aload_n hx hb dL_act_466 rfl (lv_at hl 0 rfl) ?_
      refine lv_iload hx hb dL_act_467 (lv_at hl 6 rfl) ?_
      refine lv_iload_n hx hb dL_act_469 rfl (lv_at hl 2 rfl) ?_
      refine lv_if_eq (tgt := 486) hx hb dL_act_470 (by decide) (fun z => absurd z (by decide)) (fun _ => ?_)
      refine lv_iload_n hx hb dL_act_473 rfl (lv_at hl 1 rfl) ?_
      refine lv_bipush (v := 10) hx hb dL_act_474 (by decide) ?_
      refine lv_ishr hx hb dL_act_476 ?_
      refine lv_iconst (v := 5) hx hb dL_act_477 (by decide) ?_
      refine g_calli hI (va_runS (As := [.int (v >>> ((10 : Int32) &&& 31)), .int 5]) (rest := [.int num, .ref (N 0 0)]) ⟨hx, hb, hml, hown, hts⟩ (c_L_low l D cy de f (v >>> ((10 : Int32) &&& 31)) 5 (by decide) H.size) (va_cwS 2 hts gL_act_L_low rfl rfl rfl (by decide +kernel) ⟨Nat.le_of_ble_eq_true rfl, Nat.le_of_ble_eq_true rfl⟩) (g_preS hI) rfl rfl hl.1 rfl (lv_room (Nat.le_of_ble_eq_true rfl)) dL_act_478 ⟨Nat.le_of_ble_eq_true rfl, Nat.le_of_ble_eq_true rfl⟩) (fun r1 f1 H locs hw hI => ?_)
      obtain ⟨hw1, hw2⟩ := hw
      rw [hw1]
      rw [hw2] at hI
      refine lv_iconst (v := 1) hx hb dL_act_481 (by decide) ?_
      refine lv_isub hx hb dL_act_482 ?_
      refine lv_goto (tgt := 494) hx hb dL_act_483 (by decide) ?_
      refine g_calli hI (vx_runSW (As := [.ref (N 0 0), .int num, .int ((loV (v >>> ((10 : Int32) &&& 31)) 5) - 1)]) (rest := []) ⟨hx, hb, hml, hown, hts⟩ (d_end l hl0 D cy de f N I num ((loV (v >>> ((10 : Int32) &&& 31)) 5) - 1) hR h hT hm H.size) (vx_cwSW 3 hts gL_act_L_end rfl rfl rfl (by decide +kernel) ⟨Nat.le_of_ble_eq_true rfl, Nat.le_of_ble_eq_true rfl⟩) (g_preS hI) rfl rfl hl.1 rfl (lv_room (Nat.le_of_ble_eq_true rfl)) dL_act_494 ⟨Nat.le_of_ble_eq_true rfl, Nat.le_of_ble_eq_true rfl⟩) (fun r1 f1 H locs hw hI => ?_)
      exact g_iret hx hb hr hlocks hI hw (Nat.le_of_ble_eq_true rfl) (Nat.le_of_ble_eq_true rfl) dL_act_497
    · rw [show swI (nI 8) = 8 by decide]
      refine lv_tableIn (off := 302) (tgt := 466) hx hb dL_act_164 (by decide) (by decide) (by decide) (by decide) ?_
      refine lv_aload_n hx hb dL_act_466 rfl (lv_at hl 0 rfl) ?_
      refine lv_iload hx hb dL_act_467 (lv_at hl 6 rfl) ?_
      refine lv_iload_n hx hb dL_act_469 rfl (lv_at hl 2 rfl) ?_
      refine lv_if_eq (tgt := 486) hx hb dL_act_470 (by decide) (fun z => absurd z (by decide)) (fun _ => ?_)
      refine lv_iload_n hx hb dL_act_473 rfl (lv_at hl 1 rfl) ?_
      refine lv_bipush (v := 10) hx hb dL_act_474 (by decide) ?_
      refine lv_ishr hx hb dL_act_476 ?_
      refine lv_iconst (v := 5) hx hb dL_act_477 (by decide) ?_
      refine g_calli hI (va_runS (As := [.int (v >>> ((10 : Int32) &&& 31)), .int 5]) (rest := [.int num, .ref (N 0 0)]) ⟨hx, hb, hml, hown, hts⟩ (c_L_low l D cy de f (v >>> ((10 : Int32) &&& 31)) 5 (by decide) H.size) (va_cwS 2 hts gL_act_L_low rfl rfl rfl (by decide +kernel) ⟨Nat.le_of_ble_eq_true rfl, Nat.le_of_ble_eq_true rfl⟩) (g_preS hI) rfl rfl hl.1 rfl (lv_room (Nat.le_of_ble_eq_true rfl)) dL_act_478 ⟨Nat.le_of_ble_eq_true rfl, Nat.le_of_ble_eq_true rfl⟩) (fun r1 f1 H locs hw hI => ?_)
      obtain ⟨hw1, hw2⟩ := hw
      rw [hw1]
      rw [hw2] at hI
      refine lv_iconst (v := 1) hx hb dL_act_481 (by decide) ?_
      refine lv_isub hx hb dL_act_482 ?_
      refine lv_goto (tgt := 494) hx hb dL_act_483 (by decide) ?_
      refine g_calli hI (vx_runSW (As := [.ref (N 0 0), .int num, .int ((loV (v >>> ((10 : Int32) &&& 31)) 5) - 1)]) (rest := []) ⟨hx, hb, hml, hown, hts⟩ (d_end l hl0 D cy de f N I num ((loV (v >>> ((10 : Int32) &&& 31)) 5) - 1) hR h hT hm H.size) (vx_cwSW 3 hts gL_act_L_end rfl rfl rfl (by decide +kernel) ⟨Nat.le_of_ble_eq_true rfl, Nat.le_of_ble_eq_true rfl⟩) (g_preS hI) rfl rfl hl.1 rfl (lv_room (Nat.le_of_ble_eq_true rfl)) dL_act_494 ⟨Nat.le_of_ble_eq_true rfl, Nat.le_of_ble_eq_true rfl⟩) (fun r1 f1 H locs hw hI => ?_)
      exact g_iret hx hb hr hlocks hI hw (Nat.le_of_ble_eq_true rfl) (Nat.le_of_ble_eq_true rfl) dL_act_497
    · rw [show swI (nI 9) = 9 by decide]
      refine lv_tableIn (off := 334) (tgt := 498) hx hb dL_act_164 (by decide) (by decide) (by decide) (by decide) ?_
      refine lv_aload_n hx hb dL_act_498 rfl (lv_at hl 0 rfl) ?_
      refine lv_iload hx hb dL_act_499 (lv_at hl 6 rfl) ?_
      refine g_calli hI (vx_runSW (As := [.ref (N 0 0), .int num]) (rest := []) ⟨hx, hb, hml, hown, hts⟩ (d_dispute l hl0 D cy de f N I num hR h hT hm H.size) (vx_cwSW 2 hts gL_act_L_dispute rfl rfl rfl (by decide +kernel) ⟨Nat.le_of_ble_eq_true rfl, Nat.le_of_ble_eq_true rfl⟩) (g_preS hI) rfl rfl hl.1 rfl (lv_room (Nat.le_of_ble_eq_true rfl)) dL_act_501 ⟨Nat.le_of_ble_eq_true rfl, Nat.le_of_ble_eq_true rfl⟩) (fun r1 f1 H locs hw hI => ?_)
      exact g_iret hx hb hr hlocks hI hw (Nat.le_of_ble_eq_true rfl) (Nat.le_of_ble_eq_true rfl) dL_act_504
    · rw [show swI (nI 10) = 10 by decide]
      refine lv_tableIn (off := 341) (tgt := 505) hx hb dL_act_164 (by decide) (by decide) (by decide) (by decide) ?_
      refine lv_aload_n hx hb dL_act_505 rfl (lv_at hl 0 rfl) ?_
      refine lv_iload_n hx hb dL_act_506 rfl (lv_at hl 2 rfl) ?_
      refine lv_if_eq (tgt := 521) hx hb dL_act_507 (by decide) (fun z => absurd z (by decide)) (fun _ => ?_)
      refine lv_iload_n hx hb dL_act_510 rfl (lv_at hl 1 rfl) ?_
      refine lv_iconst (v := 4) hx hb dL_act_511 (by decide) ?_
      refine lv_ishr hx hb dL_act_512 ?_
      refine lv_bipush (v := 103) hx hb dL_act_513 (by decide) ?_
      refine g_calli hI (va_runS (As := [.int (v >>> ((4 : Int32) &&& 31)), .int 103]) (rest := [.ref (N 0 0)]) ⟨hx, hb, hml, hown, hts⟩ (c_L_low l D cy de f (v >>> ((4 : Int32) &&& 31)) 103 (by decide) H.size) (va_cwS 2 hts gL_act_L_low rfl rfl rfl (by decide +kernel) ⟨Nat.le_of_ble_eq_true rfl, Nat.le_of_ble_eq_true rfl⟩) (g_preS hI) rfl rfl hl.1 rfl (lv_room (Nat.le_of_ble_eq_true rfl)) dL_act_515 ⟨Nat.le_of_ble_eq_true rfl, Nat.le_of_ble_eq_true rfl⟩) (fun r1 f1 H locs hw hI => ?_)
      obtain ⟨hw1, hw2⟩ := hw
      rw [hw1]
      rw [hw2] at hI
      refine lv_goto (tgt := 531) hx hb dL_act_518 (by decide) ?_
      refine g_calli hI (vx_runSW (As := [.ref (N 0 0), .int (loV (v >>> ((4 : Int32) &&& 31)) 103)]) (rest := []) ⟨hx, hb, hml, hown, hts⟩ (d_pass l hl0 D cy de f N I (loV (v >>> ((4 : Int32) &&& 31)) 103) hR h hT hm H.size) (vx_cwSW 2 hts gL_act_L_pass rfl rfl rfl (by decide +kernel) ⟨Nat.le_of_ble_eq_true rfl, Nat.le_of_ble_eq_true rfl⟩) (g_preS hI) rfl rfl hl.1 rfl (lv_room (Nat.le_of_ble_eq_true rfl)) dL_act_531 ⟨Nat.le_of_ble_eq_true rfl, Nat.le_of_ble_eq_true rfl⟩) (fun r1 f1 H locs hw hI => ?_)
      exact g_iret hx hb hr hlocks hI hw (Nat.le_of_ble_eq_true rfl) (Nat.le_of_ble_eq_true rfl) dL_act_534
    · rw [show swI (nI 11) = 11 by decide]
      refine lv_tableIn (off := 341) (tgt := 505) hx hb dL_act_164 (by decide) (by decide) (by decide) (by decide) ?_
      refine lv_aload_n hx hb dL_act_505 rfl (lv_at hl 0 rfl) ?_
      refine lv_iload_n hx hb dL_act_506 rfl (lv_at hl 2 rfl) ?_
      refine lv_if_eq (tgt := 521) hx hb dL_act_507 (by decide) (fun z => absurd z (by decide)) (fun _ => ?_)
      refine lv_iload_n hx hb dL_act_510 rfl (lv_at hl 1 rfl) ?_
      refine lv_iconst (v := 4) hx hb dL_act_511 (by decide) ?_
      refine lv_ishr hx hb dL_act_512 ?_
      refine lv_bipush (v := 103) hx hb dL_act_513 (by decide) ?_
      refine g_calli hI (va_runS (As := [.int (v >>> ((4 : Int32) &&& 31)), .int 103]) (rest := [.ref (N 0 0)]) ⟨hx, hb, hml, hown, hts⟩ (c_L_low l D cy de f (v >>> ((4 : Int32) &&& 31)) 103 (by decide) H.size) (va_cwS 2 hts gL_act_L_low rfl rfl rfl (by decide +kernel) ⟨Nat.le_of_ble_eq_true rfl, Nat.le_of_ble_eq_true rfl⟩) (g_preS hI) rfl rfl hl.1 rfl (lv_room (Nat.le_of_ble_eq_true rfl)) dL_act_515 ⟨Nat.le_of_ble_eq_true rfl, Nat.le_of_ble_eq_true rfl⟩) (fun r1 f1 H locs hw hI => ?_)
      obtain ⟨hw1, hw2⟩ := hw
      rw [hw1]
      rw [hw2] at hI
      refine lv_goto (tgt := 531) hx hb dL_act_518 (by decide) ?_
      refine g_calli hI (vx_runSW (As := [.ref (N 0 0), .int (loV (v >>> ((4 : Int32) &&& 31)) 103)]) (rest := []) ⟨hx, hb, hml, hown, hts⟩ (d_pass l hl0 D cy de f N I (loV (v >>> ((4 : Int32) &&& 31)) 103) hR h hT hm H.size) (vx_cwSW 2 hts gL_act_L_pass rfl rfl rfl (by decide +kernel) ⟨Nat.le_of_ble_eq_true rfl, Nat.le_of_ble_eq_true rfl⟩) (g_preS hI) rfl rfl hl.1 rfl (lv_room (Nat.le_of_ble_eq_true rfl)) dL_act_531 ⟨Nat.le_of_ble_eq_true rfl, Nat.le_of_ble_eq_true rfl⟩) (fun r1 f1 H locs hw hI => ?_)
      exact g_iret hx hb hr hlocks hI hw (Nat.le_of_ble_eq_true rfl) (Nat.le_of_ble_eq_true rfl) dL_act_534

set_option maxHeartbeats 4000000 in
set_option maxRecDepth 100000 in
theorem act_sw0 {p : Program} {l : Launch} {e : Env} {s : State} {m : MethodId} {args : Array Value} {below : List Frame} {meth : Method} {c : Code} {H : Heap} {locs : List Loc} {D : va_G} {cy : Nat → ClassId} {de : Nat} {A : Nat → Prop} {f : gFm} {N : gNm} {I M : gMd} {tk T : Nat} {ls : Array Slot} {v key plan route num : Int32} (hl0 : l.stackTraces = false) (S : CallFix p m c cL_act 7 s args wsL_act RL) (hr : meth.sig.returnType = some .int) (hlocks : meth.locks = false) (hR : gR cy de N I f) (h : Sim N I M tk T) (hT : T < 520) (hm : mon N I) (hI : gI D cy de A s f H locs) (hl : lv_has ls 7 [(0, .ref (N 0 0)), (1, .int v), (2, .int 0), (3, .int key), (4, .int plan), (5, .int route), (6, .int num)]) : W p l e { frames := 9, cells := 5, slots := 225, locals := 261 } s m args below meth c H locs 0 0 (MQ below (va_Qi (gZ cy de (N 0 0) T M (swX M false v key plan route num)) (gB D A) A) args s 5 225 A) (F0 m 158 ls []) := by
  obtain ⟨hx, hb, hml, hown, hts⟩ := id S

  refine lv_iload_n hx hb dL_act_158 rfl (lv_at hl 1 rfl) ?_
  refine lv_bipush (v := 20) hx hb dL_act_159 (by decide) ?_
  refine g_calli hI (va_runS (As := [.int v, .int 20]) (rest := []) ⟨hx, hb, hml, hown, hts⟩ (c_L_low l D cy de f v 20 (by decide) H.size) (va_cwS 2 hts gL_act_L_low rfl rfl rfl (by decide +kernel) ⟨Nat.le_of_ble_eq_true rfl, Nat.le_of_ble_eq_true rfl⟩) (g_preS hI) rfl rfl hl.1 rfl (lv_room (Nat.le_of_ble_eq_true rfl)) dL_act_161 ⟨Nat.le_of_ble_eq_true rfl, Nat.le_of_ble_eq_true rfl⟩) (fun r1 f1 H locs hw hI => ?_)
  obtain ⟨hw1, hw2⟩ := hw
  rw [hw1]
  rw [hw2] at hI
  obtain ⟨x, ex⟩ : ∃ x, x = loV v 20 := ⟨_, rfl⟩
  rw [show swX M false v key plan route num = swK (swI x) M false v key plan route num from by unfold swX; rw [ex], ← ex]
  rcases sw_in x with ho | ⟨k, hk, rfl⟩
  · rw [show swI x = 12 from if_pos ho]
    refine lv_tableOut (tgt := 535) hx hb dL_act_164 ho (by decide) ?_
    refine lv_aload_n hx hb dL_act_535 rfl (lv_at hl 0 rfl) ?_
    refine lv_iload_n hx hb dL_act_536 rfl (lv_at hl 3 rfl) ?_
    refine lv_iload hx hb dL_act_537 (lv_at hl 5 rfl) ?_
    refine lv_iload_n hx hb dL_act_539 rfl (lv_at hl 2 rfl) ?_
    refine lv_if_eq (tgt := 555) hx hb dL_act_540 (by decide) (fun _ => ?_) (fun z => absurd z (by decide))
    refine lv_iconst (v := 1) hx hb dL_act_555 (by decide) ?_
    refine lv_iload_n hx hb dL_act_556 rfl (lv_at hl 1 rfl) ?_
    refine lv_bipush (v := 10) hx hb dL_act_557 (by decide) ?_
    refine lv_ishr hx hb dL_act_559 ?_
    refine lv_bipush (v := 9) hx hb dL_act_560 (by decide) ?_
    refine g_calli hI (va_runS (As := [.int (v >>> ((10 : Int32) &&& 31)), .int 9]) (rest := [.int 1, .int route, .int key, .ref (N 0 0)]) ⟨hx, hb, hml, hown, hts⟩ (c_L_low l D cy de f (v >>> ((10 : Int32) &&& 31)) 9 (by decide) H.size) (va_cwS 2 hts gL_act_L_low rfl rfl rfl (by decide +kernel) ⟨Nat.le_of_ble_eq_true rfl, Nat.le_of_ble_eq_true rfl⟩) (g_preS hI) rfl rfl hl.1 rfl (lv_room (Nat.le_of_ble_eq_true rfl)) dL_act_562 ⟨Nat.le_of_ble_eq_true rfl, Nat.le_of_ble_eq_true rfl⟩) (fun r1 f1 H locs hw hI => ?_)
    obtain ⟨hw1, hw2⟩ := hw
    rw [hw1]
    rw [hw2] at hI
    refine lv_iadd hx hb dL_act_565 ?_
    refine g_calli hI (vx_runSW (As := [.ref (N 0 0), .int key, .int route, .int (1 + (loV (v >>> ((10 : Int32) &&& 31)) 9))]) (rest := []) ⟨hx, hb, hml, hown, hts⟩ (d_call l hl0 D cy de f N I key route (1 + (loV (v >>> ((10 : Int32) &&& 31)) 9)) hR h hT hm H.size) (vx_cwSW 4 hts gL_act_L_call rfl rfl rfl (by decide +kernel) ⟨Nat.le_of_ble_eq_true rfl, Nat.le_of_ble_eq_true rfl⟩) (g_preS hI) rfl rfl hl.1 rfl (lv_room (Nat.le_of_ble_eq_true rfl)) dL_act_566 ⟨Nat.le_of_ble_eq_true rfl, Nat.le_of_ble_eq_true rfl⟩) (fun r1 f1 H locs hw hI => ?_)
    exact g_iret hx hb hr hlocks hI hw (Nat.le_of_ble_eq_true rfl) (Nat.le_of_ble_eq_true rfl) dL_act_569
  · rcases (show k = 0 ∨ k = 1 ∨ k = 2 ∨ k = 3 ∨ k = 4 ∨ k = 5 ∨ k = 6 ∨ k = 7 ∨ k = 8 ∨ k = 9 ∨ k = 10 ∨ k = 11 by omega) with rfl | rfl | rfl | rfl | rfl | rfl | rfl | rfl | rfl | rfl | rfl | rfl
    · rw [show swI (nI 0) = 0 by decide]
      refine lv_tableIn (off := 64) (tgt := 228) hx hb dL_act_164 (by decide) (by decide) (by decide) (by decide) ?_
      refine lv_aload_n hx hb dL_act_228 rfl (lv_at hl 0 rfl) ?_
      refine lv_iload hx hb dL_act_229 (lv_at hl 4 rfl) ?_
      refine lv_iload_n hx hb dL_act_231 rfl (lv_at hl 2 rfl) ?_
      refine lv_if_eq (tgt := 247) hx hb dL_act_232 (by decide) (fun _ => ?_) (fun z => absurd z (by decide))
      refine lv_iconst (v := 1) hx hb dL_act_247 (by decide) ?_
      refine lv_iload_n hx hb dL_act_248 rfl (lv_at hl 1 rfl) ?_
      refine lv_bipush (v := 9) hx hb dL_act_249 (by decide) ?_
      refine lv_ishr hx hb dL_act_251 ?_
      refine lv_bipush (v := 20) hx hb dL_act_252 (by decide) ?_
      refine g_calli hI (va_runS (As := [.int (v >>> ((9 : Int32) &&& 31)), .int 20]) (rest := [.int 1, .int plan, .ref (N 0 0)]) ⟨hx, hb, hml, hown, hts⟩ (c_L_low l D cy de f (v >>> ((9 : Int32) &&& 31)) 20 (by decide) H.size) (va_cwS 2 hts gL_act_L_low rfl rfl rfl (by decide +kernel) ⟨Nat.le_of_ble_eq_true rfl, Nat.le_of_ble_eq_true rfl⟩) (g_preS hI) rfl rfl hl.1 rfl (lv_room (Nat.le_of_ble_eq_true rfl)) dL_act_254 ⟨Nat.le_of_ble_eq_true rfl, Nat.le_of_ble_eq_true rfl⟩) (fun r1 f1 H locs hw hI => ?_)
      obtain ⟨hw1, hw2⟩ := hw
      rw [hw1]
      rw [hw2] at hI
      refine lv_iadd hx hb dL_act_257 ?_
      refine lv_iload_n hx hb dL_act_258 rfl (lv_at hl 2 rfl) ?_
      refine lv_if_eq (tgt := 276) hx hb dL_act_259 (by decide) (fun _ => ?_) (fun z => absurd z (by decide))
      refine lv_iconst (v := 2) hx hb dL_act_276 (by decide) ?_
      refine lv_iload_n hx hb dL_act_277 rfl (lv_at hl 1 rfl) ?_
      refine lv_bipush (v := 13) hx hb dL_act_278 (by decide) ?_
      refine lv_ishr hx hb dL_act_280 ?_
      refine lv_iconst (v := 3) hx hb dL_act_281 (by decide) ?_
      refine g_calli hI (va_runS (As := [.int (v >>> ((13 : Int32) &&& 31)), .int 3]) (rest := [.int 2, .int (1 + (loV (v >>> ((9 : Int32) &&& 31)) 20)), .int plan, .ref (N 0 0)]) ⟨hx, hb, hml, hown, hts⟩ (c_L_low l D cy de f (v >>> ((13 : Int32) &&& 31)) 3 (by decide) H.size) (va_cwS 2 hts gL_act_L_low rfl rfl rfl (by decide +kernel) ⟨Nat.le_of_ble_eq_true rfl, Nat.le_of_ble_eq_true rfl⟩) (g_preS hI) rfl rfl hl.1 rfl (lv_room (Nat.le_of_ble_eq_true rfl)) dL_act_282 ⟨Nat.le_of_ble_eq_true rfl, Nat.le_of_ble_eq_true rfl⟩) (fun r1 f1 H locs hw hI => ?_)
      obtain ⟨hw1, hw2⟩ := hw
      rw [hw1]
      rw [hw2] at hI
      refine lv_iadd hx hb dL_act_285 ?_
      refine lv_iload_n hx hb dL_act_286 rfl (lv_at hl 1 rfl) ?_
      refine lv_bipush (v := 16) hx hb dL_act_287 (by decide) ?_
      refine lv_ishr hx hb dL_act_289 ?_
      refine lv_iload_n hx hb dL_act_290 rfl (lv_at hl 2 rfl) ?_
      refine lv_if_eq (tgt := 298) hx hb dL_act_291 (by decide) (fun _ => ?_) (fun z => absurd z (by decide))
      refine lv_iconst (v := 3) hx hb dL_act_298 (by decide) ?_
      refine g_calli hI (va_runS (As := [.int (v >>> ((16 : Int32) &&& 31)), .int 3]) (rest := [.int (2 + (loV (v >>> ((13 : Int32) &&& 31)) 3)), .int (1 + (loV (v >>> ((9 : Int32) &&& 31)) 20)), .int plan, .ref (N 0 0)]) ⟨hx, hb, hml, hown, hts⟩ (c_L_low l D cy de f (v >>> ((16 : Int32) &&& 31)) 3 (by decide) H.size) (va_cwS 2 hts gL_act_L_low rfl rfl rfl (by decide +kernel) ⟨Nat.le_of_ble_eq_true rfl, Nat.le_of_ble_eq_true rfl⟩) (g_preS hI) rfl rfl hl.1 rfl (lv_room (Nat.le_of_ble_eq_true rfl)) dL_act_299 ⟨Nat.le_of_ble_eq_true rfl, Nat.le_of_ble_eq_true rfl⟩) (fun r1 f1 H locs hw hI => ?_)
      obtain ⟨hw1, hw2⟩ := hw
      rw [hw1]
      rw [hw2] at hI
      refine g_calli hI (vx_runSW (As := [.ref (N 0 0), .int plan, .int (1 + (loV (v >>> ((9 : Int32) &&& 31)) 20)), .int (2 + (loV (v >>> ((13 : Int32) &&& 31)) 3)), .int (loV (v >>> ((16 : Int32) &&& 31)) 3)]) (rest := []) ⟨hx, hb, hml, hown, hts⟩ (d_setPlan l hl0 D cy de f N I plan (1 + (loV (v >>> ((9 : Int32) &&& 31)) 20)) (2 + (loV (v >>> ((13 : Int32) &&& 31)) 3)) (loV (v >>> ((16 : Int32) &&& 31)) 3) hR h hT hm H.size) (vx_cwSW 5 hts gL_act_L_setPlan rfl rfl rfl (by decide +kernel) ⟨Nat.le_of_ble_eq_true rfl, Nat.le_of_ble_eq_true rfl⟩) (g_preS hI) rfl rfl hl.1 rfl (lv_room (Nat.le_of_ble_eq_true rfl)) dL_act_302 ⟨Nat.le_of_ble_eq_true rfl, Nat.le_of_ble_eq_true rfl⟩) (fun r1 f1 H locs hw hI => ?_)
      exact g_iret hx hb hr hlocks hI hw (Nat.le_of_ble_eq_true rfl) (Nat.le_of_ble_eq_true rfl) dL_act_305
    · rw [show swI (nI 1) = 1 by decide]
      refine lv_tableIn (off := 142) (tgt := 306) hx hb dL_act_164 (by decide) (by decide) (by decide) (by decide) ?_
      refine lv_aload_n hx hb dL_act_306 rfl (lv_at hl 0 rfl) ?_
      refine lv_iload hx hb dL_act_307 (lv_at hl 5 rfl) ?_
      refine lv_iload_n hx hb dL_act_309 rfl (lv_at hl 2 rfl) ?_
      refine lv_if_eq (tgt := 328) hx hb dL_act_310 (by decide) (fun _ => ?_) (fun z => absurd z (by decide))
      refine lv_iload_n hx hb dL_act_328 rfl (lv_at hl 1 rfl) ?_
      refine lv_bipush (v := 9) hx hb dL_act_329 (by decide) ?_
      refine lv_ishr hx hb dL_act_331 ?_
      refine lv_bipush (v := 60) hx hb dL_act_332 (by decide) ?_
      refine g_calli hI (va_runS (As := [.int (v >>> ((9 : Int32) &&& 31)), .int 60]) (rest := [.int route, .ref (N 0 0)]) ⟨hx, hb, hml, hown, hts⟩ (c_L_low l D cy de f (v >>> ((9 : Int32) &&& 31)) 60 (by decide) H.size) (va_cwS 2 hts gL_act_L_low rfl rfl rfl (by decide +kernel) ⟨Nat.le_of_ble_eq_true rfl, Nat.le_of_ble_eq_true rfl⟩) (g_preS hI) rfl rfl hl.1 rfl (lv_room (Nat.le_of_ble_eq_true rfl)) dL_act_334 ⟨Nat.le_of_ble_eq_true rfl, Nat.le_of_ble_eq_true rfl⟩) (fun r1 f1 H locs hw hI => ?_)
      obtain ⟨hw1, hw2⟩ := hw
      rw [hw1]
      rw [hw2] at hI
      refine lv_iload_n hx hb dL_act_337 rfl (lv_at hl 2 rfl) ?_
      refine lv_if_eq (tgt := 353) hx hb dL_act_338 (by decide) (fun _ => ?_) (fun z => absurd z (by decide))
      refine lv_iconst (v := 1) hx hb dL_act_353 (by decide) ?_
      refine lv_iload_n hx hb dL_act_354 rfl (lv_at hl 1 rfl) ?_
      refine lv_bipush (v := 14) hx hb dL_act_355 (by decide) ?_
      refine lv_ishr hx hb dL_act_357 ?_
      refine lv_iconst (v := 4) hx hb dL_act_358 (by decide) ?_
      refine g_calli hI (va_runS (As := [.int (v >>> ((14 : Int32) &&& 31)), .int 4]) (rest := [.int 1, .int (loV (v >>> ((9 : Int32) &&& 31)) 60), .int route, .ref (N 0 0)]) ⟨hx, hb, hml, hown, hts⟩ (c_L_low l D cy de f (v >>> ((14 : Int32) &&& 31)) 4 (by decide) H.size) (va_cwS 2 hts gL_act_L_low rfl rfl rfl (by decide +kernel) ⟨Nat.le_of_ble_eq_true rfl, Nat.le_of_ble_eq_true rfl⟩) (g_preS hI) rfl rfl hl.1 rfl (lv_room (Nat.le_of_ble_eq_true rfl)) dL_act_359 ⟨Nat.le_of_ble_eq_true rfl, Nat.le_of_ble_eq_true rfl⟩) (fun r1 f1 H locs hw hI => ?_)
      obtain ⟨hw1, hw2⟩ := hw
      rw [hw1]
      rw [hw2] at hI
      refine lv_iadd hx hb dL_act_362 ?_
      refine g_calli hI (vx_runSW (As := [.ref (N 0 0), .int route, .int (loV (v >>> ((9 : Int32) &&& 31)) 60), .int (1 + (loV (v >>> ((14 : Int32) &&& 31)) 4))]) (rest := []) ⟨hx, hb, hml, hown, hts⟩ (d_setRoute l hl0 D cy de f N I route (loV (v >>> ((9 : Int32) &&& 31)) 60) (1 + (loV (v >>> ((14 : Int32) &&& 31)) 4)) hR h hT hm H.size) (vx_cwSW 4 hts gL_act_L_setRoute rfl rfl rfl (by decide +kernel) ⟨Nat.le_of_ble_eq_true rfl, Nat.le_of_ble_eq_true rfl⟩) (g_preS hI) rfl rfl hl.1 rfl (lv_room (Nat.le_of_ble_eq_true rfl)) dL_act_363 ⟨Nat.le_of_ble_eq_true rfl, Nat.le_of_ble_eq_true rfl⟩) (fun r1 f1 H locs hw hI => ?_)
      exact g_iret hx hb hr hlocks hI hw (Nat.le_of_ble_eq_true rfl) (Nat.le_of_ble_eq_true rfl) dL_act_366
    · rw [show swI (nI 2) = 2 by decide]
      refine lv_tableIn (off := 203) (tgt := 367) hx hb dL_act_164 (by decide) (by decide) (by decide) (by decide) ?_
      refine lv_aload_n hx hb dL_act_367 rfl (lv_at hl 0 rfl) ?_
      refine lv_iload hx hb dL_act_368 (lv_at hl 4 rfl) ?_
      refine g_calli hI (vx_runSW (As := [.ref (N 0 0), .int plan]) (rest := []) ⟨hx, hb, hml, hown, hts⟩ (d_addKey l hl0 D cy de f N I plan hR h hT hm H.size) (vx_cwSW 2 hts gL_act_L_addKey rfl rfl rfl (by decide +kernel) ⟨Nat.le_of_ble_eq_true rfl, Nat.le_of_ble_eq_true rfl⟩) (g_preS hI) rfl rfl hl.1 rfl (lv_room (Nat.le_of_ble_eq_true rfl)) dL_act_370 ⟨Nat.le_of_ble_eq_true rfl, Nat.le_of_ble_eq_true rfl⟩) (fun r1 f1 H locs hw hI => ?_)
      exact g_iret hx hb hr hlocks hI hw (Nat.le_of_ble_eq_true rfl) (Nat.le_of_ble_eq_true rfl) dL_act_373
    · rw [show swI (nI 3) = 3 by decide]
      refine lv_tableIn (off := 210) (tgt := 374) hx hb dL_act_164 (by decide) (by decide) (by decide) (by decide) ?_
      refine lv_iload_n hx hb dL_act_374 rfl (lv_at hl 1 rfl) ?_
      refine lv_bipush (v := 10) hx hb dL_act_375 (by decide) ?_
      refine lv_ishr hx hb dL_act_377 ?_
      refine lv_iconst (v := 2) hx hb dL_act_378 (by decide) ?_
      refine g_calli hI (va_runS (As := [.int (v >>> ((10 : Int32) &&& 31)), .int 2]) (rest := []) ⟨hx, hb, hml, hown, hts⟩ (c_L_low l D cy de f (v >>> ((10 : Int32) &&& 31)) 2 (by decide) H.size) (va_cwS 2 hts gL_act_L_low rfl rfl rfl (by decide +kernel) ⟨Nat.le_of_ble_eq_true rfl, Nat.le_of_ble_eq_true rfl⟩) (g_preS hI) rfl rfl hl.1 rfl (lv_room (Nat.le_of_ble_eq_true rfl)) dL_act_379 ⟨Nat.le_of_ble_eq_true rfl, Nat.le_of_ble_eq_true rfl⟩) (fun r1 f1 H locs hw hI => ?_)
      obtain ⟨hw1, hw2⟩ := hw
      rw [hw1]
      rw [hw2] at hI
      refine lv_if_ne (tgt := 395) hx hb dL_act_382 (by decide) (fun c_7 => ?_) (fun c_7 => ?_)
      · refine lv_aload_n hx hb dL_act_395 rfl (lv_at hl 0 rfl) ?_
        refine lv_iload_n hx hb dL_act_396 rfl (lv_at hl 3 rfl) ?_
        refine lv_iload_n hx hb dL_act_397 rfl (lv_at hl 2 rfl) ?_
        refine lv_if_eq (tgt := 416) hx hb dL_act_398 (by decide) (fun _ => ?_) (fun z => absurd z (by decide))
        refine lv_iload_n hx hb dL_act_416 rfl (lv_at hl 1 rfl) ?_
        refine lv_bipush (v := 7) hx hb dL_act_417 (by decide) ?_
        refine lv_ishr hx hb dL_act_419 ?_
        refine lv_sipush (v := 300) hx hb dL_act_420 (by decide) ?_
        refine g_calli hI (va_runS (As := [.int (v >>> ((7 : Int32) &&& 31)), .int 300]) (rest := [.int key, .ref (N 0 0)]) ⟨hx, hb, hml, hown, hts⟩ (c_L_low l D cy de f (v >>> ((7 : Int32) &&& 31)) 300 (by decide) H.size) (va_cwS 2 hts gL_act_L_low rfl rfl rfl (by decide +kernel) ⟨Nat.le_of_ble_eq_true rfl, Nat.le_of_ble_eq_true rfl⟩) (g_preS hI) rfl rfl hl.1 rfl (lv_room (Nat.le_of_ble_eq_true rfl)) dL_act_423 ⟨Nat.le_of_ble_eq_true rfl, Nat.le_of_ble_eq_true rfl⟩) (fun r1 f1 H locs hw hI => ?_)
        obtain ⟨hw1, hw2⟩ := hw
        rw [hw1]
        rw [hw2] at hI
        refine g_calli hI (vx_runSW (As := [.ref (N 0 0), .int key, .int (loV (v >>> ((7 : Int32) &&& 31)) 300)]) (rest := []) ⟨hx, hb, hml, hown, hts⟩ (d_setTrust l hl0 D cy de f N I key (loV (v >>> ((7 : Int32) &&& 31)) 300) hR h hT hm H.size) (vx_cwSW 3 hts gL_act_L_setTrust rfl rfl rfl (by decide +kernel) ⟨Nat.le_of_ble_eq_true rfl, Nat.le_of_ble_eq_true rfl⟩) (g_preS hI) rfl rfl hl.1 rfl (lv_room (Nat.le_of_ble_eq_true rfl)) dL_act_426 ⟨Nat.le_of_ble_eq_true rfl, Nat.le_of_ble_eq_true rfl⟩) (fun r1 f1 H locs hw hI => ?_)
        exact g_iret hx hb hr hlocks hI (by show gZ cy de (N 0 0) T M (if loV (v >>> ((10 : Int32) &&& 31)) 2 = 0 then _ else _) _ _; rw [if_neg c_7]; exact hw) (Nat.le_of_ble_eq_true rfl) (Nat.le_of_ble_eq_true rfl) dL_act_429
      · refine lv_aload_n hx hb dL_act_385 rfl (lv_at hl 0 rfl) ?_
        refine lv_iload_n hx hb dL_act_386 rfl (lv_at hl 3 rfl) ?_
        refine lv_iload hx hb dL_act_387 (lv_at hl 4 rfl) ?_
        refine g_calli hI (vx_runSW (As := [.ref (N 0 0), .int key, .int plan]) (rest := []) ⟨hx, hb, hml, hown, hts⟩ (d_setKeyPlan l hl0 D cy de f N I key plan hR h hT hm H.size) (vx_cwSW 3 hts gL_act_L_setKeyPlan rfl rfl rfl (by decide +kernel) ⟨Nat.le_of_ble_eq_true rfl, Nat.le_of_ble_eq_true rfl⟩) (g_preS hI) rfl rfl hl.1 rfl (lv_room (Nat.le_of_ble_eq_true rfl)) dL_act_389 ⟨Nat.le_of_ble_eq_true rfl, Nat.le_of_ble_eq_true rfl⟩) (fun r1 f1 H locs hw hI => ?_)
        refine lv_goto (tgt := 429) hx hb dL_act_392 (by decide) ?_
        exact g_iret hx hb hr hlocks hI (by show gZ cy de (N 0 0) T M (if loV (v >>> ((10 : Int32) &&& 31)) 2 = 0 then _ else _) _ _; rw [if_pos c_7]; exact hw) (Nat.le_of_ble_eq_true rfl) (Nat.le_of_ble_eq_true rfl) dL_act_429
    · rw [show swI (nI 4) = 4 by decide]
      refine lv_tableIn (off := 266) (tgt := 430) hx hb dL_act_164 (by decide) (by decide) (by decide) (by decide) ?_
      refine lv_aload_n hx hb dL_act_430 rfl (lv_at hl 0 rfl) ?_
      refine lv_iload_n hx hb dL_act_431 rfl (lv_at hl 3 rfl) ?_
      refine lv_iload_n hx hb dL_act_432 rfl (lv_at hl 2 rfl) ?_
      refine lv_if_eq (tgt := 450) hx hb dL_act_433 (by decide) (fun _ => ?_) (fun z => absurd z (by decide))
      refine lv_iconst (v := 1) hx hb dL_act_450 (by decide) ?_
      refine lv_iload_n hx hb dL_act_451 rfl (lv_at hl 1 rfl) ?_
      refine lv_bipush (v := 7) hx hb dL_act_452 (by decide) ?_
      refine lv_ishr hx hb dL_act_454 ?_
      refine lv_sipush (v := 400) hx hb dL_act_455 (by decide) ?_
      refine g_calli hI (va_runS (As := [.int (v >>> ((7 : Int32) &&& 31)), .int 400]) (rest := [.int 1, .int key, .ref (N 0 0)]) ⟨hx, hb, hml, hown, hts⟩ (c_L_low l D cy de f (v >>> ((7 : Int32) &&& 31)) 400 (by decide) H.size) (va_cwS 2 hts gL_act_L_low rfl rfl rfl (by decide +kernel) ⟨Nat.le_of_ble_eq_true rfl, Nat.le_of_ble_eq_true rfl⟩) (g_preS hI) rfl rfl hl.1 rfl (lv_room (Nat.le_of_ble_eq_true rfl)) dL_act_458 ⟨Nat.le_of_ble_eq_true rfl, Nat.le_of_ble_eq_true rfl⟩) (fun r1 f1 H locs hw hI => ?_)
      obtain ⟨hw1, hw2⟩ := hw
      rw [hw1]
      rw [hw2] at hI
      refine lv_iadd hx hb dL_act_461 ?_
      refine g_calli hI (vx_runSW (As := [.ref (N 0 0), .int key, .int (1 + (loV (v >>> ((7 : Int32) &&& 31)) 400))]) (rest := []) ⟨hx, hb, hml, hown, hts⟩ (d_pay l hl0 D cy de f N I key (1 + (loV (v >>> ((7 : Int32) &&& 31)) 400)) hR h hT hm H.size) (vx_cwSW 3 hts gL_act_L_pay rfl rfl rfl (by decide +kernel) ⟨Nat.le_of_ble_eq_true rfl, Nat.le_of_ble_eq_true rfl⟩) (g_preS hI) rfl rfl hl.1 rfl (lv_room (Nat.le_of_ble_eq_true rfl)) dL_act_462 ⟨Nat.le_of_ble_eq_true rfl, Nat.le_of_ble_eq_true rfl⟩) (fun r1 f1 H locs hw hI => ?_)
      exact g_iret hx hb hr hlocks hI hw (Nat.le_of_ble_eq_true rfl) (Nat.le_of_ble_eq_true rfl) dL_act_465
    · rw [show swI (nI 5) = 5 by decide]
      refine lv_tableIn (off := 266) (tgt := 430) hx hb dL_act_164 (by decide) (by decide) (by decide) (by decide) ?_
      refine lv_aload_n hx hb dL_act_430 rfl (lv_at hl 0 rfl) ?_
      refine lv_iload_n hx hb dL_act_431 rfl (lv_at hl 3 rfl) ?_
      refine lv_iload_n hx hb dL_act_432 rfl (lv_at hl 2 rfl) ?_
      refine lv_if_eq (tgt := 450) hx hb dL_act_433 (by decide) (fun _ => ?_) (fun z => absurd z (by decide))
      refine lv_iconst (v := 1) hx hb dL_act_450 (by decide) ?_
      refine lv_iload_n hx hb dL_act_451 rfl (lv_at hl 1 rfl) ?_
      refine lv_bipush (v := 7) hx hb dL_act_452 (by decide) ?_
      refine lv_ishr hx hb dL_act_454 ?_
      refine lv_sipush (v := 400) hx hb dL_act_455 (by decide) ?_
      refine g_calli hI (va_runS (As := [.int (v >>> ((7 : Int32) &&& 31)), .int 400]) (rest := [.int 1, .int key, .ref (N 0 0)]) ⟨hx, hb, hml, hown, hts⟩ (c_L_low l D cy de f (v >>> ((7 : Int32) &&& 31)) 400 (by decide) H.size) (va_cwS 2 hts gL_act_L_low rfl rfl rfl (by decide +kernel) ⟨Nat.le_of_ble_eq_true rfl, Nat.le_of_ble_eq_true rfl⟩) (g_preS hI) rfl rfl hl.1 rfl (lv_room (Nat.le_of_ble_eq_true rfl)) dL_act_458 ⟨Nat.le_of_ble_eq_true rfl, Nat.le_of_ble_eq_true rfl⟩) (fun r1 f1 H locs hw hI => ?_)
      obtain ⟨hw1, hw2⟩ := hw
      rw [hw1]
      rw [hw2] at hI
      refine lv_iadd hx hb dL_act_461 ?_
      refine g_calli hI (vx_runSW (As := [.ref (N 0 0), .int key, .int (1 + (loV (v >>> ((7 : Int32) &&& 31)) 400))]) (rest := []) ⟨hx, hb, hml, hown, hts⟩ (d_pay l hl0 D cy de f N I key (1 + (loV (v >>> ((7 : Int32) &&& 31)) 400)) hR h hT hm H.size) (vx_cwSW 3 hts gL_act_L_pay rfl rfl rfl (by decide +kernel) ⟨Nat.le_of_ble_eq_true rfl, Nat.le_of_ble_eq_true rfl⟩) (g_preS hI) rfl rfl hl.1 rfl (lv_room (Nat.le_of_ble_eq_true rfl)) dL_act_462 ⟨Nat.le_of_ble_eq_true rfl, Nat.le_of_ble_eq_true rfl⟩) (fun r1 f1 H locs hw hI => ?_)
      exact g_iret hx hb hr hlocks hI hw (Nat.le_of_ble_eq_true rfl) (Nat.le_of_ble_eq_true rfl) dL_act_465
    · rw [show swI (nI 6) = 6 by decide]
      refine lv_tableIn (off := 302) (tgt := 466) hx hb dL_act_164 (by decide) (by decide) (by decide) (by decide) ?_
      refine lv_aload_n hx hb dL_act_466 rfl (lv_at hl 0 rfl) ?_
      refine lv_iload hx hb dL_act_467 (lv_at hl 6 rfl) ?_
      refine lv_iload_n hx hb dL_act_469 rfl (lv_at hl 2 rfl) ?_
      refine lv_if_eq (tgt := 486) hx hb dL_act_470 (by decide) (fun _ => ?_) (fun z => absurd z (by decide))
      refine lv_iload_n hx hb dL_act_486 rfl (lv_at hl 1 rfl) ?_
      refine lv_bipush (v := 10) hx hb dL_act_487 (by decide) ?_
      refine lv_ishr hx hb dL_act_489 ?_
      refine lv_iconst (v := 3) hx hb dL_act_490 (by decide) ?_
      refine g_calli hI (va_runS (As := [.int (v >>> ((10 : Int32) &&& 31)), .int 3]) (rest := [.int num, .ref (N 0 0)]) ⟨hx, hb, hml, hown, hts⟩ (c_L_low l D cy de f (v >>> ((10 : Int32) &&& 31)) 3 (by decide) H.size) (va_cwS 2 hts gL_act_L_low rfl rfl rfl (by decide +kernel) ⟨Nat.le_of_ble_eq_true rfl, Nat.le_of_ble_eq_true rfl⟩) (g_preS hI) rfl rfl hl.1 rfl (lv_room (Nat.le_of_ble_eq_true rfl)) dL_act_491 ⟨Nat.le_of_ble_eq_true rfl, Nat.le_of_ble_eq_true rfl⟩) (fun r1 f1 H locs hw hI => ?_)
      obtain ⟨hw1, hw2⟩ := hw
      rw [hw1]
      rw [hw2] at hI
      refine g_calli hI (vx_runSW (As := [.ref (N 0 0), .int num, .int (loV (v >>> ((10 : Int32) &&& 31)) 3)]) (rest := []) ⟨hx, hb, hml, hown, hts⟩ (d_end l hl0 D cy de f N I num (loV (v >>> ((10 : Int32) &&& 31)) 3) hR h hT hm H.size) (vx_cwSW 3 hts gL_act_L_end rfl rfl rfl (by decide +kernel) ⟨Nat.le_of_ble_eq_true rfl, Nat.le_of_ble_eq_true rfl⟩) (g_preS hI) rfl rfl hl.1 rfl (lv_room (Nat.le_of_ble_eq_true rfl)) dL_act_494 ⟨Nat.le_of_ble_eq_true rfl, Nat.le_of_ble_eq_true rfl⟩) (fun r1 f1 H locs hw hI => ?_)
      exact g_iret hx hb hr hlocks hI hw (Nat.le_of_ble_eq_true rfl) (Nat.le_of_ble_eq_true rfl) dL_act_497
    · rw [show swI (nI 7) = 7 by decide]
      refine lv_tableIn (off := 302) (tgt := 466) hx hb dL_act_164 (by decide) (by decide) (by decide) (by decide) ?_
      refine lv_aload_n hx hb dL_act_466 rfl (lv_at hl 0 rfl) ?_
      refine lv_iload hx hb dL_act_467 (lv_at hl 6 rfl) ?_
      refine lv_iload_n hx hb dL_act_469 rfl (lv_at hl 2 rfl) ?_
      refine lv_if_eq (tgt := 486) hx hb dL_act_470 (by decide) (fun _ => ?_) (fun z => absurd z (by decide))
      refine lv_iload_n hx hb dL_act_486 rfl (lv_at hl 1 rfl) ?_
      refine lv_bipush (v := 10) hx hb dL_act_487 (by decide) ?_
      refine lv_ishr hx hb dL_act_489 ?_
      refine lv_iconst (v := 3) hx hb dL_act_490 (by decide) ?_
      refine g_calli hI (va_runS (As := [.int (v >>> ((10 : Int32) &&& 31)), .int 3]) (rest := [.int num, .ref (N 0 0)]) ⟨hx, hb, hml, hown, hts⟩ (c_L_low l D cy de f (v >>> ((10 : Int32) &&& 31)) 3 (by decide) H.size) (va_cwS 2 hts gL_act_L_low rfl rfl rfl (by decide +kernel) ⟨Nat.le_of_ble_eq_true rfl, Nat.le_of_ble_eq_true rfl⟩) (g_preS hI) rfl rfl hl.1 rfl (lv_room (Nat.le_of_ble_eq_true rfl)) dL_act_491 ⟨Nat.le_of_ble_eq_true rfl, Nat.le_of_ble_eq_true rfl⟩) (fun r1 f1 H locs hw hI => ?_)
      obtain ⟨hw1, hw2⟩ := hw
      rw [hw1]
      rw [hw2] at hI
      refine g_calli hI (vx_runSW (As := [.ref (N 0 0), .int num, .int (loV (v >>> ((10 : Int32) &&& 31)) 3)]) (rest := []) ⟨hx, hb, hml, hown, hts⟩ (d_end l hl0 D cy de f N I num (loV (v >>> ((10 : Int32) &&& 31)) 3) hR h hT hm H.size) (vx_cwSW 3 hts gL_act_L_end rfl rfl rfl (by decide +kernel) ⟨Nat.le_of_ble_eq_true rfl, Nat.le_of_ble_eq_true rfl⟩) (g_preS hI) rfl rfl hl.1 rfl (lv_room (Nat.le_of_ble_eq_true rfl)) dL_act_494 ⟨Nat.le_of_ble_eq_true rfl, Nat.le_of_ble_eq_true rfl⟩) (fun r1 f1 H locs hw hI => ?_)
      exact g_iret hx hb hr hlocks hI hw (Nat.le_of_ble_eq_true rfl) (Nat.le_of_ble_eq_true rfl) dL_act_497
    · rw [show swI (nI 8) = 8 by decide]
      refine lv_tableIn (off := 302) (tgt := 466) hx hb dL_act_164 (by decide) (by decide) (by decide) (by decide) ?_
      refine lv_aload_n hx hb dL_act_466 rfl (lv_at hl 0 rfl) ?_
      refine lv_iload hx hb dL_act_467 (lv_at hl 6 rfl) ?_
      refine lv_iload_n hx hb dL_act_469 rfl (lv_at hl 2 rfl) ?_
      refine lv_if_eq (tgt := 486) hx hb dL_act_470 (by decide) (fun _ => ?_) (fun z => absurd z (by decide))
      refine lv_iload_n hx hb dL_act_486 rfl (lv_at hl 1 rfl) ?_
      refine lv_bipush (v := 10) hx hb dL_act_487 (by decide) ?_
      refine lv_ishr hx hb dL_act_489 ?_
      refine lv_iconst (v := 3) hx hb dL_act_490 (by decide) ?_
      refine g_calli hI (va_runS (As := [.int (v >>> ((10 : Int32) &&& 31)), .int 3]) (rest := [.int num, .ref (N 0 0)]) ⟨hx, hb, hml, hown, hts⟩ (c_L_low l D cy de f (v >>> ((10 : Int32) &&& 31)) 3 (by decide) H.size) (va_cwS 2 hts gL_act_L_low rfl rfl rfl (by decide +kernel) ⟨Nat.le_of_ble_eq_true rfl, Nat.le_of_ble_eq_true rfl⟩) (g_preS hI) rfl rfl hl.1 rfl (lv_room (Nat.le_of_ble_eq_true rfl)) dL_act_491 ⟨Nat.le_of_ble_eq_true rfl, Nat.le_of_ble_eq_true rfl⟩) (fun r1 f1 H locs hw hI => ?_)
      obtain ⟨hw1, hw2⟩ := hw
      rw [hw1]
      rw [hw2] at hI
      refine g_calli hI (vx_runSW (As := [.ref (N 0 0), .int num, .int (loV (v >>> ((10 : Int32) &&& 31)) 3)]) (rest := []) ⟨hx, hb, hml, hown, hts⟩ (d_end l hl0 D cy de f N I num (loV (v >>> ((10 : Int32) &&& 31)) 3) hR h hT hm H.size) (vx_cwSW 3 hts gL_act_L_end rfl rfl rfl (by decide +kernel) ⟨Nat.le_of_ble_eq_true rfl, Nat.le_of_ble_eq_true rfl⟩) (g_preS hI) rfl rfl hl.1 rfl (lv_room (Nat.le_of_ble_eq_true rfl)) dL_act_494 ⟨Nat.le_of_ble_eq_true rfl, Nat.le_of_ble_eq_true rfl⟩) (fun r1 f1 H locs hw hI => ?_)
      exact g_iret hx hb hr hlocks hI hw (Nat.le_of_ble_eq_true rfl) (Nat.le_of_ble_eq_true rfl) dL_act_497
    · rw [show swI (nI 9) = 9 by decide]
      refine lv_tableIn (off := 334) (tgt := 498) hx hb dL_act_164 (by decide) (by decide) (by decide) (by decide) ?_
      refine lv_aload_n hx hb dL_act_498 rfl (lv_at hl 0 rfl) ?_
      refine lv_iload hx hb dL_act_499 (lv_at hl 6 rfl) ?_
      refine g_calli hI (vx_runSW (As := [.ref (N 0 0), .int num]) (rest := []) ⟨hx, hb, hml, hown, hts⟩ (d_dispute l hl0 D cy de f N I num hR h hT hm H.size) (vx_cwSW 2 hts gL_act_L_dispute rfl rfl rfl (by decide +kernel) ⟨Nat.le_of_ble_eq_true rfl, Nat.le_of_ble_eq_true rfl⟩) (g_preS hI) rfl rfl hl.1 rfl (lv_room (Nat.le_of_ble_eq_true rfl)) dL_act_501 ⟨Nat.le_of_ble_eq_true rfl, Nat.le_of_ble_eq_true rfl⟩) (fun r1 f1 H locs hw hI => ?_)
      exact g_iret hx hb hr hlocks hI hw (Nat.le_of_ble_eq_true rfl) (Nat.le_of_ble_eq_true rfl) dL_act_504
    · rw [show swI (nI 10) = 10 by decide]
      refine lv_tableIn (off := 341) (tgt := 505) hx hb dL_act_164 (by decide) (by decide) (by decide) (by decide) ?_
      refine lv_aload_n hx hb dL_act_505 rfl (lv_at hl 0 rfl) ?_
      refine lv_iload_n hx hb dL_act_506 rfl (lv_at hl 2 rfl) ?_
      refine lv_if_eq (tgt := 521) hx hb dL_act_507 (by decide) (fun _ => ?_) (fun z => absurd z (by decide))
      refine lv_iconst (v := 1) hx hb dL_act_521 (by decide) ?_
      refine lv_iload_n hx hb dL_act_522 rfl (lv_at hl 1 rfl) ?_
      refine lv_iconst (v := 4) hx hb dL_act_523 (by decide) ?_
      refine lv_ishr hx hb dL_act_524 ?_
      refine lv_bipush (v := 9) hx hb dL_act_525 (by decide) ?_
      refine g_calli hI (va_runS (As := [.int (v >>> ((4 : Int32) &&& 31)), .int 9]) (rest := [.int 1, .ref (N 0 0)]) ⟨hx, hb, hml, hown, hts⟩ (c_L_low l D cy de f (v >>> ((4 : Int32) &&& 31)) 9 (by decide) H.size) (va_cwS 2 hts gL_act_L_low rfl rfl rfl (by decide +kernel) ⟨Nat.le_of_ble_eq_true rfl, Nat.le_of_ble_eq_true rfl⟩) (g_preS hI) rfl rfl hl.1 rfl (lv_room (Nat.le_of_ble_eq_true rfl)) dL_act_527 ⟨Nat.le_of_ble_eq_true rfl, Nat.le_of_ble_eq_true rfl⟩) (fun r1 f1 H locs hw hI => ?_)
      obtain ⟨hw1, hw2⟩ := hw
      rw [hw1]
      rw [hw2] at hI
      refine lv_iadd hx hb dL_act_530 ?_
      refine g_calli hI (vx_runSW (As := [.ref (N 0 0), .int (1 + (loV (v >>> ((4 : Int32) &&& 31)) 9))]) (rest := []) ⟨hx, hb, hml, hown, hts⟩ (d_pass l hl0 D cy de f N I (1 + (loV (v >>> ((4 : Int32) &&& 31)) 9)) hR h hT hm H.size) (vx_cwSW 2 hts gL_act_L_pass rfl rfl rfl (by decide +kernel) ⟨Nat.le_of_ble_eq_true rfl, Nat.le_of_ble_eq_true rfl⟩) (g_preS hI) rfl rfl hl.1 rfl (lv_room (Nat.le_of_ble_eq_true rfl)) dL_act_531 ⟨Nat.le_of_ble_eq_true rfl, Nat.le_of_ble_eq_true rfl⟩) (fun r1 f1 H locs hw hI => ?_)
      exact g_iret hx hb hr hlocks hI hw (Nat.le_of_ble_eq_true rfl) (Nat.le_of_ble_eq_true rfl) dL_act_534
    · rw [show swI (nI 11) = 11 by decide]
      refine lv_tableIn (off := 341) (tgt := 505) hx hb dL_act_164 (by decide) (by decide) (by decide) (by decide) ?_
      refine lv_aload_n hx hb dL_act_505 rfl (lv_at hl 0 rfl) ?_
      refine lv_iload_n hx hb dL_act_506 rfl (lv_at hl 2 rfl) ?_
      refine lv_if_eq (tgt := 521) hx hb dL_act_507 (by decide) (fun _ => ?_) (fun z => absurd z (by decide))
      refine lv_iconst (v := 1) hx hb dL_act_521 (by decide) ?_
      refine lv_iload_n hx hb dL_act_522 rfl (lv_at hl 1 rfl) ?_
      refine lv_iconst (v := 4) hx hb dL_act_523 (by decide) ?_
      refine lv_ishr hx hb dL_act_524 ?_
      refine lv_bipush (v := 9) hx hb dL_act_525 (by decide) ?_
      refine g_calli hI (va_runS (As := [.int (v >>> ((4 : Int32) &&& 31)), .int 9]) (rest := [.int 1, .ref (N 0 0)]) ⟨hx, hb, hml, hown, hts⟩ (c_L_low l D cy de f (v >>> ((4 : Int32) &&& 31)) 9 (by decide) H.size) (va_cwS 2 hts gL_act_L_low rfl rfl rfl (by decide +kernel) ⟨Nat.le_of_ble_eq_true rfl, Nat.le_of_ble_eq_true rfl⟩) (g_preS hI) rfl rfl hl.1 rfl (lv_room (Nat.le_of_ble_eq_true rfl)) dL_act_527 ⟨Nat.le_of_ble_eq_true rfl, Nat.le_of_ble_eq_true rfl⟩) (fun r1 f1 H locs hw hI => ?_)
      obtain ⟨hw1, hw2⟩ := hw
      rw [hw1]
      rw [hw2] at hI
      refine lv_iadd hx hb dL_act_530 ?_
      refine g_calli hI (vx_runSW (As := [.ref (N 0 0), .int (1 + (loV (v >>> ((4 : Int32) &&& 31)) 9))]) (rest := []) ⟨hx, hb, hml, hown, hts⟩ (d_pass l hl0 D cy de f N I (1 + (loV (v >>> ((4 : Int32) &&& 31)) 9)) hR h hT hm H.size) (vx_cwSW 2 hts gL_act_L_pass rfl rfl rfl (by decide +kernel) ⟨Nat.le_of_ble_eq_true rfl, Nat.le_of_ble_eq_true rfl⟩) (g_preS hI) rfl rfl hl.1 rfl (lv_room (Nat.le_of_ble_eq_true rfl)) dL_act_531 ⟨Nat.le_of_ble_eq_true rfl, Nat.le_of_ble_eq_true rfl⟩) (fun r1 f1 H locs hw hI => ?_)
      exact g_iret hx hb hr hlocks hI hw (Nat.le_of_ble_eq_true rfl) (Nat.le_of_ble_eq_true rfl) dL_act_534

set_option maxHeartbeats 4000000 in
set_option maxRecDepth 100000 in
theorem c_L_act (l : Launch) (hl0 : l.stackTraces = false) (D : va_G) (cy : Nat → ClassId) (de : Nat) (f : gFm) (N : gNm) (I : gMd) (v : Int32) (hR : gR cy de N I f) {M : gMd} {tk T : Nat} (h : Sim N I M tk T) (hT : T < 520) (hm : mon N I) : gMi l yL_act wsL_act { frames := 9, cells := 5, slots := 225, locals := 261 } D cy de [.ref (N 0 0), .int v] f (gZ cy de (N 0 0) T M (aX M v)) 5 225 := by
  refine fun sz => Met.ofW (cc := cL_act) (maxL := 7) (ret := (some .int)) (by decide) rfl ?_
  intro p e s m args below meth c s₁ B hml hv
  obtain ⟨rfl, hv⟩ := hv
  obtain ⟨rfl, hI⟩ := gP_I hv
  have hx := B.exec
  have hb := B.bytes
  have hr := B.returns
  have hts := atoms_spec (ws := wsL_act) B.pre
  have e13 : M 13 0 = nI (N 0 8) := h.2.1.2.1
  have hown : s.vm.findClass RL = some m.cls := findClass_of_methodNamed B.named
  have hlocks := B.notSynchronized
  have hl := lv_entry ([.ref (N 0 0), .int v]) (n := 7) (Nat.le_of_ble_eq_true rfl)
  rw [lg_entry_eq]
  generalize (lg_sl ([.ref (N 0 0), .int v]) ++ List.replicate (7 - (lg_sl ([.ref (N 0 0), .int v])).length) Slot.unset).toArray = ls at hl ⊢
  have hl : lv_has ls 7 [(0, .ref (N 0 0)), (1, .int v)] := hl
  refine lv_iload_n hx hb dL_act_0 rfl (lv_at hl 1 rfl) ?_
  refine lv_bipush (v := 24) hx hb dL_act_1 (by decide) ?_
  refine lv_ishr hx hb dL_act_3 ?_
  refine lv_bipush (v := 9) hx hb dL_act_4 (by decide) ?_
  refine g_calli hI (va_runS (As := [.int (v >>> ((24 : Int32) &&& 31)), .int 9]) (rest := []) ⟨hx, hb, hml, hown, hts⟩ (c_L_low l D cy de f (v >>> ((24 : Int32) &&& 31)) 9 (by decide) s.heap.size) (va_cwS 2 hts gL_act_L_low rfl rfl rfl (by decide +kernel) ⟨Nat.le_of_ble_eq_true rfl, Nat.le_of_ble_eq_true rfl⟩) (g_preS hI) rfl rfl hl.1 rfl (lv_room (Nat.le_of_ble_eq_true rfl)) dL_act_6 ⟨Nat.le_of_ble_eq_true rfl, Nat.le_of_ble_eq_true rfl⟩) (fun r1 f1 H locs hw hI => ?_)
  obtain ⟨hw1, hw2⟩ := hw
  rw [hw1]
  rw [hw2] at hI
  refine lv_if_ne (tgt := 16) hx hb dL_act_9 (by decide) (fun c_1 => ?_) (fun c_1 => ?_)
  · refine lv_iconst (v := 0) hx hb dL_act_16 (by decide) ?_
    refine lv_istore_n (lv' := [(2, .int 0), (0, .ref (N 0 0)), (1, .int v)]) hx hb dL_act_17 rfl hl (by decide) rfl (fun ls hl => ?_)
    refine lv_iload_n hx hb dL_act_18 rfl (lv_at hl 0 rfl) ?_
    refine lv_if_eq (tgt := 35) hx hb dL_act_19 (by decide) (fun _ => ?_) (fun z => absurd z (by decide))
    refine lv_iload_n hx hb dL_act_35 rfl (lv_at hl 2 rfl) ?_
    refine lv_iconst (v := 4) hx hb dL_act_36 (by decide) ?_
    refine lv_ishr hx hb dL_act_37 ?_
    refine lv_iconst (v := 3) hx hb dL_act_38 (by decide) ?_
    refine g_calli hI (va_runS (As := [.int (v >>> ((4 : Int32) &&& 31)), .int 3]) (rest := []) ⟨hx, hb, hml, hown, hts⟩ (c_L_low l D cy de f (v >>> ((4 : Int32) &&& 31)) 3 (by decide) H.size) (va_cwS 2 hts gL_act_L_low rfl rfl rfl (by decide +kernel) ⟨Nat.le_of_ble_eq_true rfl, Nat.le_of_ble_eq_true rfl⟩) (g_preS hI) rfl rfl hl.1 rfl (lv_room (Nat.le_of_ble_eq_true rfl)) dL_act_39 ⟨Nat.le_of_ble_eq_true rfl, Nat.le_of_ble_eq_true rfl⟩) (fun r1 f1 H locs hw hI => ?_)
    obtain ⟨hw1, hw2⟩ := hw
    rw [hw1]
    rw [hw2] at hI
    refine lv_istore_n (lv' := [(3, .int (loV (v >>> ((4 : Int32) &&& 31)) 3)), (2, .int 0), (0, .ref (N 0 0)), (1, .int v)]) hx hb dL_act_42 rfl hl (by decide) rfl (fun ls hl => ?_)
    refine lv_iload_n hx hb dL_act_43 rfl (lv_at hl 1 rfl) ?_
    refine lv_if_eq (tgt := 61) hx hb dL_act_44 (by decide) (fun _ => ?_) (fun z => absurd z (by decide))
    refine lv_iload_n hx hb dL_act_61 rfl (lv_at hl 3 rfl) ?_
    refine lv_bipush (v := 7) hx hb dL_act_62 (by decide) ?_
    refine lv_ishr hx hb dL_act_64 ?_
    refine lv_iconst (v := 2) hx hb dL_act_65 (by decide) ?_
    refine g_calli hI (va_runS (As := [.int (v >>> ((7 : Int32) &&& 31)), .int 2]) (rest := []) ⟨hx, hb, hml, hown, hts⟩ (c_L_low l D cy de f (v >>> ((7 : Int32) &&& 31)) 2 (by decide) H.size) (va_cwS 2 hts gL_act_L_low rfl rfl rfl (by decide +kernel) ⟨Nat.le_of_ble_eq_true rfl, Nat.le_of_ble_eq_true rfl⟩) (g_preS hI) rfl rfl hl.1 rfl (lv_room (Nat.le_of_ble_eq_true rfl)) dL_act_66 ⟨Nat.le_of_ble_eq_true rfl, Nat.le_of_ble_eq_true rfl⟩) (fun r1 f1 H locs hw hI => ?_)
    obtain ⟨hw1, hw2⟩ := hw
    rw [hw1]
    rw [hw2] at hI
    refine lv_istore (lv' := [(4, .int (loV (v >>> ((7 : Int32) &&& 31)) 2)), (3, .int (loV (v >>> ((4 : Int32) &&& 31)) 3)), (2, .int 0), (0, .ref (N 0 0)), (1, .int v)]) hx hb dL_act_69 hl (by decide) rfl (fun ls hl => ?_)
    refine lv_iload_n hx hb dL_act_71 rfl (lv_at hl 2 rfl) ?_
    refine lv_if_eq (tgt := 89) hx hb dL_act_72 (by decide) (fun _ => ?_) (fun z => absurd z (by decide))
    refine lv_iload_n hx hb dL_act_89 rfl (lv_at hl 4 rfl) ?_
    refine lv_bipush (v := 7) hx hb dL_act_90 (by decide) ?_
    refine lv_ishr hx hb dL_act_92 ?_
    refine lv_iconst (v := 3) hx hb dL_act_93 (by decide) ?_
    refine g_calli hI (va_runS (As := [.int (v >>> ((7 : Int32) &&& 31)), .int 3]) (rest := []) ⟨hx, hb, hml, hown, hts⟩ (c_L_low l D cy de f (v >>> ((7 : Int32) &&& 31)) 3 (by decide) H.size) (va_cwS 2 hts gL_act_L_low rfl rfl rfl (by decide +kernel) ⟨Nat.le_of_ble_eq_true rfl, Nat.le_of_ble_eq_true rfl⟩) (g_preS hI) rfl rfl hl.1 rfl (lv_room (Nat.le_of_ble_eq_true rfl)) dL_act_94 ⟨Nat.le_of_ble_eq_true rfl, Nat.le_of_ble_eq_true rfl⟩) (fun r1 f1 H locs hw hI => ?_)
    obtain ⟨hw1, hw2⟩ := hw
    rw [hw1]
    rw [hw2] at hI
    refine lv_istore (lv' := [(5, .int (loV (v >>> ((7 : Int32) &&& 31)) 3)), (4, .int (loV (v >>> ((7 : Int32) &&& 31)) 2)), (3, .int (loV (v >>> ((4 : Int32) &&& 31)) 3)), (2, .int 0), (0, .ref (N 0 0)), (1, .int v)]) hx hb dL_act_97 hl (by decide) rfl (fun ls hl => ?_)
    refine lv_iload_n hx hb dL_act_99 rfl (lv_at hl 3 rfl) ?_
    refine lv_if_eq (tgt := 116) hx hb dL_act_100 (by decide) (fun _ => ?_) (fun z => absurd z (by decide))
    refine lv_aload_n hx hb dL_act_116 rfl (lv_at hl 4 rfl) ?_
    refine g_calli hI (va_runV (As := []) (rest := []) ⟨hx, hb, hml, hown, hts⟩ (c_X4_calls l D cy de f N I hR H.size) (cwV 0 hts gL_act_X4_calls rfl rfl rfl (by decide +kernel) ⟨Nat.le_of_ble_eq_true rfl, Nat.le_of_ble_eq_true rfl⟩) (g_preV hI (gR_tg hR) rfl) rfl rfl hl.1 rfl (lv_room (Nat.le_of_ble_eq_true rfl)) dL_act_117 ⟨Nat.le_of_ble_eq_true rfl, Nat.le_of_ble_eq_true rfl⟩) (fun r1 f1 H locs hw hI => ?_)
    obtain ⟨hw1, hw2⟩ := hw
    rw [hw1]
    rw [hw2] at hI
    refine lv_if_ne (tgt := 127) hx hb dL_act_120 (by decide) (fun c_6 => ?_) (fun c_6 => ?_)
    · refine lv_aload_n hx hb dL_act_127 rfl (lv_at hl 4 rfl) ?_
      refine g_calli hI (va_runV (As := []) (rest := []) ⟨hx, hb, hml, hown, hts⟩ (c_X4_calls l D cy de f N I hR H.size) (cwV 0 hts gL_act_X4_calls rfl rfl rfl (by decide +kernel) ⟨Nat.le_of_ble_eq_true rfl, Nat.le_of_ble_eq_true rfl⟩) (g_preV hI (gR_tg hR) rfl) rfl rfl hl.1 rfl (lv_room (Nat.le_of_ble_eq_true rfl)) dL_act_128 ⟨Nat.le_of_ble_eq_true rfl, Nat.le_of_ble_eq_true rfl⟩) (fun r1 f1 H locs hw hI => ?_)
      obtain ⟨hw1, hw2⟩ := hw
      rw [hw1]
      rw [hw2] at hI
      refine lv_iconst (v := 1) hx hb dL_act_131 (by decide) ?_
      refine lv_isub hx hb dL_act_132 ?_
      refine lv_iload_n hx hb dL_act_133 rfl (lv_at hl 5 rfl) ?_
      refine lv_iconst (v := 4) hx hb dL_act_134 (by decide) ?_
      refine lv_ishr hx hb dL_act_135 ?_
      refine lv_aload_n hx hb dL_act_136 rfl (lv_at hl 4 rfl) ?_
      refine g_calli hI (va_runV (As := []) (rest := [.int (v >>> ((4 : Int32) &&& 31)), .int ((nI (N 0 8)) - 1)]) ⟨hx, hb, hml, hown, hts⟩ (c_X4_calls l D cy de f N I hR H.size) (cwV 0 hts gL_act_X4_calls rfl rfl rfl (by decide +kernel) ⟨Nat.le_of_ble_eq_true rfl, Nat.le_of_ble_eq_true rfl⟩) (g_preV hI (gR_tg hR) rfl) rfl rfl hl.1 rfl (lv_room (Nat.le_of_ble_eq_true rfl)) dL_act_137 ⟨Nat.le_of_ble_eq_true rfl, Nat.le_of_ble_eq_true rfl⟩) (fun r1 f1 H locs hw hI => ?_)
      obtain ⟨hw1, hw2⟩ := hw
      rw [hw1]
      rw [hw2] at hI
      refine lv_iconst (v := 5) hx hb dL_act_140 (by decide) ?_
      refine lv_icmp_ge (tgt := 151) hx hb dL_act_141 (by decide) (fun c_7 => ?_) (fun c_7 => ?_)
      · have c_7' := Int32.not_lt.mpr c_7
        refine lv_iconst (v := 5) hx hb dL_act_151 (by decide) ?_
        refine g_calli hI (va_runS (As := [.int (v >>> ((4 : Int32) &&& 31)), .int 5]) (rest := [.int ((nI (N 0 8)) - 1)]) ⟨hx, hb, hml, hown, hts⟩ (c_L_low l D cy de f (v >>> ((4 : Int32) &&& 31)) 5 (by decide) H.size) (va_cwS 2 hts gL_act_L_low rfl rfl rfl (by decide +kernel) ⟨Nat.le_of_ble_eq_true rfl, Nat.le_of_ble_eq_true rfl⟩) (g_preS hI) rfl rfl hl.1 rfl (lv_room (Nat.le_of_ble_eq_true rfl)) dL_act_152 ⟨Nat.le_of_ble_eq_true rfl, Nat.le_of_ble_eq_true rfl⟩) (fun r1 f1 H locs hw hI => ?_)
        obtain ⟨hw1, hw2⟩ := hw
        rw [hw1]
        rw [hw2] at hI
        refine lv_isub hx hb dL_act_155 ?_
        refine lv_istore (lv' := [(6, .int (((nI (N 0 8)) - 1) - (loV (v >>> ((4 : Int32) &&& 31)) 5))), (5, .int (loV (v >>> ((7 : Int32) &&& 31)) 3)), (4, .int (loV (v >>> ((7 : Int32) &&& 31)) 2)), (3, .int (loV (v >>> ((4 : Int32) &&& 31)) 3)), (2, .int 0), (0, .ref (N 0 0)), (1, .int v)]) hx hb dL_act_156 hl (by decide) rfl (fun ls hl => ?_)
        rw [show aX M v = swX M false v (loV (v >>> ((4 : Int32) &&& 31)) 3) (loV (v >>> ((7 : Int32) &&& 31)) 2) (loV (v >>> ((7 : Int32) &&& 31)) 3) (((nI (N 0 8)) - 1) - (loV (v >>> ((4 : Int32) &&& 31)) 5)) from by unfold aX; rw [show aOd v = false from decide_eq_false c_1, e13, aNum_2 c_6 c_7']; rfl]
        exact act_sw0 hl0 ⟨hx, hb, hml, hown, hts⟩ hr hlocks hR h hT hm hI (lv_sub hl [5, 6, 4, 3, 2, 1, 0] rfl)
      · have c_7' := Int32.not_le.mp c_7
        refine lv_aload_n hx hb dL_act_144 rfl (lv_at hl 4 rfl) ?_
        refine g_calli hI (va_runV (As := []) (rest := [.int (v >>> ((4 : Int32) &&& 31)), .int ((nI (N 0 8)) - 1)]) ⟨hx, hb, hml, hown, hts⟩ (c_X4_calls l D cy de f N I hR H.size) (cwV 0 hts gL_act_X4_calls rfl rfl rfl (by decide +kernel) ⟨Nat.le_of_ble_eq_true rfl, Nat.le_of_ble_eq_true rfl⟩) (g_preV hI (gR_tg hR) rfl) rfl rfl hl.1 rfl (lv_room (Nat.le_of_ble_eq_true rfl)) dL_act_145 ⟨Nat.le_of_ble_eq_true rfl, Nat.le_of_ble_eq_true rfl⟩) (fun r1 f1 H locs hw hI => ?_)
        obtain ⟨hw1, hw2⟩ := hw
        rw [hw1]
        rw [hw2] at hI
        refine lv_goto (tgt := 152) hx hb dL_act_148 (by decide) ?_
        refine g_calli hI (va_runS (As := [.int (v >>> ((4 : Int32) &&& 31)), .int (nI (N 0 8))]) (rest := [.int ((nI (N 0 8)) - 1)]) ⟨hx, hb, hml, hown, hts⟩ (c_L_low l D cy de f (v >>> ((4 : Int32) &&& 31)) (nI (N 0 8)) c_6 H.size) (va_cwS 2 hts gL_act_L_low rfl rfl rfl (by decide +kernel) ⟨Nat.le_of_ble_eq_true rfl, Nat.le_of_ble_eq_true rfl⟩) (g_preS hI) rfl rfl hl.1 rfl (lv_room (Nat.le_of_ble_eq_true rfl)) dL_act_152 ⟨Nat.le_of_ble_eq_true rfl, Nat.le_of_ble_eq_true rfl⟩) (fun r1 f1 H locs hw hI => ?_)
        obtain ⟨hw1, hw2⟩ := hw
        rw [hw1]
        rw [hw2] at hI
        refine lv_isub hx hb dL_act_155 ?_
        refine lv_istore (lv' := [(6, .int (((nI (N 0 8)) - 1) - (loV (v >>> ((4 : Int32) &&& 31)) (nI (N 0 8))))), (5, .int (loV (v >>> ((7 : Int32) &&& 31)) 3)), (4, .int (loV (v >>> ((7 : Int32) &&& 31)) 2)), (3, .int (loV (v >>> ((4 : Int32) &&& 31)) 3)), (2, .int 0), (0, .ref (N 0 0)), (1, .int v)]) hx hb dL_act_156 hl (by decide) rfl (fun ls hl => ?_)
        rw [show aX M v = swX M false v (loV (v >>> ((4 : Int32) &&& 31)) 3) (loV (v >>> ((7 : Int32) &&& 31)) 2) (loV (v >>> ((7 : Int32) &&& 31)) 3) (((nI (N 0 8)) - 1) - (loV (v >>> ((4 : Int32) &&& 31)) (nI (N 0 8)))) from by unfold aX; rw [show aOd v = false from decide_eq_false c_1, e13, aNum_1 c_6 c_7']; rfl]
        exact act_sw0 hl0 ⟨hx, hb, hml, hown, hts⟩ hr hlocks hR h hT hm hI (lv_sub hl [5, 6, 4, 3, 2, 1, 0] rfl)
    · refine lv_iconst (v := 0) hx hb dL_act_123 (by decide) ?_
      refine lv_goto (tgt := 156) hx hb dL_act_124 (by decide) ?_
      refine lv_istore (lv' := [(6, .int 0), (5, .int (loV (v >>> ((7 : Int32) &&& 31)) 3)), (4, .int (loV (v >>> ((7 : Int32) &&& 31)) 2)), (3, .int (loV (v >>> ((4 : Int32) &&& 31)) 3)), (2, .int 0), (0, .ref (N 0 0)), (1, .int v)]) hx hb dL_act_156 hl (by decide) rfl (fun ls hl => ?_)
      rw [show aX M v = swX M false v (loV (v >>> ((4 : Int32) &&& 31)) 3) (loV (v >>> ((7 : Int32) &&& 31)) 2) (loV (v >>> ((7 : Int32) &&& 31)) 3) 0 from by unfold aX; rw [show aOd v = false from decide_eq_false c_1, e13, aNum_0 c_6]; rfl]
      exact act_sw0 hl0 ⟨hx, hb, hml, hown, hts⟩ hr hlocks hR h hT hm hI (lv_sub hl [5, 6, 4, 3, 2, 1, 0] rfl)
  · refine lv_iconst (v := 1) hx hb dL_act_12 (by decide) ?_
    refine lv_goto (tgt := 17) hx hb dL_act_13 (by decide) ?_
    refine lv_istore_n (lv' := [(2, .int 1), (0, .ref (N 0 0)), (1, .int v)]) hx hb dL_act_17 rfl hl (by decide) rfl (fun ls hl => ?_)
    refine lv_iload_n hx hb dL_act_18 rfl (lv_at hl 0 rfl) ?_
    refine lv_if_eq (tgt := 35) hx hb dL_act_19 (by decide) (fun z => absurd z (by decide)) (fun _ => ?_)
    refine lv_iload_n hx hb dL_act_22 rfl (lv_at hl 2 rfl) ?_
    refine lv_iconst (v := 4) hx hb dL_act_23 (by decide) ?_
    refine lv_ishr hx hb dL_act_24 ?_
    refine lv_bipush (v := 10) hx hb dL_act_25 (by decide) ?_
    refine g_calli hI (va_runS (As := [.int (v >>> ((4 : Int32) &&& 31)), .int 10]) (rest := []) ⟨hx, hb, hml, hown, hts⟩ (c_L_low l D cy de f (v >>> ((4 : Int32) &&& 31)) 10 (by decide) H.size) (va_cwS 2 hts gL_act_L_low rfl rfl rfl (by decide +kernel) ⟨Nat.le_of_ble_eq_true rfl, Nat.le_of_ble_eq_true rfl⟩) (g_preS hI) rfl rfl hl.1 rfl (lv_room (Nat.le_of_ble_eq_true rfl)) dL_act_27 ⟨Nat.le_of_ble_eq_true rfl, Nat.le_of_ble_eq_true rfl⟩) (fun r1 f1 H locs hw hI => ?_)
    obtain ⟨hw1, hw2⟩ := hw
    rw [hw1]
    rw [hw2] at hI
    refine lv_iconst (v := 1) hx hb dL_act_30 (by decide) ?_
    refine lv_isub hx hb dL_act_31 ?_
    refine lv_goto (tgt := 42) hx hb dL_act_32 (by decide) ?_
    refine lv_istore_n (lv' := [(3, .int ((loV (v >>> ((4 : Int32) &&& 31)) 10) - 1)), (2, .int 1), (0, .ref (N 0 0)), (1, .int v)]) hx hb dL_act_42 rfl hl (by decide) rfl (fun ls hl => ?_)
    refine lv_iload_n hx hb dL_act_43 rfl (lv_at hl 1 rfl) ?_
    refine lv_if_eq (tgt := 61) hx hb dL_act_44 (by decide) (fun z => absurd z (by decide)) (fun _ => ?_)
    refine lv_iload_n hx hb dL_act_47 rfl (lv_at hl 3 rfl) ?_
    refine lv_bipush (v := 7) hx hb dL_act_48 (by decide) ?_
    refine lv_ishr hx hb dL_act_50 ?_
    refine lv_bipush (v := 6) hx hb dL_act_51 (by decide) ?_
    refine g_calli hI (va_runS (As := [.int (v >>> ((7 : Int32) &&& 31)), .int 6]) (rest := []) ⟨hx, hb, hml, hown, hts⟩ (c_L_low l D cy de f (v >>> ((7 : Int32) &&& 31)) 6 (by decide) H.size) (va_cwS 2 hts gL_act_L_low rfl rfl rfl (by decide +kernel) ⟨Nat.le_of_ble_eq_true rfl, Nat.le_of_ble_eq_true rfl⟩) (g_preS hI) rfl rfl hl.1 rfl (lv_room (Nat.le_of_ble_eq_true rfl)) dL_act_53 ⟨Nat.le_of_ble_eq_true rfl, Nat.le_of_ble_eq_true rfl⟩) (fun r1 f1 H locs hw hI => ?_)
    obtain ⟨hw1, hw2⟩ := hw
    rw [hw1]
    rw [hw2] at hI
    refine lv_iconst (v := 1) hx hb dL_act_56 (by decide) ?_
    refine lv_isub hx hb dL_act_57 ?_
    refine lv_goto (tgt := 69) hx hb dL_act_58 (by decide) ?_
    refine lv_istore (lv' := [(4, .int ((loV (v >>> ((7 : Int32) &&& 31)) 6) - 1)), (3, .int ((loV (v >>> ((4 : Int32) &&& 31)) 10) - 1)), (2, .int 1), (0, .ref (N 0 0)), (1, .int v)]) hx hb dL_act_69 hl (by decide) rfl (fun ls hl => ?_)
    refine lv_iload_n hx hb dL_act_71 rfl (lv_at hl 2 rfl) ?_
    refine lv_if_eq (tgt := 89) hx hb dL_act_72 (by decide) (fun z => absurd z (by decide)) (fun _ => ?_)
    refine lv_iload_n hx hb dL_act_75 rfl (lv_at hl 4 rfl) ?_
    refine lv_bipush (v := 7) hx hb dL_act_76 (by decide) ?_
    refine lv_ishr hx hb dL_act_78 ?_
    refine lv_bipush (v := 8) hx hb dL_act_79 (by decide) ?_
    refine g_calli hI (va_runS (As := [.int (v >>> ((7 : Int32) &&& 31)), .int 8]) (rest := []) ⟨hx, hb, hml, hown, hts⟩ (c_L_low l D cy de f (v >>> ((7 : Int32) &&& 31)) 8 (by decide) H.size) (va_cwS 2 hts gL_act_L_low rfl rfl rfl (by decide +kernel) ⟨Nat.le_of_ble_eq_true rfl, Nat.le_of_ble_eq_true rfl⟩) (g_preS hI) rfl rfl hl.1 rfl (lv_room (Nat.le_of_ble_eq_true rfl)) dL_act_81 ⟨Nat.le_of_ble_eq_true rfl, Nat.le_of_ble_eq_true rfl⟩) (fun r1 f1 H locs hw hI => ?_)
    obtain ⟨hw1, hw2⟩ := hw
    rw [hw1]
    rw [hw2] at hI
    refine lv_iconst (v := 1) hx hb dL_act_84 (by decide) ?_
    refine lv_isub hx hb dL_act_85 ?_
    refine lv_goto (tgt := 97) hx hb dL_act_86 (by decide) ?_
    refine lv_istore (lv' := [(5, .int ((loV (v >>> ((7 : Int32) &&& 31)) 8) - 1)), (4, .int ((loV (v >>> ((7 : Int32) &&& 31)) 6) - 1)), (3, .int ((loV (v >>> ((4 : Int32) &&& 31)) 10) - 1)), (2, .int 1), (0, .ref (N 0 0)), (1, .int v)]) hx hb dL_act_97 hl (by decide) rfl (fun ls hl => ?_)
    refine lv_iload_n hx hb dL_act_99 rfl (lv_at hl 3 rfl) ?_
    refine lv_if_eq (tgt := 116) hx hb dL_act_100 (by decide) (fun z => absurd z (by decide)) (fun _ => ?_)
    refine lv_iload_n hx hb dL_act_103 rfl (lv_at hl 5 rfl) ?_
    refine lv_iconst (v := 4) hx hb dL_act_104 (by decide) ?_
    refine lv_ishr hx hb dL_act_105 ?_
    refine lv_bipush (v := 82) hx hb dL_act_106 (by decide) ?_
    refine g_calli hI (va_runS (As := [.int (v >>> ((4 : Int32) &&& 31)), .int 82]) (rest := []) ⟨hx, hb, hml, hown, hts⟩ (c_L_low l D cy de f (v >>> ((4 : Int32) &&& 31)) 82 (by decide) H.size) (va_cwS 2 hts gL_act_L_low rfl rfl rfl (by decide +kernel) ⟨Nat.le_of_ble_eq_true rfl, Nat.le_of_ble_eq_true rfl⟩) (g_preS hI) rfl rfl hl.1 rfl (lv_room (Nat.le_of_ble_eq_true rfl)) dL_act_108 ⟨Nat.le_of_ble_eq_true rfl, Nat.le_of_ble_eq_true rfl⟩) (fun r1 f1 H locs hw hI => ?_)
    obtain ⟨hw1, hw2⟩ := hw
    rw [hw1]
    rw [hw2] at hI
    refine lv_iconst (v := 1) hx hb dL_act_111 (by decide) ?_
    refine lv_isub hx hb dL_act_112 ?_
    refine lv_goto (tgt := 156) hx hb dL_act_113 (by decide) ?_
    refine lv_istore (lv' := [(6, .int ((loV (v >>> ((4 : Int32) &&& 31)) 82) - 1)), (5, .int ((loV (v >>> ((7 : Int32) &&& 31)) 8) - 1)), (4, .int ((loV (v >>> ((7 : Int32) &&& 31)) 6) - 1)), (3, .int ((loV (v >>> ((4 : Int32) &&& 31)) 10) - 1)), (2, .int 1), (0, .ref (N 0 0)), (1, .int v)]) hx hb dL_act_156 hl (by decide) rfl (fun ls hl => ?_)
    rw [show aX M v = swX M true v ((loV (v >>> ((4 : Int32) &&& 31)) 10) - 1) ((loV (v >>> ((7 : Int32) &&& 31)) 6) - 1) ((loV (v >>> ((7 : Int32) &&& 31)) 8) - 1) ((loV (v >>> ((4 : Int32) &&& 31)) 82) - 1) from by unfold aX; rw [show aOd v = true from decide_eq_true c_1]; rfl]
    exact act_sw1 hl0 ⟨hx, hb, hml, hown, hts⟩ hr hlocks hR h hT hm hI (lv_sub hl [5, 6, 4, 3, 2, 1, 0] rfl)
