-- ===== areKeysSo =====
set_option maxHeartbeats 4000000 in
set_option maxRecDepth 100000 in
theorem keys_loop1 {p : Program} {l : Launch} {e : Env} {s : State} {m : MethodId} {args : Array Value} {below : List Frame} {meth : Method} {c : Code} {D : va_G} {cy : Nat → ClassId} {de : Nat} {A : Nat → Prop} {Q : State → Prop} {f : gFm} {N : gNm} {I M : gMd} {tk T : Nat} (hl0 : l.stackTraces = false) (S : CallFix p m c cL_areKeysSo 5 s args wsL_areKeysSo RL) (hr : meth.sig.returnType = some .boolean) (hlocks : meth.locks = false) (hR : gR cy de N I f) (h : Sim N I M tk T) (hm : mon N I) (kk : ∀ (H : Heap) (locs : List Loc) (ls : Array Slot), gI D cy de A s f H locs → lv_has ls 5 [(0, .ref (N 0 0)), (1, .int (nI (N 0 7)))] → W p l e { frames := 9, cells := 320, slots := 1920, locals := 176 } s m args below meth c H locs 150 900 Q (F0 m 126 ls [])) : ∀ (n k : Nat), k + n = N 0 7 → ∀ (H : Heap) (locs : List Loc) (ls : Array Slot), gI D cy de A s f H locs → lv_has ls 5 [(0, .ref (N 0 0)), (1, .int (nI k)), (2, .int (nI k))] → W p l e { frames := 9, cells := 320, slots := 1920, locals := 176 } s m args below meth c H locs (18 * k) (108 * k) Q (F0 m 4 ls [])
  | 0, k, hn, H, locs, ls, hI, hl => by
    obtain ⟨hx, hb, hml, hown, hts⟩ := id S
    have h8 := gR_nk hR
    have e : k = N 0 7 := hn
    have hk : ¬ k < N 0 7 := by omega
    by_cases hk8 : nI k < 8
    · refine lv_iload_n hx hb dL_areKeysSo_4 rfl (lv_at hl 2 rfl) ?_
      refine lv_bipush (v := 8) hx hb dL_areKeysSo_5 (by decide) ?_
      refine lv_icmp_ge (tgt := 126) hx hb dL_areKeysSo_7 (by decide) (fun z => absurd hk8 (Int32.not_lt.mpr z)) (fun _ => ?_)
      refine lv_aload_n hx hb dL_areKeysSo_10 rfl (lv_at hl 0 rfl) ?_
      refine lv_iload_n hx hb dL_areKeysSo_11 rfl (lv_at hl 2 rfl) ?_
      refine g_calli hI (vx_runSW (As := [.ref (N 0 0), .int (nI k)]) (rest := []) ⟨hx, hb, hml, hown, hts⟩ ((r_creditO l hl0 D cy de f N I hR hk (by omega) h) H.size) (vx_cwSW 2 hts gL_areKeysSo_L_credit rfl rfl rfl (by decide +kernel) ⟨Nat.le_of_ble_eq_true rfl, Nat.le_of_ble_eq_true rfl⟩) (g_preS hI) rfl rfl hl.1 rfl (lv_room (Nat.le_of_ble_eq_true rfl)) dL_areKeysSo_12 ⟨by show 18 * k + 1 ≤ 320; omega, by show 108 * k + 6 ≤ 1920; omega⟩) (fun r1 f1 H locs hw hI => ?_)
      obtain ⟨hw1, hw2⟩ := hw
      rw [hw1]
      rw [hw2] at hI
      refine lv_if_lt (tgt := 126) hx hb dL_areKeysSo_15 (by decide) (fun _ => ?_) (fun z => absurd z (by decide))
      refine W.widen (k := 150) (n := 900) (by omega) (by omega) ?_
      rw [e] at hl
      exact kk H locs ls hI (lv_sub hl [0, 1] rfl)
    · refine lv_iload_n hx hb dL_areKeysSo_4 rfl (lv_at hl 2 rfl) ?_
      refine lv_bipush (v := 8) hx hb dL_areKeysSo_5 (by decide) ?_
      refine lv_icmp_ge (tgt := 126) hx hb dL_areKeysSo_7 (by decide) (fun _ => ?_) (fun z => absurd (Int32.not_le.mp z) hk8)
      refine W.widen (k := 150) (n := 900) (by omega) (by omega) ?_
      rw [e] at hl
      exact kk H locs ls hI (lv_sub hl [0, 1] rfl)
  | n + 1, k, hn, H, locs, ls, hI, hl => by
    obtain ⟨hx, hb, hml, hown, hts⟩ := id S
    have h8 := gR_nk hR
    have hk : k < N 0 7 := by omega
    have hk8 : nI k < 8 := nI_lt (show k < 8 by omega) (by decide)
    obtain ⟨h9, h10, h11, ht, h13⟩ := Sim_ge h hk
    have em := hm k hk
    by_cases hs : (decide (I 9 k = 0) && decide (I 12 k = 0)) = true
    · obtain ⟨z9, z11⟩ := Sim_slow0 h hk hs
      refine lv_iload_n hx hb dL_areKeysSo_4 rfl (lv_at hl 2 rfl) ?_
      refine lv_bipush (v := 8) hx hb dL_areKeysSo_5 (by decide) ?_
      refine lv_icmp_ge (tgt := 126) hx hb dL_areKeysSo_7 (by decide) (fun z => absurd hk8 (Int32.not_lt.mpr z)) (fun _ => ?_)
      refine lv_aload_n hx hb dL_areKeysSo_10 rfl (lv_at hl 0 rfl) ?_
      refine lv_iload_n hx hb dL_areKeysSo_11 rfl (lv_at hl 2 rfl) ?_
      refine g_calli hI (vx_runSW (As := [.ref (N 0 0), .int (nI k)]) (rest := []) ⟨hx, hb, hml, hown, hts⟩ ((r_creditI l hl0 D cy de f N I hR hk h) H.size) (vx_cwSW 2 hts gL_areKeysSo_L_credit rfl rfl rfl (by decide +kernel) ⟨Nat.le_of_ble_eq_true rfl, Nat.le_of_ble_eq_true rfl⟩) (g_preS hI) rfl rfl hl.1 rfl (lv_room (Nat.le_of_ble_eq_true rfl)) dL_areKeysSo_12 ⟨by show 18 * k + 1 ≤ 320; omega, by show 108 * k + 6 ≤ 1920; omega⟩) (fun r1 f1 H locs hw hI => ?_)
      obtain ⟨hw1, hw2⟩ := hw
      rw [hw1]
      rw [hw2] at hI
      refine lv_if_lt (tgt := 126) hx hb dL_areKeysSo_15 (by decide) (fun z => absurd z h9) (fun _ => ?_)
      refine lv_aload_n hx hb dL_areKeysSo_18 rfl (lv_at hl 0 rfl) ?_
      refine lv_iload_n hx hb dL_areKeysSo_19 rfl (lv_at hl 2 rfl) ?_
      refine g_calli hI (va_runV (As := [.int (nI k)]) (rest := []) ⟨hx, hb, hml, hown, hts⟩ ((r_credit l hl0 D cy de f N I hR hk) H.size) (cwV 1 hts gL_areKeysSo_X4_credit rfl rfl rfl (by decide +kernel) ⟨Nat.le_of_ble_eq_true rfl, Nat.le_of_ble_eq_true rfl⟩) (g_preV hI (gR_tg hR) rfl) rfl rfl hl.1 rfl (lv_room (Nat.le_of_ble_eq_true rfl)) dL_areKeysSo_20 ⟨by show 18 * k + 1 + 1 ≤ 320; omega, by show 108 * k + 6 + 6 ≤ 1920; omega⟩) (fun r1 f1 H locs hw hI => ?_)
      obtain ⟨hw1, hw2⟩ := hw
      rw [hw1]
      rw [hw2] at hI
      refine lv_aload_n hx hb dL_areKeysSo_23 rfl (lv_at hl 0 rfl) ?_
      refine lv_iload_n hx hb dL_areKeysSo_24 rfl (lv_at hl 2 rfl) ?_
      refine g_calli hI (va_runV (As := [.int (nI k)]) (rest := [.int (I 9 k)]) ⟨hx, hb, hml, hown, hts⟩ ((r_debt l hl0 D cy de f N I hR hk) H.size) (cwV 1 hts gL_areKeysSo_X4_debt rfl rfl rfl (by decide +kernel) ⟨Nat.le_of_ble_eq_true rfl, Nat.le_of_ble_eq_true rfl⟩) (g_preV hI (gR_tg hR) rfl) rfl rfl hl.1 rfl (lv_room (Nat.le_of_ble_eq_true rfl)) dL_areKeysSo_25 ⟨by show 18 * k + 1 + 1 + 1 ≤ 320; omega, by show 108 * k + 6 + 6 + 6 ≤ 1920; omega⟩) (fun r1 f1 H locs hw hI => ?_)
      obtain ⟨hw1, hw2⟩ := hw
      rw [hw1]
      rw [hw2] at hI
      refine lv_isub hx hb dL_areKeysSo_28 ?_
      refine lv_aload_n hx hb dL_areKeysSo_29 rfl (lv_at hl 0 rfl) ?_
      refine lv_iload_n hx hb dL_areKeysSo_30 rfl (lv_at hl 2 rfl) ?_
      refine g_calli hI (va_runV (As := [.int (nI k)]) (rest := [.int ((I 9 k) - (I 10 k))]) ⟨hx, hb, hml, hown, hts⟩ ((r_held l hl0 D cy de f N I hR hk) H.size) (cwV 1 hts gL_areKeysSo_X4_held rfl rfl rfl (by decide +kernel) ⟨Nat.le_of_ble_eq_true rfl, Nat.le_of_ble_eq_true rfl⟩) (g_preV hI (gR_tg hR) rfl) rfl rfl hl.1 rfl (lv_room (Nat.le_of_ble_eq_true rfl)) dL_areKeysSo_31 ⟨by show 18 * k + 1 + 1 + 1 + 1 ≤ 320; omega, by show 108 * k + 6 + 6 + 6 + 6 ≤ 1920; omega⟩) (fun r1 f1 H locs hw hI => ?_)
      obtain ⟨hw1, hw2⟩ := hw
      rw [hw1]
      rw [hw2] at hI
      refine lv_iadd hx hb dL_areKeysSo_34 ?_
      refine lv_aload_n hx hb dL_areKeysSo_35 rfl (lv_at hl 0 rfl) ?_
      refine lv_iload_n hx hb dL_areKeysSo_36 rfl (lv_at hl 2 rfl) ?_
      refine g_calli hI (va_runV (As := [.int (nI k)]) (rest := [.int (((I 9 k) - (I 10 k)) + (I 11 k))]) ⟨hx, hb, hml, hown, hts⟩ ((r_spent l hl0 D cy de f N I hR hk) H.size) (cwV 1 hts gL_areKeysSo_X4_spent rfl rfl rfl (by decide +kernel) ⟨Nat.le_of_ble_eq_true rfl, Nat.le_of_ble_eq_true rfl⟩) (g_preV hI (gR_tg hR) rfl) rfl rfl hl.1 rfl (lv_room (Nat.le_of_ble_eq_true rfl)) dL_areKeysSo_37 ⟨by show 18 * k + 1 + 1 + 1 + 1 + 1 ≤ 320; omega, by show 108 * k + 6 + 6 + 6 + 6 + 6 ≤ 1920; omega⟩) (fun r1 f1 H locs hw hI => ?_)
      obtain ⟨hw1, hw2⟩ := hw
      rw [hw1]
      rw [hw2] at hI
      refine lv_iadd hx hb dL_areKeysSo_40 ?_
      refine lv_aload_n hx hb dL_areKeysSo_41 rfl (lv_at hl 0 rfl) ?_
      refine lv_iload_n hx hb dL_areKeysSo_42 rfl (lv_at hl 2 rfl) ?_
      refine g_calli hI (va_runV (As := [.int (nI k)]) (rest := [.int ((((I 9 k) - (I 10 k)) + (I 11 k)) + (I 13 k))]) ⟨hx, hb, hml, hown, hts⟩ ((r_paid l hl0 D cy de f N I hR hk) H.size) (cwV 1 hts gL_areKeysSo_X4_paid rfl rfl rfl (by decide +kernel) ⟨Nat.le_of_ble_eq_true rfl, Nat.le_of_ble_eq_true rfl⟩) (g_preV hI (gR_tg hR) rfl) rfl rfl hl.1 rfl (lv_room (Nat.le_of_ble_eq_true rfl)) dL_areKeysSo_43 ⟨by show 18 * k + 1 + 1 + 1 + 1 + 1 + 1 ≤ 320; omega, by show 108 * k + 6 + 6 + 6 + 6 + 6 + 6 ≤ 1920; omega⟩) (fun r1 f1 H locs hw hI => ?_)
      obtain ⟨hw1, hw2⟩ := hw
      rw [hw1]
      rw [hw2] at hI
      refine lv_icmp_ne (tgt := 85) hx hb dL_areKeysSo_46 (by decide) (fun z => absurd em z) (fun _ => ?_)
      refine lv_aload_n hx hb dL_areKeysSo_49 rfl (lv_at hl 0 rfl) ?_
      refine lv_iload_n hx hb dL_areKeysSo_50 rfl (lv_at hl 2 rfl) ?_
      refine g_calli hI (va_runV (As := [.int (nI k)]) (rest := []) ⟨hx, hb, hml, hown, hts⟩ ((r_debt l hl0 D cy de f N I hR hk) H.size) (cwV 1 hts gL_areKeysSo_X4_debt rfl rfl rfl (by decide +kernel) ⟨Nat.le_of_ble_eq_true rfl, Nat.le_of_ble_eq_true rfl⟩) (g_preV hI (gR_tg hR) rfl) rfl rfl hl.1 rfl (lv_room (Nat.le_of_ble_eq_true rfl)) dL_areKeysSo_51 ⟨by show 18 * k + 1 + 1 + 1 + 1 + 1 + 1 + 1 ≤ 320; omega, by show 108 * k + 6 + 6 + 6 + 6 + 6 + 6 + 6 ≤ 1920; omega⟩) (fun r1 f1 H locs hw hI => ?_)
      obtain ⟨hw1, hw2⟩ := hw
      rw [hw1]
      rw [hw2] at hI
      refine lv_if_lt (tgt := 85) hx hb dL_areKeysSo_54 (by decide) (fun z => absurd z h10) (fun _ => ?_)
      refine lv_aload_n hx hb dL_areKeysSo_57 rfl (lv_at hl 0 rfl) ?_
      refine lv_iload_n hx hb dL_areKeysSo_58 rfl (lv_at hl 2 rfl) ?_
      refine g_calli hI (va_runV (As := [.int (nI k)]) (rest := []) ⟨hx, hb, hml, hown, hts⟩ ((r_held l hl0 D cy de f N I hR hk) H.size) (cwV 1 hts gL_areKeysSo_X4_held rfl rfl rfl (by decide +kernel) ⟨Nat.le_of_ble_eq_true rfl, Nat.le_of_ble_eq_true rfl⟩) (g_preV hI (gR_tg hR) rfl) rfl rfl hl.1 rfl (lv_room (Nat.le_of_ble_eq_true rfl)) dL_areKeysSo_59 ⟨by show 18 * k + 1 + 1 + 1 + 1 + 1 + 1 + 1 + 1 ≤ 320; omega, by show 108 * k + 6 + 6 + 6 + 6 + 6 + 6 + 6 + 6 ≤ 1920; omega⟩) (fun r1 f1 H locs hw hI => ?_)
      obtain ⟨hw1, hw2⟩ := hw
      rw [hw1]
      rw [hw2] at hI
      refine lv_if_lt (tgt := 85) hx hb dL_areKeysSo_62 (by decide) (fun z => absurd z h11) (fun _ => ?_)
      refine lv_aload_n hx hb dL_areKeysSo_65 rfl (lv_at hl 0 rfl) ?_
      refine lv_iload_n hx hb dL_areKeysSo_66 rfl (lv_at hl 2 rfl) ?_
      refine g_calli hI (va_runV (As := [.int (nI k)]) (rest := []) ⟨hx, hb, hml, hown, hts⟩ ((r_tokens l hl0 D cy de f N I hR hk) H.size) (cwV 1 hts gL_areKeysSo_X4_tokens rfl rfl rfl (by decide +kernel) ⟨Nat.le_of_ble_eq_true rfl, Nat.le_of_ble_eq_true rfl⟩) (g_preV hI (gR_tg hR) rfl) rfl rfl hl.1 rfl (lv_room (Nat.le_of_ble_eq_true rfl)) dL_areKeysSo_67 ⟨by show 18 * k + 1 + 1 + 1 + 1 + 1 + 1 + 1 + 1 + 1 ≤ 320; omega, by show 108 * k + 6 + 6 + 6 + 6 + 6 + 6 + 6 + 6 + 6 ≤ 1920; omega⟩) (fun r1 f1 H locs hw hI => ?_)
      obtain ⟨hw1, hw2⟩ := hw
      rw [hw1]
      rw [hw2] at hI
      refine lv_if_lt (tgt := 85) hx hb dL_areKeysSo_70 (by decide) (fun z => absurd z ht) (fun _ => ?_)
      refine lv_aload_n hx hb dL_areKeysSo_73 rfl (lv_at hl 0 rfl) ?_
      refine lv_iload_n hx hb dL_areKeysSo_74 rfl (lv_at hl 2 rfl) ?_
      refine g_calli hI (va_runV (As := [.int (nI k)]) (rest := []) ⟨hx, hb, hml, hown, hts⟩ ((r_spent l hl0 D cy de f N I hR hk) H.size) (cwV 1 hts gL_areKeysSo_X4_spent rfl rfl rfl (by decide +kernel) ⟨Nat.le_of_ble_eq_true rfl, Nat.le_of_ble_eq_true rfl⟩) (g_preV hI (gR_tg hR) rfl) rfl rfl hl.1 rfl (lv_room (Nat.le_of_ble_eq_true rfl)) dL_areKeysSo_75 ⟨by show 18 * k + 1 + 1 + 1 + 1 + 1 + 1 + 1 + 1 + 1 + 1 ≤ 320; omega, by show 108 * k + 6 + 6 + 6 + 6 + 6 + 6 + 6 + 6 + 6 + 6 ≤ 1920; omega⟩) (fun r1 f1 H locs hw hI => ?_)
      obtain ⟨hw1, hw2⟩ := hw
      rw [hw1]
      rw [hw2] at hI
      refine lv_if_lt (tgt := 85) hx hb dL_areKeysSo_78 (by decide) (fun z => absurd z h13) (fun _ => ?_)
      refine lv_iconst (v := 1) hx hb dL_areKeysSo_81 (by decide) ?_
      refine lv_goto (tgt := 86) hx hb dL_areKeysSo_82 (by decide) ?_
      refine lv_istore_n (lv' := [(3, .int 1), (0, .ref (N 0 0)), (1, .int (nI k)), (2, .int (nI k))]) hx hb dL_areKeysSo_86 rfl hl (by decide) rfl (fun ls hl => ?_)
      refine lv_iload_n hx hb dL_areKeysSo_87 rfl (lv_at hl 0 rfl) ?_
      refine lv_if_eq (tgt := 115) hx hb dL_areKeysSo_88 (by decide) (fun z => absurd z (by decide)) (fun _ => ?_)
      refine lv_aload_n hx hb dL_areKeysSo_91 rfl (lv_at hl 1 rfl) ?_
      refine lv_iload_n hx hb dL_areKeysSo_92 rfl (lv_at hl 3 rfl) ?_
      refine g_calli hI (va_runV (As := [.int (nI k)]) (rest := []) ⟨hx, hb, hml, hown, hts⟩ ((r_isSlowed l hl0 D cy de f N I hR hk) H.size) (cwV 1 hts gL_areKeysSo_X4_isSlowed rfl rfl rfl (by decide +kernel) ⟨Nat.le_of_ble_eq_true rfl, Nat.le_of_ble_eq_true rfl⟩) (g_preV hI (gR_tg hR) rfl) rfl rfl hl.1 rfl (lv_room (Nat.le_of_ble_eq_true rfl)) dL_areKeysSo_93 ⟨by show 18 * k + 1 + 1 + 1 + 1 + 1 + 1 + 1 + 1 + 1 + 1 + 1 ≤ 320; omega, by show 108 * k + 6 + 6 + 6 + 6 + 6 + 6 + 6 + 6 + 6 + 6 + 6 ≤ 1920; omega⟩) (fun r1 f1 H locs hw hI => ?_)
      obtain ⟨hw1, hw2⟩ := hw
      rw [hw1]
      rw [hw2] at hI
      refine g_b2i_eq (tgt := 117) hx hb dL_areKeysSo_96 (by decide) (fun z => absurd (hs.symm.trans z) (by decide)) (fun _ => ?_)
      refine lv_aload_n hx hb dL_areKeysSo_99 rfl (lv_at hl 1 rfl) ?_
      refine lv_iload_n hx hb dL_areKeysSo_100 rfl (lv_at hl 3 rfl) ?_
      refine g_calli hI (va_runV (As := [.int (nI k)]) (rest := []) ⟨hx, hb, hml, hown, hts⟩ ((r_credit l hl0 D cy de f N I hR hk) H.size) (cwV 1 hts gL_areKeysSo_X4_credit rfl rfl rfl (by decide +kernel) ⟨Nat.le_of_ble_eq_true rfl, Nat.le_of_ble_eq_true rfl⟩) (g_preV hI (gR_tg hR) rfl) rfl rfl hl.1 rfl (lv_room (Nat.le_of_ble_eq_true rfl)) dL_areKeysSo_101 ⟨by show 18 * k + 1 + 1 + 1 + 1 + 1 + 1 + 1 + 1 + 1 + 1 + 1 + 1 ≤ 320; omega, by show 108 * k + 6 + 6 + 6 + 6 + 6 + 6 + 6 + 6 + 6 + 6 + 6 + 6 ≤ 1920; omega⟩) (fun r1 f1 H locs hw hI => ?_)
      obtain ⟨hw1, hw2⟩ := hw
      rw [hw1]
      rw [hw2] at hI
      refine lv_if_ne (tgt := 115) hx hb dL_areKeysSo_104 (by decide) (fun z => absurd z9 z) (fun _ => ?_)
      refine lv_aload_n hx hb dL_areKeysSo_107 rfl (lv_at hl 1 rfl) ?_
      refine lv_iload_n hx hb dL_areKeysSo_108 rfl (lv_at hl 3 rfl) ?_
      refine g_calli hI (va_runV (As := [.int (nI k)]) (rest := []) ⟨hx, hb, hml, hown, hts⟩ ((r_held l hl0 D cy de f N I hR hk) H.size) (cwV 1 hts gL_areKeysSo_X4_held rfl rfl rfl (by decide +kernel) ⟨Nat.le_of_ble_eq_true rfl, Nat.le_of_ble_eq_true rfl⟩) (g_preV hI (gR_tg hR) rfl) rfl rfl hl.1 rfl (lv_room (Nat.le_of_ble_eq_true rfl)) dL_areKeysSo_109 ⟨by show 18 * k + 1 + 1 + 1 + 1 + 1 + 1 + 1 + 1 + 1 + 1 + 1 + 1 + 1 ≤ 320; omega, by show 108 * k + 6 + 6 + 6 + 6 + 6 + 6 + 6 + 6 + 6 + 6 + 6 + 6 + 6 ≤ 1920; omega⟩) (fun r1 f1 H locs hw hI => ?_)
      obtain ⟨hw1, hw2⟩ := hw
      rw [hw1]
      rw [hw2] at hI
      refine lv_if_eq (tgt := 117) hx hb dL_areKeysSo_112 (by decide) (fun _ => ?_) (fun z => absurd z11 z)
      refine lv_iinc (v := (nI k) + 1) (lv' := [(1, .int ((nI k) + 1)), (3, .int 1), (0, .ref (N 0 0)), (2, .int (nI k))]) hx hb dL_areKeysSo_117 hl (k := 2) rfl rfl (by decide) rfl (fun ls hl => ?_)
      refine lv_iinc (v := (nI k) + 1) (lv' := [(2, .int ((nI k) + 1)), (1, .int ((nI k) + 1)), (3, .int 1), (0, .ref (N 0 0))]) hx hb dL_areKeysSo_120 hl (k := 3) rfl rfl (by decide) rfl (fun ls hl => ?_)
      refine lv_goto (tgt := 4) hx hb dL_areKeysSo_123 (by decide) ?_
      rw [nI_1] at hl
      refine W.widen (k := 18 * (k + 1)) (n := 108 * (k + 1)) (by omega) (by omega) ?_
      exact keys_loop1 hl0 S hr hlocks hR h hm kk n (k + 1) (by omega) H locs ls hI (lv_sub hl [3, 1, 0] rfl)
    · have hs := b_f hs
      refine lv_iload_n hx hb dL_areKeysSo_4 rfl (lv_at hl 2 rfl) ?_
      refine lv_bipush (v := 8) hx hb dL_areKeysSo_5 (by decide) ?_
      refine lv_icmp_ge (tgt := 126) hx hb dL_areKeysSo_7 (by decide) (fun z => absurd hk8 (Int32.not_lt.mpr z)) (fun _ => ?_)
      refine lv_aload_n hx hb dL_areKeysSo_10 rfl (lv_at hl 0 rfl) ?_
      refine lv_iload_n hx hb dL_areKeysSo_11 rfl (lv_at hl 2 rfl) ?_
      refine g_calli hI (vx_runSW (As := [.ref (N 0 0), .int (nI k)]) (rest := []) ⟨hx, hb, hml, hown, hts⟩ ((r_creditI l hl0 D cy de f N I hR hk h) H.size) (vx_cwSW 2 hts gL_areKeysSo_L_credit rfl rfl rfl (by decide +kernel) ⟨Nat.le_of_ble_eq_true rfl, Nat.le_of_ble_eq_true rfl⟩) (g_preS hI) rfl rfl hl.1 rfl (lv_room (Nat.le_of_ble_eq_true rfl)) dL_areKeysSo_12 ⟨by show 18 * k + 1 ≤ 320; omega, by show 108 * k + 6 ≤ 1920; omega⟩) (fun r1 f1 H locs hw hI => ?_)
      obtain ⟨hw1, hw2⟩ := hw
      rw [hw1]
      rw [hw2] at hI
      refine lv_if_lt (tgt := 126) hx hb dL_areKeysSo_15 (by decide) (fun z => absurd z h9) (fun _ => ?_)
      refine lv_aload_n hx hb dL_areKeysSo_18 rfl (lv_at hl 0 rfl) ?_
      refine lv_iload_n hx hb dL_areKeysSo_19 rfl (lv_at hl 2 rfl) ?_
      refine g_calli hI (va_runV (As := [.int (nI k)]) (rest := []) ⟨hx, hb, hml, hown, hts⟩ ((r_credit l hl0 D cy de f N I hR hk) H.size) (cwV 1 hts gL_areKeysSo_X4_credit rfl rfl rfl (by decide +kernel) ⟨Nat.le_of_ble_eq_true rfl, Nat.le_of_ble_eq_true rfl⟩) (g_preV hI (gR_tg hR) rfl) rfl rfl hl.1 rfl (lv_room (Nat.le_of_ble_eq_true rfl)) dL_areKeysSo_20 ⟨by show 18 * k + 1 + 1 ≤ 320; omega, by show 108 * k + 6 + 6 ≤ 1920; omega⟩) (fun r1 f1 H locs hw hI => ?_)
      obtain ⟨hw1, hw2⟩ := hw
      rw [hw1]
      rw [hw2] at hI
      refine lv_aload_n hx hb dL_areKeysSo_23 rfl (lv_at hl 0 rfl) ?_
      refine lv_iload_n hx hb dL_areKeysSo_24 rfl (lv_at hl 2 rfl) ?_
      refine g_calli hI (va_runV (As := [.int (nI k)]) (rest := [.int (I 9 k)]) ⟨hx, hb, hml, hown, hts⟩ ((r_debt l hl0 D cy de f N I hR hk) H.size) (cwV 1 hts gL_areKeysSo_X4_debt rfl rfl rfl (by decide +kernel) ⟨Nat.le_of_ble_eq_true rfl, Nat.le_of_ble_eq_true rfl⟩) (g_preV hI (gR_tg hR) rfl) rfl rfl hl.1 rfl (lv_room (Nat.le_of_ble_eq_true rfl)) dL_areKeysSo_25 ⟨by show 18 * k + 1 + 1 + 1 ≤ 320; omega, by show 108 * k + 6 + 6 + 6 ≤ 1920; omega⟩) (fun r1 f1 H locs hw hI => ?_)
      obtain ⟨hw1, hw2⟩ := hw
      rw [hw1]
      rw [hw2] at hI
      refine lv_isub hx hb dL_areKeysSo_28 ?_
      refine lv_aload_n hx hb dL_areKeysSo_29 rfl (lv_at hl 0 rfl) ?_
      refine lv_iload_n hx hb dL_areKeysSo_30 rfl (lv_at hl 2 rfl) ?_
      refine g_calli hI (va_runV (As := [.int (nI k)]) (rest := [.int ((I 9 k) - (I 10 k))]) ⟨hx, hb, hml, hown, hts⟩ ((r_held l hl0 D cy de f N I hR hk) H.size) (cwV 1 hts gL_areKeysSo_X4_held rfl rfl rfl (by decide +kernel) ⟨Nat.le_of_ble_eq_true rfl, Nat.le_of_ble_eq_true rfl⟩) (g_preV hI (gR_tg hR) rfl) rfl rfl hl.1 rfl (lv_room (Nat.le_of_ble_eq_true rfl)) dL_areKeysSo_31 ⟨by show 18 * k + 1 + 1 + 1 + 1 ≤ 320; omega, by show 108 * k + 6 + 6 + 6 + 6 ≤ 1920; omega⟩) (fun r1 f1 H locs hw hI => ?_)
      obtain ⟨hw1, hw2⟩ := hw
      rw [hw1]
      rw [hw2] at hI
      refine lv_iadd hx hb dL_areKeysSo_34 ?_
      refine lv_aload_n hx hb dL_areKeysSo_35 rfl (lv_at hl 0 rfl) ?_
      refine lv_iload_n hx hb dL_areKeysSo_36 rfl (lv_at hl 2 rfl) ?_
      refine g_calli hI (va_runV (As := [.int (nI k)]) (rest := [.int (((I 9 k) - (I 10 k)) + (I 11 k))]) ⟨hx, hb, hml, hown, hts⟩ ((r_spent l hl0 D cy de f N I hR hk) H.size) (cwV 1 hts gL_areKeysSo_X4_spent rfl rfl rfl (by decide +kernel) ⟨Nat.le_of_ble_eq_true rfl, Nat.le_of_ble_eq_true rfl⟩) (g_preV hI (gR_tg hR) rfl) rfl rfl hl.1 rfl (lv_room (Nat.le_of_ble_eq_true rfl)) dL_areKeysSo_37 ⟨by show 18 * k + 1 + 1 + 1 + 1 + 1 ≤ 320; omega, by show 108 * k + 6 + 6 + 6 + 6 + 6 ≤ 1920; omega⟩) (fun r1 f1 H locs hw hI => ?_)
      obtain ⟨hw1, hw2⟩ := hw
      rw [hw1]
      rw [hw2] at hI
      refine lv_iadd hx hb dL_areKeysSo_40 ?_
      refine lv_aload_n hx hb dL_areKeysSo_41 rfl (lv_at hl 0 rfl) ?_
      refine lv_iload_n hx hb dL_areKeysSo_42 rfl (lv_at hl 2 rfl) ?_
      refine g_calli hI (va_runV (As := [.int (nI k)]) (rest := [.int ((((I 9 k) - (I 10 k)) + (I 11 k)) + (I 13 k))]) ⟨hx, hb, hml, hown, hts⟩ ((r_paid l hl0 D cy de f N I hR hk) H.size) (cwV 1 hts gL_areKeysSo_X4_paid rfl rfl rfl (by decide +kernel) ⟨Nat.le_of_ble_eq_true rfl, Nat.le_of_ble_eq_true rfl⟩) (g_preV hI (gR_tg hR) rfl) rfl rfl hl.1 rfl (lv_room (Nat.le_of_ble_eq_true rfl)) dL_areKeysSo_43 ⟨by show 18 * k + 1 + 1 + 1 + 1 + 1 + 1 ≤ 320; omega, by show 108 * k + 6 + 6 + 6 + 6 + 6 + 6 ≤ 1920; omega⟩) (fun r1 f1 H locs hw hI => ?_)
      obtain ⟨hw1, hw2⟩ := hw
      rw [hw1]
      rw [hw2] at hI
      refine lv_icmp_ne (tgt := 85) hx hb dL_areKeysSo_46 (by decide) (fun z => absurd em z) (fun _ => ?_)
      refine lv_aload_n hx hb dL_areKeysSo_49 rfl (lv_at hl 0 rfl) ?_
      refine lv_iload_n hx hb dL_areKeysSo_50 rfl (lv_at hl 2 rfl) ?_
      refine g_calli hI (va_runV (As := [.int (nI k)]) (rest := []) ⟨hx, hb, hml, hown, hts⟩ ((r_debt l hl0 D cy de f N I hR hk) H.size) (cwV 1 hts gL_areKeysSo_X4_debt rfl rfl rfl (by decide +kernel) ⟨Nat.le_of_ble_eq_true rfl, Nat.le_of_ble_eq_true rfl⟩) (g_preV hI (gR_tg hR) rfl) rfl rfl hl.1 rfl (lv_room (Nat.le_of_ble_eq_true rfl)) dL_areKeysSo_51 ⟨by show 18 * k + 1 + 1 + 1 + 1 + 1 + 1 + 1 ≤ 320; omega, by show 108 * k + 6 + 6 + 6 + 6 + 6 + 6 + 6 ≤ 1920; omega⟩) (fun r1 f1 H locs hw hI => ?_)
      obtain ⟨hw1, hw2⟩ := hw
      rw [hw1]
      rw [hw2] at hI
      refine lv_if_lt (tgt := 85) hx hb dL_areKeysSo_54 (by decide) (fun z => absurd z h10) (fun _ => ?_)
      refine lv_aload_n hx hb dL_areKeysSo_57 rfl (lv_at hl 0 rfl) ?_
      refine lv_iload_n hx hb dL_areKeysSo_58 rfl (lv_at hl 2 rfl) ?_
      refine g_calli hI (va_runV (As := [.int (nI k)]) (rest := []) ⟨hx, hb, hml, hown, hts⟩ ((r_held l hl0 D cy de f N I hR hk) H.size) (cwV 1 hts gL_areKeysSo_X4_held rfl rfl rfl (by decide +kernel) ⟨Nat.le_of_ble_eq_true rfl, Nat.le_of_ble_eq_true rfl⟩) (g_preV hI (gR_tg hR) rfl) rfl rfl hl.1 rfl (lv_room (Nat.le_of_ble_eq_true rfl)) dL_areKeysSo_59 ⟨by show 18 * k + 1 + 1 + 1 + 1 + 1 + 1 + 1 + 1 ≤ 320; omega, by show 108 * k + 6 + 6 + 6 + 6 + 6 + 6 + 6 + 6 ≤ 1920; omega⟩) (fun r1 f1 H locs hw hI => ?_)
      obtain ⟨hw1, hw2⟩ := hw
      rw [hw1]
      rw [hw2] at hI
      refine lv_if_lt (tgt := 85) hx hb dL_areKeysSo_62 (by decide) (fun z => absurd z h11) (fun _ => ?_)
      refine lv_aload_n hx hb dL_areKeysSo_65 rfl (lv_at hl 0 rfl) ?_
      refine lv_iload_n hx hb dL_areKeysSo_66 rfl (lv_at hl 2 rfl) ?_
      refine g_calli hI (va_runV (As := [.int (nI k)]) (rest := []) ⟨hx, hb, hml, hown, hts⟩ ((r_tokens l hl0 D cy de f N I hR hk) H.size) (cwV 1 hts gL_areKeysSo_X4_tokens rfl rfl rfl (by decide +kernel) ⟨Nat.le_of_ble_eq_true rfl, Nat.le_of_ble_eq_true rfl⟩) (g_preV hI (gR_tg hR) rfl) rfl rfl hl.1 rfl (lv_room (Nat.le_of_ble_eq_true rfl)) dL_areKeysSo_67 ⟨by show 18 * k + 1 + 1 + 1 + 1 + 1 + 1 + 1 + 1 + 1 ≤ 320; omega, by show 108 * k + 6 + 6 + 6 + 6 + 6 + 6 + 6 + 6 + 6 ≤ 1920; omega⟩) (fun r1 f1 H locs hw hI => ?_)
      obtain ⟨hw1, hw2⟩ := hw
      rw [hw1]
      rw [hw2] at hI
      refine lv_if_lt (tgt := 85) hx hb dL_areKeysSo_70 (by decide) (fun z => absurd z ht) (fun _ => ?_)
      refine lv_aload_n hx hb dL_areKeysSo_73 rfl (lv_at hl 0 rfl) ?_
      refine lv_iload_n hx hb dL_areKeysSo_74 rfl (lv_at hl 2 rfl) ?_
      refine g_calli hI (va_runV (As := [.int (nI k)]) (rest := []) ⟨hx, hb, hml, hown, hts⟩ ((r_spent l hl0 D cy de f N I hR hk) H.size) (cwV 1 hts gL_areKeysSo_X4_spent rfl rfl rfl (by decide +kernel) ⟨Nat.le_of_ble_eq_true rfl, Nat.le_of_ble_eq_true rfl⟩) (g_preV hI (gR_tg hR) rfl) rfl rfl hl.1 rfl (lv_room (Nat.le_of_ble_eq_true rfl)) dL_areKeysSo_75 ⟨by show 18 * k + 1 + 1 + 1 + 1 + 1 + 1 + 1 + 1 + 1 + 1 ≤ 320; omega, by show 108 * k + 6 + 6 + 6 + 6 + 6 + 6 + 6 + 6 + 6 + 6 ≤ 1920; omega⟩) (fun r1 f1 H locs hw hI => ?_)
      obtain ⟨hw1, hw2⟩ := hw
      rw [hw1]
      rw [hw2] at hI
      refine lv_if_lt (tgt := 85) hx hb dL_areKeysSo_78 (by decide) (fun z => absurd z h13) (fun _ => ?_)
      refine lv_iconst (v := 1) hx hb dL_areKeysSo_81 (by decide) ?_
      refine lv_goto (tgt := 86) hx hb dL_areKeysSo_82 (by decide) ?_
      refine lv_istore_n (lv' := [(3, .int 1), (0, .ref (N 0 0)), (1, .int (nI k)), (2, .int (nI k))]) hx hb dL_areKeysSo_86 rfl hl (by decide) rfl (fun ls hl => ?_)
      refine lv_iload_n hx hb dL_areKeysSo_87 rfl (lv_at hl 0 rfl) ?_
      refine lv_if_eq (tgt := 115) hx hb dL_areKeysSo_88 (by decide) (fun z => absurd z (by decide)) (fun _ => ?_)
      refine lv_aload_n hx hb dL_areKeysSo_91 rfl (lv_at hl 1 rfl) ?_
      refine lv_iload_n hx hb dL_areKeysSo_92 rfl (lv_at hl 3 rfl) ?_
      refine g_calli hI (va_runV (As := [.int (nI k)]) (rest := []) ⟨hx, hb, hml, hown, hts⟩ ((r_isSlowed l hl0 D cy de f N I hR hk) H.size) (cwV 1 hts gL_areKeysSo_X4_isSlowed rfl rfl rfl (by decide +kernel) ⟨Nat.le_of_ble_eq_true rfl, Nat.le_of_ble_eq_true rfl⟩) (g_preV hI (gR_tg hR) rfl) rfl rfl hl.1 rfl (lv_room (Nat.le_of_ble_eq_true rfl)) dL_areKeysSo_93 ⟨by show 18 * k + 1 + 1 + 1 + 1 + 1 + 1 + 1 + 1 + 1 + 1 + 1 ≤ 320; omega, by show 108 * k + 6 + 6 + 6 + 6 + 6 + 6 + 6 + 6 + 6 + 6 + 6 ≤ 1920; omega⟩) (fun r1 f1 H locs hw hI => ?_)
      obtain ⟨hw1, hw2⟩ := hw
      rw [hw1]
      rw [hw2] at hI
      refine g_b2i_eq (tgt := 117) hx hb dL_areKeysSo_96 (by decide) (fun _ => ?_) (fun z => absurd (hs.symm.trans z) (by decide))
      refine lv_iinc (v := (nI k) + 1) (lv' := [(1, .int ((nI k) + 1)), (3, .int 1), (0, .ref (N 0 0)), (2, .int (nI k))]) hx hb dL_areKeysSo_117 hl (k := 2) rfl rfl (by decide) rfl (fun ls hl => ?_)
      refine lv_iinc (v := (nI k) + 1) (lv' := [(2, .int ((nI k) + 1)), (1, .int ((nI k) + 1)), (3, .int 1), (0, .ref (N 0 0))]) hx hb dL_areKeysSo_120 hl (k := 3) rfl rfl (by decide) rfl (fun ls hl => ?_)
      refine lv_goto (tgt := 4) hx hb dL_areKeysSo_123 (by decide) ?_
      rw [nI_1] at hl
      refine W.widen (k := 18 * (k + 1)) (n := 108 * (k + 1)) (by omega) (by omega) ?_
      exact keys_loop1 hl0 S hr hlocks hR h hm kk n (k + 1) (by omega) H locs ls hI (lv_sub hl [3, 1, 0] rfl)

set_option maxHeartbeats 4000000 in
set_option maxRecDepth 100000 in
theorem keys_loop2 {p : Program} {l : Launch} {e : Env} {s : State} {m : MethodId} {args : Array Value} {below : List Frame} {meth : Method} {c : Code} {D : va_G} {cy : Nat → ClassId} {de : Nat} {A : Nat → Prop} {Q : State → Prop} {f : gFm} {N : gNm} {I M : gMd} {tk T : Nat} (hl0 : l.stackTraces = false) (S : CallFix p m c cL_areKeysSo 5 s args wsL_areKeysSo RL) (hr : meth.sig.returnType = some .boolean) (hlocks : meth.locks = false) (hR : gR cy de N I f) (h : Sim N I M tk T) (kk : ∀ (H : Heap) (locs : List Loc) (ls : Array Slot), gI D cy de A s f H locs → lv_has ls 5 [(0, .ref (N 0 0)), (1, .int (nI (N 0 7))), (2, .int (sL (M 18) (N 0 8))), (3, .int 0)] → W p l e { frames := 9, cells := 320, slots := 1920, locals := 176 } s m args below meth c H locs 310 1860 Q (F0 m 170 ls [])) : ∀ (n k : Nat), k + n = N 0 8 → ∀ (H : Heap) (locs : List Loc) (ls : Array Slot), gI D cy de A s f H locs → lv_has ls 5 [(0, .ref (N 0 0)), (1, .int (nI (N 0 7))), (2, .int (sL (M 18) k)), (3, .int 0), (4, .int (nI k))] → W p l e { frames := 9, cells := 320, slots := 1920, locals := 176 } s m args below meth c H locs (150 + 2 * k) (900 + 12 * k) Q (F0 m 133 ls [])
  | 0, k, hn, H, locs, ls, hI, hl => by
    obtain ⟨hx, hb, hml, hown, hts⟩ := id S
    have h80 := gR_nc hR
    have e : k = N 0 8 := hn
    have hk8 : ¬ nI k < nI (N 0 8) := by
      rw [e]
      exact Int32.lt_irrefl
    refine lv_iload hx hb dL_areKeysSo_133 (lv_at hl 4 rfl) ?_
    refine lv_aload_n hx hb dL_areKeysSo_135 rfl (lv_at hl 0 rfl) ?_
    refine g_calli hI (va_runV (As := []) (rest := [.int (nI k)]) ⟨hx, hb, hml, hown, hts⟩ ((c_X4_calls l D cy de f N I hR) H.size) (cwV 0 hts gL_areKeysSo_X4_calls rfl rfl rfl (by decide +kernel) ⟨Nat.le_of_ble_eq_true rfl, Nat.le_of_ble_eq_true rfl⟩) (g_preV hI (gR_tg hR) rfl) rfl rfl hl.1 rfl (lv_room (Nat.le_of_ble_eq_true rfl)) dL_areKeysSo_136 ⟨by show 150 + 2 * k + 0 ≤ 320; omega, by show 900 + 12 * k + 0 ≤ 1920; omega⟩) (fun r1 f1 H locs hw hI => ?_)
    obtain ⟨hw1, hw2⟩ := hw
    rw [hw1]
    rw [hw2] at hI
    refine lv_icmp_ge (tgt := 170) hx hb dL_areKeysSo_139 (by decide) (fun _ => ?_) (fun z => absurd (Int32.not_le.mp z) hk8)
    refine W.widen (k := 310) (n := 1860) (by omega) (by omega) ?_
    rw [e] at hl
    exact kk H locs ls hI (lv_sub hl [0, 1, 2, 3] rfl)
  | n + 1, k, hn, H, locs, ls, hI, hl => by
    obtain ⟨hx, hb, hml, hown, hts⟩ := id S
    have h80 := gR_nc hR
    have hk : k < N 0 8 := by omega
    have hk8 : nI k < nI (N 0 8) := nI_lt hk (by omega)
    by_cases hc : 0 < I 18 k
    · have hM : sL (M 18) k + I 18 k = sL (M 18) (k + 1) := by
        show _ = sL (M 18) k + M 18 k
        rw [Sim_costP h hk hc]
      refine lv_iload hx hb dL_areKeysSo_133 (lv_at hl 4 rfl) ?_
      refine lv_aload_n hx hb dL_areKeysSo_135 rfl (lv_at hl 0 rfl) ?_
      refine g_calli hI (va_runV (As := []) (rest := [.int (nI k)]) ⟨hx, hb, hml, hown, hts⟩ ((c_X4_calls l D cy de f N I hR) H.size) (cwV 0 hts gL_areKeysSo_X4_calls rfl rfl rfl (by decide +kernel) ⟨Nat.le_of_ble_eq_true rfl, Nat.le_of_ble_eq_true rfl⟩) (g_preV hI (gR_tg hR) rfl) rfl rfl hl.1 rfl (lv_room (Nat.le_of_ble_eq_true rfl)) dL_areKeysSo_136 ⟨by show 150 + 2 * k + 0 ≤ 320; omega, by show 900 + 12 * k + 0 ≤ 1920; omega⟩) (fun r1 f1 H locs hw hI => ?_)
      obtain ⟨hw1, hw2⟩ := hw
      rw [hw1]
      rw [hw2] at hI
      refine lv_icmp_ge (tgt := 170) hx hb dL_areKeysSo_139 (by decide) (fun z => absurd hk8 (Int32.not_lt.mpr z)) (fun _ => ?_)
      refine lv_iload_n hx hb dL_areKeysSo_142 rfl (lv_at hl 2 rfl) ?_
      refine lv_aload_n hx hb dL_areKeysSo_143 rfl (lv_at hl 0 rfl) ?_
      refine lv_iload hx hb dL_areKeysSo_144 (lv_at hl 4 rfl) ?_
      refine g_calli hI (va_runV (As := [.int (nI k)]) (rest := [.int (sL (M 18) k)]) ⟨hx, hb, hml, hown, hts⟩ ((r_cost l hl0 D cy de f N I hR hk) H.size) (cwV 1 hts gL_areKeysSo_X4_cost rfl rfl rfl (by decide +kernel) ⟨Nat.le_of_ble_eq_true rfl, Nat.le_of_ble_eq_true rfl⟩) (g_preV hI (gR_tg hR) rfl) rfl rfl hl.1 rfl (lv_room (Nat.le_of_ble_eq_true rfl)) dL_areKeysSo_146 ⟨by show 150 + 2 * k + 0 + 1 ≤ 320; omega, by show 900 + 12 * k + 0 + 6 ≤ 1920; omega⟩) (fun r1 f1 H locs hw hI => ?_)
      obtain ⟨hw1, hw2⟩ := hw
      rw [hw1]
      rw [hw2] at hI
      refine lv_if_le (tgt := 161) hx hb dL_areKeysSo_149 (by decide) (fun z => absurd hc (Int32.not_lt.mpr z)) (fun _ => ?_)
      refine lv_aload_n hx hb dL_areKeysSo_152 rfl (lv_at hl 0 rfl) ?_
      refine lv_iload hx hb dL_areKeysSo_153 (lv_at hl 4 rfl) ?_
      refine g_calli hI (va_runV (As := [.int (nI k)]) (rest := [.int (sL (M 18) k)]) ⟨hx, hb, hml, hown, hts⟩ ((r_cost l hl0 D cy de f N I hR hk) H.size) (cwV 1 hts gL_areKeysSo_X4_cost rfl rfl rfl (by decide +kernel) ⟨Nat.le_of_ble_eq_true rfl, Nat.le_of_ble_eq_true rfl⟩) (g_preV hI (gR_tg hR) rfl) rfl rfl hl.1 rfl (lv_room (Nat.le_of_ble_eq_true rfl)) dL_areKeysSo_155 ⟨by show 150 + 2 * k + 0 + 1 + 1 ≤ 320; omega, by show 900 + 12 * k + 0 + 6 + 6 ≤ 1920; omega⟩) (fun r1 f1 H locs hw hI => ?_)
      obtain ⟨hw1, hw2⟩ := hw
      rw [hw1]
      rw [hw2] at hI
      refine lv_goto (tgt := 162) hx hb dL_areKeysSo_158 (by decide) ?_
      refine lv_iadd hx hb dL_areKeysSo_162 ?_
      refine lv_istore_n (lv' := [(2, .int ((sL (M 18) k) + (I 18 k))), (0, .ref (N 0 0)), (1, .int (nI (N 0 7))), (3, .int 0), (4, .int (nI k))]) hx hb dL_areKeysSo_163 rfl hl (by decide) rfl (fun ls hl => ?_)
      refine lv_iinc (v := (nI k) + 1) (lv' := [(4, .int ((nI k) + 1)), (2, .int ((sL (M 18) k) + (I 18 k))), (0, .ref (N 0 0)), (1, .int (nI (N 0 7))), (3, .int 0)]) hx hb dL_areKeysSo_164 hl (k := 4) rfl rfl (by decide) rfl (fun ls hl => ?_)
      refine lv_goto (tgt := 133) hx hb dL_areKeysSo_167 (by decide) ?_
      rw [nI_1, hM] at hl
      refine W.widen (k := 150 + 2 * (k + 1)) (n := 900 + 12 * (k + 1)) (by omega) (by omega) ?_
      exact keys_loop2 hl0 S hr hlocks hR h kk n (k + 1) (by omega) H locs ls hI (lv_sub hl [2, 3, 1, 4, 0] rfl)
    · have hM : sL (M 18) k + 0 = sL (M 18) (k + 1) := by
        show _ = sL (M 18) k + M 18 k
        rw [Sim_costN h hk hc]
      refine lv_iload hx hb dL_areKeysSo_133 (lv_at hl 4 rfl) ?_
      refine lv_aload_n hx hb dL_areKeysSo_135 rfl (lv_at hl 0 rfl) ?_
      refine g_calli hI (va_runV (As := []) (rest := [.int (nI k)]) ⟨hx, hb, hml, hown, hts⟩ ((c_X4_calls l D cy de f N I hR) H.size) (cwV 0 hts gL_areKeysSo_X4_calls rfl rfl rfl (by decide +kernel) ⟨Nat.le_of_ble_eq_true rfl, Nat.le_of_ble_eq_true rfl⟩) (g_preV hI (gR_tg hR) rfl) rfl rfl hl.1 rfl (lv_room (Nat.le_of_ble_eq_true rfl)) dL_areKeysSo_136 ⟨by show 150 + 2 * k + 0 ≤ 320; omega, by show 900 + 12 * k + 0 ≤ 1920; omega⟩) (fun r1 f1 H locs hw hI => ?_)
      obtain ⟨hw1, hw2⟩ := hw
      rw [hw1]
      rw [hw2] at hI
      refine lv_icmp_ge (tgt := 170) hx hb dL_areKeysSo_139 (by decide) (fun z => absurd hk8 (Int32.not_lt.mpr z)) (fun _ => ?_)
      refine lv_iload_n hx hb dL_areKeysSo_142 rfl (lv_at hl 2 rfl) ?_
      refine lv_aload_n hx hb dL_areKeysSo_143 rfl (lv_at hl 0 rfl) ?_
      refine lv_iload hx hb dL_areKeysSo_144 (lv_at hl 4 rfl) ?_
      refine g_calli hI (va_runV (As := [.int (nI k)]) (rest := [.int (sL (M 18) k)]) ⟨hx, hb, hml, hown, hts⟩ ((r_cost l hl0 D cy de f N I hR hk) H.size) (cwV 1 hts gL_areKeysSo_X4_cost rfl rfl rfl (by decide +kernel) ⟨Nat.le_of_ble_eq_true rfl, Nat.le_of_ble_eq_true rfl⟩) (g_preV hI (gR_tg hR) rfl) rfl rfl hl.1 rfl (lv_room (Nat.le_of_ble_eq_true rfl)) dL_areKeysSo_146 ⟨by show 150 + 2 * k + 0 + 1 ≤ 320; omega, by show 900 + 12 * k + 0 + 6 ≤ 1920; omega⟩) (fun r1 f1 H locs hw hI => ?_)
      obtain ⟨hw1, hw2⟩ := hw
      rw [hw1]
      rw [hw2] at hI
      refine lv_if_le (tgt := 161) hx hb dL_areKeysSo_149 (by decide) (fun _ => ?_) (fun z => absurd (Int32.not_le.mp z) hc)
      refine lv_iconst (v := 0) hx hb dL_areKeysSo_161 (by decide) ?_
      refine lv_iadd hx hb dL_areKeysSo_162 ?_
      refine lv_istore_n (lv' := [(2, .int ((sL (M 18) k) + 0)), (0, .ref (N 0 0)), (1, .int (nI (N 0 7))), (3, .int 0), (4, .int (nI k))]) hx hb dL_areKeysSo_163 rfl hl (by decide) rfl (fun ls hl => ?_)
      refine lv_iinc (v := (nI k) + 1) (lv' := [(4, .int ((nI k) + 1)), (2, .int ((sL (M 18) k) + 0)), (0, .ref (N 0 0)), (1, .int (nI (N 0 7))), (3, .int 0)]) hx hb dL_areKeysSo_164 hl (k := 4) rfl rfl (by decide) rfl (fun ls hl => ?_)
      refine lv_goto (tgt := 133) hx hb dL_areKeysSo_167 (by decide) ?_
      rw [nI_1, hM] at hl
      refine W.widen (k := 150 + 2 * (k + 1)) (n := 900 + 12 * (k + 1)) (by omega) (by omega) ?_
      exact keys_loop2 hl0 S hr hlocks hR h kk n (k + 1) (by omega) H locs ls hI (lv_sub hl [2, 3, 1, 4, 0] rfl)

set_option maxHeartbeats 4000000 in
set_option maxRecDepth 100000 in
theorem keys_loop3 {p : Program} {l : Launch} {e : Env} {s : State} {m : MethodId} {args : Array Value} {below : List Frame} {meth : Method} {c : Code} {D : va_G} {cy : Nat → ClassId} {de : Nat} {A : Nat → Prop} {f : gFm} {N : gNm} {I M : gMd} {tk T : Nat} (hl0 : l.stackTraces = false) (S : CallFix p m c cL_areKeysSo 5 s args wsL_areKeysSo RL) (hr : meth.sig.returnType = some .boolean) (hlocks : meth.locks = false) (hR : gR cy de N I f) (h : Sim N I M tk T) : ∀ (n k : Nat), k + n = N 0 7 → ∀ (H : Heap) (locs : List Loc) (ls : Array Slot), gI D cy de A s f H locs → lv_has ls 5 [(0, .ref (N 0 0)), (1, .int (nI (N 0 7))), (2, .int (sL (M 18) (N 0 8))), (3, .int (sL (I 13) k)), (4, .int (nI k))] → W p l e { frames := 9, cells := 320, slots := 1920, locals := 176 } s m args below meth c H locs (310 + 1 * k) (1860 + 6 * k) (MQ below (va_Qi (fun r9 f9 => r9 = 1 ∧ f9 = f) (gB D A) A) args s 320 1920 A) (F0 m 173 ls [])
  | 0, k, hn, H, locs, ls, hI, hl => by
    obtain ⟨hx, hb, hml, hown, hts⟩ := id S
    have h8 := gR_nk hR
    have e : k = N 0 7 := hn
    have hk8 : ¬ nI k < nI (N 0 7) := by
      rw [e]
      exact Int32.lt_irrefl
    have hsum : sL (M 18) (N 0 8) = sL (I 13) k := by
      rw [e]
      exact Sim_sum h
    refine lv_iload hx hb dL_areKeysSo_173 (lv_at hl 4 rfl) ?_
    refine lv_iload_n hx hb dL_areKeysSo_175 rfl (lv_at hl 1 rfl) ?_
    refine lv_icmp_ge (tgt := 194) hx hb dL_areKeysSo_176 (by decide) (fun _ => ?_) (fun z => absurd (Int32.not_le.mp z) hk8)
    refine lv_iload_n hx hb dL_areKeysSo_194 rfl (lv_at hl 2 rfl) ?_
    refine lv_iload_n hx hb dL_areKeysSo_195 rfl (lv_at hl 3 rfl) ?_
    refine lv_icmp_ne (tgt := 203) hx hb dL_areKeysSo_196 (by decide) (fun z => absurd hsum z) (fun _ => ?_)
    refine lv_iconst (v := 1) hx hb dL_areKeysSo_199 (by decide) ?_
    refine lv_goto (tgt := 204) hx hb dL_areKeysSo_200 (by decide) ?_
    exact g_zret hx hb hr hlocks hI rfl ⟨rfl, rfl⟩ (by omega) (by omega) dL_areKeysSo_204
  | n + 1, k, hn, H, locs, ls, hI, hl => by
    obtain ⟨hx, hb, hml, hown, hts⟩ := id S
    have h8 := gR_nk hR
    have hk : k < N 0 7 := by omega
    have hk8 : nI k < nI (N 0 7) := nI_lt hk (by omega)
    refine lv_iload hx hb dL_areKeysSo_173 (lv_at hl 4 rfl) ?_
    refine lv_iload_n hx hb dL_areKeysSo_175 rfl (lv_at hl 1 rfl) ?_
    refine lv_icmp_ge (tgt := 194) hx hb dL_areKeysSo_176 (by decide) (fun z => absurd hk8 (Int32.not_lt.mpr z)) (fun _ => ?_)
    refine lv_iload_n hx hb dL_areKeysSo_179 rfl (lv_at hl 3 rfl) ?_
    refine lv_aload_n hx hb dL_areKeysSo_180 rfl (lv_at hl 0 rfl) ?_
    refine lv_iload hx hb dL_areKeysSo_181 (lv_at hl 4 rfl) ?_
    refine g_calli hI (va_runV (As := [.int (nI k)]) (rest := [.int (sL (I 13) k)]) ⟨hx, hb, hml, hown, hts⟩ ((r_spent l hl0 D cy de f N I hR hk) H.size) (cwV 1 hts gL_areKeysSo_X4_spent rfl rfl rfl (by decide +kernel) ⟨Nat.le_of_ble_eq_true rfl, Nat.le_of_ble_eq_true rfl⟩) (g_preV hI (gR_tg hR) rfl) rfl rfl hl.1 rfl (lv_room (Nat.le_of_ble_eq_true rfl)) dL_areKeysSo_183 ⟨by show 310 + 1 * k + 1 ≤ 320; omega, by show 1860 + 6 * k + 6 ≤ 1920; omega⟩) (fun r1 f1 H locs hw hI => ?_)
    obtain ⟨hw1, hw2⟩ := hw
    rw [hw1]
    rw [hw2] at hI
    refine lv_iadd hx hb dL_areKeysSo_186 ?_
    refine lv_istore_n (lv' := [(3, .int ((sL (I 13) k) + (I 13 k))), (0, .ref (N 0 0)), (1, .int (nI (N 0 7))), (2, .int (sL (M 18) (N 0 8))), (4, .int (nI k))]) hx hb dL_areKeysSo_187 rfl hl (by decide) rfl (fun ls hl => ?_)
    refine lv_iinc (v := (nI k) + 1) (lv' := [(4, .int ((nI k) + 1)), (3, .int ((sL (I 13) k) + (I 13 k))), (0, .ref (N 0 0)), (1, .int (nI (N 0 7))), (2, .int (sL (M 18) (N 0 8)))]) hx hb dL_areKeysSo_188 hl (k := 4) rfl rfl (by decide) rfl (fun ls hl => ?_)
    refine lv_goto (tgt := 173) hx hb dL_areKeysSo_191 (by decide) ?_
    rw [nI_1, show sL (I 13) k + I 13 k = sL (I 13) (k + 1) from rfl] at hl
    refine W.widen (k := 310 + 1 * (k + 1)) (n := 1860 + 6 * (k + 1)) (by omega) (by omega) ?_
    exact keys_loop3 hl0 S hr hlocks hR h n (k + 1) (by omega) H locs ls hI (lv_sub hl [2, 3, 4, 1, 0] rfl)

set_option maxHeartbeats 4000000 in
set_option maxRecDepth 100000 in
theorem c_L_areKeysSo (l : Launch) (hl0 : l.stackTraces = false) (D : va_G) (cy : Nat → ClassId) (de : Nat) (f : gFm) (N : gNm) (I : gMd) (hR : gR cy de N I f) {M : gMd} {tk T : Nat} (h : Sim N I M tk T) (hm : mon N I) : gMi l yL_areKeysSo wsL_areKeysSo { frames := 9, cells := 320, slots := 1920, locals := 176 } D cy de [.ref (N 0 0)] f (fun r9 f9 => r9 = 1 ∧ f9 = f) 320 1920 := by
  refine fun sz => Met.ofW (cc := cL_areKeysSo) (maxL := 5) (ret := (some .boolean)) (by decide) rfl ?_
  intro p e s m args below meth c s₁ B hml hv
  obtain ⟨rfl, hv⟩ := hv
  obtain ⟨rfl, hI⟩ := gP_I hv
  have hx := B.exec
  have hb := B.bytes
  have hr := B.returns
  have hts := atoms_spec (ws := wsL_areKeysSo) B.pre
  have hown : s.vm.findClass RL = some m.cls := findClass_of_methodNamed B.named
  have hlocks := B.notSynchronized
  have hl := lv_entry ([.ref (N 0 0)]) (n := 5) (Nat.le_of_ble_eq_true rfl)
  rw [lg_entry_eq]
  generalize (lg_sl ([.ref (N 0 0)]) ++ List.replicate (5 - (lg_sl ([.ref (N 0 0)])).length) Slot.unset).toArray = ls at hl ⊢
  have hl : lv_has ls 5 [(0, .ref (N 0 0))] := hl
  refine lv_iconst (v := 0) hx hb dL_areKeysSo_0 (by decide) ?_
  refine lv_istore_n (lv' := [(1, .int 0), (0, .ref (N 0 0))]) hx hb dL_areKeysSo_1 rfl hl (by decide) rfl (fun ls hl => ?_)
  refine lv_iconst (v := 0) hx hb dL_areKeysSo_2 (by decide) ?_
  refine lv_istore_n (lv' := [(2, .int 0), (1, .int 0), (0, .ref (N 0 0))]) hx hb dL_areKeysSo_3 rfl hl (by decide) rfl (fun ls hl => ?_)
  rw [show (0 : Int32) = nI 0 from nI_0.symm] at hl
  refine keys_loop1 hl0 ⟨hx, hb, hml, hown, hts⟩ hr hlocks hR h hm (fun H locs ls hI hl => ?_) (N 0 7) 0 (Nat.zero_add _) _ _ ls hI (lv_sub hl [2, 1, 0] rfl)
  refine lv_iconst (v := 0) hx hb dL_areKeysSo_126 (by decide) ?_
  refine lv_istore_n (lv' := [(2, .int 0), (0, .ref (N 0 0)), (1, .int (nI (N 0 7)))]) hx hb dL_areKeysSo_127 rfl hl (by decide) rfl (fun ls hl => ?_)
  refine lv_iconst (v := 0) hx hb dL_areKeysSo_128 (by decide) ?_
  refine lv_istore_n (lv' := [(3, .int 0), (2, .int 0), (0, .ref (N 0 0)), (1, .int (nI (N 0 7)))]) hx hb dL_areKeysSo_129 rfl hl (by decide) rfl (fun ls hl => ?_)
  refine lv_iconst (v := 0) hx hb dL_areKeysSo_130 (by decide) ?_
  refine lv_istore (lv' := [(4, .int 0), (3, .int 0), (2, .int 0), (0, .ref (N 0 0)), (1, .int (nI (N 0 7)))]) hx hb dL_areKeysSo_131 hl (by decide) rfl (fun ls hl => ?_)
  refine keys_loop2 hl0 ⟨hx, hb, hml, hown, hts⟩ hr hlocks hR h (fun H locs ls hI hl => ?_) (N 0 8) 0 (Nat.zero_add _) _ _ ls hI (lv_sub (show lv_has ls 5 [(4, .int (nI 0)), (3, .int 0), (2, .int (sL (M 18) 0)), (0, .ref (N 0 0)), (1, .int (nI (N 0 7)))] from by rw [nI_0]; exact hl) [3, 4, 2, 1, 0] rfl)
  refine lv_iconst (v := 0) hx hb dL_areKeysSo_170 (by decide) ?_
  refine lv_istore (lv' := [(4, .int 0), (0, .ref (N 0 0)), (1, .int (nI (N 0 7))), (2, .int (sL (M 18) (N 0 8))), (3, .int 0)]) hx hb dL_areKeysSo_171 hl (by decide) rfl (fun ls hl => ?_)
  exact keys_loop3 hl0 ⟨hx, hb, hml, hown, hts⟩ hr hlocks hR h (N 0 7) 0 (Nat.zero_add _) _ _ ls hI (lv_sub (show lv_has ls 5 [(4, .int (nI 0)), (0, .ref (N 0 0)), (1, .int (nI (N 0 7))), (2, .int (sL (M 18) (N 0 8))), (3, .int (sL (I 13) 0))] from by rw [nI_0]; exact hl) [1, 2, 3, 4, 0] rfl)
