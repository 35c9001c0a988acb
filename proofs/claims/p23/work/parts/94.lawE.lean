-- ===== areAlike =====
set_option maxHeartbeats 4000000 in
set_option maxRecDepth 100000 in
theorem alike_loop {p : Program} {l : Launch} {e : Env} {s : State} {m : MethodId} {args : Array Value} {below : List Frame} {meth : Method} {c : Code} {D : va_G} {cy : Nat → ClassId} {de : Nat} {A : Nat → Prop} {fo fp : gFm} {No Np : gNm} {Io Ip M : gMd} {tk1 tk2 T1 T2 : Nat} (hl0 : l.stackTraces = false) (S : CallFix p m c cL_areAlike 4 s args wsL_areAlike RL) (hr : meth.sig.returnType = some .boolean) (hlocks : meth.locks = false) (hRo : gR cy de No Io fo) (hRp : gR cy de Np Ip fp) (hd : gDj fo fp) (ho : Sim No Io M tk1 T1) (hp : Sim Np Ip M tk2 T2) : ∀ (n k : Nat), k + n = 8 → ∀ (H : Heap) (locs : List Loc) (ls : Array Slot), gI D cy de A s (gJ fo fp) H locs → lv_has ls 4 [(0, .ref (No 0 0)), (1, .ref (Np 0 0)), (2, .int 1), (3, .int (nI k))] → W p l e { frames := 9, cells := 200, slots := 1200, locals := 176 } s m args below meth c H locs (20 * k) (120 * k) (MQ below (va_Qi (fun r9 f9 => r9 = 1 ∧ f9 = gJ fo fp) (gB D A) A) args s 200 1200 A) (F0 m 30 ls [])
  | 0, k, hn, H, locs, ls, hI, hl => by
    obtain ⟨hx, hb, hml, hown, hts⟩ := id S
    have hk8 : ¬ nI k < 8 := by
      rw [show k = 8 by omega]
      decide
    refine lv_iload_n hx hb dL_areAlike_30 rfl (lv_at hl 3 rfl) ?_
    refine lv_bipush (v := 8) hx hb dL_areAlike_31 (by decide) ?_
    refine lv_icmp_ge (tgt := 138) hx hb dL_areAlike_33 (by decide) (fun _ => ?_) (fun z => absurd (Int32.not_le.mp z) hk8)
    refine lv_iload_n hx hb dL_areAlike_138 rfl (lv_at hl 2 rfl) ?_
    exact g_zret hx hb hr hlocks hI rfl ⟨rfl, rfl⟩ (by omega) (by omega) dL_areAlike_139
  | n + 1, k, hn, H, locs, ls, hI, hl => by
    obtain ⟨hx, hb, hml, hown, hts⟩ := id S
    obtain ⟨e7, e8, e0, eq⟩ := Sim_two ho hp
    have hk8 : nI k < 8 := nI_lt (show k < 8 by omega) (by decide)
    by_cases hko : k < No 0 7
    · have hkp : k < Np 0 7 := by rw [← e7]; exact hko
      obtain ⟨e9, e10, e11, et, e13, e12⟩ := eq k hko
      obtain ⟨h9, -⟩ := Sim_ge ho hko
      have es : b2i (decide (Io 9 k = 0) && decide (Io 12 k = 0)) = b2i (decide (Ip 9 k = 0) && decide (Ip 12 k = 0)) := by rw [e9, e12]
      refine lv_iload_n hx hb dL_areAlike_30 rfl (lv_at hl 3 rfl) ?_
      refine lv_bipush (v := 8) hx hb dL_areAlike_31 (by decide) ?_
      refine lv_icmp_ge (tgt := 138) hx hb dL_areAlike_33 (by decide) (fun z => absurd hk8 (Int32.not_lt.mpr z)) (fun _ => ?_)
      refine lv_aload_n hx hb dL_areAlike_36 rfl (lv_at hl 0 rfl) ?_
      refine lv_iload_n hx hb dL_areAlike_37 rfl (lv_at hl 3 rfl) ?_
      refine g_calli hI (vx_runSW (As := [.ref (No 0 0), .int (nI k)]) (rest := []) ⟨hx, hb, hml, hown, hts⟩ (gMi_rL (r_creditI l hl0 D cy de fo No Io hRo hko ho) hd H.size) (vx_cwSW 2 hts gL_areAlike_L_credit rfl rfl rfl (by decide +kernel) ⟨Nat.le_of_ble_eq_true rfl, Nat.le_of_ble_eq_true rfl⟩) (g_preS hI) rfl rfl hl.1 rfl (lv_room (Nat.le_of_ble_eq_true rfl)) dL_areAlike_38 ⟨by show 20 * k + 1 ≤ 200; omega, by show 120 * k + 6 ≤ 1200; omega⟩) (fun r1 f1 H locs hw hI => ?_)
      obtain ⟨hw1, hw2⟩ := hw
      rw [hw1]
      rw [hw2] at hI
      refine lv_if_lt (tgt := 138) hx hb dL_areAlike_41 (by decide) (fun z => absurd z h9) (fun _ => ?_)
      refine lv_iload_n hx hb dL_areAlike_44 rfl (lv_at hl 2 rfl) ?_
      refine lv_if_eq (tgt := 138) hx hb dL_areAlike_45 (by decide) (fun z => absurd z (by decide)) (fun _ => ?_)
      refine lv_aload_n hx hb dL_areAlike_48 rfl (lv_at hl 1 rfl) ?_
      refine lv_iload_n hx hb dL_areAlike_49 rfl (lv_at hl 3 rfl) ?_
      refine g_calli hI (vx_runSW (As := [.ref (Np 0 0), .int (nI k)]) (rest := []) ⟨hx, hb, hml, hown, hts⟩ (gMi_rR (r_creditI l hl0 D cy de fp Np Ip hRp hkp hp) hd H.size) (vx_cwSW 2 hts gL_areAlike_L_credit rfl rfl rfl (by decide +kernel) ⟨Nat.le_of_ble_eq_true rfl, Nat.le_of_ble_eq_true rfl⟩) (g_preS hI) rfl rfl hl.1 rfl (lv_room (Nat.le_of_ble_eq_true rfl)) dL_areAlike_50 ⟨by show 20 * k + 1 + 1 ≤ 200; omega, by show 120 * k + 6 + 6 ≤ 1200; omega⟩) (fun r1 f1 H locs hw hI => ?_)
      obtain ⟨hw1, hw2⟩ := hw
      rw [hw1]
      rw [hw2] at hI
      refine lv_aload_n hx hb dL_areAlike_53 rfl (lv_at hl 0 rfl) ?_
      refine lv_iload_n hx hb dL_areAlike_54 rfl (lv_at hl 3 rfl) ?_
      refine g_calli hI (va_runV (As := [.int (nI k)]) (rest := [.int (Ip 9 k)]) ⟨hx, hb, hml, hown, hts⟩ (gMi_rL (r_credit l hl0 D cy de fo No Io hRo hko) hd H.size) (cwV 1 hts gL_areAlike_X4_credit rfl rfl rfl (by decide +kernel) ⟨Nat.le_of_ble_eq_true rfl, Nat.le_of_ble_eq_true rfl⟩) (g_preV hI (gJ_l (gR_tg hRo)) rfl) rfl rfl hl.1 rfl (lv_room (Nat.le_of_ble_eq_true rfl)) dL_areAlike_55 ⟨by show 20 * k + 1 + 1 + 1 ≤ 200; omega, by show 120 * k + 6 + 6 + 6 ≤ 1200; omega⟩) (fun r1 f1 H locs hw hI => ?_)
      obtain ⟨hw1, hw2⟩ := hw
      rw [hw1]
      rw [hw2] at hI
      refine lv_icmp_ne (tgt := 130) hx hb dL_areAlike_58 (by decide) (fun z => absurd e9.symm z) (fun _ => ?_)
      refine lv_aload_n hx hb dL_areAlike_61 rfl (lv_at hl 0 rfl) ?_
      refine lv_iload_n hx hb dL_areAlike_62 rfl (lv_at hl 3 rfl) ?_
      refine g_calli hI (va_runV (As := [.int (nI k)]) (rest := []) ⟨hx, hb, hml, hown, hts⟩ (gMi_rL (r_debt l hl0 D cy de fo No Io hRo hko) hd H.size) (cwV 1 hts gL_areAlike_X4_debt rfl rfl rfl (by decide +kernel) ⟨Nat.le_of_ble_eq_true rfl, Nat.le_of_ble_eq_true rfl⟩) (g_preV hI (gJ_l (gR_tg hRo)) rfl) rfl rfl hl.1 rfl (lv_room (Nat.le_of_ble_eq_true rfl)) dL_areAlike_63 ⟨by show 20 * k + 1 + 1 + 1 + 1 ≤ 200; omega, by show 120 * k + 6 + 6 + 6 + 6 ≤ 1200; omega⟩) (fun r1 f1 H locs hw hI => ?_)
      obtain ⟨hw1, hw2⟩ := hw
      rw [hw1]
      rw [hw2] at hI
      refine lv_aload_n hx hb dL_areAlike_66 rfl (lv_at hl 1 rfl) ?_
      refine lv_iload_n hx hb dL_areAlike_67 rfl (lv_at hl 3 rfl) ?_
      refine g_calli hI (va_runV (As := [.int (nI k)]) (rest := [.int (Io 10 k)]) ⟨hx, hb, hml, hown, hts⟩ (gMi_rR (r_debt l hl0 D cy de fp Np Ip hRp hkp) hd H.size) (cwV 1 hts gL_areAlike_X4_debt rfl rfl rfl (by decide +kernel) ⟨Nat.le_of_ble_eq_true rfl, Nat.le_of_ble_eq_true rfl⟩) (g_preV hI (gJ_rt hd (gR_tg hRp)) rfl) rfl rfl hl.1 rfl (lv_room (Nat.le_of_ble_eq_true rfl)) dL_areAlike_68 ⟨by show 20 * k + 1 + 1 + 1 + 1 + 1 ≤ 200; omega, by show 120 * k + 6 + 6 + 6 + 6 + 6 ≤ 1200; omega⟩) (fun r1 f1 H locs hw hI => ?_)
      obtain ⟨hw1, hw2⟩ := hw
      rw [hw1]
      rw [hw2] at hI
      refine lv_icmp_ne (tgt := 130) hx hb dL_areAlike_71 (by decide) (fun z => absurd e10 z) (fun _ => ?_)
      refine lv_aload_n hx hb dL_areAlike_74 rfl (lv_at hl 0 rfl) ?_
      refine lv_iload_n hx hb dL_areAlike_75 rfl (lv_at hl 3 rfl) ?_
      refine g_calli hI (va_runV (As := [.int (nI k)]) (rest := []) ⟨hx, hb, hml, hown, hts⟩ (gMi_rL (r_held l hl0 D cy de fo No Io hRo hko) hd H.size) (cwV 1 hts gL_areAlike_X4_held rfl rfl rfl (by decide +kernel) ⟨Nat.le_of_ble_eq_true rfl, Nat.le_of_ble_eq_true rfl⟩) (g_preV hI (gJ_l (gR_tg hRo)) rfl) rfl rfl hl.1 rfl (lv_room (Nat.le_of_ble_eq_true rfl)) dL_areAlike_76 ⟨by show 20 * k + 1 + 1 + 1 + 1 + 1 + 1 ≤ 200; omega, by show 120 * k + 6 + 6 + 6 + 6 + 6 + 6 ≤ 1200; omega⟩) (fun r1 f1 H locs hw hI => ?_)
      obtain ⟨hw1, hw2⟩ := hw
      rw [hw1]
      rw [hw2] at hI
      refine lv_aload_n hx hb dL_areAlike_79 rfl (lv_at hl 1 rfl) ?_
      refine lv_iload_n hx hb dL_areAlike_80 rfl (lv_at hl 3 rfl) ?_
      refine g_calli hI (va_runV (As := [.int (nI k)]) (rest := [.int (Io 11 k)]) ⟨hx, hb, hml, hown, hts⟩ (gMi_rR (r_held l hl0 D cy de fp Np Ip hRp hkp) hd H.size) (cwV 1 hts gL_areAlike_X4_held rfl rfl rfl (by decide +kernel) ⟨Nat.le_of_ble_eq_true rfl, Nat.le_of_ble_eq_true rfl⟩) (g_preV hI (gJ_rt hd (gR_tg hRp)) rfl) rfl rfl hl.1 rfl (lv_room (Nat.le_of_ble_eq_true rfl)) dL_areAlike_81 ⟨by show 20 * k + 1 + 1 + 1 + 1 + 1 + 1 + 1 ≤ 200; omega, by show 120 * k + 6 + 6 + 6 + 6 + 6 + 6 + 6 ≤ 1200; omega⟩) (fun r1 f1 H locs hw hI => ?_)
      obtain ⟨hw1, hw2⟩ := hw
      rw [hw1]
      rw [hw2] at hI
      refine lv_icmp_ne (tgt := 130) hx hb dL_areAlike_84 (by decide) (fun z => absurd e11 z) (fun _ => ?_)
      refine lv_aload_n hx hb dL_areAlike_87 rfl (lv_at hl 0 rfl) ?_
      refine lv_iload_n hx hb dL_areAlike_88 rfl (lv_at hl 3 rfl) ?_
      refine g_calli hI (va_runV (As := [.int (nI k)]) (rest := []) ⟨hx, hb, hml, hown, hts⟩ (gMi_rL (r_tokens l hl0 D cy de fo No Io hRo hko) hd H.size) (cwV 1 hts gL_areAlike_X4_tokens rfl rfl rfl (by decide +kernel) ⟨Nat.le_of_ble_eq_true rfl, Nat.le_of_ble_eq_true rfl⟩) (g_preV hI (gJ_l (gR_tg hRo)) rfl) rfl rfl hl.1 rfl (lv_room (Nat.le_of_ble_eq_true rfl)) dL_areAlike_89 ⟨by show 20 * k + 1 + 1 + 1 + 1 + 1 + 1 + 1 + 1 ≤ 200; omega, by show 120 * k + 6 + 6 + 6 + 6 + 6 + 6 + 6 + 6 ≤ 1200; omega⟩) (fun r1 f1 H locs hw hI => ?_)
      obtain ⟨hw1, hw2⟩ := hw
      rw [hw1]
      rw [hw2] at hI
      refine lv_aload_n hx hb dL_areAlike_92 rfl (lv_at hl 1 rfl) ?_
      refine lv_iload_n hx hb dL_areAlike_93 rfl (lv_at hl 3 rfl) ?_
      refine g_calli hI (va_runV (As := [.int (nI k)]) (rest := [.int (Io 7 k)]) ⟨hx, hb, hml, hown, hts⟩ (gMi_rR (r_tokens l hl0 D cy de fp Np Ip hRp hkp) hd H.size) (cwV 1 hts gL_areAlike_X4_tokens rfl rfl rfl (by decide +kernel) ⟨Nat.le_of_ble_eq_true rfl, Nat.le_of_ble_eq_true rfl⟩) (g_preV hI (gJ_rt hd (gR_tg hRp)) rfl) rfl rfl hl.1 rfl (lv_room (Nat.le_of_ble_eq_true rfl)) dL_areAlike_94 ⟨by show 20 * k + 1 + 1 + 1 + 1 + 1 + 1 + 1 + 1 + 1 ≤ 200; omega, by show 120 * k + 6 + 6 + 6 + 6 + 6 + 6 + 6 + 6 + 6 ≤ 1200; omega⟩) (fun r1 f1 H locs hw hI => ?_)
      obtain ⟨hw1, hw2⟩ := hw
      rw [hw1]
      rw [hw2] at hI
      refine lv_icmp_ne (tgt := 130) hx hb dL_areAlike_97 (by decide) (fun z => absurd et z) (fun _ => ?_)
      refine lv_aload_n hx hb dL_areAlike_100 rfl (lv_at hl 0 rfl) ?_
      refine lv_iload_n hx hb dL_areAlike_101 rfl (lv_at hl 3 rfl) ?_
      refine g_calli hI (va_runV (As := [.int (nI k)]) (rest := []) ⟨hx, hb, hml, hown, hts⟩ (gMi_rL (r_spent l hl0 D cy de fo No Io hRo hko) hd H.size) (cwV 1 hts gL_areAlike_X4_spent rfl rfl rfl (by decide +kernel) ⟨Nat.le_of_ble_eq_true rfl, Nat.le_of_ble_eq_true rfl⟩) (g_preV hI (gJ_l (gR_tg hRo)) rfl) rfl rfl hl.1 rfl (lv_room (Nat.le_of_ble_eq_true rfl)) dL_areAlike_102 ⟨by show 20 * k + 1 + 1 + 1 + 1 + 1 + 1 + 1 + 1 + 1 + 1 ≤ 200; omega, by show 120 * k + 6 + 6 + 6 + 6 + 6 + 6 + 6 + 6 + 6 + 6 ≤ 1200; omega⟩) (fun r1 f1 H locs hw hI => ?_)
      obtain ⟨hw1, hw2⟩ := hw
      rw [hw1]
      rw [hw2] at hI
      refine lv_aload_n hx hb dL_areAlike_105 rfl (lv_at hl 1 rfl) ?_
      refine lv_iload_n hx hb dL_areAlike_106 rfl (lv_at hl 3 rfl) ?_
      refine g_calli hI (va_runV (As := [.int (nI k)]) (rest := [.int (Io 13 k)]) ⟨hx, hb, hml, hown, hts⟩ (gMi_rR (r_spent l hl0 D cy de fp Np Ip hRp hkp) hd H.size) (cwV 1 hts gL_areAlike_X4_spent rfl rfl rfl (by decide +kernel) ⟨Nat.le_of_ble_eq_true rfl, Nat.le_of_ble_eq_true rfl⟩) (g_preV hI (gJ_rt hd (gR_tg hRp)) rfl) rfl rfl hl.1 rfl (lv_room (Nat.le_of_ble_eq_true rfl)) dL_areAlike_107 ⟨by show 20 * k + 1 + 1 + 1 + 1 + 1 + 1 + 1 + 1 + 1 + 1 + 1 ≤ 200; omega, by show 120 * k + 6 + 6 + 6 + 6 + 6 + 6 + 6 + 6 + 6 + 6 + 6 ≤ 1200; omega⟩) (fun r1 f1 H locs hw hI => ?_)
      obtain ⟨hw1, hw2⟩ := hw
      rw [hw1]
      rw [hw2] at hI
      refine lv_icmp_ne (tgt := 130) hx hb dL_areAlike_110 (by decide) (fun z => absurd e13 z) (fun _ => ?_)
      refine lv_aload_n hx hb dL_areAlike_113 rfl (lv_at hl 0 rfl) ?_
      refine lv_iload_n hx hb dL_areAlike_114 rfl (lv_at hl 3 rfl) ?_
      refine g_calli hI (va_runV (As := [.int (nI k)]) (rest := []) ⟨hx, hb, hml, hown, hts⟩ (gMi_rL (r_isSlowed l hl0 D cy de fo No Io hRo hko) hd H.size) (cwV 1 hts gL_areAlike_X4_isSlowed rfl rfl rfl (by decide +kernel) ⟨Nat.le_of_ble_eq_true rfl, Nat.le_of_ble_eq_true rfl⟩) (g_preV hI (gJ_l (gR_tg hRo)) rfl) rfl rfl hl.1 rfl (lv_room (Nat.le_of_ble_eq_true rfl)) dL_areAlike_115 ⟨by show 20 * k + 1 + 1 + 1 + 1 + 1 + 1 + 1 + 1 + 1 + 1 + 1 + 1 ≤ 200; omega, by show 120 * k + 6 + 6 + 6 + 6 + 6 + 6 + 6 + 6 + 6 + 6 + 6 + 6 ≤ 1200; omega⟩) (fun r1 f1 H locs hw hI => ?_)
      obtain ⟨hw1, hw2⟩ := hw
      rw [hw1]
      rw [hw2] at hI
      refine lv_aload_n hx hb dL_areAlike_118 rfl (lv_at hl 1 rfl) ?_
      refine lv_iload_n hx hb dL_areAlike_119 rfl (lv_at hl 3 rfl) ?_
      refine g_calli hI (va_runV (As := [.int (nI k)]) (rest := [.int (b2i (decide (Io 9 k = 0) && decide (Io 12 k = 0)))]) ⟨hx, hb, hml, hown, hts⟩ (gMi_rR (r_isSlowed l hl0 D cy de fp Np Ip hRp hkp) hd H.size) (cwV 1 hts gL_areAlike_X4_isSlowed rfl rfl rfl (by decide +kernel) ⟨Nat.le_of_ble_eq_true rfl, Nat.le_of_ble_eq_true rfl⟩) (g_preV hI (gJ_rt hd (gR_tg hRp)) rfl) rfl rfl hl.1 rfl (lv_room (Nat.le_of_ble_eq_true rfl)) dL_areAlike_120 ⟨by show 20 * k + 1 + 1 + 1 + 1 + 1 + 1 + 1 + 1 + 1 + 1 + 1 + 1 + 1 ≤ 200; omega, by show 120 * k + 6 + 6 + 6 + 6 + 6 + 6 + 6 + 6 + 6 + 6 + 6 + 6 + 6 ≤ 1200; omega⟩) (fun r1 f1 H locs hw hI => ?_)
      obtain ⟨hw1, hw2⟩ := hw
      rw [hw1]
      rw [hw2] at hI
      refine lv_icmp_ne (tgt := 130) hx hb dL_areAlike_123 (by decide) (fun z => absurd es z) (fun _ => ?_)
      refine lv_iconst (v := 1) hx hb dL_areAlike_126 (by decide) ?_
      refine lv_goto (tgt := 131) hx hb dL_areAlike_127 (by decide) ?_
      refine lv_istore_n (lv' := [(2, .int 1), (0, .ref (No 0 0)), (1, .ref (Np 0 0)), (3, .int (nI k))]) hx hb dL_areAlike_131 rfl hl (by decide) rfl (fun ls hl => ?_)
      refine lv_iinc (v := (nI k) + 1) (lv' := [(3, .int ((nI k) + 1)), (2, .int 1), (0, .ref (No 0 0)), (1, .ref (Np 0 0))]) hx hb dL_areAlike_132 hl (k := 3) rfl rfl (by decide) rfl (fun ls hl => ?_)
      refine lv_goto (tgt := 30) hx hb dL_areAlike_135 (by decide) ?_
      rw [nI_1] at hl
      refine W.widen (k := 20 * (k + 1)) (n := 120 * (k + 1)) (by omega) (by omega) ?_
      exact alike_loop hl0 S hr hlocks hRo hRp hd ho hp n (k + 1) (by omega) H locs ls hI (lv_sub hl [2, 3, 1, 0] rfl)
    · refine lv_iload_n hx hb dL_areAlike_30 rfl (lv_at hl 3 rfl) ?_
      refine lv_bipush (v := 8) hx hb dL_areAlike_31 (by decide) ?_
      refine lv_icmp_ge (tgt := 138) hx hb dL_areAlike_33 (by decide) (fun z => absurd hk8 (Int32.not_lt.mpr z)) (fun _ => ?_)
      refine lv_aload_n hx hb dL_areAlike_36 rfl (lv_at hl 0 rfl) ?_
      refine lv_iload_n hx hb dL_areAlike_37 rfl (lv_at hl 3 rfl) ?_
      refine g_calli hI (vx_runSW (As := [.ref (No 0 0), .int (nI k)]) (rest := []) ⟨hx, hb, hml, hown, hts⟩ (gMi_rL (r_creditO l hl0 D cy de fo No Io hRo hko (by omega) ho) hd H.size) (vx_cwSW 2 hts gL_areAlike_L_credit rfl rfl rfl (by decide +kernel) ⟨Nat.le_of_ble_eq_true rfl, Nat.le_of_ble_eq_true rfl⟩) (g_preS hI) rfl rfl hl.1 rfl (lv_room (Nat.le_of_ble_eq_true rfl)) dL_areAlike_38 ⟨by show 20 * k + 1 ≤ 200; omega, by show 120 * k + 6 ≤ 1200; omega⟩) (fun r1 f1 H locs hw hI => ?_)
      obtain ⟨hw1, hw2⟩ := hw
      rw [hw1]
      rw [hw2] at hI
      refine lv_if_lt (tgt := 138) hx hb dL_areAlike_41 (by decide) (fun _ => ?_) (fun z => absurd z (by decide))
      refine lv_iload_n hx hb dL_areAlike_138 rfl (lv_at hl 2 rfl) ?_
      exact g_zret hx hb hr hlocks hI rfl ⟨rfl, rfl⟩ (by omega) (by omega) dL_areAlike_139

set_option maxHeartbeats 4000000 in
set_option maxRecDepth 100000 in
theorem c_L_areAlike (l : Launch) (hl0 : l.stackTraces = false) (D : va_G) (cy : Nat → ClassId) (de : Nat) (fo fp : gFm) (No Np : gNm) (Io Ip : gMd) (hRo : gR cy de No Io fo) (hRp : gR cy de Np Ip fp) (hd : gDj fo fp) {M : gMd} {tk1 tk2 T1 T2 : Nat} (ho : Sim No Io M tk1 T1) (hp : Sim Np Ip M tk2 T2) : gMi l yL_areAlike wsL_areAlike { frames := 9, cells := 200, slots := 1200, locals := 176 } D cy de [.ref (No 0 0), .ref (Np 0 0)] (gJ fo fp) (fun r9 f9 => r9 = 1 ∧ f9 = gJ fo fp) 200 1200 := by
  refine fun sz => Met.ofW (cc := cL_areAlike) (maxL := 4) (ret := (some .boolean)) (by decide) rfl ?_
  intro p e s m args below meth c s₁ B hml hv
  obtain ⟨rfl, hv⟩ := hv
  obtain ⟨rfl, hI⟩ := gP_I hv
  have hx := B.exec
  have hb := B.bytes
  have hr := B.returns
  have hts := atoms_spec (ws := wsL_areAlike) B.pre
  obtain ⟨e7, e8, e0, -⟩ := Sim_two ho hp
  have e8n : nI (No 0 8) = nI (Np 0 8) := by rw [e8]
  have hown : s.vm.findClass RL = some m.cls := findClass_of_methodNamed B.named
  have hlocks := B.notSynchronized
  have hl := lv_entry ([.ref (No 0 0), .ref (Np 0 0)]) (n := 4) (Nat.le_of_ble_eq_true rfl)
  rw [lg_entry_eq]
  generalize (lg_sl ([.ref (No 0 0), .ref (Np 0 0)]) ++ List.replicate (4 - (lg_sl ([.ref (No 0 0), .ref (Np 0 0)])).length) Slot.unset).toArray = ls at hl ⊢
  have hl : lv_has ls 4 [(0, .ref (No 0 0)), (1, .ref (Np 0 0))] := hl
  refine lv_aload_n hx hb dL_areAlike_0 rfl (lv_at hl 0 rfl) ?_
  refine g_calli hI (va_runV (As := []) (rest := []) ⟨hx, hb, hml, hown, hts⟩ (gMi_rL (c_X4_now l D cy de fo No Io hRo) hd s.heap.size) (cwV 0 hts gL_areAlike_X4_now rfl rfl rfl (by decide +kernel) ⟨Nat.le_of_ble_eq_true rfl, Nat.le_of_ble_eq_true rfl⟩) (g_preV hI (gJ_l (gR_tg hRo)) rfl) rfl rfl hl.1 rfl (lv_room (Nat.le_of_ble_eq_true rfl)) dL_areAlike_1 ⟨by show 0 + 0 ≤ 200; omega, by show 0 + 0 ≤ 1200; omega⟩) (fun r1 f1 H locs hw hI => ?_)
  obtain ⟨hw1, hw2⟩ := hw
  rw [hw1]
  rw [hw2] at hI
  refine lv_aload_n hx hb dL_areAlike_4 rfl (lv_at hl 1 rfl) ?_
  refine g_calli hI (va_runV (As := []) (rest := [.int (Io 0 0)]) ⟨hx, hb, hml, hown, hts⟩ (gMi_rR (c_X4_now l D cy de fp Np Ip hRp) hd H.size) (cwV 0 hts gL_areAlike_X4_now rfl rfl rfl (by decide +kernel) ⟨Nat.le_of_ble_eq_true rfl, Nat.le_of_ble_eq_true rfl⟩) (g_preV hI (gJ_rt hd (gR_tg hRp)) rfl) rfl rfl hl.1 rfl (lv_room (Nat.le_of_ble_eq_true rfl)) dL_areAlike_5 ⟨by show 0 + 0 + 0 ≤ 200; omega, by show 0 + 0 + 0 ≤ 1200; omega⟩) (fun r1 f1 H locs hw hI => ?_)
  obtain ⟨hw1, hw2⟩ := hw
  rw [hw1]
  rw [hw2] at hI
  refine lv_icmp_ne (tgt := 26) hx hb dL_areAlike_8 (by decide) (fun z => absurd e0 z) (fun _ => ?_)
  refine lv_aload_n hx hb dL_areAlike_11 rfl (lv_at hl 0 rfl) ?_
  refine g_calli hI (va_runV (As := []) (rest := []) ⟨hx, hb, hml, hown, hts⟩ (gMi_rL (c_X4_calls l D cy de fo No Io hRo) hd H.size) (cwV 0 hts gL_areAlike_X4_calls rfl rfl rfl (by decide +kernel) ⟨Nat.le_of_ble_eq_true rfl, Nat.le_of_ble_eq_true rfl⟩) (g_preV hI (gJ_l (gR_tg hRo)) rfl) rfl rfl hl.1 rfl (lv_room (Nat.le_of_ble_eq_true rfl)) dL_areAlike_12 ⟨by show 0 + 0 + 0 + 0 ≤ 200; omega, by show 0 + 0 + 0 + 0 ≤ 1200; omega⟩) (fun r1 f1 H locs hw hI => ?_)
  obtain ⟨hw1, hw2⟩ := hw
  rw [hw1]
  rw [hw2] at hI
  refine lv_aload_n hx hb dL_areAlike_15 rfl (lv_at hl 1 rfl) ?_
  refine g_calli hI (va_runV (As := []) (rest := [.int (nI (No 0 8))]) ⟨hx, hb, hml, hown, hts⟩ (gMi_rR (c_X4_calls l D cy de fp Np Ip hRp) hd H.size) (cwV 0 hts gL_areAlike_X4_calls rfl rfl rfl (by decide +kernel) ⟨Nat.le_of_ble_eq_true rfl, Nat.le_of_ble_eq_true rfl⟩) (g_preV hI (gJ_rt hd (gR_tg hRp)) rfl) rfl rfl hl.1 rfl (lv_room (Nat.le_of_ble_eq_true rfl)) dL_areAlike_16 ⟨by show 0 + 0 + 0 + 0 + 0 ≤ 200; omega, by show 0 + 0 + 0 + 0 + 0 ≤ 1200; omega⟩) (fun r1 f1 H locs hw hI => ?_)
  obtain ⟨hw1, hw2⟩ := hw
  rw [hw1]
  rw [hw2] at hI
  refine lv_icmp_ne (tgt := 26) hx hb dL_areAlike_19 (by decide) (fun z => absurd e8n z) (fun _ => ?_)
  refine lv_iconst (v := 1) hx hb dL_areAlike_22 (by decide) ?_
  refine lv_goto (tgt := 27) hx hb dL_areAlike_23 (by decide) ?_
  refine lv_istore_n (lv' := [(2, .int 1), (0, .ref (No 0 0)), (1, .ref (Np 0 0))]) hx hb dL_areAlike_27 rfl hl (by decide) rfl (fun ls hl => ?_)
  refine lv_iconst (v := 0) hx hb dL_areAlike_28 (by decide) ?_
  refine lv_istore_n (lv' := [(3, .int 0), (2, .int 1), (0, .ref (No 0 0)), (1, .ref (Np 0 0))]) hx hb dL_areAlike_29 rfl hl (by decide) rfl (fun ls hl => ?_)
  rw [show (0 : Int32) = nI 0 from nI_0.symm] at hl
  exact alike_loop hl0 ⟨hx, hb, hml, hown, hts⟩ hr hlocks hRo hRp hd ho hp 8 0 rfl _ _ ls hI (lv_sub hl [2, 3, 1, 0] rfl)
