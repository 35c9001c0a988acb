theorem g_lpE {x : Int32} {n j : Nat} (hx : x = nI n) (hn : n < 2 ^ 30) (hj : j ≤ n) (h : x ≤ nI j) : j = n := by
  rw [hx] at h
  have := (nI_leI (by omega) (by omega)).mp h
  omega
theorem g_lpC {x : Int32} {n j : Nat} (hx : x = nI n) (hn : n < 2 ^ 30) (hj : j ≤ n) (h : ¬ x ≤ nI j) : j < n := by
  rcases Nat.lt_or_ge j n with q | q
  · exact q
  · exact absurd (by rw [hx]; exact nI_le q (by omega)) h
theorem mSlowL_step {M : gMd} {key : Int32} {n j : Nat} {b : Bool} (h : j < n) : mSlowL M key (n - j) j b = mSlowL M key (n - (j + 1)) (j + 1) (b && (!decide (M 14 j = key) || !decide (M 20 j = 0))) := by
  rw [show n - j = (n - (j + 1)) + 1 by omega]
  rfl
theorem mSlowL_end {M : gMd} {key : Int32} {n : Nat} {b : Bool} : mSlowL M key (n - n) n b = b := by rw [Nat.sub_self]; rfl
theorem mHeldL_step {M : gMd} {key : Int32} {n j : Nat} {b : Int32} (h : j < n) : mHeldL M key (n - j) j b = mHeldL M key (n - (j + 1)) (j + 1) (b + (if M 14 j = key then (if M 20 j = 0 then M 15 j else 0) else 0)) := by
  rw [show n - j = (n - (j + 1)) + 1 by omega]
  rfl
theorem mHeldL_end {M : gMd} {key : Int32} {n : Nat} {b : Int32} : mHeldL M key (n - n) n b = b := by rw [Nat.sub_self]; rfl
theorem mSpentL_step {M : gMd} {key : Int32} {n j : Nat} {b : Int32} (h : j < n) : mSpentL M key (n - j) j b = mSpentL M key (n - (j + 1)) (j + 1) (b + (if M 14 j = key then M 18 j else 0)) := by
  rw [show n - j = (n - (j + 1)) + 1 by omega]
  rfl
theorem mSpentL_end {M : gMd} {key : Int32} {n : Nat} {b : Int32} : mSpentL M key (n - n) n b = b := by rw [Nat.sub_self]; rfl

set_option maxHeartbeats 4000000 in
set_option maxRecDepth 100000 in
/-- isSlow -/
theorem c_X5_isSlow (l : Launch) (D : va_G) (cy : Nat → ClassId) (de : Nat) (f : gFm) (mm : Nat) (ma : Nat → Nat) (M : gMd) (key : Int32) (nk nc : Nat) (hok : mOK nk nc M) (hR : Rm cy mm ma M f) (h1 : vp_in key 8) : gMi l yX5_isSlow wsX5_isSlow { frames := 0, cells := 0, slots := 0, locals := 0 } D cy de [.ref mm, .int key] f (fun r9 f9 => r9 = (b2i (mSlow M nc key)) ∧ Rm cy mm ma M f9) 0 0 := by
  refine fun sz => Met.ofW (cc := cX5_isSlow) (maxL := 4) (ret := (some .boolean)) (by decide) rfl ?_
  intro p e s m args below meth c s₁ B hml hv
  obtain ⟨rfl, hv⟩ := hv
  obtain ⟨rfl, hI⟩ := gP_I hv
  have hx := B.exec
  have hb := B.bytes
  have hr := B.returns
  have hts := atoms_spec (ws := wsX5_isSlow) B.pre
  have hown : s.vm.findClass RX5 = some m.cls := findClass_of_methodNamed B.named
  have hlocks := B.notSynchronized
  have hinX5 : ∀ w ∈ wsX50, w ∈ wsX5_isSlow := by decide +kernel
  have hw0 := hts (.fieldLink RX5 28 "TollGatewayModel" "credits" "[I") (by decide +kernel)
  have hw1 := hts (.fieldLink RX5 79 "TollGatewayModel" "calls" "I") (by decide +kernel)
  have hw2 := hts (.fieldLink RX5 43 "TollGatewayModel" "callers" "[I") (by decide +kernel)
  have hw3 := hts (.fieldLink RX5 61 "TollGatewayModel" "hasEnded" "[Z") (by decide +kernel)
  have hl := lv_entry ([.ref mm, .int key]) (n := 4) (Nat.le_of_ble_eq_true rfl)
  rw [lg_entry_eq]
  generalize (lg_sl ([.ref mm, .int key]) ++ List.replicate (4 - (lg_sl ([.ref mm, .int key])).length) Slot.unset).toArray = ls at hl ⊢
  have hl : lv_has ls 4 [(0, .ref mm), (1, .int key)] := hl
  refine lv_aload_n hx hb dX5_isSlow_0 rfl (lv_at hl 0 rfl) ?_
  refine m_get hx hb hts hinX5 hown hI hR 8 (by decide) hw0 rfl rfl dX5_isSlow_1 ?_
  refine lv_iload_n hx hb dX5_isSlow_4 rfl (lv_at hl 1 rfl) ?_
  refine m_iald hx hb hI hR 8 rfl rfl h1 dX5_isSlow_5 ?_
  refine lv_if_ne (tgt := 13) hx hb dX5_isSlow_6 (by decide) (fun c_1 => ?_) (fun c_1 => ?_)
  · refine lv_iconst (v := 0) hx hb dX5_isSlow_13 (by decide) ?_
    refine lv_istore_n (lv' := [(2, .int 0), (0, .ref mm), (1, .int key)]) hx hb dX5_isSlow_14 rfl hl (by decide) rfl (fun ls hl => ?_)
    refine lv_iconst (v := 0) hx hb dX5_isSlow_15 (by decide) ?_
    refine lv_istore_n (lv' := [(3, .int 0), (2, .int 0), (0, .ref mm), (1, .int key)]) hx hb dX5_isSlow_16 rfl hl (by decide) rfl (fun ls hl => ?_)
    have hlim : M 13 0 = nI nc := (by exact (show M 13 0 = nI nc from hok.2.2.2.1))
    have hloop : ∀ (n j : Nat) (acc : Bool), j ≤ nc → nc + 1 ≤ j + n → mSlowL M key (nc - j) j acc = mSlow M nc key → ∀ ls : Array Slot, lv_has ls 4 [(3, .int (nI j)), (2, .int (b2i acc)), (0, .ref mm), (1, .int key)] → W p l e (headSpec wsX5_isSlow { frames := 0, cells := 0, slots := 0, locals := 0 }).room s m ([.ref mm, .int key] : List Value).toArray below meth c s.heap [] 0 0 (MQ below (va_Qi (fun r9 f9 => r9 = (b2i (mSlow M nc key)) ∧ Rm cy mm ma M f9) (gB D (gA f s.heap.size)) (gA f s.heap.size)) ([.ref mm, .int key] : List Value).toArray s 0 0 (gA f s.heap.size)) (F0 m 17 ls []) := by
      intro n
      induction n with
      | zero => intro j acc h1 h2; exact absurd h2 (by omega)
      | succ n ih =>
        intro j acc hjl hjn E ls hl
        have hjx : ix (nI j) = j := nI_clamp (by have := hok.1; have := hok.2.1; omega)
        refine lv_iload_n hx hb dX5_isSlow_17 rfl (lv_at hl 0 rfl) ?_
        refine lv_aload_n hx hb dX5_isSlow_18 rfl (lv_at hl 2 rfl) ?_
        refine m_get hx hb hts hinX5 hown hI hR 13 (by decide) hw1 rfl rfl dX5_isSlow_19 ?_
        refine lv_icmp_ge (tgt := 60) hx hb dX5_isSlow_22 (by decide) (fun c_2 => ?_) (fun c_2 => ?_)
        · have c_2' := Int32.not_lt.mpr c_2
          have hj : j = nc := g_lpE hlim (by have := hok.1; have := hok.2.1; omega) hjl c_2
          rw [hj] at E
          have hres := (mSlowL_end (M := M) (b := acc)).symm.trans E
          refine lv_iload_n hx hb dX5_isSlow_60 rfl (lv_at hl 1 rfl) ?_
          exact g_zret hx hb hr hlocks hI (b2i_nar _) ⟨congrArg b2i hres, hR⟩ (Nat.le_of_ble_eq_true rfl) (Nat.le_of_ble_eq_true rfl) dX5_isSlow_61
        · have c_2' := Int32.not_le.mp c_2
          have hj : j < nc := g_lpC hlim (by have := hok.1; have := hok.2.1; omega) hjl c_2
          refine lv_iload_n hx hb dX5_isSlow_25 rfl (lv_at hl 1 rfl) ?_
          refine g_b2i_eq (tgt := 52) hx hb dX5_isSlow_26 (by decide) (fun c_3 => ?_) (fun c_3 => ?_)
          · refine lv_iconst (v := 0) hx hb dX5_isSlow_52 (by decide) ?_
            refine lv_istore_n (lv' := [(2, .int 0), (3, .int (nI j)), (0, .ref mm), (1, .int key)]) hx hb dX5_isSlow_53 rfl hl (by decide) rfl (fun ls hl => ?_)
            refine lv_iinc (v := (nI j) + 1) (lv' := [(3, .int ((nI j) + 1)), (2, .int 0), (0, .ref mm), (1, .int key)]) hx hb dX5_isSlow_54 hl (k := 1) rfl rfl (by decide) rfl (fun ls hl => ?_)
            refine lv_goto (tgt := 17) hx hb dX5_isSlow_57 (by decide) ?_
            refine ih (j + 1) false (by omega) (by omega) ?_ ls ?_
            · have E1 := (mSlowL_step (M := M) (b := acc) hj).symm.trans E
              simp only [c_3, if_true, if_false, ↓reduceIte, Bool.true_eq_false, Bool.false_eq_true, true_and, and_true, and_false, false_and, or_true, true_or, or_false, false_or, not_true_eq_false, not_false_eq_true, Bool.and_true, Bool.true_and, Bool.and_false, Bool.false_and, Bool.not_true, Bool.not_false, decide_true, decide_false, cond_true, cond_false, Bool.not_true, Bool.not_false, Bool.or_true, Bool.true_or, Bool.or_false, Bool.false_or] at E1
              exact E1
            · rw [← nI_1]
              exact lv_sub hl [0, 1, 2, 3] rfl
          · refine lv_aload_n hx hb dX5_isSlow_29 rfl (lv_at hl 2 rfl) ?_
            refine m_get hx hb hts hinX5 hown hI hR 14 (by decide) hw2 rfl rfl dX5_isSlow_30 ?_
            refine lv_iload_n hx hb dX5_isSlow_33 rfl (lv_at hl 0 rfl) ?_
            refine m_iald hx hb hI hR 14 rfl rfl (vp_in_nI (Nat.lt_of_lt_of_le hj hok.2.1) (by decide)) dX5_isSlow_34 ?_
            rw [hjx]
            refine lv_iload_n hx hb dX5_isSlow_35 rfl (lv_at hl 3 rfl) ?_
            refine lv_icmp_ne (tgt := 48) hx hb dX5_isSlow_36 (by decide) (fun c_4 => ?_) (fun c_4 => ?_)
            · refine lv_iconst (v := 1) hx hb dX5_isSlow_48 (by decide) ?_
              refine lv_goto (tgt := 53) hx hb dX5_isSlow_49 (by decide) ?_
              refine lv_istore_n (lv' := [(2, .int 1), (3, .int (nI j)), (0, .ref mm), (1, .int key)]) hx hb dX5_isSlow_53 rfl hl (by decide) rfl (fun ls hl => ?_)
              refine lv_iinc (v := (nI j) + 1) (lv' := [(3, .int ((nI j) + 1)), (2, .int 1), (0, .ref mm), (1, .int key)]) hx hb dX5_isSlow_54 hl (k := 1) rfl rfl (by decide) rfl (fun ls hl => ?_)
              refine lv_goto (tgt := 17) hx hb dX5_isSlow_57 (by decide) ?_
              refine ih (j + 1) true (by omega) (by omega) ?_ ls ?_
              · have E1 := (mSlowL_step (M := M) (b := acc) hj).symm.trans E
                simp only [c_3, c_4, if_true, if_false, ↓reduceIte, Bool.true_eq_false, Bool.false_eq_true, true_and, and_true, and_false, false_and, or_true, true_or, or_false, false_or, not_true_eq_false, not_false_eq_true, Bool.and_true, Bool.true_and, Bool.and_false, Bool.false_and, Bool.not_true, Bool.not_false, decide_true, decide_false, cond_true, cond_false, Bool.not_true, Bool.not_false, Bool.or_true, Bool.true_or, Bool.or_false, Bool.false_or] at E1
                exact E1
              · rw [← nI_1]
                exact lv_sub hl [0, 1, 2, 3] rfl
            · refine lv_aload_n hx hb dX5_isSlow_39 rfl (lv_at hl 2 rfl) ?_
              refine m_get hx hb hts hinX5 hown hI hR 20 (by decide) hw3 rfl rfl dX5_isSlow_40 ?_
              refine lv_iload_n hx hb dX5_isSlow_43 rfl (lv_at hl 0 rfl) ?_
              refine m_zald hx hb hI hR 20 rfl rfl (vp_in_nI (Nat.lt_of_lt_of_le hj hok.2.1) (by decide)) dX5_isSlow_44 ?_
              rw [hjx]
              refine lv_if_eq (tgt := 52) hx hb dX5_isSlow_45 (by decide) (fun c_5 => ?_) (fun c_5 => ?_)
              · refine lv_iconst (v := 0) hx hb dX5_isSlow_52 (by decide) ?_
                refine lv_istore_n (lv' := [(2, .int 0), (3, .int (nI j)), (0, .ref mm), (1, .int key)]) hx hb dX5_isSlow_53 rfl hl (by decide) rfl (fun ls hl => ?_)
                refine lv_iinc (v := (nI j) + 1) (lv' := [(3, .int ((nI j) + 1)), (2, .int 0), (0, .ref mm), (1, .int key)]) hx hb dX5_isSlow_54 hl (k := 1) rfl rfl (by decide) rfl (fun ls hl => ?_)
                refine lv_goto (tgt := 17) hx hb dX5_isSlow_57 (by decide) ?_
                refine ih (j + 1) false (by omega) (by omega) ?_ ls ?_
                · have E1 := (mSlowL_step (M := M) (b := acc) hj).symm.trans E
                  simp only [c_3, c_4, c_5, if_true, if_false, ↓reduceIte, Bool.true_eq_false, Bool.false_eq_true, true_and, and_true, and_false, false_and, or_true, true_or, or_false, false_or, not_true_eq_false, not_false_eq_true, Bool.and_true, Bool.true_and, Bool.and_false, Bool.false_and, Bool.not_true, Bool.not_false, decide_true, decide_false, cond_true, cond_false, Bool.not_true, Bool.not_false, Bool.or_true, Bool.true_or, Bool.or_false, Bool.false_or] at E1
                  exact E1
                · rw [← nI_1]
                  exact lv_sub hl [0, 1, 2, 3] rfl
              · refine lv_iconst (v := 1) hx hb dX5_isSlow_48 (by decide) ?_
                refine lv_goto (tgt := 53) hx hb dX5_isSlow_49 (by decide) ?_
                refine lv_istore_n (lv' := [(2, .int 1), (3, .int (nI j)), (0, .ref mm), (1, .int key)]) hx hb dX5_isSlow_53 rfl hl (by decide) rfl (fun ls hl => ?_)
                refine lv_iinc (v := (nI j) + 1) (lv' := [(3, .int ((nI j) + 1)), (2, .int 1), (0, .ref mm), (1, .int key)]) hx hb dX5_isSlow_54 hl (k := 1) rfl rfl (by decide) rfl (fun ls hl => ?_)
                refine lv_goto (tgt := 17) hx hb dX5_isSlow_57 (by decide) ?_
                refine ih (j + 1) true (by omega) (by omega) ?_ ls ?_
                · have E1 := (mSlowL_step (M := M) (b := acc) hj).symm.trans E
                  simp only [c_3, c_4, c_5, if_true, if_false, ↓reduceIte, Bool.true_eq_false, Bool.false_eq_true, true_and, and_true, and_false, false_and, or_true, true_or, or_false, false_or, not_true_eq_false, not_false_eq_true, Bool.and_true, Bool.true_and, Bool.and_false, Bool.false_and, Bool.not_true, Bool.not_false, decide_true, decide_false, cond_true, cond_false, Bool.not_true, Bool.not_false, Bool.or_true, Bool.true_or, Bool.or_false, Bool.false_or] at E1
                  exact E1
                · rw [← nI_1]
                  exact lv_sub hl [0, 1, 2, 3] rfl
    exact hloop (nc + 1) 0 false (Nat.zero_le _) (by omega) (by unfold mSlow; simp only [c_1, not_false_eq_true, decide_true, decide_false, Nat.sub_zero]) ls (lv_sub hl [0, 1, 2, 3] rfl)
  · refine lv_iconst (v := 1) hx hb dX5_isSlow_9 (by decide) ?_
    refine lv_goto (tgt := 14) hx hb dX5_isSlow_10 (by decide) ?_
    refine lv_istore_n (lv' := [(2, .int 1), (0, .ref mm), (1, .int key)]) hx hb dX5_isSlow_14 rfl hl (by decide) rfl (fun ls hl => ?_)
    refine lv_iconst (v := 0) hx hb dX5_isSlow_15 (by decide) ?_
    refine lv_istore_n (lv' := [(3, .int 0), (2, .int 1), (0, .ref mm), (1, .int key)]) hx hb dX5_isSlow_16 rfl hl (by decide) rfl (fun ls hl => ?_)
    have hlim : M 13 0 = nI nc := (by exact (show M 13 0 = nI nc from hok.2.2.2.1))
    have hloop : ∀ (n j : Nat) (acc : Bool), j ≤ nc → nc + 1 ≤ j + n → mSlowL M key (nc - j) j acc = mSlow M nc key → ∀ ls : Array Slot, lv_has ls 4 [(3, .int (nI j)), (2, .int (b2i acc)), (0, .ref mm), (1, .int key)] → W p l e (headSpec wsX5_isSlow { frames := 0, cells := 0, slots := 0, locals := 0 }).room s m ([.ref mm, .int key] : List Value).toArray below meth c s.heap [] 0 0 (MQ below (va_Qi (fun r9 f9 => r9 = (b2i (mSlow M nc key)) ∧ Rm cy mm ma M f9) (gB D (gA f s.heap.size)) (gA f s.heap.size)) ([.ref mm, .int key] : List Value).toArray s 0 0 (gA f s.heap.size)) (F0 m 17 ls []) := by
      intro n
      induction n with
      | zero => intro j acc h1 h2; exact absurd h2 (by omega)
      | succ n ih =>
        intro j acc hjl hjn E ls hl
        have hjx : ix (nI j) = j := nI_clamp (by have := hok.1; have := hok.2.1; omega)
        refine lv_iload_n hx hb dX5_isSlow_17 rfl (lv_at hl 0 rfl) ?_
        refine lv_aload_n hx hb dX5_isSlow_18 rfl (lv_at hl 2 rfl) ?_
        refine m_get hx hb hts hinX5 hown hI hR 13 (by decide) hw1 rfl rfl dX5_isSlow_19 ?_
        refine lv_icmp_ge (tgt := 60) hx hb dX5_isSlow_22 (by decide) (fun c_6 => ?_) (fun c_6 => ?_)
        · have c_6' := Int32.not_lt.mpr c_6
          have hj : j = nc := g_lpE hlim (by have := hok.1; have := hok.2.1; omega) hjl c_6
          rw [hj] at E
          have hres := (mSlowL_end (M := M) (b := acc)).symm.trans E
          refine lv_iload_n hx hb dX5_isSlow_60 rfl (lv_at hl 1 rfl) ?_
          exact g_zret hx hb hr hlocks hI (b2i_nar _) ⟨congrArg b2i hres, hR⟩ (Nat.le_of_ble_eq_true rfl) (Nat.le_of_ble_eq_true rfl) dX5_isSlow_61
        · have c_6' := Int32.not_le.mp c_6
          have hj : j < nc := g_lpC hlim (by have := hok.1; have := hok.2.1; omega) hjl c_6
          refine lv_iload_n hx hb dX5_isSlow_25 rfl (lv_at hl 1 rfl) ?_
          refine g_b2i_eq (tgt := 52) hx hb dX5_isSlow_26 (by decide) (fun c_7 => ?_) (fun c_7 => ?_)
          · refine lv_iconst (v := 0) hx hb dX5_isSlow_52 (by decide) ?_
            refine lv_istore_n (lv' := [(2, .int 0), (3, .int (nI j)), (0, .ref mm), (1, .int key)]) hx hb dX5_isSlow_53 rfl hl (by decide) rfl (fun ls hl => ?_)
            refine lv_iinc (v := (nI j) + 1) (lv' := [(3, .int ((nI j) + 1)), (2, .int 0), (0, .ref mm), (1, .int key)]) hx hb dX5_isSlow_54 hl (k := 1) rfl rfl (by decide) rfl (fun ls hl => ?_)
            refine lv_goto (tgt := 17) hx hb dX5_isSlow_57 (by decide) ?_
            refine ih (j + 1) false (by omega) (by omega) ?_ ls ?_
            · have E1 := (mSlowL_step (M := M) (b := acc) hj).symm.trans E
              simp only [c_7, if_true, if_false, ↓reduceIte, Bool.true_eq_false, Bool.false_eq_true, true_and, and_true, and_false, false_and, or_true, true_or, or_false, false_or, not_true_eq_false, not_false_eq_true, Bool.and_true, Bool.true_and, Bool.and_false, Bool.false_and, Bool.not_true, Bool.not_false, decide_true, decide_false, cond_true, cond_false, Bool.not_true, Bool.not_false, Bool.or_true, Bool.true_or, Bool.or_false, Bool.false_or] at E1
              exact E1
            · rw [← nI_1]
              exact lv_sub hl [0, 1, 2, 3] rfl
          · refine lv_aload_n hx hb dX5_isSlow_29 rfl (lv_at hl 2 rfl) ?_
            refine m_get hx hb hts hinX5 hown hI hR 14 (by decide) hw2 rfl rfl dX5_isSlow_30 ?_
            refine lv_iload_n hx hb dX5_isSlow_33 rfl (lv_at hl 0 rfl) ?_
            refine m_iald hx hb hI hR 14 rfl rfl (vp_in_nI (Nat.lt_of_lt_of_le hj hok.2.1) (by decide)) dX5_isSlow_34 ?_
            rw [hjx]
            refine lv_iload_n hx hb dX5_isSlow_35 rfl (lv_at hl 3 rfl) ?_
            refine lv_icmp_ne (tgt := 48) hx hb dX5_isSlow_36 (by decide) (fun c_8 => ?_) (fun c_8 => ?_)
            · refine lv_iconst (v := 1) hx hb dX5_isSlow_48 (by decide) ?_
              refine lv_goto (tgt := 53) hx hb dX5_isSlow_49 (by decide) ?_
              refine lv_istore_n (lv' := [(2, .int 1), (3, .int (nI j)), (0, .ref mm), (1, .int key)]) hx hb dX5_isSlow_53 rfl hl (by decide) rfl (fun ls hl => ?_)
              refine lv_iinc (v := (nI j) + 1) (lv' := [(3, .int ((nI j) + 1)), (2, .int 1), (0, .ref mm), (1, .int key)]) hx hb dX5_isSlow_54 hl (k := 1) rfl rfl (by decide) rfl (fun ls hl => ?_)
              refine lv_goto (tgt := 17) hx hb dX5_isSlow_57 (by decide) ?_
              refine ih (j + 1) true (by omega) (by omega) ?_ ls ?_
              · have E1 := (mSlowL_step (M := M) (b := acc) hj).symm.trans E
                simp only [c_7, c_8, if_true, if_false, ↓reduceIte, Bool.true_eq_false, Bool.false_eq_true, true_and, and_true, and_false, false_and, or_true, true_or, or_false, false_or, not_true_eq_false, not_false_eq_true, Bool.and_true, Bool.true_and, Bool.and_false, Bool.false_and, Bool.not_true, Bool.not_false, decide_true, decide_false, cond_true, cond_false, Bool.not_true, Bool.not_false, Bool.or_true, Bool.true_or, Bool.or_false, Bool.false_or] at E1
                exact E1
              · rw [← nI_1]
                exact lv_sub hl [0, 1, 2, 3] rfl
            · refine lv_aload_n hx hb dX5_isSlow_39 rfl (lv_at hl 2 rfl) ?_
              refine m_get hx hb hts hinX5 hown hI hR 20 (by decide) hw3 rfl rfl dX5_isSlow_40 ?_
              refine lv_iload_n hx hb dX5_isSlow_43 rfl (lv_at hl 0 rfl) ?_
              refine m_zald hx hb hI hR 20 rfl rfl (vp_in_nI (Nat.lt_of_lt_of_le hj hok.2.1) (by decide)) dX5_isSlow_44 ?_
              rw [hjx]
              refine lv_if_eq (tgt := 52) hx hb dX5_isSlow_45 (by decide) (fun c_9 => ?_) (fun c_9 => ?_)
              · refine lv_iconst (v := 0) hx hb dX5_isSlow_52 (by decide) ?_
                refine lv_istore_n (lv' := [(2, .int 0), (3, .int (nI j)), (0, .ref mm), (1, .int key)]) hx hb dX5_isSlow_53 rfl hl (by decide) rfl (fun ls hl => ?_)
                refine lv_iinc (v := (nI j) + 1) (lv' := [(3, .int ((nI j) + 1)), (2, .int 0), (0, .ref mm), (1, .int key)]) hx hb dX5_isSlow_54 hl (k := 1) rfl rfl (by decide) rfl (fun ls hl => ?_)
                refine lv_goto (tgt := 17) hx hb dX5_isSlow_57 (by decide) ?_
                refine ih (j + 1) false (by omega) (by omega) ?_ ls ?_
                · have E1 := (mSlowL_step (M := M) (b := acc) hj).symm.trans E
                  simp only [c_7, c_8, c_9, if_true, if_false, ↓reduceIte, Bool.true_eq_false, Bool.false_eq_true, true_and, and_true, and_false, false_and, or_true, true_or, or_false, false_or, not_true_eq_false, not_false_eq_true, Bool.and_true, Bool.true_and, Bool.and_false, Bool.false_and, Bool.not_true, Bool.not_false, decide_true, decide_false, cond_true, cond_false, Bool.not_true, Bool.not_false, Bool.or_true, Bool.true_or, Bool.or_false, Bool.false_or] at E1
                  exact E1
                · rw [← nI_1]
                  exact lv_sub hl [0, 1, 2, 3] rfl
              · refine lv_iconst (v := 1) hx hb dX5_isSlow_48 (by decide) ?_
                refine lv_goto (tgt := 53) hx hb dX5_isSlow_49 (by decide) ?_
                refine lv_istore_n (lv' := [(2, .int 1), (3, .int (nI j)), (0, .ref mm), (1, .int key)]) hx hb dX5_isSlow_53 rfl hl (by decide) rfl (fun ls hl => ?_)
                refine lv_iinc (v := (nI j) + 1) (lv' := [(3, .int ((nI j) + 1)), (2, .int 1), (0, .ref mm), (1, .int key)]) hx hb dX5_isSlow_54 hl (k := 1) rfl rfl (by decide) rfl (fun ls hl => ?_)
                refine lv_goto (tgt := 17) hx hb dX5_isSlow_57 (by decide) ?_
                refine ih (j + 1) true (by omega) (by omega) ?_ ls ?_
                · have E1 := (mSlowL_step (M := M) (b := acc) hj).symm.trans E
                  simp only [c_7, c_8, c_9, if_true, if_false, ↓reduceIte, Bool.true_eq_false, Bool.false_eq_true, true_and, and_true, and_false, false_and, or_true, true_or, or_false, false_or, not_true_eq_false, not_false_eq_true, Bool.and_true, Bool.true_and, Bool.and_false, Bool.false_and, Bool.not_true, Bool.not_false, decide_true, decide_false, cond_true, cond_false, Bool.not_true, Bool.not_false, Bool.or_true, Bool.true_or, Bool.or_false, Bool.false_or] at E1
                  exact E1
                · rw [← nI_1]
                  exact lv_sub hl [0, 1, 2, 3] rfl
    exact hloop (nc + 1) 0 true (Nat.zero_le _) (by omega) (by unfold mSlow; simp only [c_1, not_false_eq_true, decide_true, decide_false, Nat.sub_zero]) ls (lv_sub hl [0, 1, 2, 3] rfl)

set_option maxHeartbeats 4000000 in
set_option maxRecDepth 100000 in
/-- held -/
theorem c_X5_held (l : Launch) (D : va_G) (cy : Nat → ClassId) (de : Nat) (f : gFm) (mm : Nat) (ma : Nat → Nat) (M : gMd) (key : Int32) (nk nc : Nat) (hok : mOK nk nc M) (hR : Rm cy mm ma M f) : gMi l yX5_held wsX5_held { frames := 2, cells := 0, slots := 0, locals := 43 } D cy de [.ref mm, .int key] f (fun r9 f9 => r9 = ((mRd M key (fun N => mHeldL N key nc 0 0)).1) ∧ Rm cy mm ma ((mRd M key (fun N => mHeldL N key nc 0 0)).2) f9) 0 0 := by
  refine fun sz => Met.ofW (cc := cX5_held) (maxL := 4) (ret := (some .int)) (by decide) rfl ?_
  intro p e s m args below meth c s₁ B hml hv
  obtain ⟨rfl, hv⟩ := hv
  obtain ⟨rfl, hI⟩ := gP_I hv
  have hx := B.exec
  have hb := B.bytes
  have hr := B.returns
  have hts := atoms_spec (ws := wsX5_held) B.pre
  have hown : s.vm.findClass RX5 = some m.cls := findClass_of_methodNamed B.named
  have hlocks := B.notSynchronized
  have hinX5 : ∀ w ∈ wsX50, w ∈ wsX5_held := by decide +kernel
  have hw0 := hts (.fieldLink RX5 79 "TollGatewayModel" "calls" "I") (by decide +kernel)
  have hw1 := hts (.fieldLink RX5 43 "TollGatewayModel" "callers" "[I") (by decide +kernel)
  have hw2 := hts (.fieldLink RX5 61 "TollGatewayModel" "hasEnded" "[Z") (by decide +kernel)
  have hw3 := hts (.fieldLink RX5 46 "TollGatewayModel" "worths" "[I") (by decide +kernel)
  have hl := lv_entry ([.ref mm, .int key]) (n := 4) (Nat.le_of_ble_eq_true rfl)
  rw [lg_entry_eq]
  generalize (lg_sl ([.ref mm, .int key]) ++ List.replicate (4 - (lg_sl ([.ref mm, .int key])).length) Slot.unset).toArray = ls at hl ⊢
  have hl : lv_has ls 4 [(0, .ref mm), (1, .int key)] := hl
  refine lv_aload_n hx hb dX5_held_0 rfl (lv_at hl 0 rfl) ?_
  refine lv_aload_n hx hb dX5_held_1 rfl (lv_at hl 0 rfl) ?_
  refine lv_iload_n hx hb dX5_held_2 rfl (lv_at hl 1 rfl) ?_
  refine g_calli hI (va_runV (As := [.int key]) (rest := [.ref mm]) ⟨hx, hb, hml, hown, hts⟩ (c_X5_isKey l D cy de f mm ma M key hR s.heap.size) (cwV 1 hts gX5_held_X5_isKey rfl rfl rfl (by decide +kernel) ⟨Nat.le_of_ble_eq_true rfl, Nat.le_of_ble_eq_true rfl⟩) (g_preV hI hR.1 rfl) rfl rfl hl.1 rfl (lv_room (Nat.le_of_ble_eq_true rfl)) dX5_held_3 ⟨Nat.le_of_ble_eq_true rfl, Nat.le_of_ble_eq_true rfl⟩) (fun r_1 f_2 H locs hw_3 hI => ?_)
  obtain ⟨rfl, hR⟩ := hw_3
  refine g_b2i_eq (tgt := 13) hx hb dX5_held_6 (by decide) (fun c_4 => ?_) (fun c_4 => ?_)
  · refine lv_iconst (v := 1) hx hb dX5_held_13 (by decide) ?_
    refine g_calli hI (va_runV (As := [.int 1]) (rest := []) ⟨hx, hb, hml, hown, hts⟩ (c_X5_goesWell l D cy de f_2 mm ma M 1 hR H.size) (cwV 1 hts gX5_held_X5_goesWell rfl rfl rfl (by decide +kernel) ⟨Nat.le_of_ble_eq_true rfl, Nat.le_of_ble_eq_true rfl⟩) (g_preV hI hR.1 rfl) rfl rfl hl.1 rfl (lv_room (Nat.le_of_ble_eq_true rfl)) dX5_held_14 ⟨Nat.le_of_ble_eq_true rfl, Nat.le_of_ble_eq_true rfl⟩) (fun r_5 f_6 H locs hw_7 hI => ?_)
    obtain ⟨rfl, hR⟩ := hw_7
    obtain ⟨M_8, eM_8⟩ : ∃ z, z = mWell M 1 := ⟨_, rfl⟩
    rw [← eM_8] at hR
    refine g_b2i_ne (tgt := 22) hx hb dX5_held_17 (by decide) (fun z => absurd z (by decide)) (fun _ => ?_)
    refine lv_iconst (v := 0) hx hb dX5_held_20 (by decide) ?_
    exact g_iret hx hb hr hlocks hI (by have hE : (mRd M key (fun N => mHeldL N key nc 0 0)) = (0, M_8) := (by simp only [mRd, c_4, if_true, if_false, ↓reduceIte, Bool.true_eq_false, Bool.false_eq_true, true_and, and_true, and_false, false_and, or_true, true_or, or_false, false_or, not_true_eq_false, not_false_eq_true, Bool.and_true, Bool.true_and, Bool.and_false, Bool.false_and, Bool.not_true, Bool.not_false, decide_true, decide_false, cond_true, cond_false] <;> (subst eM_8; rfl)); exact ⟨by rw [hE], by rw [hE]; exact hR⟩) (Nat.le_of_ble_eq_true rfl) (Nat.le_of_ble_eq_true rfl) dX5_held_21
  · refine lv_iconst (v := 0) hx hb dX5_held_9 (by decide) ?_
    refine lv_goto (tgt := 14) hx hb dX5_held_10 (by decide) ?_
    refine g_calli hI (va_runV (As := [.int 0]) (rest := []) ⟨hx, hb, hml, hown, hts⟩ (c_X5_goesWell l D cy de f_2 mm ma M 0 hR H.size) (cwV 1 hts gX5_held_X5_goesWell rfl rfl rfl (by decide +kernel) ⟨Nat.le_of_ble_eq_true rfl, Nat.le_of_ble_eq_true rfl⟩) (g_preV hI hR.1 rfl) rfl rfl hl.1 rfl (lv_room (Nat.le_of_ble_eq_true rfl)) dX5_held_14 ⟨Nat.le_of_ble_eq_true rfl, Nat.le_of_ble_eq_true rfl⟩) (fun r_10 f_11 H locs hw_12 hI => ?_)
    obtain ⟨rfl, hR⟩ := hw_12
    obtain ⟨M_13, eM_13⟩ : ∃ z, z = mWell M 0 := ⟨_, rfl⟩
    rw [← eM_13] at hR
    refine g_b2i_ne (tgt := 22) hx hb dX5_held_17 (by decide) (fun _ => ?_) (fun z => absurd z (by decide))
    refine lv_iconst (v := 0) hx hb dX5_held_22 (by decide) ?_
    refine lv_istore_n (lv' := [(2, .int 0), (0, .ref mm), (1, .int key)]) hx hb dX5_held_23 rfl hl (by decide) rfl (fun ls hl => ?_)
    refine lv_iconst (v := 0) hx hb dX5_held_24 (by decide) ?_
    refine lv_istore_n (lv' := [(3, .int 0), (2, .int 0), (0, .ref mm), (1, .int key)]) hx hb dX5_held_25 rfl hl (by decide) rfl (fun ls hl => ?_)
    have hlim : M_13 13 0 = nI nc := (by subst eM_13; exact (show M 13 0 = nI nc from hok.2.2.2.1))
    have hloop : ∀ (n j : Nat) (acc : Int32), j ≤ nc → nc + 1 ≤ j + n → mHeldL M_13 key (nc - j) j acc = mHeldL M_13 key nc 0 0 → ∀ ls : Array Slot, lv_has ls 4 [(3, .int (nI j)), (2, .int acc), (0, .ref mm), (1, .int key)] → W p l e (headSpec wsX5_held { frames := 2, cells := 0, slots := 0, locals := 43 }).room s m ([.ref mm, .int key] : List Value).toArray below meth c H locs 0 0 (MQ below (va_Qi (fun r9 f9 => r9 = ((mRd M key (fun N => mHeldL N key nc 0 0)).1) ∧ Rm cy mm ma ((mRd M key (fun N => mHeldL N key nc 0 0)).2) f9) (gB D (gA f s.heap.size)) (gA f s.heap.size)) ([.ref mm, .int key] : List Value).toArray s 0 0 (gA f s.heap.size)) (F0 m 26 ls []) := by
      intro n
      induction n with
      | zero => intro j acc h1 h2; exact absurd h2 (by omega)
      | succ n ih =>
        intro j acc hjl hjn E ls hl
        have hjx : ix (nI j) = j := nI_clamp (by have := hok.1; have := hok.2.1; omega)
        refine lv_iload_n hx hb dX5_held_26 rfl (lv_at hl 0 rfl) ?_
        refine lv_aload_n hx hb dX5_held_27 rfl (lv_at hl 2 rfl) ?_
        refine m_get hx hb hts hinX5 hown hI hR 13 (by decide) hw0 rfl rfl dX5_held_28 ?_
        refine lv_icmp_ge (tgt := 72) hx hb dX5_held_31 (by decide) (fun c_15 => ?_) (fun c_15 => ?_)
        · have c_15' := Int32.not_lt.mpr c_15
          have hj : j = nc := g_lpE hlim (by have := hok.1; have := hok.2.1; omega) hjl c_15
          rw [hj] at E
          have hres := (mHeldL_end (M := M_13) (b := acc)).symm.trans E
          refine lv_iload_n hx hb dX5_held_72 rfl (lv_at hl 1 rfl) ?_
          exact g_iret hx hb hr hlocks hI (by have hE : (mRd M key (fun N => mHeldL N key nc 0 0)) = (acc, M_13) := (by rw [hres]; subst eM_13; simp only [mRd, c_4, c_15', if_true, if_false, ↓reduceIte, Bool.true_eq_false, Bool.false_eq_true, true_and, and_true, and_false, false_and, or_true, true_or, or_false, false_or, not_true_eq_false, not_false_eq_true, Bool.and_true, Bool.true_and, Bool.and_false, Bool.false_and, Bool.not_true, Bool.not_false, decide_true, decide_false, cond_true, cond_false] <;> rfl); exact ⟨by rw [hE], by rw [hE]; exact hR⟩) (Nat.le_of_ble_eq_true rfl) (Nat.le_of_ble_eq_true rfl) dX5_held_73
        · have c_15' := Int32.not_le.mp c_15
          have hj : j < nc := g_lpC hlim (by have := hok.1; have := hok.2.1; omega) hjl c_15
          refine lv_iload_n hx hb dX5_held_34 rfl (lv_at hl 1 rfl) ?_
          refine lv_aload_n hx hb dX5_held_35 rfl (lv_at hl 2 rfl) ?_
          refine m_get hx hb hts hinX5 hown hI hR 14 (by decide) hw1 rfl rfl dX5_held_36 ?_
          refine lv_iload_n hx hb dX5_held_39 rfl (lv_at hl 0 rfl) ?_
          refine m_iald hx hb hI hR 14 rfl rfl (vp_in_nI (Nat.lt_of_lt_of_le hj hok.2.1) (by decide)) dX5_held_40 ?_
          rw [hjx]
          refine lv_iload_n hx hb dX5_held_41 rfl (lv_at hl 3 rfl) ?_
          refine lv_icmp_ne (tgt := 63) hx hb dX5_held_42 (by decide) (fun c_16 => ?_) (fun c_16 => ?_)
          · refine lv_iconst (v := 0) hx hb dX5_held_63 (by decide) ?_
            refine lv_iadd hx hb dX5_held_64 ?_
            refine lv_istore_n (lv' := [(2, .int (acc + 0)), (3, .int (nI j)), (0, .ref mm), (1, .int key)]) hx hb dX5_held_65 rfl hl (by decide) rfl (fun ls hl => ?_)
            refine lv_iinc (v := (nI j) + 1) (lv' := [(3, .int ((nI j) + 1)), (2, .int (acc + 0)), (0, .ref mm), (1, .int key)]) hx hb dX5_held_66 hl (k := 1) rfl rfl (by decide) rfl (fun ls hl => ?_)
            refine lv_goto (tgt := 26) hx hb dX5_held_69 (by decide) ?_
            refine ih (j + 1) (acc + 0) (by omega) (by omega) ?_ ls ?_
            · have E1 := (mHeldL_step (M := M_13) (b := acc) hj).symm.trans E
              simp only [c_16, if_true, if_false, ↓reduceIte, Bool.true_eq_false, Bool.false_eq_true, true_and, and_true, and_false, false_and, or_true, true_or, or_false, false_or, not_true_eq_false, not_false_eq_true, Bool.and_true, Bool.true_and, Bool.and_false, Bool.false_and, Bool.not_true, Bool.not_false, decide_true, decide_false, cond_true, cond_false, Bool.not_true, Bool.not_false, Bool.or_true, Bool.true_or, Bool.or_false, Bool.false_or] at E1
              exact E1
            · rw [← nI_1]
              exact lv_sub hl [0, 1, 2, 3] rfl
          · refine lv_aload_n hx hb dX5_held_45 rfl (lv_at hl 2 rfl) ?_
            refine m_get hx hb hts hinX5 hown hI hR 20 (by decide) hw2 rfl rfl dX5_held_46 ?_
            refine lv_iload_n hx hb dX5_held_49 rfl (lv_at hl 0 rfl) ?_
            refine m_zald hx hb hI hR 20 rfl rfl (vp_in_nI (Nat.lt_of_lt_of_le hj hok.2.1) (by decide)) dX5_held_50 ?_
            rw [hjx]
            refine lv_if_ne (tgt := 63) hx hb dX5_held_51 (by decide) (fun c_17 => ?_) (fun c_17 => ?_)
            · refine lv_iconst (v := 0) hx hb dX5_held_63 (by decide) ?_
              refine lv_iadd hx hb dX5_held_64 ?_
              refine lv_istore_n (lv' := [(2, .int (acc + 0)), (3, .int (nI j)), (0, .ref mm), (1, .int key)]) hx hb dX5_held_65 rfl hl (by decide) rfl (fun ls hl => ?_)
              refine lv_iinc (v := (nI j) + 1) (lv' := [(3, .int ((nI j) + 1)), (2, .int (acc + 0)), (0, .ref mm), (1, .int key)]) hx hb dX5_held_66 hl (k := 1) rfl rfl (by decide) rfl (fun ls hl => ?_)
              refine lv_goto (tgt := 26) hx hb dX5_held_69 (by decide) ?_
              refine ih (j + 1) (acc + 0) (by omega) (by omega) ?_ ls ?_
              · have E1 := (mHeldL_step (M := M_13) (b := acc) hj).symm.trans E
                simp only [c_16, c_17, if_true, if_false, ↓reduceIte, Bool.true_eq_false, Bool.false_eq_true, true_and, and_true, and_false, false_and, or_true, true_or, or_false, false_or, not_true_eq_false, not_false_eq_true, Bool.and_true, Bool.true_and, Bool.and_false, Bool.false_and, Bool.not_true, Bool.not_false, decide_true, decide_false, cond_true, cond_false, Bool.not_true, Bool.not_false, Bool.or_true, Bool.true_or, Bool.or_false, Bool.false_or] at E1
                exact E1
              · rw [← nI_1]
                exact lv_sub hl [0, 1, 2, 3] rfl
            · refine lv_aload_n hx hb dX5_held_54 rfl (lv_at hl 2 rfl) ?_
              refine m_get hx hb hts hinX5 hown hI hR 15 (by decide) hw3 rfl rfl dX5_held_55 ?_
              refine lv_iload_n hx hb dX5_held_58 rfl (lv_at hl 0 rfl) ?_
              refine m_iald hx hb hI hR 15 rfl rfl (vp_in_nI (Nat.lt_of_lt_of_le hj hok.2.1) (by decide)) dX5_held_59 ?_
              rw [hjx]
              refine lv_goto (tgt := 64) hx hb dX5_held_60 (by decide) ?_
              refine lv_iadd hx hb dX5_held_64 ?_
              refine lv_istore_n (lv' := [(2, .int (acc + (M_13 15 j))), (3, .int (nI j)), (0, .ref mm), (1, .int key)]) hx hb dX5_held_65 rfl hl (by decide) rfl (fun ls hl => ?_)
              refine lv_iinc (v := (nI j) + 1) (lv' := [(3, .int ((nI j) + 1)), (2, .int (acc + (M_13 15 j))), (0, .ref mm), (1, .int key)]) hx hb dX5_held_66 hl (k := 1) rfl rfl (by decide) rfl (fun ls hl => ?_)
              refine lv_goto (tgt := 26) hx hb dX5_held_69 (by decide) ?_
              refine ih (j + 1) (acc + (M_13 15 j)) (by omega) (by omega) ?_ ls ?_
              · have E1 := (mHeldL_step (M := M_13) (b := acc) hj).symm.trans E
                simp only [c_16, c_17, if_true, if_false, ↓reduceIte, Bool.true_eq_false, Bool.false_eq_true, true_and, and_true, and_false, false_and, or_true, true_or, or_false, false_or, not_true_eq_false, not_false_eq_true, Bool.and_true, Bool.true_and, Bool.and_false, Bool.false_and, Bool.not_true, Bool.not_false, decide_true, decide_false, cond_true, cond_false, Bool.not_true, Bool.not_false, Bool.or_true, Bool.true_or, Bool.or_false, Bool.false_or] at E1
                exact E1
              · rw [← nI_1]
                exact lv_sub hl [0, 1, 2, 3] rfl
    exact hloop (nc + 1) 0 0 (Nat.zero_le _) (by omega) rfl ls (lv_sub hl [0, 1, 2, 3] rfl)

set_option maxHeartbeats 4000000 in
set_option maxRecDepth 100000 in
/-- spent -/
theorem c_X5_spent (l : Launch) (D : va_G) (cy : Nat → ClassId) (de : Nat) (f : gFm) (mm : Nat) (ma : Nat → Nat) (M : gMd) (key : Int32) (nk nc : Nat) (hok : mOK nk nc M) (hR : Rm cy mm ma M f) : gMi l yX5_spent wsX5_spent { frames := 2, cells := 0, slots := 0, locals := 43 } D cy de [.ref mm, .int key] f (fun r9 f9 => r9 = ((mRd M key (fun N => mSpentL N key nc 0 0)).1) ∧ Rm cy mm ma ((mRd M key (fun N => mSpentL N key nc 0 0)).2) f9) 0 0 := by
  refine fun sz => Met.ofW (cc := cX5_spent) (maxL := 4) (ret := (some .int)) (by decide) rfl ?_
  intro p e s m args below meth c s₁ B hml hv
  obtain ⟨rfl, hv⟩ := hv
  obtain ⟨rfl, hI⟩ := gP_I hv
  have hx := B.exec
  have hb := B.bytes
  have hr := B.returns
  have hts := atoms_spec (ws := wsX5_spent) B.pre
  have hown : s.vm.findClass RX5 = some m.cls := findClass_of_methodNamed B.named
  have hlocks := B.notSynchronized
  have hinX5 : ∀ w ∈ wsX50, w ∈ wsX5_spent := by decide +kernel
  have hw0 := hts (.fieldLink RX5 79 "TollGatewayModel" "calls" "I") (by decide +kernel)
  have hw1 := hts (.fieldLink RX5 43 "TollGatewayModel" "callers" "[I") (by decide +kernel)
  have hw2 := hts (.fieldLink RX5 55 "TollGatewayModel" "costs" "[I") (by decide +kernel)
  have hl := lv_entry ([.ref mm, .int key]) (n := 4) (Nat.le_of_ble_eq_true rfl)
  rw [lg_entry_eq]
  generalize (lg_sl ([.ref mm, .int key]) ++ List.replicate (4 - (lg_sl ([.ref mm, .int key])).length) Slot.unset).toArray = ls at hl ⊢
  have hl : lv_has ls 4 [(0, .ref mm), (1, .int key)] := hl
  refine lv_aload_n hx hb dX5_spent_0 rfl (lv_at hl 0 rfl) ?_
  refine lv_aload_n hx hb dX5_spent_1 rfl (lv_at hl 0 rfl) ?_
  refine lv_iload_n hx hb dX5_spent_2 rfl (lv_at hl 1 rfl) ?_
  refine g_calli hI (va_runV (As := [.int key]) (rest := [.ref mm]) ⟨hx, hb, hml, hown, hts⟩ (c_X5_isKey l D cy de f mm ma M key hR s.heap.size) (cwV 1 hts gX5_spent_X5_isKey rfl rfl rfl (by decide +kernel) ⟨Nat.le_of_ble_eq_true rfl, Nat.le_of_ble_eq_true rfl⟩) (g_preV hI hR.1 rfl) rfl rfl hl.1 rfl (lv_room (Nat.le_of_ble_eq_true rfl)) dX5_spent_3 ⟨Nat.le_of_ble_eq_true rfl, Nat.le_of_ble_eq_true rfl⟩) (fun r_1 f_2 H locs hw_3 hI => ?_)
  obtain ⟨rfl, hR⟩ := hw_3
  refine g_b2i_eq (tgt := 13) hx hb dX5_spent_6 (by decide) (fun c_4 => ?_) (fun c_4 => ?_)
  · refine lv_iconst (v := 1) hx hb dX5_spent_13 (by decide) ?_
    refine g_calli hI (va_runV (As := [.int 1]) (rest := []) ⟨hx, hb, hml, hown, hts⟩ (c_X5_goesWell l D cy de f_2 mm ma M 1 hR H.size) (cwV 1 hts gX5_spent_X5_goesWell rfl rfl rfl (by decide +kernel) ⟨Nat.le_of_ble_eq_true rfl, Nat.le_of_ble_eq_true rfl⟩) (g_preV hI hR.1 rfl) rfl rfl hl.1 rfl (lv_room (Nat.le_of_ble_eq_true rfl)) dX5_spent_14 ⟨Nat.le_of_ble_eq_true rfl, Nat.le_of_ble_eq_true rfl⟩) (fun r_5 f_6 H locs hw_7 hI => ?_)
    obtain ⟨rfl, hR⟩ := hw_7
    obtain ⟨M_8, eM_8⟩ : ∃ z, z = mWell M 1 := ⟨_, rfl⟩
    rw [← eM_8] at hR
    refine g_b2i_ne (tgt := 22) hx hb dX5_spent_17 (by decide) (fun z => absurd z (by decide)) (fun _ => ?_)
    refine lv_iconst (v := 0) hx hb dX5_spent_20 (by decide) ?_
    exact g_iret hx hb hr hlocks hI (by have hE : (mRd M key (fun N => mSpentL N key nc 0 0)) = (0, M_8) := (by simp only [mRd, c_4, if_true, if_false, ↓reduceIte, Bool.true_eq_false, Bool.false_eq_true, true_and, and_true, and_false, false_and, or_true, true_or, or_false, false_or, not_true_eq_false, not_false_eq_true, Bool.and_true, Bool.true_and, Bool.and_false, Bool.false_and, Bool.not_true, Bool.not_false, decide_true, decide_false, cond_true, cond_false] <;> (subst eM_8; rfl)); exact ⟨by rw [hE], by rw [hE]; exact hR⟩) (Nat.le_of_ble_eq_true rfl) (Nat.le_of_ble_eq_true rfl) dX5_spent_21
  · refine lv_iconst (v := 0) hx hb dX5_spent_9 (by decide) ?_
    refine lv_goto (tgt := 14) hx hb dX5_spent_10 (by decide) ?_
    refine g_calli hI (va_runV (As := [.int 0]) (rest := []) ⟨hx, hb, hml, hown, hts⟩ (c_X5_goesWell l D cy de f_2 mm ma M 0 hR H.size) (cwV 1 hts gX5_spent_X5_goesWell rfl rfl rfl (by decide +kernel) ⟨Nat.le_of_ble_eq_true rfl, Nat.le_of_ble_eq_true rfl⟩) (g_preV hI hR.1 rfl) rfl rfl hl.1 rfl (lv_room (Nat.le_of_ble_eq_true rfl)) dX5_spent_14 ⟨Nat.le_of_ble_eq_true rfl, Nat.le_of_ble_eq_true rfl⟩) (fun r_10 f_11 H locs hw_12 hI => ?_)
    obtain ⟨rfl, hR⟩ := hw_12
    obtain ⟨M_13, eM_13⟩ : ∃ z, z = mWell M 0 := ⟨_, rfl⟩
    rw [← eM_13] at hR
    refine g_b2i_ne (tgt := 22) hx hb dX5_spent_17 (by decide) (fun _ => ?_) (fun z => absurd z (by decide))
    refine lv_iconst (v := 0) hx hb dX5_spent_22 (by decide) ?_
    refine lv_istore_n (lv' := [(2, .int 0), (0, .ref mm), (1, .int key)]) hx hb dX5_spent_23 rfl hl (by decide) rfl (fun ls hl => ?_)
    refine lv_iconst (v := 0) hx hb dX5_spent_24 (by decide) ?_
    refine lv_istore_n (lv' := [(3, .int 0), (2, .int 0), (0, .ref mm), (1, .int key)]) hx hb dX5_spent_25 rfl hl (by decide) rfl (fun ls hl => ?_)
    have hlim : M_13 13 0 = nI nc := (by subst eM_13; exact (show M 13 0 = nI nc from hok.2.2.2.1))
    have hloop : ∀ (n j : Nat) (acc : Int32), j ≤ nc → nc + 1 ≤ j + n → mSpentL M_13 key (nc - j) j acc = mSpentL M_13 key nc 0 0 → ∀ ls : Array Slot, lv_has ls 4 [(3, .int (nI j)), (2, .int acc), (0, .ref mm), (1, .int key)] → W p l e (headSpec wsX5_spent { frames := 2, cells := 0, slots := 0, locals := 43 }).room s m ([.ref mm, .int key] : List Value).toArray below meth c H locs 0 0 (MQ below (va_Qi (fun r9 f9 => r9 = ((mRd M key (fun N => mSpentL N key nc 0 0)).1) ∧ Rm cy mm ma ((mRd M key (fun N => mSpentL N key nc 0 0)).2) f9) (gB D (gA f s.heap.size)) (gA f s.heap.size)) ([.ref mm, .int key] : List Value).toArray s 0 0 (gA f s.heap.size)) (F0 m 26 ls []) := by
      intro n
      induction n with
      | zero => intro j acc h1 h2; exact absurd h2 (by omega)
      | succ n ih =>
        intro j acc hjl hjn E ls hl
        have hjx : ix (nI j) = j := nI_clamp (by have := hok.1; have := hok.2.1; omega)
        refine lv_iload_n hx hb dX5_spent_26 rfl (lv_at hl 0 rfl) ?_
        refine lv_aload_n hx hb dX5_spent_27 rfl (lv_at hl 2 rfl) ?_
        refine m_get hx hb hts hinX5 hown hI hR 13 (by decide) hw0 rfl rfl dX5_spent_28 ?_
        refine lv_icmp_ge (tgt := 63) hx hb dX5_spent_31 (by decide) (fun c_15 => ?_) (fun c_15 => ?_)
        · have c_15' := Int32.not_lt.mpr c_15
          have hj : j = nc := g_lpE hlim (by have := hok.1; have := hok.2.1; omega) hjl c_15
          rw [hj] at E
          have hres := (mSpentL_end (M := M_13) (b := acc)).symm.trans E
          refine lv_iload_n hx hb dX5_spent_63 rfl (lv_at hl 1 rfl) ?_
          exact g_iret hx hb hr hlocks hI (by have hE : (mRd M key (fun N => mSpentL N key nc 0 0)) = (acc, M_13) := (by rw [hres]; subst eM_13; simp only [mRd, c_4, c_15', if_true, if_false, ↓reduceIte, Bool.true_eq_false, Bool.false_eq_true, true_and, and_true, and_false, false_and, or_true, true_or, or_false, false_or, not_true_eq_false, not_false_eq_true, Bool.and_true, Bool.true_and, Bool.and_false, Bool.false_and, Bool.not_true, Bool.not_false, decide_true, decide_false, cond_true, cond_false] <;> rfl); exact ⟨by rw [hE], by rw [hE]; exact hR⟩) (Nat.le_of_ble_eq_true rfl) (Nat.le_of_ble_eq_true rfl) dX5_spent_64
        · have c_15' := Int32.not_le.mp c_15
          have hj : j < nc := g_lpC hlim (by have := hok.1; have := hok.2.1; omega) hjl c_15
          refine lv_iload_n hx hb dX5_spent_34 rfl (lv_at hl 1 rfl) ?_
          refine lv_aload_n hx hb dX5_spent_35 rfl (lv_at hl 2 rfl) ?_
          refine m_get hx hb hts hinX5 hown hI hR 14 (by decide) hw1 rfl rfl dX5_spent_36 ?_
          refine lv_iload_n hx hb dX5_spent_39 rfl (lv_at hl 0 rfl) ?_
          refine m_iald hx hb hI hR 14 rfl rfl (vp_in_nI (Nat.lt_of_lt_of_le hj hok.2.1) (by decide)) dX5_spent_40 ?_
          rw [hjx]
          refine lv_iload_n hx hb dX5_spent_41 rfl (lv_at hl 3 rfl) ?_
          refine lv_icmp_ne (tgt := 54) hx hb dX5_spent_42 (by decide) (fun c_16 => ?_) (fun c_16 => ?_)
          · refine lv_iconst (v := 0) hx hb dX5_spent_54 (by decide) ?_
            refine lv_iadd hx hb dX5_spent_55 ?_
            refine lv_istore_n (lv' := [(2, .int (acc + 0)), (3, .int (nI j)), (0, .ref mm), (1, .int key)]) hx hb dX5_spent_56 rfl hl (by decide) rfl (fun ls hl => ?_)
            refine lv_iinc (v := (nI j) + 1) (lv' := [(3, .int ((nI j) + 1)), (2, .int (acc + 0)), (0, .ref mm), (1, .int key)]) hx hb dX5_spent_57 hl (k := 1) rfl rfl (by decide) rfl (fun ls hl => ?_)
            refine lv_goto (tgt := 26) hx hb dX5_spent_60 (by decide) ?_
            refine ih (j + 1) (acc + 0) (by omega) (by omega) ?_ ls ?_
            · have E1 := (mSpentL_step (M := M_13) (b := acc) hj).symm.trans E
              simp only [c_16, if_true, if_false, ↓reduceIte, Bool.true_eq_false, Bool.false_eq_true, true_and, and_true, and_false, false_and, or_true, true_or, or_false, false_or, not_true_eq_false, not_false_eq_true, Bool.and_true, Bool.true_and, Bool.and_false, Bool.false_and, Bool.not_true, Bool.not_false, decide_true, decide_false, cond_true, cond_false, Bool.not_true, Bool.not_false, Bool.or_true, Bool.true_or, Bool.or_false, Bool.false_or] at E1
              exact E1
            · rw [← nI_1]
              exact lv_sub hl [0, 1, 2, 3] rfl
          · refine lv_aload_n hx hb dX5_spent_45 rfl (lv_at hl 2 rfl) ?_
            refine m_get hx hb hts hinX5 hown hI hR 18 (by decide) hw2 rfl rfl dX5_spent_46 ?_
            refine lv_iload_n hx hb dX5_spent_49 rfl (lv_at hl 0 rfl) ?_
            refine m_iald hx hb hI hR 18 rfl rfl (vp_in_nI (Nat.lt_of_lt_of_le hj hok.2.1) (by decide)) dX5_spent_50 ?_
            rw [hjx]
            refine lv_goto (tgt := 55) hx hb dX5_spent_51 (by decide) ?_
            refine lv_iadd hx hb dX5_spent_55 ?_
            refine lv_istore_n (lv' := [(2, .int (acc + (M_13 18 j))), (3, .int (nI j)), (0, .ref mm), (1, .int key)]) hx hb dX5_spent_56 rfl hl (by decide) rfl (fun ls hl => ?_)
            refine lv_iinc (v := (nI j) + 1) (lv' := [(3, .int ((nI j) + 1)), (2, .int (acc + (M_13 18 j))), (0, .ref mm), (1, .int key)]) hx hb dX5_spent_57 hl (k := 1) rfl rfl (by decide) rfl (fun ls hl => ?_)
            refine lv_goto (tgt := 26) hx hb dX5_spent_60 (by decide) ?_
            refine ih (j + 1) (acc + (M_13 18 j)) (by omega) (by omega) ?_ ls ?_
            · have E1 := (mSpentL_step (M := M_13) (b := acc) hj).symm.trans E
              simp only [c_16, if_true, if_false, ↓reduceIte, Bool.true_eq_false, Bool.false_eq_true, true_and, and_true, and_false, false_and, or_true, true_or, or_false, false_or, not_true_eq_false, not_false_eq_true, Bool.and_true, Bool.true_and, Bool.and_false, Bool.false_and, Bool.not_true, Bool.not_false, decide_true, decide_false, cond_true, cond_false, Bool.not_true, Bool.not_false, Bool.or_true, Bool.true_or, Bool.or_false, Bool.false_or] at E1
              exact E1
            · rw [← nI_1]
              exact lv_sub hl [0, 1, 2, 3] rfl
    exact hloop (nc + 1) 0 0 (Nat.zero_le _) (by omega) rfl ls (lv_sub hl [0, 1, 2, 3] rfl)

def mIsSlowed (nc : Nat) (M : gMd) (key : Int32) : Int32 × gMd := if mKey M key = false then (0, mWell M 1) else (b2i (mSlow (mWell M 0) nc key), mWell M 0)
