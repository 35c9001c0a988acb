-- ===== readings that are sure not to throw =====
theorem gXi_gMi {l : Launch} {y : MethodName} {ws : List Cond} {rm : Room} {D : va_G} {cy : Nat → ClassId} {de : Nat} {av : List Value} {f : gFm} {post post1 : Int32 → gFm → Prop} {px : String → Prop} {mc ms : Nat} (h : gXi l y ws rm D cy de av f post px mc ms) (hp : ∀ E, ¬ px E) (hq : ∀ r g, post r g → post1 r g) : gMi l y ws rm D cy de av f post1 mc ms :=
  fun sz => MetFree.mono (h sz) (fun _ _ h => h) (fun _ _ _ _ _ h => h) (fun _ _ _ _ _ q => by
    rcases q with ⟨⟨⟨r, u, h1, h2, h3⟩, h4⟩, L⟩ | ⟨q9, ho, E, ce, L, ⟨u, hu, ⟨hpx, hB⟩, hF⟩, -⟩
    · exact ⟨⟨⟨r, u, h1, hq r u h2, h3⟩, h4⟩, L⟩
    · exact absurd hpx (hp E))
theorem gMi_rL {l : Launch} {y : MethodName} {ws : List Cond} {rm : Room} {D : va_G} {cy : Nat → ClassId} {de : Nat} {av : List Value} {f g : gFm} {v : Int32} {mc ms : Nat} (h : gMi l y ws rm D cy de av f (fun r9 f9 => r9 = v ∧ f9 = f) mc ms) (hd : gDj f g) : gMi l y ws rm D cy de av (gJ f g) (fun r9 f9 => r9 = v ∧ f9 = gJ f g) mc ms :=
  gMi_w (gMi_frame h hd) (fun r f9 q => by
    obtain ⟨g9, ⟨h1, h2⟩, h3, -⟩ := q
    exact ⟨h1, by rw [h3, h2]⟩)
theorem gMi_rR {l : Launch} {y : MethodName} {ws : List Cond} {rm : Room} {D : va_G} {cy : Nat → ClassId} {de : Nat} {av : List Value} {f g : gFm} {v : Int32} {mc ms : Nat} (h : gMi l y ws rm D cy de av g (fun r9 f9 => r9 = v ∧ f9 = g) mc ms) (hd : gDj f g) : gMi l y ws rm D cy de av (gJ f g) (fun r9 f9 => r9 = v ∧ f9 = gJ f g) mc ms :=
  gMi_w (gMi_frameR h hd) (fun r f9 q => by
    obtain ⟨g9, ⟨h1, h2⟩, h3, -⟩ := q
    exact ⟨h1, by rw [h3, h2]⟩)

theorem r_credit (l : Launch) (hl0 : l.stackTraces = false) (D : va_G) (cy : Nat → ClassId) (de : Nat) (f : gFm) (N : gNm) (I : gMd) {k : Nat} (hR : gR cy de N I f) (hk : k < N 0 7) : gMi l yX4_credit wsX4_credit { frames := 7, cells := 1, slots := 6, locals := 103 } D cy de [.ref (N 0 0), .int (nI k)] f (fun r9 f9 => r9 = I 9 k ∧ f9 = f) 1 6 :=
  gXi_gMi (c_X4_credit l hl0 D cy de f N I (nI k) hR) (fun E z => z.2 ⟨k, hk, rfl⟩) (fun r g q => by
    obtain ⟨j, hj, e, h1, h2⟩ := q
    have h8 := gR_nk hR
    have h80 := gR_nc hR
    have e2 : k = j := (nI_eq (by omega) (by omega)).mp e
    rw [e2]
    exact ⟨h1, h2⟩)
theorem r_debt (l : Launch) (hl0 : l.stackTraces = false) (D : va_G) (cy : Nat → ClassId) (de : Nat) (f : gFm) (N : gNm) (I : gMd) {k : Nat} (hR : gR cy de N I f) (hk : k < N 0 7) : gMi l yX4_debt wsX4_debt { frames := 7, cells := 1, slots := 6, locals := 103 } D cy de [.ref (N 0 0), .int (nI k)] f (fun r9 f9 => r9 = I 10 k ∧ f9 = f) 1 6 :=
  gXi_gMi (c_X4_debt l hl0 D cy de f N I (nI k) hR) (fun E z => z.2 ⟨k, hk, rfl⟩) (fun r g q => by
    obtain ⟨j, hj, e, h1, h2⟩ := q
    have h8 := gR_nk hR
    have h80 := gR_nc hR
    have e2 : k = j := (nI_eq (by omega) (by omega)).mp e
    rw [e2]
    exact ⟨h1, h2⟩)
theorem r_held (l : Launch) (hl0 : l.stackTraces = false) (D : va_G) (cy : Nat → ClassId) (de : Nat) (f : gFm) (N : gNm) (I : gMd) {k : Nat} (hR : gR cy de N I f) (hk : k < N 0 7) : gMi l yX4_held wsX4_held { frames := 7, cells := 1, slots := 6, locals := 103 } D cy de [.ref (N 0 0), .int (nI k)] f (fun r9 f9 => r9 = I 11 k ∧ f9 = f) 1 6 :=
  gXi_gMi (c_X4_held l hl0 D cy de f N I (nI k) hR) (fun E z => z.2 ⟨k, hk, rfl⟩) (fun r g q => by
    obtain ⟨j, hj, e, h1, h2⟩ := q
    have h8 := gR_nk hR
    have h80 := gR_nc hR
    have e2 : k = j := (nI_eq (by omega) (by omega)).mp e
    rw [e2]
    exact ⟨h1, h2⟩)
theorem r_tokens (l : Launch) (hl0 : l.stackTraces = false) (D : va_G) (cy : Nat → ClassId) (de : Nat) (f : gFm) (N : gNm) (I : gMd) {k : Nat} (hR : gR cy de N I f) (hk : k < N 0 7) : gMi l yX4_tokens wsX4_tokens { frames := 7, cells := 1, slots := 6, locals := 103 } D cy de [.ref (N 0 0), .int (nI k)] f (fun r9 f9 => r9 = I 7 k ∧ f9 = f) 1 6 :=
  gXi_gMi (c_X4_tokens l hl0 D cy de f N I (nI k) hR) (fun E z => z.2 ⟨k, hk, rfl⟩) (fun r g q => by
    obtain ⟨j, hj, e, h1, h2⟩ := q
    have h8 := gR_nk hR
    have h80 := gR_nc hR
    have e2 : k = j := (nI_eq (by omega) (by omega)).mp e
    rw [e2]
    exact ⟨h1, h2⟩)
theorem r_isSlowed (l : Launch) (hl0 : l.stackTraces = false) (D : va_G) (cy : Nat → ClassId) (de : Nat) (f : gFm) (N : gNm) (I : gMd) {k : Nat} (hR : gR cy de N I f) (hk : k < N 0 7) : gMi l yX4_isSlowed wsX4_isSlowed { frames := 7, cells := 1, slots := 6, locals := 103 } D cy de [.ref (N 0 0), .int (nI k)] f (fun r9 f9 => r9 = b2i (decide (I 9 k = 0) && decide (I 12 k = 0)) ∧ f9 = f) 1 6 :=
  gXi_gMi (c_X4_isSlowed l hl0 D cy de f N I (nI k) hR) (fun E z => z.2 ⟨k, hk, rfl⟩) (fun r g q => by
    obtain ⟨j, hj, e, h1, h2⟩ := q
    have h8 := gR_nk hR
    have h80 := gR_nc hR
    have e2 : k = j := (nI_eq (by omega) (by omega)).mp e
    rw [e2]
    exact ⟨h1, h2⟩)
theorem r_spent (l : Launch) (hl0 : l.stackTraces = false) (D : va_G) (cy : Nat → ClassId) (de : Nat) (f : gFm) (N : gNm) (I : gMd) {k : Nat} (hR : gR cy de N I f) (hk : k < N 0 7) : gMi l yX4_spent wsX4_spent { frames := 7, cells := 1, slots := 6, locals := 103 } D cy de [.ref (N 0 0), .int (nI k)] f (fun r9 f9 => r9 = I 13 k ∧ f9 = f) 1 6 :=
  gXi_gMi (c_X4_spent l hl0 D cy de f N I (nI k) hR) (fun E z => z.2 ⟨k, hk, rfl⟩) (fun r g q => by
    obtain ⟨j, hj, e, h1, h2⟩ := q
    have h8 := gR_nk hR
    have h80 := gR_nc hR
    have e2 : k = j := (nI_eq (by omega) (by omega)).mp e
    rw [e2]
    exact ⟨h1, h2⟩)
theorem r_paid (l : Launch) (hl0 : l.stackTraces = false) (D : va_G) (cy : Nat → ClassId) (de : Nat) (f : gFm) (N : gNm) (I : gMd) {k : Nat} (hR : gR cy de N I f) (hk : k < N 0 7) : gMi l yX4_paid wsX4_paid { frames := 7, cells := 1, slots := 6, locals := 103 } D cy de [.ref (N 0 0), .int (nI k)] f (fun r9 f9 => r9 = I 14 k ∧ f9 = f) 1 6 :=
  gXi_gMi (c_X4_paid l hl0 D cy de f N I (nI k) hR) (fun E z => z.2 ⟨k, hk, rfl⟩) (fun r g q => by
    obtain ⟨j, hj, e, h1, h2⟩ := q
    have h8 := gR_nk hR
    have h80 := gR_nc hR
    have e2 : k = j := (nI_eq (by omega) (by omega)).mp e
    rw [e2]
    exact ⟨h1, h2⟩)
theorem r_cost (l : Launch) (hl0 : l.stackTraces = false) (D : va_G) (cy : Nat → ClassId) (de : Nat) (f : gFm) (N : gNm) (I : gMd) {k : Nat} (hR : gR cy de N I f) (hk : k < N 0 8) : gMi l yX4_cost wsX4_cost { frames := 7, cells := 1, slots := 6, locals := 103 } D cy de [.ref (N 0 0), .int (nI k)] f (fun r9 f9 => r9 = I 18 k ∧ f9 = f) 1 6 :=
  gXi_gMi (c_X4_cost l hl0 D cy de f N I (nI k) hR) (fun E z => z.2 ⟨k, hk, rfl⟩) (fun r g q => by
    obtain ⟨j, hj, e, h1, h2⟩ := q
    have h8 := gR_nk hR
    have h80 := gR_nc hR
    have e2 : k = j := (nI_eq (by omega) (by omega)).mp e
    rw [e2]
    exact ⟨h1, h2⟩)
theorem r_creditI (l : Launch) (hl0 : l.stackTraces = false) (D : va_G) (cy : Nat → ClassId) (de : Nat) (f : gFm) (N : gNm) (I : gMd) {k : Nat} (hR : gR cy de N I f) (hk : k < N 0 7) {M : gMd} {tk T : Nat} (h : Sim N I M tk T) : gMi l yL_credit wsL_credit { frames := 8, cells := 1, slots := 6, locals := 124 } D cy de [.ref (N 0 0), .int (nI k)] f (fun r9 f9 => r9 = I 9 k ∧ f9 = f) 1 6 :=
  gMi_w (d_credit l hl0 D cy de f N I (nI k) hR h) (fun r g q => by
    obtain ⟨h1, ⟨h2, -⟩ | ⟨j, hj, e, h2⟩⟩ := q
    · exact absurd ⟨k, hk, rfl⟩ h2
    · have h8 := gR_nk hR
      have e2 : k = j := (nI_eq (by omega) (by omega)).mp e
      rw [e2]
      exact ⟨h2, h1⟩)
theorem r_creditO (l : Launch) (hl0 : l.stackTraces = false) (D : va_G) (cy : Nat → ClassId) (de : Nat) (f : gFm) (N : gNm) (I : gMd) {k : Nat} (hR : gR cy de N I f) (hk : ¬ k < N 0 7) (hk8 : k ≤ 8) {M : gMd} {tk T : Nat} (h : Sim N I M tk T) : gMi l yL_credit wsL_credit { frames := 8, cells := 1, slots := 6, locals := 124 } D cy de [.ref (N 0 0), .int (nI k)] f (fun r9 f9 => r9 = (-1) ∧ f9 = f) 1 6 :=
  gMi_w (d_credit l hl0 D cy de f N I (nI k) hR h) (fun r g q => by
    obtain ⟨h1, ⟨h2, h3⟩ | ⟨j, hj, e, h2⟩⟩ := q
    · exact ⟨h3, h1⟩
    · have h8 := gR_nk hR
      have e2 : k = j := (nI_eq (by omega) (by omega)).mp e
      exact absurd (by omega) hk)
-- ===== low and cell =====
def loV (v n : Int32) : Int32 := (v &&& 2147483647) - (v &&& 2147483647) / n * n
set_option maxHeartbeats 4000000 in
theorem c_L_low (l : Launch) (D : va_G) (cy : Nat → ClassId) (de : Nat) (f : gFm) (v n : Int32) (hn : ¬ n = 0) : gMi l yL_low wsL_low { frames := 0, cells := 0, slots := 0, locals := 0 } D cy de [.int v, .int n] f (fun r9 f9 => r9 = loV v n ∧ f9 = f) 0 0 := by
  refine fun sz => Met.ofW (cc := cL_low) (maxL := 2) (ret := (some .int)) (by decide) rfl ?_
  intro p e s m args below meth c s₁ B hml hv
  obtain ⟨rfl, hv⟩ := hv
  obtain ⟨rfl, hI⟩ := gP_I hv
  have hx := B.exec
  have hb := B.bytes
  have hr := B.returns
  have hts := atoms_spec (ws := wsL_low) B.pre
  have hown : s.vm.findClass RL = some m.cls := findClass_of_methodNamed B.named
  have hlocks := B.notSynchronized
  have hw0 := hts (.constant RL 7 (2147483647)) (by decide +kernel)
  have hl := lv_entry ([.int v, .int n]) (n := 2) (Nat.le_of_ble_eq_true rfl)
  rw [lg_entry_eq]
  generalize (lg_sl ([.int v, .int n]) ++ List.replicate (2 - (lg_sl ([.int v, .int n])).length) Slot.unset).toArray = ls at hl ⊢
  have hl : lv_has ls 2 [(0, .int v), (1, .int n)] := hl
  refine lv_iload_n hx hb dL_low_0 rfl (lv_at hl 0 rfl) ?_
  refine lv_ldc (v := 2147483647) hx hb hown hw0 dL_low_1 ?_
  refine lv_iand hx hb dL_low_3 ?_
  refine lv_iload_n hx hb dL_low_4 rfl (lv_at hl 1 rfl) ?_
  refine lv_irem hx hb dL_low_5 hn ?_
  exact g_iret hx hb hr hlocks hI ⟨rfl, rfl⟩ (Nat.le_of_ble_eq_true rfl) (Nat.le_of_ble_eq_true rfl) dL_low_6
/-- the script's number, or one made up: some number -/
def gMcell (l : Launch) (D : va_G) (cy : Nat → ClassId) (de b L : Nat) (xs : Nat → Int32) (k : Nat) (f : gFm) : Prop := ∀ sz : Nat, Met l yL_cell wsL_cell { frames := 0, cells := 0, slots := 0, locals := 0 } (va_Pc [.ref b, .int (nI k)] (fun U => gP D cy de sz f U ∧ va_X b L xs U U.heap)) (va_Qi (fun _ f9 => f9 = f) (gB D (gA f sz)) (gA f sz)) 0 0 (gA f sz)
set_option maxHeartbeats 4000000 in
theorem c_L_cell (l : Launch) (D : va_G) (cy : Nat → ClassId) (de b L : Nat) (xs : Nat → Int32) (k : Nat) (f : gFm) (hL : L < 2 ^ 31) (hk : k < 2 ^ 31) (hfb : f b = none) : gMcell l D cy de b L xs k f := by
  refine fun sz => Met.ofW (cc := cL_cell) (maxL := 2) (ret := (some .int)) (by decide) rfl ?_
  intro p e s m args below meth c s₁ B hml hv
  obtain ⟨rfl, hv, hX⟩ := hv
  obtain ⟨rfl, hI⟩ := gP_I hv
  have hx := B.exec
  have hb := B.bytes
  have hr := B.returns
  have hlocks := B.notSynchronized
  have hbl : b < s.heap.size := by
    obtain ⟨scr, h1, -⟩ := hX
    exact (Array.getElem?_eq_some_iff.mp h1).1
  have hbA : ¬ gA f s.heap.size b := fun z => z.elim (fun q => q hfb) (fun q => absurd hbl (Nat.not_lt.mpr q))
  have hl := lv_entry ([.ref b, .int (nI k)]) (n := 2) (Nat.le_of_ble_eq_true rfl)
  rw [lg_entry_eq]
  generalize (lg_sl ([.ref b, .int (nI k)]) ++ List.replicate (2 - (lg_sl ([.ref b, .int (nI k)])).length) Slot.unset).toArray = ls at hl ⊢
  have hl : lv_has ls 2 [(0, .ref b), (1, .int (nI k))] := hl
  refine lv_iload_n hx hb dL_cell_0 rfl (lv_at hl 1 rfl) ?_
  refine lv_aload_n hx hb dL_cell_1 rfl (lv_at hl 0 rfl) ?_
  refine va_slen hx hb hX hbl hbA hI.2.1 dL_cell_2 ?_
  refine lv_icmp_ge (tgt := 12) hx hb dL_cell_3 (by decide) (fun z => ?_) (fun z => ?_)
  · refine lv_sipush (v := 7919) hx hb dL_cell_12 (by decide) ?_
    refine lv_iload_n hx hb dL_cell_15 rfl (lv_at hl 1 rfl) ?_
    refine lv_sipush (v := 1021) hx hb dL_cell_16 (by decide) ?_
    refine lv_iadd hx hb dL_cell_19 ?_
    refine lv_imul hx hb dL_cell_20 ?_
    refine lv_iload_n hx hb dL_cell_21 rfl (lv_at hl 1 rfl) ?_
    refine lv_sipush (v := 839) hx hb dL_cell_22 (by decide) ?_
    refine lv_iadd hx hb dL_cell_25 ?_
    refine lv_imul hx hb dL_cell_26 ?_
    exact g_iret hx hb hr hlocks hI rfl (Nat.le_of_ble_eq_true rfl) (Nat.le_of_ble_eq_true rfl) dL_cell_27
  · have hlt : k < L := by
      have z2 := Int32.not_le.mp z
      exact (nI_ltI hk hL).mp z2
    refine lv_aload_n hx hb dL_cell_6 rfl (lv_at hl 0 rfl) ?_
    refine lv_iload_n hx hb dL_cell_7 rfl (lv_at hl 1 rfl) ?_
    refine va_sld hx hb hX hbl hbA hI.2.1 (vp_in_nI hlt hL) dL_cell_8 ?_
    refine lv_goto (tgt := 27) hx hb dL_cell_9 (by decide) ?_
    exact g_iret hx hb hr hlocks hI rfl (Nat.le_of_ble_eq_true rfl) (Nat.le_of_ble_eq_true rfl) dL_cell_27
theorem gMcell_blind {D : va_G} {cy : Nat → ClassId} {de sz b L : Nat} {xs : Nat → Int32} {f : gFm} {av : List Value} : FrameBlind (va_Pc av (fun U => gP D cy de sz f U ∧ va_X b L xs U U.heap)) :=
  fun a U g mk q => by
    obtain ⟨q1, q2, q3⟩ := q
    obtain ⟨r1, r2⟩ := gP_blind a U g mk ⟨q1, q2⟩
    exact ⟨r1, r2, va_X.moved (u := U) (U := U.calling g mk a) (Vm.Alike.refl U.vm) q3⟩
theorem g_preCell {D : va_G} {cy : Nat → ClassId} {de : Nat} {A : Nat → Prop} {s : State} {f : gFm} {H : Heap} {locs : List Loc} {b L : Nat} {xs : Nat → Int32} {As : List Value} (hI : gI D cy de A s f H locs) (hX : va_X b L xs s s.heap) (hbl : b < s.heap.size) (hbA : ¬ A b) : PreS s H (va_Pc As (fun U => gP D cy de H.size f U ∧ va_X b L xs U U.heap)) As :=
  ⟨gMcell_blind, fun U hU hW => ⟨rfl, gI_P hI hU hW, by
    rw [hU]
    exact va_X.moved hW.alike (va_X.kept hX (hI.2.1.2.1 b hbl hbA))⟩⟩
-- ===== what act does, by the reference's state and the script's number =====
def aOd (v : Int32) : Bool := decide (loV (v >>> ((24 : Int32) &&& 31)) 9 = 0)
def aKey (od : Bool) (v : Int32) : Int32 := cond od (loV (v >>> ((4 : Int32) &&& 31)) 10 - 1) (loV (v >>> ((4 : Int32) &&& 31)) 3)
def aPlan (od : Bool) (v : Int32) : Int32 := cond od (loV (v >>> ((7 : Int32) &&& 31)) 6 - 1) (loV (v >>> ((7 : Int32) &&& 31)) 2)
def aRoute (od : Bool) (v : Int32) : Int32 := cond od (loV (v >>> ((7 : Int32) &&& 31)) 8 - 1) (loV (v >>> ((7 : Int32) &&& 31)) 3)
def aNum (od : Bool) (v n : Int32) : Int32 := cond od (loV (v >>> ((4 : Int32) &&& 31)) 82 - 1) (if n = 0 then 0 else n - 1 - loV (v >>> ((4 : Int32) &&& 31)) (if n < 5 then n else 5))
theorem aNum_0 {v n : Int32} (h : n = 0) : aNum false v n = 0 := if_pos h
theorem aNum_1 {v n : Int32} (h : ¬ n = 0) (h2 : n < 5) : aNum false v n = n - 1 - loV (v >>> ((4 : Int32) &&& 31)) n := by
  show (if n = 0 then 0 else n - 1 - loV (v >>> ((4 : Int32) &&& 31)) (if n < 5 then n else 5)) = _
  rw [if_neg h, if_pos h2]
theorem aNum_2 {v n : Int32} (h : ¬ n = 0) (h2 : ¬ n < 5) : aNum false v n = n - 1 - loV (v >>> ((4 : Int32) &&& 31)) 5 := by
  show (if n = 0 then 0 else n - 1 - loV (v >>> ((4 : Int32) &&& 31)) (if n < 5 then n else 5)) = _
  rw [if_neg h, if_neg h2]
def swK (k : Nat) (M : gMd) (od : Bool) (v key plan route num : Int32) : Int32 × gMd :=
  match k with
  | 0 => (0, mSetPlan M plan (cond od (loV (v >>> ((9 : Int32) &&& 31)) 103) (1 + loV (v >>> ((9 : Int32) &&& 31)) 20)) (cond od (loV (v >>> ((13 : Int32) &&& 31)) 103 - 1) (2 + loV (v >>> ((13 : Int32) &&& 31)) 3)) (loV (v >>> ((16 : Int32) &&& 31)) (cond od 5 3)))
  | 1 => (0, mSetRoute M route (cond od (loV (v >>> ((9 : Int32) &&& 31)) 1005 - 2) (loV (v >>> ((9 : Int32) &&& 31)) 60)) (cond od (loV (v >>> ((14 : Int32) &&& 31)) 23) (1 + loV (v >>> ((14 : Int32) &&& 31)) 4)))
  | 2 => mAddKey M plan
  | 3 => if loV (v >>> ((10 : Int32) &&& 31)) 2 = 0 then mSetKeyPlan M key plan else mSetTrust M key (cond od (loV (v >>> ((7 : Int32) &&& 31)) 10005 - 2) (loV (v >>> ((7 : Int32) &&& 31)) 300))
  | 4 => mPay M key (cond od (loV (v >>> ((7 : Int32) &&& 31)) 100005 - 1) (1 + loV (v >>> ((7 : Int32) &&& 31)) 400))
  | 5 => mPay M key (cond od (loV (v >>> ((7 : Int32) &&& 31)) 100005 - 1) (1 + loV (v >>> ((7 : Int32) &&& 31)) 400))
  | 6 => mEnd M num (cond od (loV (v >>> ((10 : Int32) &&& 31)) 5 - 1) (loV (v >>> ((10 : Int32) &&& 31)) 3))
  | 7 => mEnd M num (cond od (loV (v >>> ((10 : Int32) &&& 31)) 5 - 1) (loV (v >>> ((10 : Int32) &&& 31)) 3))
  | 8 => mEnd M num (cond od (loV (v >>> ((10 : Int32) &&& 31)) 5 - 1) (loV (v >>> ((10 : Int32) &&& 31)) 3))
  | 9 => mDispute M num
  | 10 => mPass (ix (M 6 0)) (ix (M 13 0)) M (cond od (loV (v >>> ((4 : Int32) &&& 31)) 103) (1 + loV (v >>> ((4 : Int32) &&& 31)) 9))
  | 11 => mPass (ix (M 6 0)) (ix (M 13 0)) M (cond od (loV (v >>> ((4 : Int32) &&& 31)) 103) (1 + loV (v >>> ((4 : Int32) &&& 31)) 9))
  | _ => mCall M key route (cond od (loV (v >>> ((10 : Int32) &&& 31)) 11) (1 + loV (v >>> ((10 : Int32) &&& 31)) 9))
def swI (x : Int32) : Nat := if x.toInt < 0 ∨ 11 < x.toInt then 12 else x.toInt.toNat
def swX (M : gMd) (od : Bool) (v key plan route num : Int32) : Int32 × gMd := swK (swI (loV v 20)) M od v key plan route num
def aX (M : gMd) (v : Int32) : Int32 × gMd := swX M (aOd v) v (aKey (aOd v) v) (aPlan (aOd v) v) (aRoute (aOd v) v) (aNum (aOd v) v (M 13 0))
theorem sw_in (x : Int32) : (x.toInt < 0 ∨ 11 < x.toInt) ∨ ∃ k, k < 12 ∧ x = nI k := by
  by_cases h : x < 0
  · have h2 := Int32.lt_iff_toInt_lt.mp h
    rw [show (0 : Int32).toInt = 0 by decide] at h2
    exact Or.inl (Or.inl h2)
  · obtain ⟨j, hj, rfl⟩ := nI_of h
    by_cases z : j < 12
    · exact Or.inr ⟨j, z, rfl⟩
    · exact Or.inl (Or.inr (by rw [nI_toInt hj]; omega))

