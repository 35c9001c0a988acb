-- ===== the world as one function by address =====
def g_gf (f : gFm) : Nat → va_E := fun a => (f a).getD (.inr (0, []))
def gFin (f : gFm) : Prop := ∃ L : List Nat, L.Nodup ∧ ∀ a, a ∈ L ↔ f a ≠ none
def gA (f : gFm) (sz : Nat) : Nat → Prop := fun q => f q ≠ none ∨ sz ≤ q
def gC (D : va_G) (A : Nat → Prop) (f : gFm) (H : Heap) : Prop := (∀ a e, f a = some e → va_at D vwCl (a, e) H ∧ A a) ∧ gFin f
theorem gC_pl {D : va_G} {A : Nat → Prop} {f : gFm} {H : Heap} (h : gC D A f H) : ∃ L : List Nat, (∀ a, a ∈ L ↔ f a ≠ none) ∧ va_P D vwCl (va_pl L (g_gf f)) H ∧ va_D A (va_pl L (g_gf f)) := by
  obtain ⟨h1, L, hn, hL⟩ := h
  have key : ∀ (k : Nat) (q : Nat × va_E), (va_pl L (g_gf f))[k]? = some q → L[k]? = some q.1 ∧ f q.1 = some q.2 := by
    intro k q hq
    simp only [va_pl, List.getElem?_map] at hq
    cases hk : L[k]? with
    | none => rw [hk] at hq; cases hq
    | some a =>
      rw [hk] at hq
      have e : (a, g_gf f a) = q := Option.some.inj hq
      subst e
      refine ⟨rfl, ?_⟩
      have ha : f a ≠ none := (hL a).mp (List.mem_of_getElem? hk)
      cases hfa : f a with
      | none => exact absurd hfa ha
      | some e => simp [g_gf, hfa]
  refine ⟨L, hL, fun k q hq => (h1 q.1 q.2 (key k q hq).2).1, ⟨fun i j p q hp hq hpq => ?_, fun k q hq => (h1 q.1 q.2 (key k q hq).2).2⟩⟩
  have a1 := (key i p hp).1
  have a2 := (key j q hq).1
  rw [← hpq] at a2
  exact (List.getElem?_inj (List.getElem?_eq_some_iff.mp a1).1 hn).mp (a1.trans a2.symm)
theorem gC_of {D : va_G} {A : Nat → Prop} {f : gFm} {H : Heap} {L : List Nat} {g : Nat → va_E} (hP : va_P D vwCl (va_pl L g) H) (hD : va_D A (va_pl L g)) (hL : ∀ a, a ∈ L ↔ f a ≠ none) (hg : ∀ a e, f a = some e → g a = e) : gC D A f H := by
  refine ⟨fun a e ha => ?_, L, ?_, hL⟩
  · obtain ⟨k, hk⟩ := va_pl_get (X := []) (f := g) ((hL a).mpr (by rw [ha]; exact Option.some_ne_none e))
    have hk' : (va_pl L g)[k]? = some (a, e) := by rw [← hg a e ha]; exact hk
    exact ⟨hP k _ hk', hD.2 k _ hk'⟩
  · refine List.pairwise_iff_getElem.mpr (fun i j hi hj hij he => ?_)
    have h1 : (va_pl L g)[i]? = some (L[i], g L[i]) := by simp [va_pl, hi]
    have h2 : (va_pl L g)[j]? = some (L[j], g L[j]) := by simp [va_pl, hj]
    have := hD.1 i j _ _ h1 h2 he
    omega
theorem gC_set {D : va_G} {A : Nat → Prop} {f : gFm} {H1 : Heap} {L : List Nat} {a : Nat} {e0 e : va_E} (hL : ∀ b, b ∈ L ↔ f b ≠ none) (ha : f a = some e0) (hP : va_P D vwCl (va_pl L (va_up (g_gf f) a e)) H1) (hD : va_D A (va_pl L (va_up (g_gf f) a e))) : gC D A (va_up f a (some e)) H1 := by
  refine gC_of hP hD (fun b => ?_) (fun b x hx => ?_)
  · by_cases h : b = a
    · subst h
      rw [hL b, ha, va_up_self]
      exact ⟨fun _ => Option.some_ne_none _, fun _ => Option.some_ne_none _⟩
    · rw [hL b, va_up_ne _ _ h]
  · by_cases h : b = a
    · subst h
      rw [va_up_self] at hx ⊢
      exact Option.some.inj hx
    · rw [va_up_ne _ _ h] at hx ⊢
      simp [g_gf, hx]
theorem gC_push {D : va_G} {A : Nat → Prop} {f : gFm} {H1 : Heap} {L : List Nat} {q : Nat} {e : va_E} (hL : ∀ b, b ∈ L ↔ f b ≠ none) (hP : va_P D vwCl (va_pl L (g_gf f) ++ [(q, e)]) H1) (hD : va_D A (va_pl L (g_gf f) ++ [(q, e)])) : f q = none ∧ gC D A (va_up f q (some e)) H1 := by
  have hq : q ∉ L := va_pl_fresh2 (X := []) hD
  have hf : f q = none := by
    cases h : f q with
    | none => rfl
    | some x => exact absurd ((hL q).mpr (by rw [h]; exact Option.some_ne_none x)) hq
  rw [va_pl_push hq] at hP hD
  refine ⟨hf, gC_of hP hD (fun b => ?_) (fun b x hx => ?_)⟩
  · by_cases h : b = q
    · subst h
      rw [va_up_self]
      exact ⟨fun _ => Option.some_ne_none _, fun _ => List.mem_append.mpr (Or.inr (List.mem_singleton.mpr rfl))⟩
    · rw [va_up_ne _ _ h, ← hL b]
      constructor
      · intro hb
        rcases List.mem_append.mp hb with hb | hb
        · exact hb
        · exact absurd (List.mem_singleton.mp hb) h
      · exact fun hb => List.mem_append.mpr (Or.inl hb)
  · by_cases h : b = q
    · subst h
      rw [va_up_self] at hx ⊢
      exact Option.some.inj hx
    · rw [va_up_ne _ _ h] at hx ⊢
      simp [g_gf, hx]
theorem g_uu {α : Type} (f : Nat → α) (a : Nat) (x y : α) : va_up (va_up f a x) a y = va_up f a y := by
  funext j
  by_cases h : j = a <;> simp [va_up, h]
theorem g_us {α : Type} (f : Nat → α) {a : Nat} {x : α} (h : f a = x) : va_up f a x = f := by
  funext j
  by_cases hj : j = a
  · subst hj; rw [va_up_self, h]
  · rw [va_up_ne _ _ hj]
-- ===== the bundles =====
def gI (D : va_G) (cy : Nat → ClassId) (de : Nat) (A : Nat → Prop) (s : State) (f : gFm) (H : Heap) (locs : List Loc) : Prop :=
  va_K D vwCl (gT cy) s ∧ va_S A s.heap H locs ∧ (∀ q, s.heap.size ≤ q → A q) ∧ gE de (cy 9) A s s.heap ∧ gC D A f H
def gP (D : va_G) (cy : Nat → ClassId) (de sz : Nat) (f : gFm) (U : State) : Prop :=
  U.heap.size = sz ∧ va_K D vwCl (gT cy) U ∧ gE de (cy 9) (gA f sz) U U.heap ∧ (∀ a e, f a = some e → va_at D vwCl (a, e) U.heap) ∧ gFin f
def gB (D : va_G) (A : Nat → Prop) (f : gFm) (t : State) : Prop := gC D A f t.heap
theorem gP_I {D : va_G} {cy : Nat → ClassId} {de sz : Nat} {f : gFm} {s : State} (h : gP D cy de sz f s) : s.heap.size = sz ∧ gI D cy de (gA f sz) s f s.heap [] := by
  obtain ⟨h1, h2, h3, h4, h5⟩ := h
  exact ⟨h1, h2, va_S.rf, fun q hq => Or.inr (by omega), h3, fun a e ha => ⟨h4 a e ha, Or.inl (by rw [ha]; exact Option.some_ne_none e)⟩, h5⟩
theorem gI_A {D : va_G} {cy : Nat → ClassId} {de : Nat} {A : Nat → Prop} {s : State} {f : gFm} {H : Heap} {locs : List Loc} (h : gI D cy de A s f H locs) : ∀ q, gA f H.size q → A q := by
  intro q hq
  rcases hq with hq | hq
  · cases hf : f q with
    | none => exact absurd hf hq
    | some e => exact (h.2.2.2.2.1 q e hf).2
  · exact h.2.2.1 q (Nat.le_trans h.2.1.1 hq)
theorem gI_P {D : va_G} {cy : Nat → ClassId} {de : Nat} {A : Nat → Prop} {s U : State} {f : gFm} {H : Heap} {locs : List Loc} (h : gI D cy de A s f H locs) (hU : U.heap = H) (hW : s.WarmedH U.vm) : gP D cy de H.size f U :=
  ⟨by rw [hU], va_K.moved hW.alike h.1, by rw [hU]; exact h.2.2.2.1.go h.2.1 hW (gI_A h), fun a e ha => by rw [hU]; exact (h.2.2.2.2.1 a e ha).1, h.2.2.2.2.2⟩
theorem gP_blind {D : va_G} {cy : Nat → ClassId} {de sz : Nat} {f : gFm} {av : List Value} : FrameBlind (va_Pc av (gP D cy de sz f)) :=
  fun a U g mk q => ⟨q.1, q.2.1, va_K.moved (u := U) (U := U.calling g mk a) (Vm.Alike.refl U.vm) q.2.2.1, q.2.2.2.1.same rfl, q.2.2.2.2.1, q.2.2.2.2.2⟩
theorem gI_back {D : va_G} {cy : Nat → ClassId} {de : Nat} {A : Nat → Prop} {s t : State} {f f1 : gFm} {H H1 : Heap} {locs locs1 : List Loc} (h : gI D cy de A s f H locs) (ht : t.heap = H1) (hS : va_S A s.heap H1 locs1) (hB : gB D (gA f H.size) f1 t) : gI D cy de A s f1 H1 locs1 := by
  refine ⟨h.1, hS, h.2.2.1, h.2.2.2.1, fun a e ha => ?_, hB.2⟩
  obtain ⟨h1, h2⟩ := hB.1 a e ha
  rw [ht] at h1
  exact ⟨h1, gI_A h a h2⟩
theorem gI_lt {D : va_G} {cy : Nat → ClassId} {de : Nat} {A : Nat → Prop} {s : State} {f : gFm} {H : Heap} {locs : List Loc} (h : gI D cy de A s f H locs) {a : Nat} {e : va_E} (ha : f a = some e) : a < H.size := (h.2.2.2.2.1 a e ha).1.lt
theorem gI_P1 {D : va_G} {cy : Nat → ClassId} {de : Nat} {A : Nat → Prop} {s : State} {f : gFm} {H : Heap} {locs : List Loc} (h : gI D cy de A s f H locs) {a : Nat} {e : va_E} (ha : f a = some e) : va_P D vwCl [(a, e)] H := by
  intro k q hq
  have hz : k < 1 := (List.getElem?_eq_some_iff.mp hq).1
  rw [show k = 0 by omega] at hq
  cases hq
  exact (h.2.2.2.2.1 a e ha).1
theorem gI_recv {D : va_G} {cy : Nat → ClassId} {de : Nat} {A : Nat → Prop} {s : State} {f : gFm} {H : Heap} {locs : List Loc} (h : gI D cy de A s f H locs) {a ci : Nat} {fs : List Value} {q : vw_C} (ha : f a = some (.inr (ci, fs))) (hc : vwCl[ci]? = some q) : ∃ cell : Cell, H[a]? = some cell ∧ cell.vm.isStatics = false ∧ s.vm.findClass q.1 = some cell.cls := va_recv (q0 := 0) h.1 (gI_P1 h ha) hc rfl
-- ===== contracts =====
def gMi (l : Launch) (y : MethodName) (ws : List Cond) (rm : Room) (D : va_G) (cy : Nat → ClassId) (de : Nat) (av : List Value) (f : gFm) (post : Int32 → gFm → Prop) (mc ms : Nat) : Prop := ∀ sz : Nat, Met l y ws rm (va_Pc av (gP D cy de sz f)) (va_Qi post (gB D (gA f sz)) (gA f sz)) mc ms (gA f sz)
def gMv (l : Launch) (y : MethodName) (ws : List Cond) (rm : Room) (D : va_G) (cy : Nat → ClassId) (de : Nat) (av : List Value) (f : gFm) (post : gFm → Prop) (mc ms : Nat) : Prop := ∀ sz : Nat, Met l y ws rm (va_Pc av (gP D cy de sz f)) (va_Qv post (gB D (gA f sz)) (gA f sz)) mc ms (gA f sz)
def gMq (l : Launch) (y : MethodName) (ws : List Cond) (rm : Room) (D : va_G) (cy : Nat → ClassId) (de : Nat) (av : List Value) (f : gFm) (post : Option Nat → gFm → Prop) (mc ms : Nat) : Prop := ∀ sz : Nat, Met l y ws rm (va_Pc av (gP D cy de sz f)) (va_Qq post (gB D (gA f sz)) (gA f sz)) mc ms (gA f sz)
def gXX (D : va_G) (A : Nat → Prop) (f : gFm) (px : String → Prop) : String → State → State → Prop := vx_X (fun _ : Unit => True) (fun E _ t => px E ∧ gB D A f t) A
def gXi (l : Launch) (y : MethodName) (ws : List Cond) (rm : Room) (D : va_G) (cy : Nat → ClassId) (de : Nat) (av : List Value) (f : gFm) (post : Int32 → gFm → Prop) (px : String → Prop) (mc ms : Nat) : Prop := ∀ sz : Nat, vx_Met l y ws rm (va_Pc av (gP D cy de sz f)) (va_Qi post (gB D (gA f sz)) (gA f sz)) (gXX D (gA f sz) f px) mc ms (gA f sz)
def gXv (l : Launch) (y : MethodName) (ws : List Cond) (rm : Room) (D : va_G) (cy : Nat → ClassId) (de : Nat) (av : List Value) (f : gFm) (post : gFm → Prop) (px : String → Prop) (mc ms : Nat) : Prop := ∀ sz : Nat, vx_Met l y ws rm (va_Pc av (gP D cy de sz f)) (va_Qv post (gB D (gA f sz)) (gA f sz)) (gXX D (gA f sz) f px) mc ms (gA f sz)
def gXq (l : Launch) (y : MethodName) (ws : List Cond) (rm : Room) (D : va_G) (cy : Nat → ClassId) (de : Nat) (av : List Value) (f : gFm) (post : Option Nat → gFm → Prop) (px : String → Prop) (mc ms : Nat) : Prop := ∀ sz : Nat, vx_Met l y ws rm (va_Pc av (gP D cy de sz f)) (va_Qq post (gB D (gA f sz)) (gA f sz)) (gXX D (gA f sz) f px) mc ms (gA f sz)
