-- ===== two worlds side by side =====
def gJ (f g : gFm) : gFm := fun a => match f a with | some e => some e | none => g a
/-- no address is in both -/
def gDj (f g : gFm) : Prop := ∀ a, f a ≠ none → g a = none
theorem gJ_l {f g : gFm} {a : Nat} {e : va_E} (h : f a = some e) : gJ f g a = some e := by simp [gJ, h]
theorem gJ_r {f g : gFm} {a : Nat} (h : f a = none) : gJ f g a = g a := by simp [gJ, h]
theorem gJ_ne {f g : gFm} {a : Nat} (h : f a ≠ none) : gJ f g a ≠ none := by
  cases hf : f a with
  | none => exact absurd hf h
  | some e => rw [gJ_l hf]; exact Option.some_ne_none e
theorem gDj_r {f g : gFm} (hd : gDj f g) {a : Nat} (h : g a ≠ none) : f a = none := by
  cases hf : f a with
  | none => rfl
  | some e => exact absurd (hd a (by rw [hf]; exact Option.some_ne_none e)) h
theorem gA_J {f g : gFm} {sz q : Nat} (h : gA f sz q) : gA (gJ f g) sz q := by
  rcases h with h | h
  · exact Or.inl (gJ_ne h)
  · exact Or.inr h
theorem gFin_sub {f g : gFm} (h : gFin g) (hs : ∀ a, f a ≠ none → g a ≠ none) : gFin f := by
  obtain ⟨L, hn, hL⟩ := h
  refine ⟨L.filter (fun a => (f a).isSome), hn.filter _, fun a => ?_⟩
  rw [List.mem_filter, hL a]
  constructor
  · intro q z
    rw [z] at q
    exact absurd q.2 (by decide)
  · intro q
    refine ⟨hs a q, ?_⟩
    cases hf : f a with
    | none => exact absurd hf q
    | some e => rfl
theorem gFin_J {f g : gFm} (h1 : gFin f) (h2 : gFin g) (hd : gDj f g) : gFin (gJ f g) := by
  obtain ⟨L, hn, hL⟩ := h1
  obtain ⟨M, hm, hM⟩ := h2
  refine ⟨L ++ M, List.nodup_append.mpr ⟨hn, hm, fun a ha b hb e => ?_⟩, fun a => ?_⟩
  · subst e
    exact (hM a).mp hb (hd a ((hL a).mp ha))
  · rw [List.mem_append, hL a, hM a]
    cases hf : f a with
    | none => rw [gJ_r hf]; simp
    | some e => rw [gJ_l hf]; simp
theorem gE.narrow {de mi : Nat} {A B : Nat → Prop} {U : State} (h : gE de mi A U U.heap) (hB : ∀ q, B q → A q) : gE de mi B U U.heap := h.go (locs := []) va_S.rf (State.WarmedH.refl U) hB
theorem gP_J {D : va_G} {cy : Nat → ClassId} {de sz : Nat} {f g : gFm} {U : State} (h : gP D cy de sz (gJ f g) U) : gP D cy de sz f U := by
  obtain ⟨h1, h2, h3, h4, h5⟩ := h
  exact ⟨h1, h2, h3.narrow (fun q hq => gA_J hq), fun a e ha => h4 a e (gJ_l ha), gFin_sub h5 (fun a ha => gJ_ne ha)⟩
theorem gB_J {D : va_G} {cy : Nat → ClassId} {de sz : Nat} {f g f9 : gFm} {st t : State} (hp : gP D cy de sz (gJ f g) st) (hd : gDj f g) (hB : gB D (gA f sz) f9 t) (hF : va_F (gA f sz) st t) : gB D (gA (gJ f g) sz) (gJ f9 g) t ∧ gDj f9 g := by
  obtain ⟨p1, p2, p3, p4, p5⟩ := hp
  obtain ⟨b1, b2⟩ := hB
  obtain ⟨q1, q2⟩ := hF
  have hg : ∀ a e, g a = some e → f a = none ∧ va_at D vwCl (a, e) st.heap := fun a e h => by
    have hf : f a = none := gDj_r hd (by rw [h]; exact Option.some_ne_none e)
    exact ⟨hf, p4 a e (by rw [gJ_r hf]; exact h)⟩
  have hj : gDj f9 g := fun a ha => by
    cases hga : g a with
    | none => rfl
    | some e =>
      obtain ⟨k1, k2⟩ := hg a e hga
      cases h9 : f9 a with
      | none => exact absurd h9 ha
      | some x =>
        rcases (b1 a x h9).2 with z | z
        · exact absurd k1 z
        · have := k2.lt
          rw [p1] at this
          exact absurd this (Nat.not_lt.mpr z)
  refine ⟨⟨fun a e ha => ?_, gFin_J b2 (gFin_sub p5 (fun a ha => ?_)) hj⟩, hj⟩
  · cases h9 : f9 a with
    | some x =>
      rw [gJ_l h9] at ha
      cases ha
      exact ⟨(b1 a e h9).1, gA_J (b1 a e h9).2⟩
    | none =>
      rw [gJ_r h9] at ha
      obtain ⟨k1, k2⟩ := hg a e ha
      refine ⟨k2.kept (q2 a k2.lt (fun z => ?_)), Or.inl (by rw [gJ_r k1, ha]; exact Option.some_ne_none e)⟩
      rcases z with z | z
      · exact z k1
      · have := k2.lt
        rw [p1] at this
        exact absurd this (Nat.not_lt.mpr z)
  · rw [gJ_r (gDj_r hd ha)]
    exact ha
theorem va_F.mono {A B : Nat → Prop} {st t : State} (h : va_F A st t) (hs : ∀ q, A q → B q) : va_F B st t := ⟨h.1, fun q h1 h2 => h.2 q h1 (fun z => h2 (hs q z))⟩
theorem gMi_frame {l : Launch} {y : MethodName} {ws : List Cond} {rm : Room} {D : va_G} {cy : Nat → ClassId} {de : Nat} {av : List Value} {f g : gFm} {post : Int32 → gFm → Prop} {mc ms : Nat} (h : gMi l y ws rm D cy de av f post mc ms) (hd : gDj f g) : gMi l y ws rm D cy de av (gJ f g) (fun r f9 => ∃ g9, post r g9 ∧ f9 = gJ g9 g ∧ gDj g9 g) mc ms :=
  fun sz => MetFree.mono (h sz) (fun _ _ h => ⟨h.1, gP_J h.2⟩) (fun _ _ _ _ _ h => h) (fun _ _ _ _ hp q => by
    obtain ⟨⟨⟨r, u, h1, h2, h3⟩, h4⟩, L, h5, h6⟩ := q
    obtain ⟨k1, k2⟩ := gB_J hp.2 hd h3 h4
    exact ⟨⟨⟨r, _, h1, ⟨u, h2, rfl, k2⟩, k1⟩, h4.mono (fun q => gA_J)⟩, L, h5, fun q hq => gA_J (h6 q hq)⟩)
theorem gMv_frame {l : Launch} {y : MethodName} {ws : List Cond} {rm : Room} {D : va_G} {cy : Nat → ClassId} {de : Nat} {av : List Value} {f g : gFm} {post : gFm → Prop} {mc ms : Nat} (h : gMv l y ws rm D cy de av f post mc ms) (hd : gDj f g) : gMv l y ws rm D cy de av (gJ f g) (fun f9 => ∃ g9, post g9 ∧ f9 = gJ g9 g ∧ gDj g9 g) mc ms :=
  fun sz => MetFree.mono (h sz) (fun _ _ h => ⟨h.1, gP_J h.2⟩) (fun _ _ _ _ _ h => h) (fun _ _ _ _ hp q => by
    obtain ⟨⟨⟨u, h1, h2, h3⟩, h4⟩, L, h5, h6⟩ := q
    obtain ⟨k1, k2⟩ := gB_J hp.2 hd h3 h4
    exact ⟨⟨⟨_, h1, ⟨u, h2, rfl, k2⟩, k1⟩, h4.mono (fun q => gA_J)⟩, L, h5, fun q hq => gA_J (h6 q hq)⟩)
