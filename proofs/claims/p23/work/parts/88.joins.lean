-- ===== two gateways side by side =====
theorem gJ_comm {f g : gFm} (hd : gDj f g) : gJ f g = gJ g f := by
  funext a
  cases hf : f a with
  | none =>
    rw [gJ_r hf]
    cases hg : g a with
    | none => rw [gJ_r hg, hf]
    | some e => rw [gJ_l hg]
  | some e => rw [gJ_l hf, gJ_r (hd a (by rw [hf]; exact Option.some_ne_none e)), hf]
theorem gDj_symm {f g : gFm} (hd : gDj f g) : gDj g f := fun _ ha => gDj_r hd ha
theorem gMi_w {l : Launch} {y : MethodName} {ws : List Cond} {rm : Room} {D : va_G} {cy : Nat → ClassId} {de : Nat} {av : List Value} {f : gFm} {post post1 : Int32 → gFm → Prop} {mc ms : Nat} (h : gMi l y ws rm D cy de av f post mc ms) (k : ∀ r g, post r g → post1 r g) : gMi l y ws rm D cy de av f post1 mc ms :=
  fun sz => MetFree.mono (h sz) (fun _ _ h => h) (fun _ _ _ _ _ h => h) (fun _ _ _ _ _ q => by
    obtain ⟨⟨⟨r, u, h1, h2, h3⟩, h4⟩, L⟩ := q
    exact ⟨⟨⟨r, u, h1, k r u h2, h3⟩, h4⟩, L⟩)
theorem gMv_w {l : Launch} {y : MethodName} {ws : List Cond} {rm : Room} {D : va_G} {cy : Nat → ClassId} {de : Nat} {av : List Value} {f : gFm} {post post1 : gFm → Prop} {mc ms : Nat} (h : gMv l y ws rm D cy de av f post mc ms) (k : ∀ g, post g → post1 g) : gMv l y ws rm D cy de av f post1 mc ms :=
  fun sz => MetFree.mono (h sz) (fun _ _ h => h) (fun _ _ _ _ _ h => h) (fun _ _ _ _ _ q => by
    obtain ⟨⟨⟨u, h1, h2, h3⟩, h4⟩, L⟩ := q
    exact ⟨⟨⟨u, h1, k u h2, h3⟩, h4⟩, L⟩)
/-- the frame on the other side -/
theorem gMi_frameR {l : Launch} {y : MethodName} {ws : List Cond} {rm : Room} {D : va_G} {cy : Nat → ClassId} {de : Nat} {av : List Value} {f g : gFm} {post : Int32 → gFm → Prop} {mc ms : Nat} (h : gMi l y ws rm D cy de av g post mc ms) (hd : gDj f g) : gMi l y ws rm D cy de av (gJ f g) (fun r f9 => ∃ g9, post r g9 ∧ f9 = gJ f g9 ∧ gDj f g9) mc ms := by
  rw [gJ_comm hd]
  exact gMi_w (gMi_frame h (gDj_symm hd)) (fun r f9 q => by
    obtain ⟨g9, q1, q2, q3⟩ := q
    exact ⟨g9, q1, by rw [q2, gJ_comm q3], gDj_symm q3⟩)
theorem gMv_frameR {l : Launch} {y : MethodName} {ws : List Cond} {rm : Room} {D : va_G} {cy : Nat → ClassId} {de : Nat} {av : List Value} {f g : gFm} {post : gFm → Prop} {mc ms : Nat} (h : gMv l y ws rm D cy de av g post mc ms) (hd : gDj f g) : gMv l y ws rm D cy de av (gJ f g) (fun f9 => ∃ g9, post g9 ∧ f9 = gJ f g9 ∧ gDj f g9) mc ms := by
  rw [gJ_comm hd]
  exact gMv_w (gMv_frame h (gDj_symm hd)) (fun f9 q => by
    obtain ⟨g9, q1, q2, q3⟩ := q
    exact ⟨g9, q1, by rw [q2, gJ_comm q3], gDj_symm q3⟩)
