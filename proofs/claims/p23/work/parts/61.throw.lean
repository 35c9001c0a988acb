theorem gXi_frame {l : Launch} {y : MethodName} {ws : List Cond} {rm : Room} {D : va_G} {cy : Nat → ClassId} {de : Nat} {av : List Value} {f g : gFm} {post : Int32 → gFm → Prop} {px : String → Prop} {mc ms : Nat} (h : gXi l y ws rm D cy de av f post px mc ms) (hd : gDj f g) : gXi l y ws rm D cy de av (gJ f g) (fun r f9 => ∃ g9, post r g9 ∧ f9 = gJ g9 g ∧ gDj g9 g) px mc ms :=
  fun sz => MetFree.mono (h sz) (fun _ _ h => ⟨h.1, gP_J h.2⟩) (fun _ _ _ _ _ h => h) (fun _ _ _ _ hp q => by
    rcases q with ⟨⟨⟨r, u, h1, h2, h3⟩, h4⟩, L, h5, h6⟩ | ⟨q9, ho, E, ce, L, ⟨u, hu, ⟨hpx, hB⟩, hF⟩, k1, k2, k3, k4, k5, k6⟩
    · obtain ⟨k1, k2⟩ := gB_J hp.2 hd h3 h4
      exact Or.inl ⟨⟨⟨r, _, h1, ⟨u, h2, rfl, k2⟩, k1⟩, h4.mono (fun q => gA_J)⟩, L, h5, fun q hq => gA_J (h6 q hq)⟩
    · exact Or.inr ⟨q9, ho, E, ce, L, ⟨u, hu, ⟨hpx, (gB_J hp.2 hd hB hF).1⟩, hF.mono (fun q => gA_J)⟩, k1, k2, k3, k4, k5, fun z hz => gA_J (k6 z hz)⟩)
theorem gXv_frame {l : Launch} {y : MethodName} {ws : List Cond} {rm : Room} {D : va_G} {cy : Nat → ClassId} {de : Nat} {av : List Value} {f g : gFm} {post : gFm → Prop} {px : String → Prop} {mc ms : Nat} (h : gXv l y ws rm D cy de av f post px mc ms) (hd : gDj f g) : gXv l y ws rm D cy de av (gJ f g) (fun f9 => ∃ g9, post g9 ∧ f9 = gJ g9 g ∧ gDj g9 g) px mc ms :=
  fun sz => MetFree.mono (h sz) (fun _ _ h => ⟨h.1, gP_J h.2⟩) (fun _ _ _ _ _ h => h) (fun _ _ _ _ hp q => by
    rcases q with ⟨⟨⟨u, h1, h2, h3⟩, h4⟩, L, h5, h6⟩ | ⟨q9, ho, E, ce, L, ⟨u, hu, ⟨hpx, hB⟩, hF⟩, k1, k2, k3, k4, k5, k6⟩
    · obtain ⟨k1, k2⟩ := gB_J hp.2 hd h3 h4
      exact Or.inl ⟨⟨⟨_, h1, ⟨u, h2, rfl, k2⟩, k1⟩, h4.mono (fun q => gA_J)⟩, L, h5, fun q hq => gA_J (h6 q hq)⟩
    · exact Or.inr ⟨q9, ho, E, ce, L, ⟨u, hu, ⟨hpx, (gB_J hp.2 hd hB hF).1⟩, hF.mono (fun q => gA_J)⟩, k1, k2, k3, k4, k5, fun z hz => gA_J (k6 z hz)⟩)
/-- a method that catches all that its callees throw -/
theorem gMi_of {l : Launch} {y : MethodName} {ws : List Cond} {rm : Room} {D : va_G} {cy : Nat → ClassId} {de : Nat} {av : List Value} {f : gFm} {post : Int32 → gFm → Prop} {mc ms : Nat} (h : gXi l y ws rm D cy de av f post (fun _ => False) mc ms) : gMi l y ws rm D cy de av f post mc ms :=
  fun sz => MetFree.mono (h sz) (fun _ _ h => h) (fun _ _ _ _ _ h => h) (fun _ _ _ _ _ q => by
    rcases q with q | ⟨q9, ho, E, ce, L, ⟨u, hu, ⟨hpx, hB⟩, hF⟩, -⟩
    · exact q
    · exact hpx.elim)
section GCH
variable {p : Program} {l : Launch} {e : Env} {R : Room} {s : State} {m : MethodId} {args : Array Value} {below : List Frame} {meth : Method} {c : Code} {H : Heap} {locs : List Loc} {cells slots : Nat} {Q : State → Prop}
variable {cc : ByteArray} {pc : Nat} {ls : Array Slot} {rest st0 : List Value} {D : va_G} {cy : Nat → ClassId} {de : Nat} {A : Nat → Prop} {f : gFm} {a : Array Value} {mc ms : Nat}
/-- a call of a method that may throw, where there are handlers: the world is as it was when it throws -/
theorem gw_calli {px1 : String → Prop} {post : Int32 → gFm → Prop} {mc1 ms1 : Nat} (hI : gI D cy de A s f H locs)
    (hr : vx_Run p l e R s m args below meth c H locs cells slots mc1 ms1 (F0 m pc ls st0) rest (va_Qi post (gB D (gA f H.size)) (gA f H.size) a) (gXX D (gA f H.size) f px1) (gA f H.size))
    (kx : ∀ (E : String) (ce : Cell) (q9 : Addr) (H1 : Heap) (locs1 : List Loc), px1 E → gI D cy de A s f H1 locs1 → H1[q9]? = some ce → ce.vm = .none → s.vm.findClass E = some ce.cls → vx_W p l e R s m args below meth c H1 locs1 (cells + mc1) (slots + ms1) Q (F0 m pc ls rest) q9)
    (kk : ∀ (r : Int32) (f1 : gFm) (H1 : Heap) (locs1 : List Loc), post r f1 → gI D cy de A s f1 H1 locs1 → W p l e R s m args below meth c H1 locs1 (cells + mc1) (slots + ms1) Q (F0 m (pc + 3) ls (.int r :: rest))) : W p l e R s m args below meth c H locs cells slots Q (F0 m pc ls st0) :=
  vx_calli hr hI.2.1 (fun q _ h => gI_A hI q h) (gI_A hI) (fun q _ h => gI_A hI q h) (fun E ce q9 u t H1 locs1 ht _ _ hB _ _ hS h1 h2 h3 => kx E ce q9 H1 locs1 hB.1 (gI_back hI ht hS hB.2) h1 h2 h3) (fun r f1 t H1 locs1 ht _ hw hB _ _ hS => kk r f1 H1 locs1 hw (gI_back hI ht hS hB))
theorem gw_callv {px1 : String → Prop} {post : gFm → Prop} {mc1 ms1 : Nat} (hI : gI D cy de A s f H locs)
    (hr : vx_Run p l e R s m args below meth c H locs cells slots mc1 ms1 (F0 m pc ls st0) rest (va_Qv post (gB D (gA f H.size)) (gA f H.size) a) (gXX D (gA f H.size) f px1) (gA f H.size))
    (kx : ∀ (E : String) (ce : Cell) (q9 : Addr) (H1 : Heap) (locs1 : List Loc), px1 E → gI D cy de A s f H1 locs1 → H1[q9]? = some ce → ce.vm = .none → s.vm.findClass E = some ce.cls → vx_W p l e R s m args below meth c H1 locs1 (cells + mc1) (slots + ms1) Q (F0 m pc ls rest) q9)
    (kk : ∀ (f1 : gFm) (H1 : Heap) (locs1 : List Loc), post f1 → gI D cy de A s f1 H1 locs1 → W p l e R s m args below meth c H1 locs1 (cells + mc1) (slots + ms1) Q (F0 m (pc + 3) ls rest)) : W p l e R s m args below meth c H locs cells slots Q (F0 m pc ls st0) :=
  vx_callv hr hI.2.1 (fun q _ h => gI_A hI q h) (gI_A hI) (fun q _ h => gI_A hI q h) (fun E ce q9 u t H1 locs1 ht _ _ hB _ _ hS h1 h2 h3 => kx E ce q9 H1 locs1 hB.1 (gI_back hI ht hS hB.2) h1 h2 h3) (fun f1 t H1 locs1 ht _ hw hB _ _ hS => kk f1 H1 locs1 hw (gI_back hI ht hS hB))
/-- what a class cannot be cast to -/
theorem gE_nc {de mi : Nat} {A : Nat → Prop} {s : State} {H : Heap} (h : gE de mi A s H) {q : String × String} (hq : q ∈ gNc) : va_Nc q.1 q.2 s := h.2.2.2.1 q hq
theorem gE_ct {de mi : Nat} {A : Nat → Prop} {s : State} {H : Heap} {args : Array Value} (h : gE de mi A s H) {q : String × String} (hq : q ∈ gCs) : (Cond.castable q.1 q.2).before args s = true := va_Nw.use (A := args) rfl (h.2.2.1 q hq)
end GCH
