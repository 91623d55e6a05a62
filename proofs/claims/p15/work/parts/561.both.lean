/-! two contracts of one method hold together: the machine runs one way -/
theorem mt_both {l : Launch} {y : MethodName} {wl : List Cond} {rm rm' : Room} {Pc : Array Value → State → Prop} {D : va_G} {A1 A2 A3 : Nat → Prop} {mc ms mc' ms' : Nat} {free free' : Addr → Prop} {post post' : Int32 → va_W → Prop} {B' : va_W → State → Prop}
    (hM : Met l y wl rm Pc (va_Qi post (wd D A1) A2) mc ms free) (hE : Met l y wl rm' Pc (va_Qi post' B' A3) mc' ms' free') (hf : rm'.frames ≤ rm.frames) (hl : rm'.locals ≤ rm.locals) (hc : rm'.cells ≤ rm.cells) (hs : rm'.slots ≤ rm.slots) :
    Met l y wl rm Pc (va_Qi (fun (r : Int32) (u : va_W) => post r u ∧ ∃ u' : va_W, post' r u') (wd D A1) A2) mc ms free := by
  intro p e ha hcs hk s m args below hfr happ hpre hKK
  obtain ⟨n, o, h1, h2, h3, ⟨⟨r, u, ho, hp, hw⟩, hF⟩, L, hE1, hL⟩ := hM p e ha hcs hk s m args below hfr happ hpre hKK
  obtain ⟨n', o', k1, k2, k3, ⟨⟨r', u', ko, kp, -⟩, -⟩, -⟩ := hE p e ha hcs hk s m args below hfr (mt_app hfr hf hl hc hs happ) hpre hKK
  have hn : n' = n := by
    rcases Nat.lt_trichotomy n' n with hlt | heq | hgt
    · exact absurd (h1 n' hlt) k3.not_within
    · exact heq
    · exact absurd (k1 n hgt) h3.not_within
  subst hn
  have he := h3.outcome_unique k3
  have hr : r = r' := by
    have h9 := ho.symm.trans (he.trans ko)
    cases h9
    rfl
  subst hr
  exact ⟨n', o, h1, h2, h3, ⟨⟨r, u, ho, ⟨hp, u', kp⟩, hw⟩, hF⟩, L, hE1, hL⟩
