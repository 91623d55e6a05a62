theorem goodIn_pp {big : List Cond} (P : List (List Cond)) (hP : ∀ q ∈ P, ∀ w ∈ q, w ∈ big) (ws : List Cond) (ps : List (Nat × Nat)) (hp : ws = ps.filterMap (fun i => (P[i.1]?).bind (fun q => q[i.2]?))) (h : ws.all goodWord = true) : GoodIn big ws := by
  intro w hw
  have h1 := List.all_eq_true.mp h w hw
  rw [hp] at hw
  obtain ⟨i, -, hi⟩ := List.mem_filterMap.mp hw
  obtain ⟨q, hq, hi⟩ := Option.bind_eq_some_iff.mp hi
  exact ⟨hP q (List.mem_of_getElem? hq) w (List.mem_of_getElem? hi), good_of_word h1⟩
theorem in_l {a b c : List Cond} (h : ∀ w ∈ a ++ b, w ∈ c) : ∀ w ∈ a, w ∈ c := fun w q => h w (List.mem_append_left _ q)
theorem in_r {a b c : List Cond} (h : ∀ w ∈ a ++ b, w ∈ c) : ∀ w ∈ b, w ∈ c := fun w q => h w (List.mem_append_right _ q)
theorem lp_c {a c : List Cond} {P : List (List Cond)} (h : ∀ w ∈ a, w ∈ c) (t : ∀ q ∈ P, ∀ w ∈ q, w ∈ c) : ∀ q ∈ a :: P, ∀ w ∈ q, w ∈ c := fun q hq => (List.mem_cons.mp hq).elim (fun e => by rw [e]; exact h) (t q)
theorem lp_n {c : List Cond} : ∀ q ∈ ([] : List (List Cond)), ∀ w ∈ q, w ∈ c := fun _ h => nomatch h
