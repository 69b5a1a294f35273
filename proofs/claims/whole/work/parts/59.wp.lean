/-! worlds as bags of cells: order is free, and a part can be taken out and put back -/
theorem wp_Pm {D : va_G} {cl : List vw_C} {ws : va_W} {H : Heap} : va_P D cl ws H ↔ ∀ q ∈ ws, va_at D cl q H := by
  constructor
  · intro h q hq
    obtain ⟨i, hi⟩ := List.getElem?_of_mem hq
    exact h i q hi
  · intro h i q hi
    exact h q (List.mem_of_getElem? hi)
theorem wp_Dm {A : Nat → Prop} {ws : va_W} : va_D A ws ↔ (ws.map (fun q => q.1)).Nodup ∧ ∀ q ∈ ws, A q.1 := by
  constructor
  · intro h
    refine ⟨?_, fun q hq => ?_⟩
    · refine List.pairwise_iff_getElem.mpr (fun i j hi hj hij he => ?_)
      rw [List.length_map] at hi hj
      rw [List.getElem_map, List.getElem_map] at he
      have := h.1 i j _ _ (List.getElem?_eq_getElem hi) (List.getElem?_eq_getElem hj) he
      omega
    · obtain ⟨i, hi⟩ := List.getElem?_of_mem hq
      exact h.2 i q hi
  · intro h
    refine ⟨fun i j p q hi hj he => ?_, fun i q hi => h.2 q (List.mem_of_getElem? hi)⟩
    have hn := List.pairwise_iff_getElem.mp h.1
    obtain ⟨li, ei⟩ := List.getElem?_eq_some_iff.mp hi
    obtain ⟨lj, ej⟩ := List.getElem?_eq_some_iff.mp hj
    have mi : i < (ws.map (fun q => q.1)).length := by rw [List.length_map]; exact li
    have mj : j < (ws.map (fun q => q.1)).length := by rw [List.length_map]; exact lj
    rcases Nat.lt_trichotomy i j with c | c | c
    · exact absurd (by rw [List.getElem_map, List.getElem_map, ei, ej]; exact he) (hn i j mi mj c)
    · exact c
    · exact absurd (by rw [List.getElem_map, List.getElem_map, ei, ej]; exact he.symm) (hn j i mj mi c)
theorem wp_P {D : va_G} {cl : List vw_C} {ws ws' : va_W} {H : Heap} (hp : List.Perm ws ws') (h : va_P D cl ws H) : va_P D cl ws' H := wp_Pm.mpr (fun q hq => wp_Pm.mp h q (hp.mem_iff.mpr hq))
theorem wp_D {A : Nat → Prop} {ws ws' : va_W} (hp : List.Perm ws ws') (h : va_D A ws) : va_D A ws' := by
  rw [wp_Dm] at h ⊢
  exact ⟨(hp.map _).nodup_iff.mp h.1, fun q hq => h.2 q (hp.mem_iff.mpr hq)⟩
theorem wp_Am {ws : va_W} {sz q : Nat} : va_A ws sz q ↔ (∃ x ∈ ws, x.1 = q) ∨ sz ≤ q := by
  constructor
  · intro h
    rcases h with ⟨i, e, hi⟩ | h
    · exact Or.inl ⟨(q, e), List.mem_of_getElem? hi, rfl⟩
    · exact Or.inr h
  · intro h
    rcases h with ⟨x, hx, rfl⟩ | h
    · obtain ⟨i, hi⟩ := List.getElem?_of_mem hx
      exact Or.inl ⟨i, x.2, hi⟩
    · exact Or.inr h
theorem wp_A {ws ws' : va_W} (hp : List.Perm ws ws') (sz : Nat) : va_A ws sz = va_A ws' sz := by
  funext q
  apply propext
  rw [wp_Am, wp_Am]
  constructor
  · rintro (⟨x, hx, h⟩ | h)
    · exact Or.inl ⟨x, hp.mem_iff.mp hx, h⟩
    · exact Or.inr h
  · rintro (⟨x, hx, h⟩ | h)
    · exact Or.inl ⟨x, hp.mem_iff.mpr hx, h⟩
    · exact Or.inr h
theorem wp_Pl {D : va_G} {cl : List vw_C} {w1 w2 : va_W} {H : Heap} (h : va_P D cl (w1 ++ w2) H) : va_P D cl w1 H := wp_Pm.mpr (fun q hq => wp_Pm.mp h q (List.mem_append_left _ hq))
theorem wp_Pr {D : va_G} {cl : List vw_C} {w1 w2 : va_W} {H : Heap} (h : va_P D cl (w1 ++ w2) H) : va_P D cl w2 H := wp_Pm.mpr (fun q hq => wp_Pm.mp h q (List.mem_append_right _ hq))
theorem wp_Dl {A : Nat → Prop} {w1 w2 : va_W} (h : va_D A (w1 ++ w2)) : va_D A w1 := by
  rw [wp_Dm, List.map_append] at h
  exact wp_Dm.mpr ⟨(List.nodup_append.mp h.1).1, fun q hq => h.2 q (List.mem_append_left _ hq)⟩
theorem wp_Dr {A : Nat → Prop} {w1 w2 : va_W} (h : va_D A (w1 ++ w2)) : va_D A w2 := by
  rw [wp_Dm, List.map_append] at h
  exact wp_Dm.mpr ⟨(List.nodup_append.mp h.1).2.1, fun q hq => h.2 q (List.mem_append_right _ hq)⟩
theorem wp_free {A0 : Nat → Prop} {wc wr : va_W} {H0 H : Heap} {locs : List Loc} (hD : va_D A0 (wc ++ wr)) (hS : va_S A0 H0 H locs) (hA : ∀ q, H0.size ≤ q → A0 q) : ∀ q, va_A wc H.size q → A0 q := by
  intro q h
  rcases wp_Am.mp h with ⟨x, hx, rfl⟩ | h
  · exact (wp_Dm.mp hD).2 x (List.mem_append_left _ hx)
  · exact hA q (Nat.le_trans hS.1 h)
theorem wp_lt {D : va_G} {cl : List vw_C} {ws : va_W} {H : Heap} (h : va_P D cl ws H) {q : Nat × va_E} (hq : q ∈ ws) : q.1 < H.size := by
  obtain ⟨i, hi⟩ := List.getElem?_of_mem hq
  exact (h i q hi).lt
theorem wp_join {A0 : Nat → Prop} {D : va_G} {cl : List vw_C} {wc wr w1 : va_W} {H H1 : Heap} (hP : va_P D cl (wc ++ wr) H) (hD : va_D A0 (wc ++ wr)) (hk : ∀ q : Nat, q < H.size → ¬ va_A wc H.size q → H1[q]? = H[q]?) (hF : ∀ q, va_A wc H.size q → A0 q) (hP1 : va_P D cl w1 H1) (hD1 : va_D (va_A wc H.size) w1) : va_P D cl (w1 ++ wr) H1 ∧ va_D A0 (w1 ++ wr) := by
  have hPr := wp_Pr hP
  have hd := wp_Dm.mp hD
  rw [List.map_append] at hd
  have hx := (List.nodup_append.mp hd.1).2.2
  have hno : ∀ q ∈ wr, ¬ va_A wc H.size q.1 := by
    intro q hq h
    rcases wp_Am.mp h with ⟨x, hx1, he⟩ | h
    · exact hx _ (List.mem_map_of_mem hx1) _ (List.mem_map_of_mem hq) he
    · exact absurd (wp_lt hPr hq) (Nat.not_lt.mpr h)
  refine ⟨hP1.app (hPr.kept (fun i q hi => hk q.1 (hPr i q hi).lt (hno q (List.mem_of_getElem? hi)))), ?_⟩
  have h1 := wp_Dm.mp hD1
  rw [wp_Dm, List.map_append]
  refine ⟨List.nodup_append.mpr ⟨h1.1, (List.nodup_append.mp hd.1).2.1, ?_⟩, ?_⟩
  · intro a ha b hb he
    obtain ⟨x, hx1, rfl⟩ := List.mem_map.mp ha
    obtain ⟨y, hy1, rfl⟩ := List.mem_map.mp hb
    exact hno y hy1 (by rw [← he]; exact h1.2 x hx1)
  · intro q hq
    rcases List.mem_append.mp hq with h | h
    · exact hF _ (h1.2 q h)
    · exact hd.2 q (List.mem_append_right _ h)
