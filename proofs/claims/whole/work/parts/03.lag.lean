/-! roots, packed numbers, how many points there are times a point is neutral, the order -/
def tw_rt (P w : Nat) : Option Nat := (List.range P).find? (fun x => x * x % P == w)
def tw_w (P D y : Nat) : Nat := (y * y % P + P - 1) % P * tw_iv P ((1 + D * (y * y % P)) % P) % P
def tw_rd (P D k : Nat) : Option (Nat × Nat) :=
  if k % 8192 < P ∧ k < 16384 then
    match tw_rt P (tw_w P D (k % 8192)) with
    | none => none
    | some r => if r = 0 ∧ k / 8192 = 1 then none else if r % 2 = k / 8192 then some (r, k % 8192) else some (P - r, k % 8192)
  else none
def tw_pk (p : Nat × Nat) : Nat := p.2 + 8192 * (p.1 % 2)
theorem tw_wlt {P : Nat} (h : 0 < P) (D y : Nat) : tw_w P D y < P := Nat.mod_lt _ h
theorem tw_rt_some {P w r : Nat} (h : tw_rt P w = some r) : r < P ∧ r * r % P = w ∧ ∀ j, j < r → j * j % P ≠ w := by
  unfold tw_rt at h
  rw [List.find?_range_eq_some] at h
  obtain ⟨h1, h2, h3⟩ := h
  refine ⟨List.mem_range.mp h2, by simpa using h1, fun j hj => by simpa using h3 j hj⟩
theorem tw_rt_none {P w : Nat} (h : tw_rt P w = none) : ∀ x, x < P → x * x % P ≠ w := by
  unfold tw_rt at h
  rw [List.find?_range_eq_none] at h
  intro x hx
  simpa using h x hx
theorem tw_nzy {P D I : Nat} [NeZero P] (h : tw_K P D I) (y : Fin P) : 1 + Fin.ofNat P D * (y * y) ≠ 0 := by
  intro e
  have F := tw_F h
  have hii := F.2.1
  have hy : y = 0 := by
    refine ag_sq F (w := Fin.ofNat P I) ?_
    rw [hii]
    grind
  refine F.2.2.2 ?_
  rw [hy] at e
  have e1 : (1 : Fin P) = 0 := by grind
  have e2 : (2 : Fin P) = 1 + 1 := by grind
  rw [e2, e1]
  grind
theorem tw_wf {P D I : Nat} [NeZero P] (h : tw_K P D I) (y : Nat) : Fin.ofNat P (tw_w P D y) = (Fin.ofNat P y * Fin.ofNat P y - 1) * tw_fi P (1 + Fin.ofNat P D * (Fin.ofNat P y * Fin.ofNat P y)) := by
  have h3 : 3 ≤ P := h.1
  have e : (1 + Fin.ofNat P D * (Fin.ofNat P y * Fin.ofNat P y) : Fin P) = Fin.ofNat P (1 + D * (y * y % P)) := by
    simp only [th_mod, th_mul, th_add, th_1]
  rw [e]
  unfold tw_w tw_fi
  rw [Fin.val_ofNat]
  have e2 : Fin.ofNat P (y * y % P + P - 1) = Fin.ofNat P y * Fin.ofNat P y - 1 := by
    rw [th_sub P (by omega)]
    simp only [th_mod, th_mul, th_add, th_1, th_P]
    grind
  rw [th_mod, th_mul, th_mod, e2]
theorem tw_on_w {P D I : Nat} (h : tw_K P D I) (p : Nat × Nat) : tw_on P D p ↔ p.1 < P ∧ p.2 < P ∧ p.1 * p.1 % P = tw_w P D p.2 := by
  have h3 : 3 ≤ P := h.1
  have hz : NeZero P := ⟨by omega⟩
  have hw : tw_w P D p.2 % P = tw_w P D p.2 := Nat.mod_eq_of_lt (tw_wlt (by omega) D p.2)
  rw [tw_onf, ← hw, ← th_eq P, tw_wf h, th_mul]
  have F := tw_F h
  have nz := tw_nzy h (Fin.ofNat P p.2)
  refine and_congr_right (fun _ => and_congr_right (fun _ => ?_))
  show Fin.ofNat P p.2 * Fin.ofNat P p.2 - Fin.ofNat P p.1 * Fin.ofNat P p.1 - 1 - Fin.ofNat P D * (Fin.ofNat P p.1 * Fin.ofNat P p.1) * (Fin.ofNat P p.2 * Fin.ofNat P p.2) = 0 ↔ _
  generalize Fin.ofNat P p.2 = y at nz ⊢
  generalize Fin.ofNat P p.1 = x
  generalize Fin.ofNat P D = d at nz F ⊢
  have q := ag_dv F (n := y * y - 1) nz
  constructor
  · intro e
    refine ag_can F nz ?_
    grind
  · intro e
    rw [← e] at q
    grind
theorem tw_2r {P D I : Nat} (h : tw_K P D I) {x r : Nat} (hx : x < P) (hr : r < P) (e : x * x % P = r * r % P) : x = r ∨ x + r = P := by
  have h3 : 3 ≤ P := h.1
  have hz : NeZero P := ⟨by omega⟩
  have F := tw_F h
  rw [← th_eq P, th_mul, th_mul] at e
  have e2 : (Fin.ofNat P x - Fin.ofNat P r) * (Fin.ofNat P x + Fin.ofNat P r) = 0 := by grind
  refine Classical.byContradiction (fun c => ?_)
  have c1 : Fin.ofNat P x - Fin.ofNat P r ≠ 0 := by
    intro q
    have q2 : Fin.ofNat P x = Fin.ofNat P r := by grind
    rw [th_eq, Nat.mod_eq_of_lt hx, Nat.mod_eq_of_lt hr] at q2
    exact c (Or.inl q2)
  have c2 : Fin.ofNat P x + Fin.ofNat P r ≠ 0 := by
    intro q
    rw [← th_add, ← th_0, th_eq, Nat.zero_mod] at q
    have q2 : P ∣ x + r := Nat.dvd_of_mod_eq_zero q
    obtain ⟨m, hm⟩ := q2
    rcases m with _ | _ | m
    · refine c (Or.inl ?_)
      omega
    · refine c (Or.inr ?_)
      omega
    · have : P * (m + 1 + 1) = P * m + 2 * P := by rw [Nat.mul_add, Nat.mul_add]; omega
      omega
  exact ag_nz F c1 c2 e2
theorem tw_rt_sq {P : Nat} (D I : Nat) (h : tw_K P D I) {x : Nat} (hx : x < P) : ∃ r, tw_rt P (x * x % P) = some r ∧ 2 * r < P ∧ (x = r ∨ x + r = P) := by
  have h3 : 3 ≤ P := h.1
  have ho : P % 2 = 1 := h.2.1
  cases e : tw_rt P (x * x % P) with
  | none => exact absurd rfl (tw_rt_none e x hx)
  | some r =>
    obtain ⟨h1, h2, h4⟩ := tw_rt_some e
    have hxr := tw_2r h hx h1 h2.symm
    refine ⟨r, rfl, ?_, hxr⟩
    refine Classical.byContradiction (fun c => ?_)
    have hr0 : 0 < r := by omega
    refine h4 (P - r) (by omega) ?_
    have hz : NeZero P := ⟨by omega⟩
    rw [← h2, ← th_eq P, th_mul, th_mul, th_sub P (by omega), th_P]
    grind
theorem tw_rd_pk {P D I : Nat} (h : tw_K P D I) (hP : P ≤ 8192) {p : Nat × Nat} (hp : tw_on P D p) : tw_rd P D (tw_pk p) = some p ∧ tw_pk p < 16384 := by
  obtain ⟨x, y⟩ := p
  have h3 : 3 ≤ P := h.1
  have ho : P % 2 = 1 := h.2.1
  rw [tw_on_w h] at hp
  obtain ⟨hx, hy, e⟩ := hp
  dsimp only at hx hy e
  obtain ⟨r, hr, hr2, hxr⟩ := tw_rt_sq D I h hx
  rw [e] at hr
  have k1 : tw_pk (x, y) % 8192 = y := by show (y + 8192 * (x % 2)) % 8192 = y; omega
  have k2 : tw_pk (x, y) / 8192 = x % 2 := by show (y + 8192 * (x % 2)) / 8192 = x % 2; omega
  have k3 : tw_pk (x, y) < 16384 := by show y + 8192 * (x % 2) < 16384; omega
  refine ⟨?_, k3⟩
  unfold tw_rd
  rw [k1, k2, if_pos ⟨hy, k3⟩, hr]
  dsimp only
  rcases hxr with q | q
  · subst q
    rw [if_neg (by omega), if_pos rfl]
  · rw [if_neg (by omega), if_neg (by omega)]
    have : P - r = x := by omega
    rw [this]
theorem tw_rd_some {P D I : Nat} (h : tw_K P D I) {k : Nat} {p : Nat × Nat} (e : tw_rd P D k = some p) : tw_on P D p ∧ tw_pk p = k := by
  have h3 : 3 ≤ P := h.1
  have ho : P % 2 = 1 := h.2.1
  unfold tw_rd at e
  split at e
  · rename_i hk
    cases er : tw_rt P (tw_w P D (k % 8192)) with
    | none => rw [er] at e; simp at e
    | some r =>
      rw [er] at e
      dsimp only at e
      obtain ⟨h1, h2, h4⟩ := tw_rt_some er
      split at e
      · simp at e
      · rename_i n0
        split at e
        · rename_i n1
          cases e
          refine ⟨(tw_on_w h _).mpr ⟨h1, hk.1, h2⟩, ?_⟩
          show k % 8192 + 8192 * (r % 2) = k
          omega
        · rename_i n1
          cases e
          have hr0 : 0 < r := by omega
          refine ⟨(tw_on_w h _).mpr ⟨by show P - r < P; omega, hk.1, ?_⟩, ?_⟩
          · show (P - r) * (P - r) % P = _
            have hz : NeZero P := ⟨by omega⟩
            rw [← h2, ← th_eq P, th_mul, th_mul, th_sub P (by omega), th_P]
            grind
          · show k % 8192 + 8192 * ((P - r) % 2) = k
            omega
  · simp at e
def tw_L (P D : Nat) : List (Nat × Nat) := (List.range 16384).filterMap (tw_rd P D)
theorem tw_L_mem {P D I : Nat} (h : tw_K P D I) (hP : P ≤ 8192) (p : Nat × Nat) : p ∈ tw_L P D ↔ tw_on P D p := by
  unfold tw_L
  rw [List.mem_filterMap]
  constructor
  · rintro ⟨k, -, e⟩
    exact (tw_rd_some h e).1
  · intro hp
    have q := tw_rd_pk h hP hp
    exact ⟨tw_pk p, List.mem_range.mpr q.2, q.1⟩
theorem tw_L_nd {P D I : Nat} (h : tw_K P D I) : (tw_L P D).Nodup := by
  unfold tw_L
  refine List.Pairwise.filterMap _ ?_ (List.nodup_range (n := 16384))
  intro a a' hn b hb b' hb' e
  subst e
  exact hn ((tw_rd_some h hb).2.symm.trans (tw_rd_some h hb').2)
def tw_S (P D : Nat) (l : List (Nat × Nat)) : Nat × Nat := l.foldr (tw_add P D) (0, 1)
theorem tw_S_on {P D I : Nat} (h : tw_K P D I) : ∀ l : List (Nat × Nat), (∀ a ∈ l, tw_on P D a) → tw_on P D (tw_S P D l)
  | [], _ => tw_on0 h
  | a :: l, hl => tw_clo h (hl a (List.mem_cons_self ..)) (tw_S_on h l (fun b hb => hl b (List.mem_cons_of_mem _ hb)))
theorem tw_S_perm {P D I : Nat} (h : tw_K P D I) {l1 l2 : List (Nat × Nat)} (hp : l1.Perm l2) : (∀ a ∈ l1, tw_on P D a) → tw_S P D l1 = tw_S P D l2 := by
  induction hp with
  | nil => intro _; rfl
  | cons a _ ih =>
    intro hl
    show tw_add P D a _ = tw_add P D a _
    exact congrArg _ (ih (fun b hb => hl b (List.mem_cons_of_mem _ hb)))
  | swap a b l =>
    intro hl
    have hb := hl b (List.mem_cons_self ..)
    have ha := hl a (List.mem_cons_of_mem _ (List.mem_cons_self ..))
    have hs := tw_S_on h l (fun c hc => hl c (List.mem_cons_of_mem _ (List.mem_cons_of_mem _ hc)))
    show tw_add P D b (tw_add P D a (tw_S P D l)) = tw_add P D a (tw_add P D b (tw_S P D l))
    rw [← tw_ass h hb ha hs, tw_com h b a, tw_ass h ha hb hs]
  | trans q1 _ ih1 ih2 =>
    intro hl
    rw [ih1 hl]
    exact ih2 (fun b hb => hl b (q1.mem_iff.mpr hb))
theorem tw_S_map {P D I : Nat} (h : tw_K P D I) {p : Nat × Nat} (hp : tw_on P D p) : ∀ l : List (Nat × Nat), (∀ a ∈ l, tw_on P D a) → tw_S P D (l.map (tw_add P D p)) = tw_add P D (tw_mu P D l.length p) (tw_S P D l)
  | [], _ => by
    have q := tw_on0 h
    exact (tw_zer h q.1 q.2.1).symm
  | a :: l, hl => by
    have hl' : ∀ b ∈ l, tw_on P D b := fun b hb => hl b (List.mem_cons_of_mem _ hb)
    have ha := hl a (List.mem_cons_self ..)
    have hs := tw_S_on h l hl'
    have hm := tw_mu_on h hp l.length
    show tw_add P D (tw_add P D p a) (tw_S P D (l.map (tw_add P D p))) = tw_add P D (tw_add P D (tw_mu P D l.length p) p) (tw_add P D a (tw_S P D l))
    rw [tw_S_map h hp l hl', tw_ass h hp ha (tw_clo h hm hs), ← tw_ass h ha hm hs, tw_com h a, tw_ass h hm ha hs, ← tw_ass h hp hm (tw_clo h ha hs), tw_com h p]
theorem tw_lag {P D I : Nat} (h : tw_K P D I) (hP : P ≤ 8192) {p : Nat × Nat} (hp : tw_on P D p) : tw_mu P D (tw_L P D).length p = (0, 1) := by
  have hall : ∀ a ∈ tw_L P D, tw_on P D a := fun a ha => (tw_L_mem h hP a).mp ha
  have hn := tw_neg h hp
  have hnd : ((tw_L P D).map (tw_add P D p)).Nodup := by
    refine List.pairwise_map.mpr ?_
    refine List.Pairwise.imp_of_mem ?_ (tw_L_nd h)
    intro a b ha hb hab e
    exact hab (tw_cn h hp (hall a ha) (hall b hb) e)
  have hperm : ((tw_L P D).map (tw_add P D p)).Perm (tw_L P D) := by
    refine (List.perm_ext_iff_of_nodup hnd (tw_L_nd h)).mpr (fun a => ?_)
    rw [List.mem_map, tw_L_mem h hP]
    constructor
    · rintro ⟨b, hb, rfl⟩
      exact tw_clo h hp (hall b hb)
    · intro ha
      refine ⟨tw_add P D (tw_ng P p) a, (tw_L_mem h hP _).mpr (tw_clo h hn.1 ha), ?_⟩
      rw [← tw_ass h hp hn.1 ha, hn.2, tw_zel h ha.1 ha.2.1]
  have hs := tw_S_on h _ hall
  have q := tw_S_perm h hperm (fun a ha => by
    rw [List.mem_map] at ha
    obtain ⟨b, hb, rfl⟩ := ha
    exact tw_clo h hp (hall b hb))
  rw [tw_S_map h hp _ hall, tw_com h] at q
  have z := tw_on0 h
  refine tw_cn h hs (tw_mu_on h hp _) z ?_
  rw [q, tw_zer h hs.1 hs.2.1]
/-! the order: the least n from 1 on; n times p is neutral iff the order divides n -/
def tw_od (P D N : Nat) (p : Nat × Nat) : Nat := ((List.range N).find? (fun n => decide (tw_mu P D (n + 1) p = (0, 1)))).getD 0 + 1
theorem tw_od_spec {P D N : Nat} {p : Nat × Nat} (hN : 0 < N) (e : tw_mu P D N p = (0, 1)) : 0 < tw_od P D N p ∧ tw_od P D N p ≤ N ∧ tw_mu P D (tw_od P D N p) p = (0, 1) ∧ ∀ n, 0 < n → n < tw_od P D N p → tw_mu P D n p ≠ (0, 1) := by
  unfold tw_od
  cases er : (List.range N).find? (fun n => decide (tw_mu P D (n + 1) p = (0, 1))) with
  | none =>
    rw [List.find?_range_eq_none] at er
    have q := er (N - 1) (by omega)
    rw [Nat.sub_add_cancel (by omega)] at q
    simp [e] at q
  | some k =>
    rw [List.find?_range_eq_some] at er
    obtain ⟨h1, h2, h3⟩ := er
    have h2 := List.mem_range.mp h2
    refine ⟨Nat.succ_pos _, h2, by simpa using h1, ?_⟩
    intro n hn hk
    have q := h3 (n - 1) (by have : n < k + 1 := hk; omega)
    rw [Nat.sub_add_cancel hn] at q
    simpa using q
theorem tw_od_mod {P D I N : Nat} (h : tw_K P D I) {p : Nat × Nat} (hp : tw_on P D p) {o : Nat} (e : tw_mu P D o p = (0, 1)) (n : Nat) : tw_mu P D n p = tw_mu P D (n % o) p := by
  have q : n = o * (n / o) + n % o := (Nat.div_add_mod n o).symm
  have hm := tw_mu_on h hp (n % o)
  have e2 : tw_mu P D (o * (n / o)) p = (0, 1) := by rw [tw_mu_mul h hp, e, tw_mu_0 h]
  have e3 : tw_mu P D n p = tw_mu P D (o * (n / o) + n % o) p := congrArg (fun z => tw_mu P D z p) q
  rw [e3, tw_mu_add h hp, e2, tw_zel h hm.1 hm.2.1]
theorem tw_od_dvd {P D I N : Nat} (h : tw_K P D I) {p : Nat × Nat} (hp : tw_on P D p) (hN : 0 < N) (e : tw_mu P D N p = (0, 1)) (n : Nat) : tw_mu P D n p = (0, 1) ↔ n % tw_od P D N p = 0 := by
  obtain ⟨h1, -, h3, h4⟩ := tw_od_spec hN e
  rw [tw_od_mod (N := N) h hp h3 n]
  constructor
  · intro q
    refine Classical.byContradiction (fun c => ?_)
    exact h4 _ (by omega) (Nat.mod_lt _ h1) q
  · intro q
    rw [q]
    rfl
theorem tw_mu_inj {P D I N : Nat} (h : tw_K P D I) {p : Nat × Nat} (hp : tw_on P D p) (hN : 0 < N) (e : tw_mu P D N p = (0, 1)) {a b : Nat} (hab : a ≤ b) (q : tw_mu P D a p = tw_mu P D b p) : (b - a) % tw_od P D N p = 0 := by
  rw [← tw_od_dvd h hp hN e]
  have e2 : tw_mu P D b p = tw_add P D (tw_mu P D a p) (tw_mu P D (b - a) p) := by
    rw [← tw_mu_add h hp, Nat.add_sub_cancel' hab]
  have z := tw_on0 h
  have ha := tw_mu_on h hp a
  refine tw_cn h ha (tw_mu_on h hp _) z ?_
  rw [← e2, ← q, tw_zer h ha.1 ha.2.1]
