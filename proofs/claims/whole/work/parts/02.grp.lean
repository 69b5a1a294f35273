/-! points as pairs of numbers below P: the sum, being a point, n times a point -/
def tw_iv (P b : Nat) : Nat := b ^ (P - 2) % P
def tw_t (P D : Nat) (p q : Nat × Nat) : Nat := D * (p.1 * p.2 % P) % P * (q.1 * q.2 % P) % P
def tw_add (P D : Nat) (p q : Nat × Nat) : Nat × Nat := ((p.1 * q.2 + p.2 * q.1) % P * tw_iv P ((1 + tw_t P D p q) % P) % P, (p.2 * q.2 + p.1 * q.1) % P * tw_iv P ((1 + P - tw_t P D p q) % P) % P)
def tw_on (P D : Nat) (p : Nat × Nat) : Prop := p.1 < P ∧ p.2 < P ∧ (P - p.1 * p.1 % P + p.2 * p.2 % P) % P = (1 + D * ((p.1 * p.1 % P) * (p.2 * p.2 % P) % P)) % P
def tw_K (P D I : Nat) : Prop := 3 ≤ P ∧ P % 2 = 1 ∧ D < P ∧ (∀ n, n < P → n ≠ 0 → n * n ^ (P - 2) % P = 1) ∧ I * I % P = P - 1 ∧ ∀ n, n < P → n * n % P ≠ D
def tw_mu (P D : Nat) : Nat → Nat × Nat → Nat × Nat
  | 0, _ => (0, 1)
  | n + 1, p => tw_add P D (tw_mu P D n p) p
theorem th_mul (P : Nat) [NeZero P] (a b : Nat) : Fin.ofNat P (a * b) = Fin.ofNat P a * Fin.ofNat P b := by
  apply Fin.ext
  rw [Fin.val_mul, Fin.val_ofNat, Fin.val_ofNat, Fin.val_ofNat, ← Nat.mul_mod]
theorem th_add (P : Nat) [NeZero P] (a b : Nat) : Fin.ofNat P (a + b) = Fin.ofNat P a + Fin.ofNat P b := by
  apply Fin.ext
  rw [Fin.val_add, Fin.val_ofNat, Fin.val_ofNat, Fin.val_ofNat, ← Nat.add_mod]
theorem th_mod (P : Nat) [NeZero P] (a : Nat) : Fin.ofNat P (a % P) = Fin.ofNat P a := by
  apply Fin.ext
  rw [Fin.val_ofNat, Fin.val_ofNat, Nat.mod_mod]
theorem th_eq (P : Nat) [NeZero P] (a b : Nat) : Fin.ofNat P a = Fin.ofNat P b ↔ a % P = b % P := by
  constructor
  · intro h
    have q := congrArg Fin.val h
    rw [Fin.val_ofNat, Fin.val_ofNat] at q
    exact q
  · intro h
    apply Fin.ext
    rw [Fin.val_ofNat, Fin.val_ofNat]
    exact h
theorem th_P (P : Nat) [NeZero P] : Fin.ofNat P P = 0 := by
  apply Fin.ext
  rw [Fin.val_ofNat, Nat.mod_self]
  rfl
theorem th_1 (P : Nat) [NeZero P] : Fin.ofNat P 1 = 1 := rfl
theorem th_0 (P : Nat) [NeZero P] : Fin.ofNat P 0 = 0 := rfl
theorem th_sub (P : Nat) [NeZero P] {a b : Nat} (h : b ≤ a) : Fin.ofNat P (a - b) = Fin.ofNat P a - Fin.ofNat P b := by
  have e : Fin.ofNat P a = Fin.ofNat P (a - b) + Fin.ofNat P b := by
    rw [← th_add, Nat.sub_add_cancel h]
  rw [e]
  grind
def tw_f (P : Nat) [NeZero P] (p : Nat × Nat) : Fin P × Fin P := (Fin.ofNat P p.1, Fin.ofNat P p.2)
def tw_fi (P : Nat) [NeZero P] (b : Fin P) : Fin P := Fin.ofNat P (tw_iv P b.val)
theorem tw_f_inj (P : Nat) [NeZero P] {p q : Nat × Nat} (h1 : p.1 < P) (h2 : p.2 < P) (h3 : q.1 < P) (h4 : q.2 < P) (h : tw_f P p = tw_f P q) : p = q := by
  have a := congrArg Prod.fst h
  have b := congrArg Prod.snd h
  have a := (th_eq P _ _).mp a
  have b := (th_eq P _ _).mp b
  rw [Nat.mod_eq_of_lt h1, Nat.mod_eq_of_lt h3] at a
  rw [Nat.mod_eq_of_lt h2, Nat.mod_eq_of_lt h4] at b
  exact Prod.ext a b
theorem tw_tlt {P D : Nat} (h : 0 < P) (p q : Nat × Nat) : tw_t P D p q < P := Nat.mod_lt _ h
theorem tw_tf (P D : Nat) [NeZero P] (p q : Nat × Nat) : Fin.ofNat P (tw_t P D p q) = Fin.ofNat P D * Fin.ofNat P p.1 * Fin.ofNat P p.2 * Fin.ofNat P q.1 * Fin.ofNat P q.2 := by
  unfold tw_t
  simp only [th_mod, th_mul]
  grind
theorem tw_addf (P D : Nat) [NeZero P] (p q : Nat × Nat) : tw_f P (tw_add P D p q) = ag_add (Fin.ofNat P D) (tw_fi P) (tw_f P p) (tw_f P q) := by
  have h0 : 0 < P := Nat.pos_of_ne_zero (NeZero.ne P)
  have hl := tw_tlt (D := D) h0 p q
  have e1 : (1 + Fin.ofNat P D * Fin.ofNat P p.1 * Fin.ofNat P p.2 * Fin.ofNat P q.1 * Fin.ofNat P q.2 : Fin P) = Fin.ofNat P (1 + tw_t P D p q) := by
    rw [th_add, tw_tf, th_1]
  have e2 : (1 - Fin.ofNat P D * Fin.ofNat P p.1 * Fin.ofNat P p.2 * Fin.ofNat P q.1 * Fin.ofNat P q.2 : Fin P) = Fin.ofNat P (1 + P - tw_t P D p q) := by
    rw [th_sub P (by omega), th_add, tw_tf, th_1, th_P]
    grind
  refine Prod.ext ?_ ?_
  · show Fin.ofNat P ((p.1 * q.2 + p.2 * q.1) % P * tw_iv P ((1 + tw_t P D p q) % P) % P) = (Fin.ofNat P p.1 * Fin.ofNat P q.2 + Fin.ofNat P p.2 * Fin.ofNat P q.1) * tw_fi P (1 + Fin.ofNat P D * Fin.ofNat P p.1 * Fin.ofNat P p.2 * Fin.ofNat P q.1 * Fin.ofNat P q.2)
    rw [e1]
    unfold tw_fi
    rw [Fin.val_ofNat]
    simp only [th_mod, th_mul, th_add]
  · show Fin.ofNat P ((p.2 * q.2 + p.1 * q.1) % P * tw_iv P ((1 + P - tw_t P D p q) % P) % P) = (Fin.ofNat P p.2 * Fin.ofNat P q.2 + Fin.ofNat P p.1 * Fin.ofNat P q.1) * tw_fi P (1 - Fin.ofNat P D * Fin.ofNat P p.1 * Fin.ofNat P p.2 * Fin.ofNat P q.1 * Fin.ofNat P q.2)
    rw [e2]
    unfold tw_fi
    rw [Fin.val_ofNat]
    simp only [th_mod, th_mul, th_add]
theorem tw_addlt {P : Nat} (h : 0 < P) (D : Nat) (p q : Nat × Nat) : (tw_add P D p q).1 < P ∧ (tw_add P D p q).2 < P := ⟨Nat.mod_lt _ h, Nat.mod_lt _ h⟩
theorem tw_onf (P D : Nat) [NeZero P] (p : Nat × Nat) : tw_on P D p ↔ p.1 < P ∧ p.2 < P ∧ ag_on (Fin.ofNat P D) (tw_f P p) := by
  have h0 : 0 < P := Nat.pos_of_ne_zero (NeZero.ne P)
  have hl : p.1 * p.1 % P < P := Nat.mod_lt _ h0
  have e1 : Fin.ofNat P (P - p.1 * p.1 % P + p.2 * p.2 % P) = Fin.ofNat P p.2 * Fin.ofNat P p.2 - Fin.ofNat P p.1 * Fin.ofNat P p.1 := by
    rw [th_add, th_sub P (by omega)]
    simp only [th_mod, th_mul, th_P]
    grind
  have e2 : Fin.ofNat P (1 + D * ((p.1 * p.1 % P) * (p.2 * p.2 % P) % P)) = 1 + Fin.ofNat P D * (Fin.ofNat P p.1 * Fin.ofNat P p.1) * (Fin.ofNat P p.2 * Fin.ofNat P p.2) := by
    simp only [th_mod, th_mul, th_add, th_1]
    grind
  unfold tw_on
  rw [← th_eq P, e1, e2]
  refine and_congr_right (fun _ => and_congr_right (fun _ => ?_))
  show _ ↔ Fin.ofNat P p.2 * Fin.ofNat P p.2 - Fin.ofNat P p.1 * Fin.ofNat P p.1 - 1 - Fin.ofNat P D * (Fin.ofNat P p.1 * Fin.ofNat P p.1) * (Fin.ofNat P p.2 * Fin.ofNat P p.2) = 0
  constructor
  · intro h; grind
  · intro h; grind
theorem tw_F {P D I : Nat} [NeZero P] (h : tw_K P D I) : ag_F (Fin.ofNat P D) (Fin.ofNat P I) (tw_fi P) := by
  obtain ⟨h3, hodd, hD, hinv, hI, hsq⟩ := h
  refine ⟨?_, ?_, ?_, ?_⟩
  · intro a ha
    have hn : a.val ≠ 0 := by
      intro e
      exact ha (Fin.ext (by rw [e]; rfl))
    have q := hinv a.val a.isLt hn
    have e : a * tw_fi P a = Fin.ofNat P (a.val * a.val ^ (P - 2)) := by
      unfold tw_fi tw_iv
      rw [th_mod, th_mul P a.val, Fin.ofNat_val_eq_self]
    rw [e, ← th_mod, q, th_1]
  · have e : Fin.ofNat P I * Fin.ofNat P I = Fin.ofNat P (P - 1) := by
      rw [← th_mul, ← th_mod, hI]
    rw [e, th_sub P (by omega), th_P, th_1]
    grind
  · intro a e
    have q := congrArg Fin.val e
    rw [Fin.val_mul, Fin.val_ofNat, Nat.mod_eq_of_lt hD] at q
    exact hsq a.val a.isLt q
  · intro e
    have q := congrArg Fin.val e
    have q2 : 2 % P = 0 % P := q
    rw [Nat.mod_eq_of_lt (by omega), Nat.zero_mod] at q2
    omega
theorem tw_clo {P D I : Nat} (h : tw_K P D I) {p q : Nat × Nat} (hp : tw_on P D p) (hq : tw_on P D q) : tw_on P D (tw_add P D p q) := by
  have h0 : 0 < P := by have := h.1; omega
  have hz : NeZero P := ⟨by omega⟩
  rw [tw_onf] at hp hq ⊢
  refine ⟨(tw_addlt h0 D p q).1, (tw_addlt h0 D p q).2, ?_⟩
  rw [tw_addf]
  exact ag_clo (tw_F h) hp.2.2 hq.2.2
theorem tw_ass {P D I : Nat} (h : tw_K P D I) {p q r : Nat × Nat} (hp : tw_on P D p) (hq : tw_on P D q) (hr : tw_on P D r) : tw_add P D (tw_add P D p q) r = tw_add P D p (tw_add P D q r) := by
  have h0 : 0 < P := by have := h.1; omega
  have hz : NeZero P := ⟨by omega⟩
  refine tw_f_inj P (tw_addlt h0 D _ _).1 (tw_addlt h0 D _ _).2 (tw_addlt h0 D _ _).1 (tw_addlt h0 D _ _).2 ?_
  rw [tw_onf] at hp hq hr
  rw [tw_addf, tw_addf, tw_addf, tw_addf]
  exact ag_ass (tw_F h) hp.2.2 hq.2.2 hr.2.2
theorem tw_com {P D I : Nat} (h : tw_K P D I) (p q : Nat × Nat) : tw_add P D p q = tw_add P D q p := by
  have h0 : 0 < P := by have := h.1; omega
  have hz : NeZero P := ⟨by omega⟩
  refine tw_f_inj P (tw_addlt h0 D _ _).1 (tw_addlt h0 D _ _).2 (tw_addlt h0 D _ _).1 (tw_addlt h0 D _ _).2 ?_
  rw [tw_addf, tw_addf]
  exact ag_com _ _ _ _
theorem tw_zer {P D I : Nat} (h : tw_K P D I) {p : Nat × Nat} (h1 : p.1 < P) (h2 : p.2 < P) : tw_add P D p (0, 1) = p := by
  have h3 : 3 ≤ P := h.1
  have h0 : 0 < P := by omega
  have hz : NeZero P := ⟨by omega⟩
  refine tw_f_inj P (tw_addlt h0 D _ _).1 (tw_addlt h0 D _ _).2 h1 h2 ?_
  rw [tw_addf]
  exact ag_zer (tw_F h) _
theorem tw_on0 {P D I : Nat} (h : tw_K P D I) : tw_on P D (0, 1) := by
  have h3 : 3 ≤ P := h.1
  have hz : NeZero P := ⟨by omega⟩
  rw [tw_onf]
  refine ⟨by show 0 < P; omega, by show 1 < P; omega, ?_⟩
  show (1 : Fin P) * 1 - 0 * 0 - 1 - Fin.ofNat P D * (0 * 0) * (1 * 1) = 0
  grind
def tw_ng (P : Nat) (p : Nat × Nat) : Nat × Nat := ((P - p.1) % P, p.2)
theorem tw_neg {P D I : Nat} (h : tw_K P D I) {p : Nat × Nat} (hp : tw_on P D p) : tw_on P D (tw_ng P p) ∧ tw_add P D p (tw_ng P p) = (0, 1) := by
  have h3 : 3 ≤ P := h.1
  have h0 : 0 < P := by omega
  have hz : NeZero P := ⟨by omega⟩
  rw [tw_onf] at hp
  have q := ag_neg (tw_F h) hp.2.2
  have e : tw_f P (tw_ng P p) = (-(tw_f P p).1, (tw_f P p).2) := by
    refine Prod.ext ?_ rfl
    show Fin.ofNat P ((P - p.1) % P) = - Fin.ofNat P p.1
    rw [th_mod, th_sub P (Nat.le_of_lt hp.1), th_P]
    grind
  constructor
  · rw [tw_onf, e]
    exact ⟨Nat.mod_lt _ h0, hp.2.1, q.1⟩
  · refine tw_f_inj P (tw_addlt h0 D _ _).1 (tw_addlt h0 D _ _).2 (by show 0 < P; omega) (by show 1 < P; omega) ?_
    rw [tw_addf, e, q.2]
    rfl
theorem tw_mu_on {P D I : Nat} (h : tw_K P D I) {p : Nat × Nat} (hp : tw_on P D p) : ∀ n, tw_on P D (tw_mu P D n p)
  | 0 => tw_on0 h
  | n + 1 => tw_clo h (tw_mu_on h hp n) hp
theorem tw_zel {P D I : Nat} (h : tw_K P D I) {p : Nat × Nat} (h1 : p.1 < P) (h2 : p.2 < P) : tw_add P D (0, 1) p = p := by
  rw [tw_com h]
  exact tw_zer h h1 h2
theorem tw_mu_1 {P D I : Nat} (h : tw_K P D I) {p : Nat × Nat} (hp : tw_on P D p) : tw_mu P D 1 p = p := tw_zel h hp.1 hp.2.1
theorem tw_mu_add {P D I : Nat} (h : tw_K P D I) {p : Nat × Nat} (hp : tw_on P D p) (m : Nat) : ∀ n, tw_mu P D (m + n) p = tw_add P D (tw_mu P D m p) (tw_mu P D n p)
  | 0 => by
    have q := tw_mu_on h hp m
    exact (tw_zer h q.1 q.2.1).symm
  | n + 1 => by
    show tw_add P D (tw_mu P D (m + n) p) p = tw_add P D (tw_mu P D m p) (tw_add P D (tw_mu P D n p) p)
    rw [tw_mu_add h hp m n, tw_ass h (tw_mu_on h hp m) (tw_mu_on h hp n) hp]
theorem tw_mu_0 {P D I : Nat} (h : tw_K P D I) : ∀ n, tw_mu P D n (0, 1) = (0, 1)
  | 0 => rfl
  | n + 1 => by
    show tw_add P D (tw_mu P D n (0, 1)) (0, 1) = (0, 1)
    rw [tw_mu_0 h n]
    have q := tw_on0 h
    exact tw_zer h q.1 q.2.1
theorem tw_mu_mul {P D I : Nat} (h : tw_K P D I) {p : Nat × Nat} (hp : tw_on P D p) (m : Nat) : ∀ n, tw_mu P D (m * n) p = tw_mu P D n (tw_mu P D m p)
  | 0 => rfl
  | n + 1 => by
    show tw_mu P D (m * n + m) p = tw_add P D (tw_mu P D n (tw_mu P D m p)) (tw_mu P D m p)
    rw [tw_mu_add h hp, tw_mu_mul h hp m n]
theorem tw_mu_dbl {P D I : Nat} (h : tw_K P D I) {p : Nat × Nat} (hp : tw_on P D p) (n : Nat) : tw_mu P D n (tw_add P D p p) = tw_mu P D (2 * n) p := by
  have e : tw_mu P D 2 p = tw_add P D p p := by
    show tw_add P D (tw_mu P D 1 p) p = tw_add P D p p
    rw [tw_mu_1 h hp]
  rw [tw_mu_mul h hp, e]
theorem tw_cn {P D I : Nat} (h : tw_K P D I) {p q r : Nat × Nat} (hp : tw_on P D p) (hq : tw_on P D q) (hr : tw_on P D r) (e : tw_add P D p q = tw_add P D p r) : q = r := by
  have hn := tw_neg h hp
  have a : ∀ {s}, tw_on P D s → tw_add P D (tw_ng P p) (tw_add P D p s) = s := by
    intro s hs
    rw [← tw_ass h hn.1 hp hs, tw_com h (tw_ng P p) p, hn.2, tw_zel h hs.1 hs.2.1]
  rw [← a hq, e, a hr]
