/-! what the loops keep: inverses one out of another, roots, doubling, bits from the top -/
theorem tw_iv_lt {P : Nat} (h : 0 < P) (b : Nat) : tw_iv P b < P := Nat.mod_lt _ h
theorem tw_iv_1 {P D I : Nat} (h : tw_K P D I) : tw_iv P 1 = 1 := by
  have h3 : 3 ≤ P := h.1
  unfold tw_iv
  rw [Nat.one_pow, Nat.mod_eq_of_lt (by omega)]
theorem tw_iv_0 {P D I : Nat} (h : tw_K P D I) : tw_iv P 0 = 0 := by
  have h3 : 3 ≤ P := h.1
  unfold tw_iv
  rw [Nat.zero_pow (by omega), Nat.zero_mod]
theorem tw_iv_r {P D I n : Nat} (h : tw_K P D I) (h1 : 2 ≤ n) (h2 : n < P) : 0 < P % n := by
  have h3 : 3 ≤ P := h.1
  have hz : NeZero P := ⟨by omega⟩
  have F := tw_F h
  refine Nat.pos_of_ne_zero (fun e => ?_)
  have hd : n * (P / n) = P := Nat.mul_div_cancel' (Nat.dvd_of_mod_eq_zero e)
  have hm : P / n < P := Nat.div_lt_self (by omega) (by omega)
  have hm0 : 0 < P / n := Nat.div_pos (by omega) (by omega)
  have c1 : Fin.ofNat P n ≠ 0 := by
    intro q
    rw [← th_0, th_eq, Nat.mod_eq_of_lt h2, Nat.zero_mod] at q
    omega
  have c2 : Fin.ofNat P (P / n) ≠ 0 := by
    intro q
    rw [← th_0, th_eq, Nat.mod_eq_of_lt hm, Nat.zero_mod] at q
    omega
  refine ag_nz F c1 c2 ?_
  rw [← th_mul, hd, th_P]
theorem tw_iv_f {P : Nat} [NeZero P] {n : Nat} (hn : n < P) : Fin.ofNat P (tw_iv P n) = tw_fi P (Fin.ofNat P n) := by
  unfold tw_fi
  rw [Fin.val_ofNat, Nat.mod_eq_of_lt hn]
theorem tw_iv_rec {P D I n : Nat} (h : tw_K P D I) (h1 : 2 ≤ n) (h2 : n < P) : (P - P / n) * tw_iv P (P % n) % P = tw_iv P n := by
  have h3 : 3 ≤ P := h.1
  have hz : NeZero P := ⟨by omega⟩
  have F := tw_F h
  have hr := tw_iv_r h h1 h2
  have hrn : P % n < n := Nat.mod_lt _ (by omega)
  have c1 : Fin.ofNat P n ≠ 0 := by
    intro q
    rw [← th_0, th_eq, Nat.mod_eq_of_lt h2, Nat.zero_mod] at q
    omega
  have c2 : Fin.ofNat P (P % n) ≠ 0 := by
    intro q
    rw [← th_0, th_eq, Nat.mod_eq_of_lt (by omega), Nat.zero_mod] at q
    omega
  have e0 : Fin.ofNat P n * Fin.ofNat P (P / n) + Fin.ofNat P (P % n) = 0 := by
    rw [← th_mul, ← th_add, Nat.div_add_mod, th_P]
  have e1 : Fin.ofNat P ((P - P / n) * tw_iv P (P % n)) = (0 - Fin.ofNat P (P / n)) * tw_fi P (Fin.ofNat P (P % n)) := by
    rw [th_mul, th_sub P (Nat.div_le_self _ _), th_P, tw_iv_f (by omega)]
  have i1 := F.1 _ c1
  have i2 := F.1 _ c2
  have e2 : Fin.ofNat P ((P - P / n) * tw_iv P (P % n)) = Fin.ofNat P (tw_iv P n) := by
    rw [e1, tw_iv_f h2]
    refine ag_can F c1 ?_
    rw [i1]
    generalize Fin.ofNat P n = a at e0 ⊢
    generalize Fin.ofNat P (P / n) = q at e0 ⊢
    generalize tw_fi P (Fin.ofNat P (P % n)) = v at i2 ⊢
    generalize Fin.ofNat P (P % n) = r at e0 i2
    have e4 : r = 0 - a * q := by grind
    rw [e4] at i2
    rw [← i2]
    grind
  have e3 := (th_eq P _ _).mp e2
  rw [Nat.mod_eq_of_lt (tw_iv_lt (by omega) n)] at e3
  exact e3
theorem tw_stp1 {P D I : Nat} (h : tw_K P D I) {t d : Nat × Nat} (ht : tw_on P D t) (hd : tw_on P D d) {n : Nat} (hn : n % 2 = 1) : tw_add P D (tw_add P D t d) (tw_mu P D (n / 2) (tw_add P D d d)) = tw_add P D t (tw_mu P D n d) := by
  have e : n = 1 + 2 * (n / 2) := by omega
  have e2 : tw_mu P D n d = tw_mu P D (1 + 2 * (n / 2)) d := congrArg (fun z => tw_mu P D z d) e
  rw [e2, tw_mu_dbl h hd, tw_mu_add h hd, tw_mu_1 h hd, tw_ass h ht hd (tw_mu_on h hd _)]
theorem tw_stp0 {P D I : Nat} (h : tw_K P D I) {d : Nat × Nat} (hd : tw_on P D d) {n : Nat} (hn : n % 2 = 0) : tw_mu P D (n / 2) (tw_add P D d d) = tw_mu P D n d := by
  have e : n = 2 * (n / 2) := by omega
  have e2 : tw_mu P D n d = tw_mu P D (2 * (n / 2)) d := congrArg (fun z => tw_mu P D z d) e
  rw [e2, tw_mu_dbl h hd]
theorem tw_hor0 {P D I : Nat} (h : tw_K P D I) {p : Nat × Nat} (hp : tw_on P D p) {n : Nat} (hn : n % 2 = 0) : tw_add P D (tw_mu P D (n / 2) p) (tw_mu P D (n / 2) p) = tw_mu P D n p := by
  have e : n = n / 2 + n / 2 := by omega
  have e2 : tw_mu P D n p = tw_mu P D (n / 2 + n / 2) p := congrArg (fun z => tw_mu P D z p) e
  rw [e2, tw_mu_add h hp]
theorem tw_hor1 {P D I : Nat} (h : tw_K P D I) {p : Nat × Nat} (hp : tw_on P D p) {n : Nat} (hn : n % 2 = 1) : tw_add P D (tw_add P D (tw_mu P D (n / 2) p) (tw_mu P D (n / 2) p)) p = tw_mu P D n p := by
  have e : n = (n / 2 + n / 2) + 1 := by omega
  have e2 : tw_mu P D n p = tw_mu P D (n / 2 + n / 2 + 1) p := congrArg (fun z => tw_mu P D z p) e
  rw [e2, tw_mu_add h hp (n / 2 + n / 2) 1, tw_mu_add h hp, tw_mu_1 h hp]
/-- the roots' table as both keep it -/
def tw_rv (P w : Nat) : Int32 := match tw_rt P w with
  | none => -1
  | some r => nI r
theorem tw_rt_small {P : Nat} (D I : Nat) (h : tw_K P D I) {j : Nat} (hj : 2 * j < P) : tw_rt P (j * j % P) = some j := by
  obtain ⟨r, h1, h2, h3⟩ := tw_rt_sq D I h (x := j) (by omega)
  have e : r = j := by omega
  rw [← e]
  rw [← e] at h1
  exact h1
theorem tw_rt_half {P : Nat} (D I : Nat) (h : tw_K P D I) {w r : Nat} (e : tw_rt P w = some r) : 2 * r < P := by
  obtain ⟨h1, h2, -⟩ := tw_rt_some e
  obtain ⟨r', h3, h4, h5⟩ := tw_rt_sq D I h h1
  rw [h2, e] at h3
  have q : r = r' := Option.some.inj h3
  omega
theorem tw_rt_m1 {P D I : Nat} (h : tw_K P D I) (hI : 2 * I < P) : tw_rt P (P - 1) = some I := by
  have q := tw_rt_small D I h hI
  rw [h.2.2.2.2.1] at q
  exact q
theorem tw_rt_D {P D I : Nat} (h : tw_K P D I) : tw_rt P D = none := by
  cases e : tw_rt P D with
  | none => rfl
  | some r =>
    obtain ⟨h1, h2, -⟩ := tw_rt_some e
    exact absurd h2 (h.2.2.2.2.2 r h1)
/-- two points of one place are one point -/
def tw_pl (p : Nat × Nat) : Nat := 2 * p.2 + p.1 % 2
theorem tw_pl_inj {P D I : Nat} (h : tw_K P D I) (hP : P ≤ 8192) {p q : Nat × Nat} (hp : tw_on P D p) (hq : tw_on P D q) (e : tw_pl p = tw_pl q) : p = q := by
  have e2 : tw_pk p = tw_pk q := by
    unfold tw_pl at e
    unfold tw_pk
    have : p.1 % 2 = q.1 % 2 := by omega
    have : p.2 = q.2 := by omega
    omega
  have a := (tw_rd_pk h hP hp).1
  have b := (tw_rd_pk h hP hq).1
  rw [e2, b] at a
  exact (Option.some.inj a).symm
theorem tw_pk_inj {P D I : Nat} (h : tw_K P D I) (hP : P ≤ 8192) {p q : Nat × Nat} (hp : tw_on P D p) (hq : tw_on P D q) (e : tw_pk p = tw_pk q) : p = q := by
  have a := (tw_rd_pk h hP hp).1
  have b := (tw_rd_pk h hP hq).1
  rw [e, b] at a
  exact (Option.some.inj a).symm
/-- n times a point for any whole number n, cut by the number of points or by the order -/
theorem tw_ml {P D I N : Nat} (h : tw_K P D I) {p : Nat × Nat} (hp : tw_on P D p) (hN : 0 < N) (e : tw_mu P D N p = (0, 1)) (n : Int) : tw_mu P D (n % (N : Int)).toNat p = tw_mu P D (n % (tw_od P D N p : Int)).toNat p := by
  obtain ⟨h1, -, h3, -⟩ := tw_od_spec hN e
  have hd := (tw_od_dvd h hp hN e N).mp e
  rw [tw_od_mod (N := N) h hp h3 (n % (N : Int)).toNat]
  have e2 : (n % (N : Int)).toNat % tw_od P D N p = (n % (tw_od P D N p : Int)).toNat := by
    have a1 : 0 ≤ n % (N : Int) := Int.emod_nonneg _ (by omega)
    have a2 : 0 ≤ n % (tw_od P D N p : Int) := Int.emod_nonneg _ (by omega)
    apply Int.ofNat_inj.mp
    rw [Int.natCast_emod, Int.toNat_of_nonneg a1, Int.toNat_of_nonneg a2]
    exact Int.emod_emod_of_dvd n (Int.natCast_dvd_natCast.mpr (Nat.dvd_of_mod_eq_zero hd))
  rw [e2]
