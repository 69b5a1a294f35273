/-! the five kinds by numbers: checks over all numbers below a power of two, halved again and again -/
def tw_al (f : Nat → Bool) : Nat → Nat → Bool
  | 0, lo => f lo
  | d + 1, lo => tw_al f d lo && tw_al f d (lo + 2 ^ d)
theorem tw_al_spec (f : Nat → Bool) : ∀ (d lo : Nat), tw_al f d lo = true → ∀ k, lo ≤ k → k < lo + 2 ^ d → f k = true
  | 0, lo, h, k, h1, h2 => by
    have : k = lo := by simp at h2; omega
    rw [this]
    exact h
  | d + 1, lo, h, k, h1, h2 => by
    have h' : (tw_al f d lo && tw_al f d (lo + 2 ^ d)) = true := h
    rw [Bool.and_eq_true] at h'
    have e : 2 ^ (d + 1) = 2 ^ d + 2 ^ d := by rw [Nat.pow_succ]; omega
    by_cases c : k < lo + 2 ^ d
    · exact tw_al_spec f d lo h'.1 k h1 c
    · exact tw_al_spec f d (lo + 2 ^ d) h'.2 k (by omega) (by omega)
def tw_sum (f : Nat → Nat) : Nat → Nat
  | 0 => 0
  | n + 1 => tw_sum f n + f n
theorem tw_sum_congr {f g : Nat → Nat} : ∀ {n : Nat}, (∀ k, k < n → f k = g k) → tw_sum f n = tw_sum g n
  | 0, _ => rfl
  | n + 1, h => by
    show tw_sum f n + f n = tw_sum g n + g n
    rw [tw_sum_congr (fun k hk => h k (by omega)), h n (by omega)]
theorem tw_sum_add (f : Nat → Nat) (a : Nat) : ∀ b, tw_sum f (a + b) = tw_sum f a + tw_sum (fun k => f (a + k)) b
  | 0 => rfl
  | b + 1 => by
    show tw_sum f (a + b) + f (a + b) = tw_sum f a + (tw_sum (fun k => f (a + k)) b + f (a + b))
    rw [tw_sum_add f a b, Nat.add_assoc]
def tw_sb (f : Nat → Nat) : Nat → Nat → Nat
  | 0, lo => f lo
  | d + 1, lo => tw_sb f d lo + tw_sb f d (lo + 2 ^ d)
theorem tw_sb_eq (f : Nat → Nat) : ∀ (d lo : Nat), tw_sum (fun k => f (lo + k)) (2 ^ d) = tw_sb f d lo
  | 0, lo => by
    show 0 + f (lo + 0) = f lo
    rw [Nat.zero_add, Nat.add_zero]
  | d + 1, lo => by
    have e : 2 ^ (d + 1) = 2 ^ d + 2 ^ d := by rw [Nat.pow_succ]; omega
    show _ = tw_sb f d lo + tw_sb f d (lo + 2 ^ d)
    rw [e, tw_sum_add, ← tw_sb_eq f d lo, ← tw_sb_eq f d (lo + 2 ^ d)]
    congr 1
    refine tw_sum_congr (fun k _ => ?_)
    show f (lo + (2 ^ d + k)) = f (lo + 2 ^ d + k)
    rw [Nat.add_assoc]
def tw_bs (P : Nat) : Nat → Nat → Nat
  | 0, lo => 2 ^ (lo * lo % P)
  | d + 1, lo => tw_bs P d lo ||| tw_bs P d (lo + 2 ^ d)
theorem tw_bs_spec (P w : Nat) : ∀ (d lo : Nat), (tw_bs P d lo).testBit w = true ↔ ∃ x, lo ≤ x ∧ x < lo + 2 ^ d ∧ x * x % P = w
  | 0, lo => by
    show (2 ^ (lo * lo % P)).testBit w = true ↔ _
    rw [Nat.testBit_two_pow, decide_eq_true_iff]
    constructor
    · intro h
      exact ⟨lo, Nat.le_refl _, by simp, h⟩
    · rintro ⟨x, h1, h2, h3⟩
      have : x = lo := by simp at h2; omega
      rw [← this]
      exact h3
  | d + 1, lo => by
    have e : 2 ^ (d + 1) = 2 ^ d + 2 ^ d := by rw [Nat.pow_succ]; omega
    show (tw_bs P d lo ||| tw_bs P d (lo + 2 ^ d)).testBit w = true ↔ _
    rw [Nat.testBit_or, Bool.or_eq_true, tw_bs_spec P w d lo, tw_bs_spec P w d (lo + 2 ^ d)]
    constructor
    · rintro (⟨x, h1, h2, h3⟩ | ⟨x, h1, h2, h3⟩)
      · exact ⟨x, h1, by omega, h3⟩
      · exact ⟨x, by omega, by omega, h3⟩
    · rintro ⟨x, h1, h2, h3⟩
      by_cases c : x < lo + 2 ^ d
      · exact Or.inl ⟨x, h1, c, h3⟩
      · exact Or.inr ⟨x, by omega, by omega, h3⟩
theorem tw_rt_bs {P : Nat} (h0 : 0 < P) (hP : P ≤ 8192) {B : Nat} (hB : tw_bs P 13 0 = B) (w : Nat) : (tw_rt P w).isSome = B.testBit w := by
  rw [← hB]
  cases e : tw_rt P w with
  | some r =>
    obtain ⟨h1, h2, -⟩ := tw_rt_some e
    exact ((tw_bs_spec P w 13 0).mpr ⟨r, Nat.zero_le _, by omega, h2⟩).symm
  | none =>
    cases q : (tw_bs P 13 0).testBit w with
    | false => rfl
    | true =>
      obtain ⟨x, -, h2, h3⟩ := (tw_bs_spec P w 13 0).mp q
      refine absurd ?_ (tw_rt_none e (x % P) (Nat.mod_lt _ h0))
      rw [← Nat.mul_mod]
      exact h3
theorem tw_rt_0 {P w r : Nat} (h0 : 0 < P) (e : tw_rt P w = some r) : r = 0 ↔ w = 0 := by
  obtain ⟨h1, h2, h3⟩ := tw_rt_some e
  constructor
  · intro q
    subst q
    simpa using h2.symm
  · intro q
    refine Classical.byContradiction (fun c => ?_)
    exact h3 0 (by omega) (by simp [q])
def tw_fk (P D B k : Nat) : Nat := if k % 8192 < P then (if tw_w P D (k % 8192) = 0 then (if k / 8192 = 1 then 0 else 1) else if B.testBit (tw_w P D (k % 8192)) then 1 else 0) else 0
def tw_gk (P D B y : Nat) : Nat := if y < P then (if tw_w P D y = 0 then 1 else if B.testBit (tw_w P D y) then 2 else 0) else 0
theorem tw_rt_w0 {P : Nat} (h0 : 0 < P) : tw_rt P 0 = some 0 := by
  cases e : tw_rt P 0 with
  | none => exact absurd (by simp) (tw_rt_none e 0 h0)
  | some r => rw [(tw_rt_0 h0 e).mpr rfl]
theorem tw_rd_fk {P D : Nat} (h0 : 0 < P) (hP : P ≤ 8192) {B : Nat} (hB : tw_bs P 13 0 = B) {k : Nat} (hk : k < 16384) : (if (tw_rd P D k).isSome then 1 else 0) = tw_fk P D B k := by
  have aux : ∀ (b : Bool) (x y : Nat × Nat), (if b = true then some x else some y).isSome = true := by
    intro b x y
    cases b <;> rfl
  by_cases c : k % 8192 < P
  · have e1 : tw_rd P D k = (match tw_rt P (tw_w P D (k % 8192)) with
      | none => none
      | some r => if r = 0 ∧ k / 8192 = 1 then none else if r % 2 = k / 8192 then some (r, k % 8192) else some (P - r, k % 8192)) := by
      unfold tw_rd
      rw [if_pos ⟨c, hk⟩]
      cases tw_rt P (tw_w P D (k % 8192)) <;> rfl
    have e2 : tw_fk P D B k = (if tw_w P D (k % 8192) = 0 then (if k / 8192 = 1 then 0 else 1) else if B.testBit (tw_w P D (k % 8192)) then 1 else 0) := by
      unfold tw_fk
      rw [if_pos c]
    have tb := tw_rt_bs h0 hP hB (tw_w P D (k % 8192))
    rw [e1, e2]
    cases e : tw_rt P (tw_w P D (k % 8192)) with
    | none =>
      have c0 : ¬ tw_w P D (k % 8192) = 0 := by
        intro q
        rw [q, tw_rt_w0 h0] at e
        cases e
      rw [e] at tb
      rw [if_neg c0, ← tb]
      rfl
    | some r =>
      have q := tw_rt_0 h0 e
      rw [e] at tb
      by_cases c0 : tw_w P D (k % 8192) = 0
      · have r0 : r = 0 := q.mpr c0
        subst r0
        rw [if_pos c0]
        by_cases c1 : k / 8192 = 1
        · simp [c1]
        · have z : 0 % 2 = k / 8192 := by omega
          simp [c1, ← z]
      · have r0 : ¬ r = 0 := fun z => c0 (q.mp z)
        rw [if_neg c0, ← tb]
        by_cases c1 : r % 2 = k / 8192
        · simp [r0, c1]
        · simp [r0, c1]
  · have e1 : tw_rd P D k = none := by
      unfold tw_rd
      rw [if_neg (fun h => c h.1)]
    have e2 : tw_fk P D B k = 0 := by
      unfold tw_fk
      rw [if_neg c]
    rw [e1, e2]
    rfl
theorem tw_cntP (f : Nat → Option (Nat × Nat)) : ∀ n, ((List.range n).filterMap f).length = tw_sum (fun k => if (f k).isSome then 1 else 0) n
  | 0 => rfl
  | n + 1 => by
    rw [List.range_succ, List.filterMap_append, List.length_append, tw_cntP f n]
    show _ = tw_sum _ n + _
    congr 1
    cases e : f n <;> simp [e]
theorem tw_len {P D : Nat} (h0 : 0 < P) (hP : P ≤ 8192) {B : Nat} (hB : tw_bs P 13 0 = B) : (tw_L P D).length = tw_sb (tw_fk P D B) 14 0 := by
  unfold tw_L
  rw [tw_cntP, ← tw_sb_eq]
  refine tw_sum_congr (fun k hk => ?_)
  rw [Nat.zero_add]
  exact tw_rd_fk h0 hP hB hk
/-- how many x there are to y, as a root tells it -/
def tw_ny (P D y : Nat) : Nat := match tw_rt P (tw_w P D y) with
  | none => 0
  | some r => if r = 0 then 1 else 2
theorem tw_siz {P D : Nat} (h0 : 0 < P) (hP : P ≤ 8192) {B : Nat} (hB : tw_bs P 13 0 = B) : tw_sum (tw_ny P D) P = tw_sb (tw_gk P D B) 13 0 := by
  rw [← tw_sb_eq]
  have e : (2 : Nat) ^ 13 = P + (8192 - P) := by omega
  rw [e, tw_sum_add]
  have z : ∀ n, tw_sum (fun k => tw_gk P D B (0 + (P + k))) n = 0 := by
    intro n
    induction n with
    | zero => rfl
    | succ n ih =>
      show tw_sum _ n + tw_gk P D B (0 + (P + n)) = 0
      rw [ih]
      unfold tw_gk
      rw [if_neg (by omega)]
  rw [z, Nat.add_zero]
  refine tw_sum_congr (fun y hy => ?_)
  rw [Nat.zero_add]
  unfold tw_ny tw_gk
  rw [if_pos hy]
  by_cases c0 : tw_w P D y = 0
  · rw [c0, tw_rt_w0 h0, if_pos rfl]
    rfl
  · rw [if_neg c0, ← tw_rt_bs h0 hP hB]
    cases e2 : tw_rt P (tw_w P D y) with
    | none => rfl
    | some r =>
      have q := tw_rt_0 h0 e2
      show (if r = 0 then 1 else 2) = 2
      rw [if_neg (by omega)]
def tw_fe (P n : Nat) : Bool := n == 0 || n * n ^ (P - 2) % P == 1
def tw_ns (P D n : Nat) : Bool := !(n * n % P == D)
def tw_lt (P : Nat) (f : Nat → Bool) (n : Nat) : Bool := decide (P ≤ n) || f n
theorem tw_Kof {P D I : Nat} (hP : P ≤ 8192) (h1 : 3 ≤ P) (h2 : P % 2 = 1) (h3 : D < P) (h4 : tw_al (tw_lt P (tw_fe P)) 13 0 = true) (h5 : I * I % P = P - 1) (h6 : tw_al (tw_lt P (tw_ns P D)) 13 0 = true) : tw_K P D I := by
  refine ⟨h1, h2, h3, ?_, h5, ?_⟩
  · intro n hn n0
    have q := tw_al_spec _ 13 0 h4 n (Nat.zero_le _) (by omega)
    unfold tw_lt tw_fe at q
    simp only [Bool.or_eq_true, decide_eq_true_eq, beq_iff_eq] at q
    omega
  · intro n hn
    have q := tw_al_spec _ 13 0 h6 n (Nat.zero_le _) (by omega)
    unfold tw_lt tw_ns at q
    simp only [Bool.or_eq_true, decide_eq_true_eq, Bool.not_eq_true', beq_eq_false_iff_ne] at q
    omega
def tw_P (k : Nat) : Nat := match k with
  | 0 => 13
  | 1 => 61
  | 2 => 109
  | 3 => 1009
  | _ => 8101
def tw_D (k : Nat) : Nat := match k with
  | 0 => 2
  | 1 => 2
  | 2 => 2
  | 3 => 11
  | _ => 2
def tw_I (k : Nat) : Nat := match k with
  | 0 => 5
  | 1 => 11
  | 2 => 33
  | 3 => 469
  | _ => 90
def tw_N (k : Nat) : Nat := match k with
  | 0 => 16
  | 1 => 56
  | 2 => 96
  | 3 => 1032
  | _ => 8232
def tw_fs (k : Nat) : List Nat := match k with
  | 0 => [2, 2, 2, 2]
  | 1 => [2, 2, 2, 7]
  | 2 => [2, 2, 2, 2, 2, 3]
  | 3 => [2, 2, 2, 3, 43]
  | _ => [2, 2, 2, 3, 7, 7, 7]
set_option maxRecDepth 100000 in
theorem tw_K0 : tw_K 13 2 5 := tw_Kof (by decide) (by decide) (by decide) (by decide) (by decide +kernel) (by decide +kernel) (by decide +kernel)
def tw_B0 : Nat := 5659
set_option maxRecDepth 100000 in
theorem tw_b0 : tw_bs 13 13 0 = tw_B0 := by decide +kernel
set_option maxRecDepth 100000 in
theorem tw_l0 : tw_sb (tw_fk 13 2 tw_B0) 14 0 = 16 := by decide +kernel
set_option maxRecDepth 100000 in
theorem tw_s0 : tw_sb (tw_gk 13 2 tw_B0) 13 0 = 16 := by decide +kernel
set_option maxRecDepth 100000 in
theorem tw_K1 : tw_K 61 2 11 := tw_Kof (by decide) (by decide) (by decide) (by decide) (by decide +kernel) (by decide +kernel) (by decide +kernel)
def tw_B1 : Nat := 1662926210933060155
set_option maxRecDepth 100000 in
theorem tw_b1 : tw_bs 61 13 0 = tw_B1 := by decide +kernel
set_option maxRecDepth 100000 in
theorem tw_l1 : tw_sb (tw_fk 61 2 tw_B1) 14 0 = 56 := by decide +kernel
set_option maxRecDepth 100000 in
theorem tw_s1 : tw_sb (tw_gk 61 2 tw_B1) 13 0 = 56 := by decide +kernel
set_option maxRecDepth 100000 in
theorem tw_K2 : tw_K 109 2 33 := tw_Kof (by decide) (by decide) (by decide) (by decide) (by decide +kernel) (by decide +kernel) (by decide +kernel)
def tw_B2 : Nat := 473022961816146413042658758988475
set_option maxRecDepth 100000 in
theorem tw_b2 : tw_bs 109 13 0 = tw_B2 := by decide +kernel
set_option maxRecDepth 100000 in
theorem tw_l2 : tw_sb (tw_fk 109 2 tw_B2) 14 0 = 96 := by decide +kernel
set_option maxRecDepth 100000 in
theorem tw_s2 : tw_sb (tw_gk 109 2 tw_B2) 13 0 = 96 := by decide +kernel
set_option maxRecDepth 100000 in
theorem tw_K3 : tw_K 1009 11 469 := tw_Kof (by decide) (by decide) (by decide) (by decide) (by decide +kernel) (by decide +kernel) (by decide +kernel)
def tw_B3 : Nat := 5482721237355870856778050748466550750742242844902809639272506481307450043809157529947921632181705319345970718970503607546511115502313091068237909534576432964785812156901556522981159208443248110478931461342722687356213963785757217982565256605066817951483700763126252880378974950575958451340073987600668671
set_option maxRecDepth 100000 in
theorem tw_b3 : tw_bs 1009 13 0 = tw_B3 := by decide +kernel
set_option maxRecDepth 100000 in
theorem tw_l3 : tw_sb (tw_fk 1009 11 tw_B3) 14 0 = 1032 := by decide +kernel
set_option maxRecDepth 100000 in
theorem tw_s3 : tw_sb (tw_gk 1009 11 tw_B3) 13 0 = 1032 := by decide +kernel
set_option maxRecDepth 100000 in
theorem tw_K4 : tw_K 8101 2 90 := tw_Kof (by decide) (by decide) (by decide) (by decide) (by decide +kernel) (by decide +kernel) (by decide +kernel)
def tw_B4 : Nat := 321295004976571435373876437679069432338683510193198995299770579031615474819282441006704416010037461284130845865317810120399362174396506686925198562879159676479040024976135164538896625549566324525427625907984863293180922173664929277398592428404292697174406259539272324015274110210945288233499421378774036386370050252052255850241374869342898994505495425860238300285030448884304748570544284159201910114218273290244948048598839832188984146914412010811532456522757698958168922050606900167304096973152038424810012890440120840577369783053703843401190230360398108822863174128871943386344018113277485783550190235041262606074337696106731340167937108851991868626591588901740938794363334499679560853385698577759308084768706266083219910073119655539564813102417368379365718031969455399836556059918879518476890403529198037830550236682116933016490702600380254088360108986138031165594755698915027653110381040583270737062692376779511002830998952277193429842128245901552458013142266974054019659174549976657840705397920493950953148258290089458134691915154348231995149175746320810475389566629315259988113110780756014976896984629895000490251948284838306955911048852998578428364175410442971189859801673590611614784218862297884031965620167736267250401773380209983937915995829791400055334485521662253942349767746905504398713476356247745180294222605828972336922598535109805593558765290398391334741297513643673570531333036027385310845673602778971282744038190955535819215557262573157369110941643849356176094152045601242084397657803146245286634027622505407843393014754639481754535163364966841774985901218297127458303489272431472404226398815158374088060461581488329898157268241050070131928895789372087945089852320826309485565845166423871758574296243429208171989711442090278349593717163350877763113880605615750414566420502488058473656302216566534412780486368404129739397809484523947181815935236972237215788553096416688986074835634118199992972850405233732976365744031322839257081258607318954485737146662997647715559058437185226048408448625522124384274409900260327069434111264766592460599862399873678098124132558708126337006343516264399491866819459434769777212412042547707883282623037604986896559618529630320954753735425917676391606822910389999164447499218065162057824039175169661557386053178220901727470907367934873614883246084881564127983805560171149576592075715077441072434387974913703697434669765450331866891479283930791264503036244935384904522428727440441639920442043
set_option maxRecDepth 100000 in
theorem tw_b4 : tw_bs 8101 13 0 = tw_B4 := by decide +kernel
set_option maxRecDepth 100000 in
theorem tw_l4 : tw_sb (tw_fk 8101 2 tw_B4) 14 0 = 8232 := by decide +kernel
set_option maxRecDepth 100000 in
theorem tw_s4 : tw_sb (tw_gk 8101 2 tw_B4) 13 0 = 8232 := by decide +kernel
theorem tw_c5 {p : Nat → Prop} (h0 : p 0) (h1 : p 1) (h2 : p 2) (h3 : p 3) (h4 : p 4) : ∀ k, k < 5 → p k := by
  intro k hk
  match k, hk with
  | 0, _ => exact h0
  | 1, _ => exact h1
  | 2, _ => exact h2
  | 3, _ => exact h3
  | 4, _ => exact h4
theorem tw_kK : ∀ k, k < 5 → tw_K (tw_P k) (tw_D k) (tw_I k) := tw_c5 tw_K0 tw_K1 tw_K2 tw_K3 tw_K4
theorem tw_kP : ∀ k, k < 5 → 13 ≤ tw_P k ∧ tw_P k ≤ 8101 := by decide
theorem tw_kN : ∀ k, k < 5 → 16 ≤ tw_N k ∧ tw_N k ≤ 8232 := by decide
theorem tw_kL : ∀ k, k < 5 → (tw_L (tw_P k) (tw_D k)).length = tw_N k := tw_c5 ((tw_len (by decide) (by decide) tw_b0).trans tw_l0) ((tw_len (by decide) (by decide) tw_b1).trans tw_l1) ((tw_len (by decide) (by decide) tw_b2).trans tw_l2) ((tw_len (by decide) (by decide) tw_b3).trans tw_l3) ((tw_len (by decide) (by decide) tw_b4).trans tw_l4)
theorem tw_kS : ∀ k, k < 5 → tw_sum (tw_ny (tw_P k) (tw_D k)) (tw_P k) = tw_N k := tw_c5 ((tw_siz (by decide) (by decide) tw_b0).trans tw_s0) ((tw_siz (by decide) (by decide) tw_b1).trans tw_s1) ((tw_siz (by decide) (by decide) tw_b2).trans tw_s2) ((tw_siz (by decide) (by decide) tw_b3).trans tw_s3) ((tw_siz (by decide) (by decide) tw_b4).trans tw_s4)
theorem tw_kM {k : Nat} (hk : k < 5) {p : Nat × Nat} (hp : tw_on (tw_P k) (tw_D k) p) : tw_mu (tw_P k) (tw_D k) (tw_N k) p = (0, 1) := by
  have q := tw_lag (tw_kK k hk) (by have := tw_kP k hk; omega) hp
  rw [tw_kL k hk] at q
  exact q
/-- the order by factors taken out one by one -/
def tw_oc (t : Nat → Bool) : List Nat → Nat → Nat
  | [], o => o
  | f :: fs, o => if t (o / f) then tw_oc t fs (o / f) else tw_oc t fs o
/-- the order as the other one finds it -/
def tw_qo (t : Nat → Bool) : Nat → Nat → Nat → Nat → Nat
  | 0, _, _, n => n
  | u + 1, f, left, n => if left ≤ 1 then n else if left % f = 0 then (if n % f = 0 ∧ t (n / f) = true then tw_qo t u f (left / f) (n / f) else tw_qo t u f (left / f) n) else tw_qo t u (f + 1) left n
def tw_ck (N : Nat) (fs : List Nat) (o : Nat) : Bool := o == 0 || !(N % o == 0) || (tw_oc (fun n => n % o == 0) fs N == o && tw_qo (fun n => n % o == 0) 64 2 N N == o)
theorem tw_ckk : ∀ k, k < 5 → tw_al (tw_ck (tw_N k) (tw_fs k)) 14 0 = true := tw_c5 (by decide +kernel) (by decide +kernel) (by decide +kernel) (by decide +kernel) (by decide +kernel)
theorem tw_oqk {k : Nat} (hk : k < 5) {p : Nat × Nat} (hp : tw_on (tw_P k) (tw_D k) p) {t : Nat → Bool} (ht : ∀ n, t n = true ↔ tw_mu (tw_P k) (tw_D k) n p = (0, 1)) : tw_oc t (tw_fs k) (tw_N k) = tw_od (tw_P k) (tw_D k) (tw_N k) p ∧ tw_qo t 64 2 (tw_N k) (tw_N k) = tw_od (tw_P k) (tw_D k) (tw_N k) p := by
  have hK := tw_kK k hk
  have hN := tw_kN k hk
  have e := tw_kM hk hp
  obtain ⟨h1, h2, -, -⟩ := tw_od_spec (by omega) e
  have hd := tw_od_dvd hK hp (by omega) e
  have q := tw_al_spec _ 14 0 (tw_ckk k hk) (tw_od (tw_P k) (tw_D k) (tw_N k) p) (Nat.zero_le _) (by omega)
  have ee : t = fun n => n % tw_od (tw_P k) (tw_D k) (tw_N k) p == 0 := by
    funext n
    rw [Bool.eq_iff_iff, ht, hd, beq_iff_eq]
  have hz : tw_N k % tw_od (tw_P k) (tw_D k) (tw_N k) p = 0 := (hd _).mp e
  unfold tw_ck at q
  rw [← ee] at q
  simp only [Bool.or_eq_true, Bool.and_eq_true, beq_iff_eq, Bool.not_eq_true', beq_eq_false_iff_ne] at q
  rcases q with (q | q) | q
  · omega
  · exact absurd hz q
  · exact q
