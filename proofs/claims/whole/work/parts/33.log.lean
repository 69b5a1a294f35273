/-! steps of a log -/
def tw_sf (P D : Nat) (a q : Nat × Nat) (n : Nat) : Option Nat := (List.range n).find? (fun j => decide (tw_mu P D j a = q))
def tw_ov (o : Option Nat) : Int32 := match o with
  | none => -1
  | some j => nI j
theorem tw_sf_some {P D n j : Nat} {a q : Nat × Nat} (h : tw_sf P D a q n = some j) : j < n ∧ tw_mu P D j a = q ∧ ∀ i, i < j → tw_mu P D i a ≠ q := by
  unfold tw_sf at h
  rw [List.find?_range_eq_some] at h
  obtain ⟨h1, h2, h3⟩ := h
  exact ⟨List.mem_range.mp h2, by simpa using h1, fun i hi => by simpa using h3 i hi⟩
theorem tw_sf_none {P D n : Nat} {a q : Nat × Nat} (h : tw_sf P D a q n = none) : ∀ i, i < n → tw_mu P D i a ≠ q := by
  unfold tw_sf at h
  rw [List.find?_range_eq_none] at h
  intro i hi
  simpa using h i hi
theorem tw_sf_of {P D n j : Nat} {a q : Nat × Nat} (h1 : j < n) (h2 : tw_mu P D j a = q) (h3 : ∀ i, i < j → tw_mu P D i a ≠ q) : tw_sf P D a q n = some j := by
  unfold tw_sf
  rw [List.find?_range_eq_some]
  exact ⟨by simpa using h2, List.mem_range.mpr h1, fun i hi => by simpa using h3 i hi⟩
theorem tw_sf_no {P D n : Nat} {a q : Nat × Nat} (h : ∀ i, i < n → tw_mu P D i a ≠ q) : tw_sf P D a q n = none := by
  unfold tw_sf
  rw [List.find?_range_eq_none]
  intro i hi
  simpa using h i hi
theorem tw_sf_s1 {P D n : Nat} {a q : Nat × Nat} (h : tw_mu P D n a ≠ q) : tw_sf P D a q (n + 1) = tw_sf P D a q n := by
  cases e : tw_sf P D a q n with
  | none =>
    refine tw_sf_no (fun i hi => ?_)
    by_cases c : i = n
    · rw [c]; exact h
    · exact tw_sf_none e i (by omega)
  | some j =>
    obtain ⟨h1, h2, h3⟩ := tw_sf_some e
    exact tw_sf_of (by omega) h2 h3
theorem tw_sf_s2 {P D n : Nat} {a q : Nat × Nat} {j : Nat} (e : tw_sf P D a q n = some j) : tw_sf P D a q (n + 1) = some j := by
  obtain ⟨h1, h2, h3⟩ := tw_sf_some e
  exact tw_sf_of (by omega) h2 h3
theorem tw_sf_s3 {P D n : Nat} {a : Nat × Nat} (e : tw_sf P D a (tw_mu P D n a) n = none) : tw_sf P D a (tw_mu P D n a) (n + 1) = some n := tw_sf_of (Nat.lt_succ_self n) rfl (tw_sf_none e)
theorem tw_pl_lt {P D : Nat} {q : Nat × Nat} (h : tw_on P D q) : tw_pl q < 2 * P := by
  have a := h.2.1
  unfold tw_pl
  omega
/-- one step is marked: nothing was there -/
theorem tw_mk1 {P D I n : Nat} (h : tw_K P D I) (hP : P ≤ 8192) {a : Nat × Nat} (ha : tw_on P D a) {g : Nat → Int32} (hg : ∀ q, tw_on P D q → g (tw_pl q) = tw_ov (tw_sf P D a q n)) (e : tw_sf P D a (tw_mu P D n a) n = none) : ∀ q, tw_on P D q → upd g (tw_pl (tw_mu P D n a)) (nI n) (tw_pl q) = tw_ov (tw_sf P D a q (n + 1)) := by
  intro q hq
  by_cases c : tw_pl q = tw_pl (tw_mu P D n a)
  · have e1 := tw_pl_inj h hP hq (tw_mu_on h ha n) c
    subst e1
    rw [up_at, tw_sf_s3 e]
    rfl
  · rw [up_ne c, hg q hq, tw_sf_s1 (fun z => c (by rw [z]))]
theorem tw_mk2 {P D I n : Nat} (h : tw_K P D I) (hP : P ≤ 8192) {a : Nat × Nat} (ha : tw_on P D a) {g : Nat → Int32} (hg : ∀ q, tw_on P D q → g (tw_pl q) = tw_ov (tw_sf P D a q n)) {j : Nat} (e : tw_sf P D a (tw_mu P D n a) n = some j) : ∀ q, tw_on P D q → g (tw_pl q) = tw_ov (tw_sf P D a q (n + 1)) := by
  intro q hq
  rw [hg q hq]
  by_cases c : tw_mu P D n a = q
  · subst c
    rw [tw_sf_s2 e, e]
  · rw [tw_sf_s1 c]
/-- the log -/
def tw_lg (P D N : Nat) (a b : Nat × Nat) : Int32 := tw_ov (tw_sf P D a b N)
theorem tw_lg_some {k : Nat} (hk : k < 5) {a b : Nat × Nat} (ha : tw_on (tw_P k) (tw_D k) a) {n : Nat} (h1 : tw_mu (tw_P k) (tw_D k) n a = b) (h2 : ∀ i, i < n → tw_mu (tw_P k) (tw_D k) i a ≠ b) : tw_lg (tw_P k) (tw_D k) (tw_N k) a b = nI n ∧ n < tw_N k := by
  have hN := tw_kN k hk
  have hlt : n < tw_N k := by
    refine Classical.byContradiction (fun c => ?_)
    have q := tw_mN hk ha n
    have hm : n % tw_N k < tw_N k := Nat.mod_lt _ (by omega)
    exact h2 (n % tw_N k) (by omega) (q.trans h1)
  refine ⟨?_, hlt⟩
  unfold tw_lg
  rw [tw_sf_of hlt h1 h2]
  rfl
theorem tw_lg_none {P D N : Nat} {a b : Nat × Nat} (h : ∀ i, i < N → tw_mu P D i a ≠ b) : tw_lg P D N a b = -1 := by
  unfold tw_lg
  rw [tw_sf_no h]
  rfl
theorem tw_lg_a {P D I : Nat} (h : tw_K P D I) {a b r : Nat × Nat} (ha : tw_on P D a) (hr : tw_on P D r) {w : Nat} (e : tw_add P D r (tw_mu P D w a) = b) {j : Nat} (hj : tw_mu P D j a = r) : tw_mu P D (w + j) a = b := by
  rw [tw_mu_add h ha, hj, tw_com h]
  exact e
theorem tw_lg_b {P D I : Nat} (h : tw_K P D I) {a b r : Nat × Nat} (ha : tw_on P D a) (hr : tw_on P D r) {w : Nat} (e : tw_add P D r (tw_mu P D w a) = b) {j : Nat} (hj : tw_mu P D (w + j) a = b) : tw_mu P D j a = r := by
  rw [tw_mu_add h ha, ← e, tw_com h r] at hj
  exact tw_cn h (tw_mu_on h ha w) (tw_mu_on h ha j) hr hj
theorem tw_lg_c {P D I : Nat} (h : tw_K P D I) {a b r : Nat × Nat} (ha : tw_on P D a) (hr : tw_on P D r) {w : Nat} (e : tw_add P D r (tw_mu P D w a) = b) (c : Nat) : tw_add P D (tw_add P D r (tw_ng P (tw_mu P D c a))) (tw_mu P D (w + c) a) = b := by
  have hc := tw_mu_on h ha c
  have hw := tw_mu_on h ha w
  have hn := tw_neg h hc
  rw [Nat.add_comm w c, tw_mu_add h ha c w, tw_ass h hr hn.1 (tw_clo h hc hw), ← tw_ass h hn.1 hc hw, tw_com h (tw_ng P (tw_mu P D c a)), hn.2, tw_zel h hw.1 hw.2.1]
  exact e
set_option maxHeartbeats 4000000 in
set_option maxRecDepth 100000 in
theorem c_X0_markSmallSteps (l : Launch) (D : va_G) {k : Nat} (hk5 : k < 5) {h0 ai ar af ap ah ac : Nat} {cA : ClassId} {n fc : Nat} {hk : Int32} {fi fr ff fp fh fn : Nat → Int32} (hfi : ∀ j, j < tw_P k → fi j = nI (tw_iv (tw_P k) j)) (hfr : ∀ j, j < tw_P k → fr j = tw_rv (tw_P k) j) {a9 : Nat × Nat} (ha9 : tw_on (tw_P k) (tw_D k) a9) (sz : Nat) : Met l yX0_markSmallSteps wX0_markSmallSteps ({ frames := 2, cells := 0, slots := 0, locals := 50 }) (va_Pc [.ref h0, .int (nI (tw_en a9))] (wd_pre D [(cA, .int)] [(h0, .inr (0, [.int (nI (tw_P k)), .int (nI (tw_D k)), .int (nI (tw_I k)), .int (nI n), .ref ai, .ref ar, .ref af, .ref ap, .ref ah, .ref ac, .int (nI fc), .int hk])), (ai, .inl (cA, tw_P k, .inl fi)), (ar, .inl (cA, tw_P k, .inl fr)), (af, .inl (cA, 14, .inl ff)), (ap, .inl (cA, 2 * tw_P k, .inl fp)), (ah, .inl (cA, 2 * tw_P k, .inl fh)), (ac, .inl (cA, 2 * tw_P k, .inl fn))] sz)) (va_Qv (fun (u : Nat → Int32) => ∀ q, tw_on (tw_P k) (tw_D k) q → u (tw_pl q) = tw_ov (tw_sf (tw_P k) (tw_D k) a9 q 128)) (fun (u : Nat → Int32) t => wd_at D [(cA, .int)] (va_A [(h0, .inr (0, [.int (nI (tw_P k)), .int (nI (tw_D k)), .int (nI (tw_I k)), .int (nI n), .ref ai, .ref ar, .ref af, .ref ap, .ref ah, .ref ac, .int (nI fc), .int hk])), (ai, .inl (cA, tw_P k, .inl fi)), (ar, .inl (cA, tw_P k, .inl fr)), (af, .inl (cA, 14, .inl ff)), (ap, .inl (cA, 2 * tw_P k, .inl fp)), (ah, .inl (cA, 2 * tw_P k, .inl fh)), (ac, .inl (cA, 2 * tw_P k, .inl fn))] sz) [(h0, .inr (0, [.int (nI (tw_P k)), .int (nI (tw_D k)), .int (nI (tw_I k)), .int (nI n), .ref ai, .ref ar, .ref af, .ref ap, .ref ah, .ref ac, .int (nI fc), .int hk])), (ai, .inl (cA, tw_P k, .inl fi)), (ar, .inl (cA, tw_P k, .inl fr)), (af, .inl (cA, 14, .inl ff)), (ap, .inl (cA, 2 * tw_P k, .inl u)), (ah, .inl (cA, 2 * tw_P k, .inl fh)), (ac, .inl (cA, 2 * tw_P k, .inl fn))] t) (va_A [(h0, .inr (0, [.int (nI (tw_P k)), .int (nI (tw_D k)), .int (nI (tw_I k)), .int (nI n), .ref ai, .ref ar, .ref af, .ref ap, .ref ah, .ref ac, .int (nI fc), .int hk])), (ai, .inl (cA, tw_P k, .inl fi)), (ar, .inl (cA, tw_P k, .inl fr)), (af, .inl (cA, 14, .inl ff)), (ap, .inl (cA, 2 * tw_P k, .inl fp)), (ah, .inl (cA, 2 * tw_P k, .inl fh)), (ac, .inl (cA, 2 * tw_P k, .inl fn))] sz)) 0 0 (va_A [(h0, .inr (0, [.int (nI (tw_P k)), .int (nI (tw_D k)), .int (nI (tw_I k)), .int (nI n), .ref ai, .ref ar, .ref af, .ref ap, .ref ah, .ref ac, .int (nI fc), .int hk])), (ai, .inl (cA, tw_P k, .inl fi)), (ar, .inl (cA, tw_P k, .inl fr)), (af, .inl (cA, 14, .inl ff)), (ap, .inl (cA, 2 * tw_P k, .inl fp)), (ah, .inl (cA, 2 * tw_P k, .inl fh)), (ac, .inl (cA, 2 * tw_P k, .inl fn))] sz) := by
  refine Met.ofW (cc := cX0_markSmallSteps) (maxL := 5) (ret := none) (by decide) rfl ?_
  intro p e s m args below meth c s₁ B hml hv
  obtain ⟨rfl, hsz, hP, hK, hD0⟩ := hv
  have hx := B.exec
  have hb := B.bytes
  have hr := B.returns
  have hts := atoms_spec (ws := wX0_markSmallSteps) B.pre
  have ht : ∀ w ∈ tb_all, w.before _ s = true := fun w h => hts w (List.mem_cons_of_mem _ h)
  have hown : s.vm.findClass RX0 = some m.cls := findClass_of_methodNamed B.named
  have hlocks := B.notSynchronized
  have hin : meth.name = "markSmallSteps" := (name_of_methodNamed B.named B.method).1
  subst hsz
  have hD := hD0.self (sz := s.heap.size)
  generalize hAe : va_A [(h0, .inr (0, [.int (nI (tw_P k)), .int (nI (tw_D k)), .int (nI (tw_I k)), .int (nI n), .ref ai, .ref ar, .ref af, .ref ap, .ref ah, .ref ac, .int (nI fc), .int hk])), (ai, .inl (cA, tw_P k, .inl fi)), (ar, .inl (cA, tw_P k, .inl fr)), (af, .inl (cA, 14, .inl ff)), (ap, .inl (cA, 2 * tw_P k, .inl fp)), (ah, .inl (cA, 2 * tw_P k, .inl fh)), (ac, .inl (cA, 2 * tw_P k, .inl fn))] s.heap.size = A at hD ⊢
  have hA : ∀ q : Nat, s.heap.size ≤ q → A q := fun q h => by rw [← hAe]; exact Or.inr h
  have hS : va_S A s.heap s.heap [] := va_S.rf
  have hl := lv_entry ([.ref h0, .int (nI (tw_en a9))]) (n := 5) (Nat.le_of_ble_eq_true rfl)
  rw [lg_entry_eq]
  generalize (lg_sl ([.ref h0, .int (nI (tw_en a9))]) ++ List.replicate (5 - (lg_sl ([.ref h0, .int (nI (tw_en a9))])).length) Slot.unset).toArray = ls at hl ⊢
  have hl : lv_has ls 5 [(0, .ref h0), (1, .int (nI (tw_en a9)))] := hl
  obtain ⟨hP0, hP2, hD2, hI2, hDP⟩ := tw_kb hk5
  have hK0 := tw_kK k hk5
  have hP8 : tw_P k ≤ 8192 := by omega
  have za := tw_en_le hP2 ha9
  refine lv_aload_n hx hb dX0_markSmallSteps_0 rfl (lv_at hl 0 rfl) ?_
  refine va_get (D := D) (ci := 0) (v := .ref ap) (C := RX0) (T := TX0) (N := 12) hx hb ht inX0 hown hK hP 0 rfl rfl 7 (by decide) (ht _ kf_X0_23) (fun _ h9 => h9) rfl dX0_markSmallSteps_1 ?_
  refine lv_iconst (v := (-1)) hx hb dX0_markSmallSteps_4 (by decide) ?_
  have hPc := hP.sub (ws' := [(ap, .inl (cA, 2 * tw_P k, .inl fp))]) [4] rfl
  have hDc := hD.sub (ws' := [(ap, .inl (cA, 2 * tw_P k, .inl fp))]) [4] (by decide) rfl
  have hFc := va_free (wc := [(ap, .inl (cA, 2 * tw_P k, .inl fp))]) hD hS hA [4] rfl
  refine va_callv (va_runS (As := [.ref ap, .int (-1)]) (rest := []) ⟨hx, hb, hml, hown, ht⟩ (c_J7_fill l D (n := 2 * tw_P k) (by omega) s.heap.size) (va_cwS 2 ht (tb_S kl_X0_108 kt_J7_fill kn_J7 kc_J7_fill) rfl rfl rfl kd_J7_fill ⟨Nat.le_of_ble_eq_true rfl, Nat.le_of_ble_eq_true rfl⟩) (wd_preS _ hPc hK hDc) rfl rfl hl.1 rfl (lv_room (Nat.le_of_ble_eq_true rfl)) dX0_markSmallSteps_5 ⟨Nat.le_of_ble_eq_true rfl, Nat.le_of_ble_eq_true rfl⟩) hS (fun q _ h => hFc q h) hFc (fun u9 t9 H1 locs ht9 hvm9 hw9 hB9 hz9 hk9 hS => ?_)
  obtain ⟨hP1, hK1, hD1⟩ := hB9
  rw [ht9] at hP1
  obtain ⟨hP, hD⟩ := va_join (wr := [(h0, .inr (0, [.int (nI (tw_P k)), .int (nI (tw_D k)), .int (nI (tw_I k)), .int (nI n), .ref ai, .ref ar, .ref af, .ref ap, .ref ah, .ref ac, .int (nI fc), .int hk])), (ai, .inl (cA, tw_P k, .inl fi)), (ar, .inl (cA, tw_P k, .inl fr)), (af, .inl (cA, 14, .inl ff)), (ah, .inl (cA, 2 * tw_P k, .inl fh)), (ac, .inl (cA, 2 * tw_P k, .inl fn))]) (w1 := [(ap, .inl (cA, 2 * tw_P k, .inl u9))]) hP hD [4] [0, 1, 2, 3, 5, 6] rfl rfl (by decide) (by decide) hk9 hFc hP1 hD1
  have hP := hP.sub (ws' := [(h0, .inr (0, [.int (nI (tw_P k)), .int (nI (tw_D k)), .int (nI (tw_I k)), .int (nI n), .ref ai, .ref ar, .ref af, .ref ap, .ref ah, .ref ac, .int (nI fc), .int hk])), (ai, .inl (cA, tw_P k, .inl fi)), (ar, .inl (cA, tw_P k, .inl fr)), (af, .inl (cA, 14, .inl ff)), (ap, .inl (cA, 2 * tw_P k, .inl u9)), (ah, .inl (cA, 2 * tw_P k, .inl fh)), (ac, .inl (cA, 2 * tw_P k, .inl fn))]) [0, 1, 2, 3, 6, 4, 5] rfl
  have hD := hD.sub (ws' := [(h0, .inr (0, [.int (nI (tw_P k)), .int (nI (tw_D k)), .int (nI (tw_I k)), .int (nI n), .ref ai, .ref ar, .ref af, .ref ap, .ref ah, .ref ac, .int (nI fc), .int hk])), (ai, .inl (cA, tw_P k, .inl fi)), (ar, .inl (cA, tw_P k, .inl fr)), (af, .inl (cA, 14, .inl ff)), (ap, .inl (cA, 2 * tw_P k, .inl u9)), (ah, .inl (cA, 2 * tw_P k, .inl fh)), (ac, .inl (cA, 2 * tw_P k, .inl fn))]) [0, 1, 2, 3, 6, 4, 5] (by decide) rfl
  generalize H1 = H at hP hS hz9 ⊢
  refine lv_iconst (v := (nI 1)) hx hb dX0_markSmallSteps_8 (by decide) ?_
  refine lv_istore_n hx hb dX0_markSmallSteps_9 rfl hl (by decide) rfl (fun ls hl => ?_)
  have hl : lv_has ls 5 [(2, .int (nI 1)), (0, .ref h0), (1, .int (nI (tw_en a9)))] := hl
  refine lv_iconst (v := (nI 0)) hx hb dX0_markSmallSteps_10 (by decide) ?_
  refine lv_istore_n hx hb dX0_markSmallSteps_11 rfl hl (by decide) rfl (fun ls hl => ?_)
  have hl : lv_has ls 5 [(3, .int (nI 0)), (2, .int (nI 1)), (0, .ref h0), (1, .int (nI (tw_en a9)))] := hl
  have loop : ∀ (f9 i : Nat) (g : Nat → Int32) (H : Heap) (locs : List Loc) (ls : Array Slot), 128 - i < f9 → i ≤ 128 → (∀ q, tw_on (tw_P k) (tw_D k) q → g (tw_pl q) = tw_ov (tw_sf (tw_P k) (tw_D k) a9 q i)) → va_P D vwCl [(h0, .inr (0, [.int (nI (tw_P k)), .int (nI (tw_D k)), .int (nI (tw_I k)), .int (nI n), .ref ai, .ref ar, .ref af, .ref ap, .ref ah, .ref ac, .int (nI fc), .int hk])), (ai, .inl (cA, tw_P k, .inl fi)), (ar, .inl (cA, tw_P k, .inl fr)), (af, .inl (cA, 14, .inl ff)), (ap, .inl (cA, 2 * tw_P k, .inl g)), (ah, .inl (cA, 2 * tw_P k, .inl fh)), (ac, .inl (cA, 2 * tw_P k, .inl fn))] H → va_D A [(h0, .inr (0, [.int (nI (tw_P k)), .int (nI (tw_D k)), .int (nI (tw_I k)), .int (nI n), .ref ai, .ref ar, .ref af, .ref ap, .ref ah, .ref ac, .int (nI fc), .int hk])), (ai, .inl (cA, tw_P k, .inl fi)), (ar, .inl (cA, tw_P k, .inl fr)), (af, .inl (cA, 14, .inl ff)), (ap, .inl (cA, 2 * tw_P k, .inl g)), (ah, .inl (cA, 2 * tw_P k, .inl fh)), (ac, .inl (cA, 2 * tw_P k, .inl fn))] → va_S A s.heap H locs → lv_has ls 5 [(3, .int (nI i)), (2, .int (nI (tw_en (tw_mu (tw_P k) (tw_D k) i a9)))), (0, .ref h0), (1, .int (nI (tw_en a9)))] → W p l e (headSpec wX0_markSmallSteps ({ frames := 2, cells := 0, slots := 0, locals := 50 })).room s m ([.ref h0, .int (nI (tw_en a9))]).toArray below meth c H locs 0 0 (MQ below (va_Qv (fun (u : Nat → Int32) => ∀ q, tw_on (tw_P k) (tw_D k) q → u (tw_pl q) = tw_ov (tw_sf (tw_P k) (tw_D k) a9 q 128)) (fun (u : Nat → Int32) t => wd_at D [(cA, .int)] (A) [(h0, .inr (0, [.int (nI (tw_P k)), .int (nI (tw_D k)), .int (nI (tw_I k)), .int (nI n), .ref ai, .ref ar, .ref af, .ref ap, .ref ah, .ref ac, .int (nI fc), .int hk])), (ai, .inl (cA, tw_P k, .inl fi)), (ar, .inl (cA, tw_P k, .inl fr)), (af, .inl (cA, 14, .inl ff)), (ap, .inl (cA, 2 * tw_P k, .inl u)), (ah, .inl (cA, 2 * tw_P k, .inl fh)), (ac, .inl (cA, 2 * tw_P k, .inl fn))] t) A) ([.ref h0, .int (nI (tw_en a9))]).toArray s 0 0 A) (F0 m 12 ls []) := by
    intro f9
    induction f9 with
    | zero => intro i g H locs ls h1; exact absurd h1 (Nat.not_lt_zero _)
    | succ f9 ih =>
      intro i g H locs ls h1 h2 hg hP hD hS hl
      have hm := tw_mu_on hK0 ha9 i
      have zm := tw_en_le hP2 hm
      have zpl := tw_pl_lt hm
      refine lv_iload_n hx hb dX0_markSmallSteps_12 rfl (lv_at hl 0 rfl) ?_
      refine lv_sipush (v := (nI 128)) hx hb dX0_markSmallSteps_13 (by decide) ?_
      refine nv_icmp_ge (tgt := 57) hx hb dX0_markSmallSteps_16 (by decide) (nv_le (b := 128) h2 (by decide)) (nv_le (b := 128) (Nat.le_refl 128) (by decide)) (fun c16 => ?_) (fun c16 => ?_)
      · have e8 : i = 128 := Nat.le_antisymm h2 c16
        subst e8
        exact W.vret hx hb hr (fun t ht9 hW => ⟨⟨g, rfl, hg, by rw [ht9]; exact hP, va_K.moved hW.alike hK, hD⟩, hS.F ht9⟩) hS.2.2 dX0_markSmallSteps_57
      · refine lv_aload_n hx hb dX0_markSmallSteps_19 rfl (lv_at hl 2 rfl) ?_
        refine lv_iload_n hx hb dX0_markSmallSteps_20 rfl (lv_at hl 1 rfl) ?_
        refine vp_callSi (W.runV (As := [.int (nI (tw_en (tw_mu (tw_P k) (tw_D k) i a9)))]) (rest := []) ⟨hx, hb, hml, hown, ht⟩ (c_X0_place l D (x := (tw_mu (tw_P k) (tw_D k) i a9).1) (y := (tw_mu (tw_P k) (tw_D k) i a9).2) (by have := hm.1; omega) (by have := hm.2.1; omega)) (cwV 1 ht (tb_V kl_X0_102 ki_X0_place ks_X0_place kn_X0 kc_X0_place) rfl rfl rfl ⟨rfl, kd_X0_place⟩ ⟨Nat.le_of_ble_eq_true rfl, Nat.le_of_ble_eq_true rfl⟩) (cv_preH hP hK hfi hfr _) rfl rfl hl.1 rfl (lv_room (Nat.le_of_ble_eq_true rfl)) dX0_markSmallSteps_21 ⟨Nat.zero_le _, Nat.zero_le _⟩) (fun r hr9 => ?_)
        subst hr9
        refine lv_istore hx hb dX0_markSmallSteps_24 hl (by decide) rfl (fun ls hl => ?_)
        have hl : lv_has ls 5 [(4, .int (nI (tw_pl (tw_mu (tw_P k) (tw_D k) i a9)))), (3, .int (nI i)), (2, .int (nI (tw_en (tw_mu (tw_P k) (tw_D k) i a9)))), (0, .ref h0), (1, .int (nI (tw_en a9)))] := hl
        refine lv_aload_n hx hb dX0_markSmallSteps_26 rfl (lv_at hl 3 rfl) ?_
        refine va_get (D := D) (ci := 0) (v := .ref ap) (C := RX0) (T := TX0) (N := 12) hx hb ht inX0 hown hK hP 0 rfl rfl 7 (by decide) (ht _ kf_X0_23) (fun _ h9 => h9) rfl dX0_markSmallSteps_27 ?_
        refine lv_iload hx hb dX0_markSmallSteps_30 (lv_at hl 0 rfl) ?_
        refine nv_iald (A := fun _ => True) (H0 := s.heap) hx hb hK hP 4 0 rfl rfl zpl (by omega) dX0_markSmallSteps_32 ?_
        have hgp := hg _ hm
        cases es : tw_sf (tw_P k) (tw_D k) a9 (tw_mu (tw_P k) (tw_D k) i a9) i with
        | none =>
          rw [es] at hgp
          have hgp2 : g (tw_pl (tw_mu (tw_P k) (tw_D k) i a9)) = -1 := hgp
          rw [hgp2]
          refine nv_if_geM (tgt := 44) hx hb dX0_markSmallSteps_33 (by decide) ?_
          refine lv_aload_n hx hb dX0_markSmallSteps_36 rfl (lv_at hl 3 rfl) ?_
          refine va_get (D := D) (ci := 0) (v := .ref ap) (C := RX0) (T := TX0) (N := 12) hx hb ht inX0 hown hK hP 0 rfl rfl 7 (by decide) (ht _ kf_X0_23) (fun _ h9 => h9) rfl dX0_markSmallSteps_37 ?_
          refine lv_iload hx hb dX0_markSmallSteps_40 (lv_at hl 0 rfl) ?_
          refine lv_iload_n hx hb dX0_markSmallSteps_42 rfl (lv_at hl 1 rfl) ?_
          refine nv_iast hx hb hK hP hD hS 4 0 rfl rfl zpl (by omega) dX0_markSmallSteps_43 (fun H locs hP hD hS => ?_)
          have hP : va_P D vwCl [(h0, .inr (0, [.int (nI (tw_P k)), .int (nI (tw_D k)), .int (nI (tw_I k)), .int (nI n), .ref ai, .ref ar, .ref af, .ref ap, .ref ah, .ref ac, .int (nI fc), .int hk])), (ai, .inl (cA, tw_P k, .inl fi)), (ar, .inl (cA, tw_P k, .inl fr)), (af, .inl (cA, 14, .inl ff)), (ap, .inl (cA, 2 * tw_P k, .inl (upd g (tw_pl (tw_mu (tw_P k) (tw_D k) i a9)) (nI i)))), (ah, .inl (cA, 2 * tw_P k, .inl fh)), (ac, .inl (cA, 2 * tw_P k, .inl fn))] H := hP
          have hD : va_D A [(h0, .inr (0, [.int (nI (tw_P k)), .int (nI (tw_D k)), .int (nI (tw_I k)), .int (nI n), .ref ai, .ref ar, .ref af, .ref ap, .ref ah, .ref ac, .int (nI fc), .int hk])), (ai, .inl (cA, tw_P k, .inl fi)), (ar, .inl (cA, tw_P k, .inl fr)), (af, .inl (cA, 14, .inl ff)), (ap, .inl (cA, 2 * tw_P k, .inl (upd g (tw_pl (tw_mu (tw_P k) (tw_D k) i a9)) (nI i)))), (ah, .inl (cA, 2 * tw_P k, .inl fh)), (ac, .inl (cA, 2 * tw_P k, .inl fn))] := hD
          refine lv_aload_n hx hb dX0_markSmallSteps_44 rfl (lv_at hl 3 rfl) ?_
          refine lv_iload_n hx hb dX0_markSmallSteps_45 rfl (lv_at hl 2 rfl) ?_
          refine lv_iload_n hx hb dX0_markSmallSteps_46 rfl (lv_at hl 4 rfl) ?_
          refine vp_callSi (W.runV (As := [.int (nI (tw_en (tw_mu (tw_P k) (tw_D k) i a9))), .int (nI (tw_en a9))]) (rest := []) ⟨hx, hb, hml, hown, ht⟩ (c_X0_sum l D hk5 (x := (tw_mu (tw_P k) (tw_D k) i a9).1) (y := (tw_mu (tw_P k) (tw_D k) i a9).2) (u := a9.1) (v := a9.2) hm.1 hm.2.1 ha9.1 ha9.2.1) (cwV 2 ht (tb_V kl_X0_77 ki_X0_sum ks_X0_sum kn_X0 kc_X0_sum) rfl rfl rfl ⟨rfl, kd_X0_sum⟩ ⟨Nat.le_of_ble_eq_true rfl, Nat.le_of_ble_eq_true rfl⟩) (cv_preH hP hK hfi hfr _) rfl rfl hl.1 rfl (lv_room (Nat.le_of_ble_eq_true rfl)) dX0_markSmallSteps_47 ⟨Nat.zero_le _, Nat.zero_le _⟩) (fun r hr9 => ?_)
          subst hr9
          refine lv_istore_n hx hb dX0_markSmallSteps_50 rfl hl (by decide) rfl (fun ls hl => ?_)
          have hl : lv_has ls 5 [(2, .int (nI (tw_en (tw_mu (tw_P k) (tw_D k) (i + 1) a9)))), (4, .int (nI (tw_pl (tw_mu (tw_P k) (tw_D k) i a9)))), (3, .int (nI i)), (0, .ref h0), (1, .int (nI (tw_en a9)))] := hl
          refine lv_iinc hx hb dX0_markSmallSteps_51 hl (k := 2) rfl nv_inc (by decide) rfl (fun ls hl => ?_)
          have hl : lv_has ls 5 [(3, .int (nI (i + 1))), (2, .int (nI (tw_en (tw_mu (tw_P k) (tw_D k) (i + 1) a9)))), (4, .int (nI (tw_pl (tw_mu (tw_P k) (tw_D k) i a9)))), (0, .ref h0), (1, .int (nI (tw_en a9)))] := hl
          refine lv_goto (tgt := 12) hx hb dX0_markSmallSteps_54 (by decide) ?_
          exact ih (i + 1) (upd g (tw_pl (tw_mu (tw_P k) (tw_D k) i a9)) (nI i)) H locs ls (by omega) (by omega) (tw_mk1 hK0 hP8 ha9 hg es) hP hD hS (lv_sub hl [0, 1, 3, 4] rfl)
        | some j9 =>
          rw [es] at hgp
          have hgp2 : g (tw_pl (tw_mu (tw_P k) (tw_D k) i a9)) = nI j9 := hgp
          rw [hgp2]
          have zj : j9 ≤ 128 := by have := (tw_sf_some es).1; omega
          refine nv_if_ge (tgt := 44) hx hb dX0_markSmallSteps_33 (by decide) (nv_le (b := 128) zj (by decide)) ?_
          refine lv_aload_n hx hb dX0_markSmallSteps_44 rfl (lv_at hl 3 rfl) ?_
          refine lv_iload_n hx hb dX0_markSmallSteps_45 rfl (lv_at hl 2 rfl) ?_
          refine lv_iload_n hx hb dX0_markSmallSteps_46 rfl (lv_at hl 4 rfl) ?_
          refine vp_callSi (W.runV (As := [.int (nI (tw_en (tw_mu (tw_P k) (tw_D k) i a9))), .int (nI (tw_en a9))]) (rest := []) ⟨hx, hb, hml, hown, ht⟩ (c_X0_sum l D hk5 (x := (tw_mu (tw_P k) (tw_D k) i a9).1) (y := (tw_mu (tw_P k) (tw_D k) i a9).2) (u := a9.1) (v := a9.2) hm.1 hm.2.1 ha9.1 ha9.2.1) (cwV 2 ht (tb_V kl_X0_77 ki_X0_sum ks_X0_sum kn_X0 kc_X0_sum) rfl rfl rfl ⟨rfl, kd_X0_sum⟩ ⟨Nat.le_of_ble_eq_true rfl, Nat.le_of_ble_eq_true rfl⟩) (cv_preH hP hK hfi hfr _) rfl rfl hl.1 rfl (lv_room (Nat.le_of_ble_eq_true rfl)) dX0_markSmallSteps_47 ⟨Nat.zero_le _, Nat.zero_le _⟩) (fun r hr9 => ?_)
          subst hr9
          refine lv_istore_n hx hb dX0_markSmallSteps_50 rfl hl (by decide) rfl (fun ls hl => ?_)
          have hl : lv_has ls 5 [(2, .int (nI (tw_en (tw_mu (tw_P k) (tw_D k) (i + 1) a9)))), (4, .int (nI (tw_pl (tw_mu (tw_P k) (tw_D k) i a9)))), (3, .int (nI i)), (0, .ref h0), (1, .int (nI (tw_en a9)))] := hl
          refine lv_iinc hx hb dX0_markSmallSteps_51 hl (k := 2) rfl nv_inc (by decide) rfl (fun ls hl => ?_)
          have hl : lv_has ls 5 [(3, .int (nI (i + 1))), (2, .int (nI (tw_en (tw_mu (tw_P k) (tw_D k) (i + 1) a9)))), (4, .int (nI (tw_pl (tw_mu (tw_P k) (tw_D k) i a9)))), (0, .ref h0), (1, .int (nI (tw_en a9)))] := hl
          refine lv_goto (tgt := 12) hx hb dX0_markSmallSteps_54 (by decide) ?_
          exact ih (i + 1) g H locs ls (by omega) (by omega) (tw_mk2 hK0 hP8 ha9 hg es) hP hD hS (lv_sub hl [0, 1, 3, 4] rfl)
  refine loop 129 0 u9 H locs ls (by omega) (Nat.zero_le _) (fun q hq => ?_) hP hD hS (lv_sub hl [0, 1, 2, 3] rfl)
  rw [hw9 _ (tw_pl_lt hq), tw_sf_no (fun i hi => absurd hi (Nat.not_lt_zero _))]
  rfl
set_option maxHeartbeats 4000000 in
set_option maxRecDepth 100000 in
theorem c_X0_stepsTo (l : Launch) (D : va_G) {k : Nat} (hk5 : k < 5) {h0 ai ar af ap ah ac : Nat} {cA : ClassId} {fc : Nat} {hk : Int32} {fi fr ff fp fh fn : Nat → Int32} (hfi : ∀ j, j < tw_P k → fi j = nI (tw_iv (tw_P k) j)) (hfr : ∀ j, j < tw_P k → fr j = tw_rv (tw_P k) j) {a9 b9 : Nat × Nat} (ha9 : tw_on (tw_P k) (tw_D k) a9) (hb9 : tw_on (tw_P k) (tw_D k) b9) (sz : Nat) : Met l yX0_stepsTo wX0_stepsTo ({ frames := 3, cells := 0, slots := 0, locals := 76 }) (va_Pc [.ref h0, .int (nI (tw_en a9)), .int (nI (tw_en b9))] (wd_pre D [(cA, .int)] [(h0, .inr (0, [.int (nI (tw_P k)), .int (nI (tw_D k)), .int (nI (tw_I k)), .int (nI (tw_N k)), .ref ai, .ref ar, .ref af, .ref ap, .ref ah, .ref ac, .int (nI fc), .int hk])), (ai, .inl (cA, tw_P k, .inl fi)), (ar, .inl (cA, tw_P k, .inl fr)), (af, .inl (cA, 14, .inl ff)), (ap, .inl (cA, 2 * tw_P k, .inl fp)), (ah, .inl (cA, 2 * tw_P k, .inl fh)), (ac, .inl (cA, 2 * tw_P k, .inl fn))] sz)) (va_Qi (fun (r : Int32) (u : Nat → Int32) => r = tw_lg (tw_P k) (tw_D k) (tw_N k) a9 b9) (fun (u : Nat → Int32) t => wd_at D [(cA, .int)] (va_A [(h0, .inr (0, [.int (nI (tw_P k)), .int (nI (tw_D k)), .int (nI (tw_I k)), .int (nI (tw_N k)), .ref ai, .ref ar, .ref af, .ref ap, .ref ah, .ref ac, .int (nI fc), .int hk])), (ai, .inl (cA, tw_P k, .inl fi)), (ar, .inl (cA, tw_P k, .inl fr)), (af, .inl (cA, 14, .inl ff)), (ap, .inl (cA, 2 * tw_P k, .inl fp)), (ah, .inl (cA, 2 * tw_P k, .inl fh)), (ac, .inl (cA, 2 * tw_P k, .inl fn))] sz) [(h0, .inr (0, [.int (nI (tw_P k)), .int (nI (tw_D k)), .int (nI (tw_I k)), .int (nI (tw_N k)), .ref ai, .ref ar, .ref af, .ref ap, .ref ah, .ref ac, .int (nI fc), .int hk])), (ai, .inl (cA, tw_P k, .inl fi)), (ar, .inl (cA, tw_P k, .inl fr)), (af, .inl (cA, 14, .inl ff)), (ap, .inl (cA, 2 * tw_P k, .inl u)), (ah, .inl (cA, 2 * tw_P k, .inl fh)), (ac, .inl (cA, 2 * tw_P k, .inl fn))] t) (va_A [(h0, .inr (0, [.int (nI (tw_P k)), .int (nI (tw_D k)), .int (nI (tw_I k)), .int (nI (tw_N k)), .ref ai, .ref ar, .ref af, .ref ap, .ref ah, .ref ac, .int (nI fc), .int hk])), (ai, .inl (cA, tw_P k, .inl fi)), (ar, .inl (cA, tw_P k, .inl fr)), (af, .inl (cA, 14, .inl ff)), (ap, .inl (cA, 2 * tw_P k, .inl fp)), (ah, .inl (cA, 2 * tw_P k, .inl fh)), (ac, .inl (cA, 2 * tw_P k, .inl fn))] sz)) 0 0 (va_A [(h0, .inr (0, [.int (nI (tw_P k)), .int (nI (tw_D k)), .int (nI (tw_I k)), .int (nI (tw_N k)), .ref ai, .ref ar, .ref af, .ref ap, .ref ah, .ref ac, .int (nI fc), .int hk])), (ai, .inl (cA, tw_P k, .inl fi)), (ar, .inl (cA, tw_P k, .inl fr)), (af, .inl (cA, 14, .inl ff)), (ap, .inl (cA, 2 * tw_P k, .inl fp)), (ah, .inl (cA, 2 * tw_P k, .inl fh)), (ac, .inl (cA, 2 * tw_P k, .inl fn))] sz) := by
  refine Met.ofW (cc := cX0_stepsTo) (maxL := 7) (ret := (some .int)) (by decide) rfl ?_
  intro p e s m args below meth c s₁ B hml hv
  obtain ⟨rfl, hsz, hP, hK, hD0⟩ := hv
  have hx := B.exec
  have hb := B.bytes
  have hr := B.returns
  have hts := atoms_spec (ws := wX0_stepsTo) B.pre
  have ht : ∀ w ∈ tb_all, w.before _ s = true := fun w h => hts w (List.mem_cons_of_mem _ h)
  have hown : s.vm.findClass RX0 = some m.cls := findClass_of_methodNamed B.named
  have hlocks := B.notSynchronized
  have hin : meth.name = "stepsTo" := (name_of_methodNamed B.named B.method).1
  subst hsz
  have hD := hD0.self (sz := s.heap.size)
  generalize hAe : va_A [(h0, .inr (0, [.int (nI (tw_P k)), .int (nI (tw_D k)), .int (nI (tw_I k)), .int (nI (tw_N k)), .ref ai, .ref ar, .ref af, .ref ap, .ref ah, .ref ac, .int (nI fc), .int hk])), (ai, .inl (cA, tw_P k, .inl fi)), (ar, .inl (cA, tw_P k, .inl fr)), (af, .inl (cA, 14, .inl ff)), (ap, .inl (cA, 2 * tw_P k, .inl fp)), (ah, .inl (cA, 2 * tw_P k, .inl fh)), (ac, .inl (cA, 2 * tw_P k, .inl fn))] s.heap.size = A at hD ⊢
  have hA : ∀ q : Nat, s.heap.size ≤ q → A q := fun q h => by rw [← hAe]; exact Or.inr h
  have hS : va_S A s.heap s.heap [] := va_S.rf
  have hl := lv_entry ([.ref h0, .int (nI (tw_en a9)), .int (nI (tw_en b9))]) (n := 7) (Nat.le_of_ble_eq_true rfl)
  rw [lg_entry_eq]
  generalize (lg_sl ([.ref h0, .int (nI (tw_en a9)), .int (nI (tw_en b9))]) ++ List.replicate (7 - (lg_sl ([.ref h0, .int (nI (tw_en a9)), .int (nI (tw_en b9))])).length) Slot.unset).toArray = ls at hl ⊢
  have hl : lv_has ls 7 [(0, .ref h0), (1, .int (nI (tw_en a9))), (2, .int (nI (tw_en b9)))] := hl
  obtain ⟨hP0, hP2, hD2, hI2, hDP⟩ := tw_kb hk5
  have hK0 := tw_kK k hk5
  have hP8 : tw_P k ≤ 8192 := by omega
  have za := tw_en_le hP2 ha9
  have zb := tw_en_le hP2 hb9
  have hN := tw_kN k hk5
  refine lv_aload_n hx hb dX0_stepsTo_0 rfl (lv_at hl 0 rfl) ?_
  refine lv_iload_n hx hb dX0_stepsTo_1 rfl (lv_at hl 1 rfl) ?_
  have hPc := hP.sub (ws' := [(h0, .inr (0, [.int (nI (tw_P k)), .int (nI (tw_D k)), .int (nI (tw_I k)), .int (nI (tw_N k)), .ref ai, .ref ar, .ref af, .ref ap, .ref ah, .ref ac, .int (nI fc), .int hk])), (ai, .inl (cA, tw_P k, .inl fi)), (ar, .inl (cA, tw_P k, .inl fr)), (af, .inl (cA, 14, .inl ff)), (ap, .inl (cA, 2 * tw_P k, .inl fp)), (ah, .inl (cA, 2 * tw_P k, .inl fh)), (ac, .inl (cA, 2 * tw_P k, .inl fn))]) [0, 1, 2, 3, 4, 5, 6] rfl
  have hDc := hD.sub (ws' := [(h0, .inr (0, [.int (nI (tw_P k)), .int (nI (tw_D k)), .int (nI (tw_I k)), .int (nI (tw_N k)), .ref ai, .ref ar, .ref af, .ref ap, .ref ah, .ref ac, .int (nI fc), .int hk])), (ai, .inl (cA, tw_P k, .inl fi)), (ar, .inl (cA, tw_P k, .inl fr)), (af, .inl (cA, 14, .inl ff)), (ap, .inl (cA, 2 * tw_P k, .inl fp)), (ah, .inl (cA, 2 * tw_P k, .inl fh)), (ac, .inl (cA, 2 * tw_P k, .inl fn))]) [0, 1, 2, 3, 4, 5, 6] (by decide) rfl
  have hFc := va_free (wc := [(h0, .inr (0, [.int (nI (tw_P k)), .int (nI (tw_D k)), .int (nI (tw_I k)), .int (nI (tw_N k)), .ref ai, .ref ar, .ref af, .ref ap, .ref ah, .ref ac, .int (nI fc), .int hk])), (ai, .inl (cA, tw_P k, .inl fi)), (ar, .inl (cA, tw_P k, .inl fr)), (af, .inl (cA, 14, .inl ff)), (ap, .inl (cA, 2 * tw_P k, .inl fp)), (ah, .inl (cA, 2 * tw_P k, .inl fh)), (ac, .inl (cA, 2 * tw_P k, .inl fn))]) hD hS hA [0, 1, 2, 3, 4, 5, 6] rfl
  refine va_callv (va_runV (As := [.int (nI (tw_en a9))]) (rest := []) ⟨hx, hb, hml, hown, ht⟩ (c_X0_markSmallSteps l D hk5 hfi hfr ha9 s.heap.size) (cwV 1 ht (tb_V kl_X0_93 ki_X0_markSmallSteps ks_X0_markSmallSteps kn_X0 kc_X0_markSmallSteps) rfl rfl rfl ⟨rfl, kd_X0_markSmallSteps⟩ ⟨Nat.le_of_ble_eq_true rfl, Nat.le_of_ble_eq_true rfl⟩) (wd_preV _ hPc hK hDc (va_recv (ci := 0) (q0 := 0) hK hP rfl rfl)) rfl rfl hl.1 rfl (lv_room (Nat.le_of_ble_eq_true rfl)) dX0_stepsTo_2 ⟨Nat.le_of_ble_eq_true rfl, Nat.le_of_ble_eq_true rfl⟩) hS (fun q _ h => hFc q h) hFc (fun g t9 H1 locs ht9 hvm9 hw9 hB9 hz9 hk9 hS => ?_)
  obtain ⟨hP1, hK1, hD1⟩ := hB9
  rw [ht9] at hP1
  obtain ⟨hP, hD⟩ := va_join (wr := []) (w1 := [(h0, .inr (0, [.int (nI (tw_P k)), .int (nI (tw_D k)), .int (nI (tw_I k)), .int (nI (tw_N k)), .ref ai, .ref ar, .ref af, .ref ap, .ref ah, .ref ac, .int (nI fc), .int hk])), (ai, .inl (cA, tw_P k, .inl fi)), (ar, .inl (cA, tw_P k, .inl fr)), (af, .inl (cA, 14, .inl ff)), (ap, .inl (cA, 2 * tw_P k, .inl g)), (ah, .inl (cA, 2 * tw_P k, .inl fh)), (ac, .inl (cA, 2 * tw_P k, .inl fn))]) hP hD [0, 1, 2, 3, 4, 5, 6] [] rfl rfl (by decide) (by decide) hk9 hFc hP1 hD1
  have hP := hP.sub (ws' := [(h0, .inr (0, [.int (nI (tw_P k)), .int (nI (tw_D k)), .int (nI (tw_I k)), .int (nI (tw_N k)), .ref ai, .ref ar, .ref af, .ref ap, .ref ah, .ref ac, .int (nI fc), .int hk])), (ai, .inl (cA, tw_P k, .inl fi)), (ar, .inl (cA, tw_P k, .inl fr)), (af, .inl (cA, 14, .inl ff)), (ap, .inl (cA, 2 * tw_P k, .inl g)), (ah, .inl (cA, 2 * tw_P k, .inl fh)), (ac, .inl (cA, 2 * tw_P k, .inl fn))]) [0, 1, 2, 3, 4, 5, 6] rfl
  have hD := hD.sub (ws' := [(h0, .inr (0, [.int (nI (tw_P k)), .int (nI (tw_D k)), .int (nI (tw_I k)), .int (nI (tw_N k)), .ref ai, .ref ar, .ref af, .ref ap, .ref ah, .ref ac, .int (nI fc), .int hk])), (ai, .inl (cA, tw_P k, .inl fi)), (ar, .inl (cA, tw_P k, .inl fr)), (af, .inl (cA, 14, .inl ff)), (ap, .inl (cA, 2 * tw_P k, .inl g)), (ah, .inl (cA, 2 * tw_P k, .inl fh)), (ac, .inl (cA, 2 * tw_P k, .inl fn))]) [0, 1, 2, 3, 4, 5, 6] (by decide) rfl
  generalize H1 = H at hP hS hz9 ⊢
  have hg := hw9
  refine lv_aload_n hx hb dX0_stepsTo_5 rfl (lv_at hl 0 rfl) ?_
  refine lv_aload_n hx hb dX0_stepsTo_6 rfl (lv_at hl 0 rfl) ?_
  refine lv_ldc2 (v := lN 128) hx hb hown (ht _ kv_X0_97) dX0_stepsTo_7 ?_
  refine lv_iload_n hx hb dX0_stepsTo_10 rfl (lv_at hl 1 rfl) ?_
  have em : tw_mu (tw_P k) (tw_D k) ((lN 128).toInt % (tw_N k : Int)).toNat a9 = tw_mu (tw_P k) (tw_D k) 128 a9 := by rw [tw_lNm (by decide), tw_mN hk5 ha9]
  have hm8 := tw_mu_on hK0 ha9 128
  have hn8 := (tw_neg hK0 hm8).1
  refine vp_callSi (W.runV (As := [.long (lN 128), .int (nI (tw_en a9))]) (rest := [.ref h0]) ⟨hx, hb, hml, hown, ht⟩ (c_X0_multiple l D hk5 (by omega) hN.2 (lN 128) ha9) (cwV 2 ht (tb_V kl_X0_83 ki_X0_multiple ks_X0_multiple kn_X0 kc_X0_multiple) rfl rfl rfl ⟨rfl, kd_X0_multiple⟩ ⟨Nat.le_of_ble_eq_true rfl, Nat.le_of_ble_eq_true rfl⟩) (cv_preH hP hK hfi hfr _) rfl rfl hl.1 rfl (lv_room (Nat.le_of_ble_eq_true rfl)) dX0_stepsTo_11 ⟨Nat.zero_le _, Nat.zero_le _⟩) (fun r hr9 => ?_)
  subst hr9
  rw [em]
  refine vp_callSi (W.runV (As := [.int (nI (tw_en (tw_mu (tw_P k) (tw_D k) 128 a9)))]) (rest := []) ⟨hx, hb, hml, hown, ht⟩ (c_X0_other l D hk5 (x := (tw_mu (tw_P k) (tw_D k) 128 a9).1) (y := (tw_mu (tw_P k) (tw_D k) 128 a9).2) hm8.1 hm8.2.1) (cwV 1 ht (tb_V kl_X0_99 ki_X0_other ks_X0_other kn_X0 kc_X0_other) rfl rfl rfl ⟨rfl, kd_X0_other⟩ ⟨Nat.le_of_ble_eq_true rfl, Nat.le_of_ble_eq_true rfl⟩) (cv_preH hP hK hfi hfr _) rfl rfl hl.1 rfl (lv_room (Nat.le_of_ble_eq_true rfl)) dX0_stepsTo_14 ⟨Nat.zero_le _, Nat.zero_le _⟩) (fun r hr9 => ?_)
  subst hr9
  refine lv_istore_n hx hb dX0_stepsTo_17 rfl hl (by decide) rfl (fun ls hl => ?_)
  have hl : lv_has ls 7 [(3, .int (nI (tw_en (tw_ng (tw_P k) (tw_mu (tw_P k) (tw_D k) 128 a9))))), (0, .ref h0), (1, .int (nI (tw_en a9))), (2, .int (nI (tw_en b9)))] := hl
  refine lv_iload_n hx hb dX0_stepsTo_18 rfl (lv_at hl 3 rfl) ?_
  refine lv_istore hx hb dX0_stepsTo_19 hl (by decide) rfl (fun ls hl => ?_)
  have hl : lv_has ls 7 [(4, .int (nI (tw_en b9))), (3, .int (nI (tw_en (tw_ng (tw_P k) (tw_mu (tw_P k) (tw_D k) 128 a9))))), (0, .ref h0), (1, .int (nI (tw_en a9))), (2, .int (nI (tw_en b9)))] := hl
  refine lv_iconst (v := (nI 0)) hx hb dX0_stepsTo_21 (by decide) ?_
  refine lv_istore hx hb dX0_stepsTo_22 hl (by decide) rfl (fun ls hl => ?_)
  have hl : lv_has ls 7 [(5, .int (nI 0)), (4, .int (nI (tw_en b9))), (3, .int (nI (tw_en (tw_ng (tw_P k) (tw_mu (tw_P k) (tw_D k) 128 a9))))), (0, .ref h0), (1, .int (nI (tw_en a9))), (2, .int (nI (tw_en b9)))] := hl
  have loop : ∀ (f9 t : Nat) (q : Nat × Nat) (ls : Array Slot), 8400 - 128 * t < f9 → 128 * t ≤ 8360 → tw_on (tw_P k) (tw_D k) q → tw_add (tw_P k) (tw_D k) q (tw_mu (tw_P k) (tw_D k) (128 * t) a9) = b9 → (∀ i, i < 128 * t → tw_mu (tw_P k) (tw_D k) i a9 ≠ b9) → lv_has ls 7 [(5, .int (nI (128 * t))), (4, .int (nI (tw_en q))), (3, .int (nI (tw_en (tw_ng (tw_P k) (tw_mu (tw_P k) (tw_D k) 128 a9))))), (0, .ref h0)] → W p l e (headSpec wX0_stepsTo ({ frames := 3, cells := 0, slots := 0, locals := 76 })).room s m ([.ref h0, .int (nI (tw_en a9)), .int (nI (tw_en b9))]).toArray below meth c H locs 0 0 (MQ below (va_Qi (fun (r : Int32) (u : Nat → Int32) => r = tw_lg (tw_P k) (tw_D k) (tw_N k) a9 b9) (fun (u : Nat → Int32) t => wd_at D [(cA, .int)] (A) [(h0, .inr (0, [.int (nI (tw_P k)), .int (nI (tw_D k)), .int (nI (tw_I k)), .int (nI (tw_N k)), .ref ai, .ref ar, .ref af, .ref ap, .ref ah, .ref ac, .int (nI fc), .int hk])), (ai, .inl (cA, tw_P k, .inl fi)), (ar, .inl (cA, tw_P k, .inl fr)), (af, .inl (cA, 14, .inl ff)), (ap, .inl (cA, 2 * tw_P k, .inl u)), (ah, .inl (cA, 2 * tw_P k, .inl fh)), (ac, .inl (cA, 2 * tw_P k, .inl fn))] t) A) ([.ref h0, .int (nI (tw_en a9)), .int (nI (tw_en b9))]).toArray s 0 0 A) (F0 m 24 ls []) := by
    intro f9
    induction f9 with
    | zero => intro t q ls h1; exact absurd h1 (Nat.not_lt_zero _)
    | succ f9 ih =>
      intro t q ls h1 h2 hq hinv hno hl
      have zq := tw_en_le hP2 hq
      have zpl := tw_pl_lt hq
      refine lv_iload hx hb dX0_stepsTo_24 (lv_at hl 0 rfl) ?_
      refine lv_aload_n hx hb dX0_stepsTo_26 rfl (lv_at hl 3 rfl) ?_
      refine va_get (D := D) (ci := 0) (v := .int (nI (tw_N k))) (C := RX0) (T := TX0) (N := 12) hx hb ht inX0 hown hK hP 0 rfl rfl 3 (by decide) (ht _ kf_X0_51) (fun _ h9 => h9) rfl dX0_stepsTo_27 ?_
      refine nv_icmp_ge (tgt := 75) hx hb dX0_stepsTo_30 (by decide) (nv_le (b := 8360) h2 (by decide)) (nv_le (b := 8232) hN.2 (by decide)) (fun c30 => ?_) (fun c30 => ?_)
      · refine lv_iconst (v := (-1)) hx hb dX0_stepsTo_75 (by decide) ?_
        exact W.iret hx hb hr (fun t ht9 hW => ⟨⟨_, g, rfl, (tw_lg_none (fun i hi => hno i (Nat.lt_of_lt_of_le hi c30))).symm, by rw [ht9]; exact hP, va_K.moved hW.alike hK, hD⟩, hS.F ht9⟩) hS.2.2 dX0_stepsTo_76
      · refine lv_aload_n hx hb dX0_stepsTo_33 rfl (lv_at hl 3 rfl) ?_
        refine va_get (D := D) (ci := 0) (v := .ref ap) (C := RX0) (T := TX0) (N := 12) hx hb ht inX0 hown hK hP 0 rfl rfl 7 (by decide) (ht _ kf_X0_23) (fun _ h9 => h9) rfl dX0_stepsTo_34 ?_
        refine lv_aload_n hx hb dX0_stepsTo_37 rfl (lv_at hl 3 rfl) ?_
        refine lv_iload hx hb dX0_stepsTo_38 (lv_at hl 1 rfl) ?_
        refine vp_callSi (W.runV (As := [.int (nI (tw_en q))]) (rest := [.ref ap]) ⟨hx, hb, hml, hown, ht⟩ (c_X0_place l D (x := q.1) (y := q.2) (by have := hq.1; omega) (by have := hq.2.1; omega)) (cwV 1 ht (tb_V kl_X0_102 ki_X0_place ks_X0_place kn_X0 kc_X0_place) rfl rfl rfl ⟨rfl, kd_X0_place⟩ ⟨Nat.le_of_ble_eq_true rfl, Nat.le_of_ble_eq_true rfl⟩) (cv_preH hP hK hfi hfr _) rfl rfl hl.1 rfl (lv_room (Nat.le_of_ble_eq_true rfl)) dX0_stepsTo_40 ⟨Nat.zero_le _, Nat.zero_le _⟩) (fun r hr9 => ?_)
        subst hr9
        refine nv_iald (A := fun _ => True) (H0 := s.heap) hx hb hK hP 4 0 rfl rfl zpl (by omega) dX0_stepsTo_43 ?_
        refine lv_istore hx hb dX0_stepsTo_44 hl (by decide) rfl (fun ls hl => ?_)
        have hl : lv_has ls 7 [(6, .int (g (tw_pl q))), (5, .int (nI (128 * t))), (4, .int (nI (tw_en q))), (3, .int (nI (tw_en (tw_ng (tw_P k) (tw_mu (tw_P k) (tw_D k) 128 a9))))), (0, .ref h0)] := hl
        refine lv_iload hx hb dX0_stepsTo_46 (lv_at hl 0 rfl) ?_
        have hgp := hg _ hq
        cases es : tw_sf (tw_P k) (tw_D k) a9 q 128 with
        | none =>
          rw [es] at hgp
          have hgp2 : g (tw_pl q) = -1 := hgp
          rw [hgp2]
          rw [hgp2] at hl
          refine nv_if_ltM (tgt := 57) hx hb dX0_stepsTo_48 (by decide) ?_
          refine lv_aload_n hx hb dX0_stepsTo_57 rfl (lv_at hl 4 rfl) ?_
          refine lv_iload hx hb dX0_stepsTo_58 (lv_at hl 2 rfl) ?_
          refine lv_iload_n hx hb dX0_stepsTo_60 rfl (lv_at hl 3 rfl) ?_
          refine vp_callSi (W.runV (As := [.int (nI (tw_en q)), .int (nI (tw_en (tw_ng (tw_P k) (tw_mu (tw_P k) (tw_D k) 128 a9))))]) (rest := []) ⟨hx, hb, hml, hown, ht⟩ (c_X0_sum l D hk5 (x := q.1) (y := q.2) (u := (tw_ng (tw_P k) (tw_mu (tw_P k) (tw_D k) 128 a9)).1) (v := (tw_ng (tw_P k) (tw_mu (tw_P k) (tw_D k) 128 a9)).2) hq.1 hq.2.1 hn8.1 hn8.2.1) (cwV 2 ht (tb_V kl_X0_77 ki_X0_sum ks_X0_sum kn_X0 kc_X0_sum) rfl rfl rfl ⟨rfl, kd_X0_sum⟩ ⟨Nat.le_of_ble_eq_true rfl, Nat.le_of_ble_eq_true rfl⟩) (cv_preH hP hK hfi hfr _) rfl rfl hl.1 rfl (lv_room (Nat.le_of_ble_eq_true rfl)) dX0_stepsTo_61 ⟨Nat.zero_le _, Nat.zero_le _⟩) (fun r hr9 => ?_)
          subst hr9
          refine lv_istore hx hb dX0_stepsTo_64 hl (by decide) rfl (fun ls hl => ?_)
          have hl : lv_has ls 7 [(4, .int (nI (tw_en (tw_add (tw_P k) (tw_D k) q (tw_ng (tw_P k) (tw_mu (tw_P k) (tw_D k) 128 a9)))))), (6, .int (-1)), (5, .int (nI (128 * t))), (3, .int (nI (tw_en (tw_ng (tw_P k) (tw_mu (tw_P k) (tw_D k) 128 a9))))), (0, .ref h0)] := hl
          refine lv_iincW (v := nI (128 * (t + 1))) hx hb dX0_stepsTo_66 hl (k := 2) rfl (nI_add (128 * t) 128) (by decide) rfl (fun ls hl => ?_)
          have hl : lv_has ls 7 [(5, .int (nI (128 * (t + 1)))), (4, .int (nI (tw_en (tw_add (tw_P k) (tw_D k) q (tw_ng (tw_P k) (tw_mu (tw_P k) (tw_D k) 128 a9)))))), (6, .int (-1)), (3, .int (nI (tw_en (tw_ng (tw_P k) (tw_mu (tw_P k) (tw_D k) 128 a9))))), (0, .ref h0)] := hl
          refine lv_goto (tgt := 24) hx hb dX0_stepsTo_72 (by decide) ?_
          refine ih (t + 1) _ ls (by omega) (by omega) (tw_clo hK0 hq hn8) (tw_lg_c hK0 ha9 hq hinv 128) (fun i hi => ?_) (lv_sub hl [0, 1, 3, 4] rfl)
          by_cases c : i < 128 * t
          · exact hno i c
          · intro z
            have e7 : i = 128 * t + (i - 128 * t) := by omega
            rw [e7] at z
            exact tw_sf_none es (i - 128 * t) (by omega) (tw_lg_b hK0 ha9 hq hinv z)
        | some j9 =>
          rw [es] at hgp
          have hgp2 : g (tw_pl q) = nI j9 := hgp
          obtain ⟨s1, s2, s3⟩ := tw_sf_some es
          have zj : j9 ≤ 128 := by omega
          rw [hgp2]
          rw [hgp2] at hl
          refine nv_if_lt (tgt := 57) hx hb dX0_stepsTo_48 (by decide) (nv_le (b := 128) zj (by decide)) ?_
          have hlg := tw_lg_some hk5 ha9 (tw_lg_a hK0 ha9 hq hinv s2) (fun i hi => by
            by_cases c : i < 128 * t
            · exact hno i c
            · intro z
              have e7 : i = 128 * t + (i - 128 * t) := by omega
              rw [e7] at z
              exact s3 (i - 128 * t) (by omega) (tw_lg_b hK0 ha9 hq hinv z))
          refine lv_iload hx hb dX0_stepsTo_51 (lv_at hl 1 rfl) ?_
          refine lv_iload hx hb dX0_stepsTo_53 (lv_at hl 0 rfl) ?_
          refine nv_iadd hx hb dX0_stepsTo_55 ?_
          exact W.iret hx hb hr (fun t ht9 hW => ⟨⟨_, g, rfl, hlg.1.symm, by rw [ht9]; exact hP, va_K.moved hW.alike hK, hD⟩, hS.F ht9⟩) hS.2.2 dX0_stepsTo_56
  refine loop 8401 0 b9 ls (by omega) (by omega) hb9 ?_ (fun i hi => absurd hi (Nat.not_lt_zero _)) (lv_sub hl [0, 1, 2, 3] rfl)
  exact tw_zer hK0 hb9.1 hb9.2.1
