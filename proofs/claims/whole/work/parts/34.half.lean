/-! halves -/
def tw_hc (P D : Nat) (q : Nat × Nat) : Nat → Nat
  | 0 => 0
  | j + 1 => match tw_rd P D j with
    | none => tw_hc P D q j
    | some p => if tw_add P D p p = q then tw_hc P D q j + 1 else tw_hc P D q j
def tw_hf (P D : Nat) (q : Nat × Nat) : Nat → Option (Nat × Nat)
  | 0 => none
  | j + 1 => match tw_hf P D q j with
    | some p => some p
    | none => match tw_rd P D j with
      | none => none
      | some p => if tw_add P D p p = q then some p else none
theorem tw_hc_n {P D j : Nat} {q : Nat × Nat} (h : tw_rd P D j = none) : tw_hc P D q (j + 1) = tw_hc P D q j := by
  show (match tw_rd P D j with
    | none => tw_hc P D q j
    | some p => if tw_add P D p p = q then tw_hc P D q j + 1 else tw_hc P D q j) = _
  rw [h]
theorem tw_hc_s {P D j : Nat} {q p : Nat × Nat} (h : tw_rd P D j = some p) : tw_hc P D q (j + 1) = if tw_add P D p p = q then tw_hc P D q j + 1 else tw_hc P D q j := by
  show (match tw_rd P D j with
    | none => tw_hc P D q j
    | some p => if tw_add P D p p = q then tw_hc P D q j + 1 else tw_hc P D q j) = _
  rw [h]
theorem tw_hf_o {P D j : Nat} {q p : Nat × Nat} (h : tw_hf P D q j = some p) : tw_hf P D q (j + 1) = some p := by
  show (match tw_hf P D q j with
    | some p => some p
    | none => match tw_rd P D j with
      | none => none
      | some p => if tw_add P D p p = q then some p else none) = _
  rw [h]
theorem tw_hf_n {P D j : Nat} {q : Nat × Nat} (h : tw_hf P D q j = none) (h2 : tw_rd P D j = none) : tw_hf P D q (j + 1) = none := by
  show (match tw_hf P D q j with
    | some p => some p
    | none => match tw_rd P D j with
      | none => none
      | some p => if tw_add P D p p = q then some p else none) = _
  rw [h, h2]
theorem tw_hf_s {P D j : Nat} {q p : Nat × Nat} (h : tw_hf P D q j = none) (h2 : tw_rd P D j = some p) : tw_hf P D q (j + 1) = if tw_add P D p p = q then some p else none := by
  show (match tw_hf P D q j with
    | some p => some p
    | none => match tw_rd P D j with
      | none => none
      | some p => if tw_add P D p p = q then some p else none) = _
  rw [h, h2]
theorem tw_hc_le (P D : Nat) (q : Nat × Nat) : ∀ j, tw_hc P D q j ≤ j
  | 0 => Nat.le_refl _
  | j + 1 => by
    have ih := tw_hc_le P D q j
    cases e : tw_rd P D j with
    | none => rw [tw_hc_n e]; omega
    | some p =>
      rw [tw_hc_s e]
      split <;> omega
theorem tw_hcf (P D : Nat) (q : Nat × Nat) : ∀ j, tw_hf P D q j = none ↔ tw_hc P D q j = 0
  | 0 => ⟨fun _ => rfl, fun _ => rfl⟩
  | j + 1 => by
    have ih := tw_hcf P D q j
    cases e : tw_hf P D q j with
    | some p =>
      rw [tw_hf_o e]
      have h0 : tw_hc P D q j ≠ 0 := fun z => by
        rw [ih.mpr z] at e
        cases e
      refine ⟨fun z => (by cases z), fun z => absurd ?_ h0⟩
      cases e2 : tw_rd P D j with
      | none => rw [tw_hc_n e2] at z; exact z
      | some p2 =>
        rw [tw_hc_s e2] at z
        split at z <;> omega
    | none =>
      have h0 := ih.mp e
      cases e2 : tw_rd P D j with
      | none =>
        rw [tw_hf_n e e2, tw_hc_n e2]
        exact ⟨fun _ => h0, fun _ => rfl⟩
      | some p2 =>
        rw [tw_hf_s e e2, tw_hc_s e2]
        split
        · exact ⟨fun z => (by cases z), fun z => (by omega)⟩
        · exact ⟨fun _ => h0, fun _ => rfl⟩
def hv_ok (P D j : Nat) (gh gn : Nat → Int32) : Prop := ∀ q, tw_on P D q → gn (tw_pl q) = nI (tw_hc P D q j) ∧ ∀ p, tw_hf P D q j = some p → gh (tw_pl q) = nI (tw_en p)
theorem hv_0 (P D : Nat) : hv_ok P D 0 (fun _ => 0) (fun _ => 0) := fun q _ => ⟨rfl, fun p h => (by cases h)⟩
theorem hv_n {P D j : Nat} {gh gn : Nat → Int32} (h : hv_ok P D j gh gn) (e : tw_rd P D j = none) : hv_ok P D (j + 1) gh gn := by
  intro q hq
  have a := h q hq
  refine ⟨by rw [a.1, tw_hc_n e], fun p hp => ?_⟩
  cases e2 : tw_hf P D q j with
  | none => rw [tw_hf_n e2 e] at hp; cases hp
  | some p2 =>
    rw [tw_hf_o e2] at hp
    cases hp
    exact a.2 _ e2
theorem hv_s {P D I j : Nat} (hK : tw_K P D I) (hP : P ≤ 8192) {gh gn : Nat → Int32} (h : hv_ok P D j gh gn) {p : Nat × Nat} (e : tw_rd P D j = some p) {c : Nat} (hc : c = tw_hc P D (tw_add P D p p) j) : hv_ok P D (j + 1) (if c = 0 then upd gh (tw_pl (tw_add P D p p)) (nI (tw_en p)) else gh) (upd gn (tw_pl (tw_add P D p p)) (nI (c + 1))) := by
  intro q hq
  have hp := (tw_rd_some hK e).1
  have a := h q hq
  by_cases z : tw_pl q = tw_pl (tw_add P D p p)
  · have e1 := tw_pl_inj hK hP hq (tw_clo hK hp hp) z
    subst e1
    refine ⟨by rw [up_at, tw_hc_s e, if_pos rfl, hc], fun p3 hp3 => ?_⟩
    cases e2 : tw_hf P D (tw_add P D p p) j with
    | none =>
      have h0 := (tw_hcf P D _ j).mp e2
      rw [tw_hf_s e2 e, if_pos rfl] at hp3
      cases hp3
      rw [if_pos (by omega), up_at]
    | some p4 =>
      have h0 : tw_hc P D (tw_add P D p p) j ≠ 0 := fun y => by
        rw [(tw_hcf P D _ j).mpr y] at e2
        cases e2
      rw [tw_hf_o e2] at hp3
      cases hp3
      rw [if_neg (by omega)]
      exact a.2 _ e2
  · have z2 : ¬ tw_add P D p p = q := fun y => z (by rw [y])
    refine ⟨by rw [up_ne z, a.1, tw_hc_s e, if_neg z2], fun p3 hp3 => ?_⟩
    have e3 : tw_hf P D q (j + 1) = tw_hf P D q j := by
      cases e2 : tw_hf P D q j with
      | none => rw [tw_hf_s e2 e, if_neg z2]
      | some p4 => rw [tw_hf_o e2]
    rw [e3] at hp3
    have a2 := a.2 _ hp3
    split
    · rw [up_ne z]; exact a2
    · exact a2
/-- the halves' rows are not yet filled, or filled -/
def cv_hv (k : Nat) (hk : Int32) (fh fn : Nat → Int32) : Prop := (hk = 0 ∧ fh = (fun _ => 0) ∧ fn = (fun _ => 0)) ∨ (hk = 1 ∧ hv_ok (tw_P k) (tw_D k) 16384 fh fn)
set_option maxHeartbeats 4000000 in
set_option maxRecDepth 100000 in
theorem c_X0_countHalf (l : Launch) (D : va_G) {k : Nat} (hk5 : k < 5) {h0 ai ar af ap ah ac : Nat} {cA : ClassId} {n fc : Nat} {hk : Int32} {fi fr ff fp fh fn : Nat → Int32} (hfi : ∀ j, j < tw_P k → fi j = nI (tw_iv (tw_P k) j)) (hfr : ∀ j, j < tw_P k → fr j = tw_rv (tw_P k) j) {p9 : Nat × Nat} (hp9 : tw_on (tw_P k) (tw_D k) p9) {c9 : Nat} (hc9 : c9 ≤ 16384) (hn9 : fn (tw_pl (tw_add (tw_P k) (tw_D k) p9 p9)) = nI c9) (sz : Nat) : Met l yX0_countHalf wX0_countHalf ({ frames := 2, cells := 0, slots := 0, locals := 50 }) (va_Pc [.ref h0, .int (nI (tw_en p9))] (wd_pre D [(cA, .int)] [(h0, .inr (0, [.int (nI (tw_P k)), .int (nI (tw_D k)), .int (nI (tw_I k)), .int (nI n), .ref ai, .ref ar, .ref af, .ref ap, .ref ah, .ref ac, .int (nI fc), .int hk])), (ai, .inl (cA, tw_P k, .inl fi)), (ar, .inl (cA, tw_P k, .inl fr)), (af, .inl (cA, 14, .inl ff)), (ap, .inl (cA, 2 * tw_P k, .inl fp)), (ah, .inl (cA, 2 * tw_P k, .inl fh)), (ac, .inl (cA, 2 * tw_P k, .inl fn))] sz)) (va_Qv (fun (u : (Nat → Int32) × (Nat → Int32)) => u = (if c9 = 0 then upd fh (tw_pl (tw_add (tw_P k) (tw_D k) p9 p9)) (nI (tw_en p9)) else fh, upd fn (tw_pl (tw_add (tw_P k) (tw_D k) p9 p9)) (nI (c9 + 1)))) (fun (u : (Nat → Int32) × (Nat → Int32)) t => wd_at D [(cA, .int)] (va_A [(h0, .inr (0, [.int (nI (tw_P k)), .int (nI (tw_D k)), .int (nI (tw_I k)), .int (nI n), .ref ai, .ref ar, .ref af, .ref ap, .ref ah, .ref ac, .int (nI fc), .int hk])), (ai, .inl (cA, tw_P k, .inl fi)), (ar, .inl (cA, tw_P k, .inl fr)), (af, .inl (cA, 14, .inl ff)), (ap, .inl (cA, 2 * tw_P k, .inl fp)), (ah, .inl (cA, 2 * tw_P k, .inl fh)), (ac, .inl (cA, 2 * tw_P k, .inl fn))] sz) [(h0, .inr (0, [.int (nI (tw_P k)), .int (nI (tw_D k)), .int (nI (tw_I k)), .int (nI n), .ref ai, .ref ar, .ref af, .ref ap, .ref ah, .ref ac, .int (nI fc), .int hk])), (ai, .inl (cA, tw_P k, .inl fi)), (ar, .inl (cA, tw_P k, .inl fr)), (af, .inl (cA, 14, .inl ff)), (ap, .inl (cA, 2 * tw_P k, .inl fp)), (ah, .inl (cA, 2 * tw_P k, .inl u.1)), (ac, .inl (cA, 2 * tw_P k, .inl u.2))] t) (va_A [(h0, .inr (0, [.int (nI (tw_P k)), .int (nI (tw_D k)), .int (nI (tw_I k)), .int (nI n), .ref ai, .ref ar, .ref af, .ref ap, .ref ah, .ref ac, .int (nI fc), .int hk])), (ai, .inl (cA, tw_P k, .inl fi)), (ar, .inl (cA, tw_P k, .inl fr)), (af, .inl (cA, 14, .inl ff)), (ap, .inl (cA, 2 * tw_P k, .inl fp)), (ah, .inl (cA, 2 * tw_P k, .inl fh)), (ac, .inl (cA, 2 * tw_P k, .inl fn))] sz)) 0 0 (va_A [(h0, .inr (0, [.int (nI (tw_P k)), .int (nI (tw_D k)), .int (nI (tw_I k)), .int (nI n), .ref ai, .ref ar, .ref af, .ref ap, .ref ah, .ref ac, .int (nI fc), .int hk])), (ai, .inl (cA, tw_P k, .inl fi)), (ar, .inl (cA, tw_P k, .inl fr)), (af, .inl (cA, 14, .inl ff)), (ap, .inl (cA, 2 * tw_P k, .inl fp)), (ah, .inl (cA, 2 * tw_P k, .inl fh)), (ac, .inl (cA, 2 * tw_P k, .inl fn))] sz) := by
  refine Met.ofW (cc := cX0_countHalf) (maxL := 3) (ret := none) (by decide) rfl ?_
  intro p e s m args below meth c s₁ B hml hv
  obtain ⟨rfl, hsz, hP, hK, hD0⟩ := hv
  have hx := B.exec
  have hb := B.bytes
  have hr := B.returns
  have hts := atoms_spec (ws := wX0_countHalf) B.pre
  have ht : ∀ w ∈ tb_all, w.before _ s = true := fun w h => hts w (List.mem_cons_of_mem _ h)
  have hown : s.vm.findClass RX0 = some m.cls := findClass_of_methodNamed B.named
  have hlocks := B.notSynchronized
  have hin : meth.name = "countHalf" := (name_of_methodNamed B.named B.method).1
  subst hsz
  have hD := hD0.self (sz := s.heap.size)
  generalize hAe : va_A [(h0, .inr (0, [.int (nI (tw_P k)), .int (nI (tw_D k)), .int (nI (tw_I k)), .int (nI n), .ref ai, .ref ar, .ref af, .ref ap, .ref ah, .ref ac, .int (nI fc), .int hk])), (ai, .inl (cA, tw_P k, .inl fi)), (ar, .inl (cA, tw_P k, .inl fr)), (af, .inl (cA, 14, .inl ff)), (ap, .inl (cA, 2 * tw_P k, .inl fp)), (ah, .inl (cA, 2 * tw_P k, .inl fh)), (ac, .inl (cA, 2 * tw_P k, .inl fn))] s.heap.size = A at hD ⊢
  have hA : ∀ q : Nat, s.heap.size ≤ q → A q := fun q h => by rw [← hAe]; exact Or.inr h
  have hS : va_S A s.heap s.heap [] := va_S.rf
  have hl := lv_entry ([.ref h0, .int (nI (tw_en p9))]) (n := 3) (Nat.le_of_ble_eq_true rfl)
  rw [lg_entry_eq]
  generalize (lg_sl ([.ref h0, .int (nI (tw_en p9))]) ++ List.replicate (3 - (lg_sl ([.ref h0, .int (nI (tw_en p9))])).length) Slot.unset).toArray = ls at hl ⊢
  have hl : lv_has ls 3 [(0, .ref h0), (1, .int (nI (tw_en p9)))] := hl
  obtain ⟨hP0, hP2, hD2, hI2, hDP⟩ := tw_kb hk5
  have hK0 := tw_kK k hk5
  have hP8 : tw_P k ≤ 8192 := by omega
  have zp := tw_en_le hP2 hp9
  have hq := tw_clo hK0 hp9 hp9
  have zpl := tw_pl_lt hq
  refine lv_aload_n hx hb dX0_countHalf_0 rfl (lv_at hl 0 rfl) ?_
  refine lv_aload_n hx hb dX0_countHalf_1 rfl (lv_at hl 0 rfl) ?_
  refine lv_iload_n hx hb dX0_countHalf_2 rfl (lv_at hl 1 rfl) ?_
  refine lv_iload_n hx hb dX0_countHalf_3 rfl (lv_at hl 1 rfl) ?_
  refine vp_callSi (W.runV (As := [.int (nI (tw_en p9)), .int (nI (tw_en p9))]) (rest := [.ref h0]) ⟨hx, hb, hml, hown, ht⟩ (c_X0_sum l D hk5 (x := p9.1) (y := p9.2) (u := p9.1) (v := p9.2) hp9.1 hp9.2.1 hp9.1 hp9.2.1) (cwV 2 ht (tb_V kl_X0_77 ki_X0_sum ks_X0_sum kn_X0 kc_X0_sum) rfl rfl rfl ⟨rfl, kd_X0_sum⟩ ⟨Nat.le_of_ble_eq_true rfl, Nat.le_of_ble_eq_true rfl⟩) (cv_preH hP hK hfi hfr _) rfl rfl hl.1 rfl (lv_room (Nat.le_of_ble_eq_true rfl)) dX0_countHalf_4 ⟨Nat.zero_le _, Nat.zero_le _⟩) (fun r hr9 => ?_)
  subst hr9
  refine vp_callSi (W.runV (As := [.int (nI (tw_en (tw_add (tw_P k) (tw_D k) p9 p9)))]) (rest := []) ⟨hx, hb, hml, hown, ht⟩ (c_X0_place l D (x := (tw_add (tw_P k) (tw_D k) p9 p9).1) (y := (tw_add (tw_P k) (tw_D k) p9 p9).2) (by have := hq.1; omega) (by have := hq.2.1; omega)) (cwV 1 ht (tb_V kl_X0_102 ki_X0_place ks_X0_place kn_X0 kc_X0_place) rfl rfl rfl ⟨rfl, kd_X0_place⟩ ⟨Nat.le_of_ble_eq_true rfl, Nat.le_of_ble_eq_true rfl⟩) (cv_preH hP hK hfi hfr _) rfl rfl hl.1 rfl (lv_room (Nat.le_of_ble_eq_true rfl)) dX0_countHalf_7 ⟨Nat.zero_le _, Nat.zero_le _⟩) (fun r hr9 => ?_)
  subst hr9
  refine lv_istore_n hx hb dX0_countHalf_10 rfl hl (by decide) rfl (fun ls hl => ?_)
  have hl : lv_has ls 3 [(2, .int (nI (tw_pl (tw_add (tw_P k) (tw_D k) p9 p9)))), (0, .ref h0), (1, .int (nI (tw_en p9)))] := hl
  refine lv_aload_n hx hb dX0_countHalf_11 rfl (lv_at hl 1 rfl) ?_
  refine va_get (D := D) (ci := 0) (v := .ref ac) (C := RX0) (T := TX0) (N := 12) hx hb ht inX0 hown hK hP 0 rfl rfl 9 (by decide) (ht _ kf_X0_29) (fun _ h9 => h9) rfl dX0_countHalf_12 ?_
  refine lv_iload_n hx hb dX0_countHalf_15 rfl (lv_at hl 0 rfl) ?_
  refine nv_iald (A := fun _ => True) (H0 := s.heap) hx hb hK hP 6 0 rfl rfl zpl (by omega) dX0_countHalf_16 ?_
  rw [hn9]
  refine nv_if_ne (tgt := 27) hx hb dX0_countHalf_17 (by decide) (nv_le (b := 16384) hc9 (by decide)) (fun c17 => ?_) (fun c17 => ?_)
  · refine lv_aload_n hx hb dX0_countHalf_27 rfl (lv_at hl 1 rfl) ?_
    refine va_get (D := D) (ci := 0) (v := .ref ac) (C := RX0) (T := TX0) (N := 12) hx hb ht inX0 hown hK hP 0 rfl rfl 9 (by decide) (ht _ kf_X0_29) (fun _ h9 => h9) rfl dX0_countHalf_28 ?_
    refine lv_iload_n hx hb dX0_countHalf_31 rfl (lv_at hl 0 rfl) ?_
    refine lv_dup2_11 hx hb dX0_countHalf_32 rfl rfl ?_
    refine nv_iald (A := fun _ => True) (H0 := s.heap) hx hb hK hP 6 0 rfl rfl zpl (by omega) dX0_countHalf_33 ?_
    rw [hn9]
    refine lv_iconst (v := (nI 1)) hx hb dX0_countHalf_34 (by decide) ?_
    refine nv_iadd hx hb dX0_countHalf_35 ?_
    refine nv_iast hx hb hK hP hD hS 6 0 rfl rfl zpl (by omega) dX0_countHalf_36 (fun H locs hP hD hS => ?_)
    have hP : va_P D vwCl [(h0, .inr (0, [.int (nI (tw_P k)), .int (nI (tw_D k)), .int (nI (tw_I k)), .int (nI n), .ref ai, .ref ar, .ref af, .ref ap, .ref ah, .ref ac, .int (nI fc), .int hk])), (ai, .inl (cA, tw_P k, .inl fi)), (ar, .inl (cA, tw_P k, .inl fr)), (af, .inl (cA, 14, .inl ff)), (ap, .inl (cA, 2 * tw_P k, .inl fp)), (ah, .inl (cA, 2 * tw_P k, .inl fh)), (ac, .inl (cA, 2 * tw_P k, .inl (upd fn (tw_pl (tw_add (tw_P k) (tw_D k) p9 p9)) (nI (c9 + 1)))))] H := hP
    have hD : va_D A [(h0, .inr (0, [.int (nI (tw_P k)), .int (nI (tw_D k)), .int (nI (tw_I k)), .int (nI n), .ref ai, .ref ar, .ref af, .ref ap, .ref ah, .ref ac, .int (nI fc), .int hk])), (ai, .inl (cA, tw_P k, .inl fi)), (ar, .inl (cA, tw_P k, .inl fr)), (af, .inl (cA, 14, .inl ff)), (ap, .inl (cA, 2 * tw_P k, .inl fp)), (ah, .inl (cA, 2 * tw_P k, .inl fh)), (ac, .inl (cA, 2 * tw_P k, .inl (upd fn (tw_pl (tw_add (tw_P k) (tw_D k) p9 p9)) (nI (c9 + 1)))))] := hD
    exact W.vret hx hb hr (fun t ht9 hW => ⟨⟨(fh, (upd fn (tw_pl (tw_add (tw_P k) (tw_D k) p9 p9)) (nI (c9 + 1)))), rfl, by rw [if_neg (by omega)], by rw [ht9]; exact hP, va_K.moved hW.alike hK, hD⟩, hS.F ht9⟩) hS.2.2 dX0_countHalf_37
  · refine lv_aload_n hx hb dX0_countHalf_20 rfl (lv_at hl 1 rfl) ?_
    refine va_get (D := D) (ci := 0) (v := .ref ah) (C := RX0) (T := TX0) (N := 12) hx hb ht inX0 hown hK hP 0 rfl rfl 8 (by decide) (ht _ kf_X0_26) (fun _ h9 => h9) rfl dX0_countHalf_21 ?_
    refine lv_iload_n hx hb dX0_countHalf_24 rfl (lv_at hl 0 rfl) ?_
    refine lv_iload_n hx hb dX0_countHalf_25 rfl (lv_at hl 2 rfl) ?_
    refine nv_iast hx hb hK hP hD hS 5 0 rfl rfl zpl (by omega) dX0_countHalf_26 (fun H locs hP hD hS => ?_)
    have hP : va_P D vwCl [(h0, .inr (0, [.int (nI (tw_P k)), .int (nI (tw_D k)), .int (nI (tw_I k)), .int (nI n), .ref ai, .ref ar, .ref af, .ref ap, .ref ah, .ref ac, .int (nI fc), .int hk])), (ai, .inl (cA, tw_P k, .inl fi)), (ar, .inl (cA, tw_P k, .inl fr)), (af, .inl (cA, 14, .inl ff)), (ap, .inl (cA, 2 * tw_P k, .inl fp)), (ah, .inl (cA, 2 * tw_P k, .inl (upd fh (tw_pl (tw_add (tw_P k) (tw_D k) p9 p9)) (nI (tw_en p9))))), (ac, .inl (cA, 2 * tw_P k, .inl fn))] H := hP
    have hD : va_D A [(h0, .inr (0, [.int (nI (tw_P k)), .int (nI (tw_D k)), .int (nI (tw_I k)), .int (nI n), .ref ai, .ref ar, .ref af, .ref ap, .ref ah, .ref ac, .int (nI fc), .int hk])), (ai, .inl (cA, tw_P k, .inl fi)), (ar, .inl (cA, tw_P k, .inl fr)), (af, .inl (cA, 14, .inl ff)), (ap, .inl (cA, 2 * tw_P k, .inl fp)), (ah, .inl (cA, 2 * tw_P k, .inl (upd fh (tw_pl (tw_add (tw_P k) (tw_D k) p9 p9)) (nI (tw_en p9))))), (ac, .inl (cA, 2 * tw_P k, .inl fn))] := hD
    refine lv_aload_n hx hb dX0_countHalf_27 rfl (lv_at hl 1 rfl) ?_
    refine va_get (D := D) (ci := 0) (v := .ref ac) (C := RX0) (T := TX0) (N := 12) hx hb ht inX0 hown hK hP 0 rfl rfl 9 (by decide) (ht _ kf_X0_29) (fun _ h9 => h9) rfl dX0_countHalf_28 ?_
    refine lv_iload_n hx hb dX0_countHalf_31 rfl (lv_at hl 0 rfl) ?_
    refine lv_dup2_11 hx hb dX0_countHalf_32 rfl rfl ?_
    refine nv_iald (A := fun _ => True) (H0 := s.heap) hx hb hK hP 6 0 rfl rfl zpl (by omega) dX0_countHalf_33 ?_
    rw [hn9]
    refine lv_iconst (v := (nI 1)) hx hb dX0_countHalf_34 (by decide) ?_
    refine nv_iadd hx hb dX0_countHalf_35 ?_
    refine nv_iast hx hb hK hP hD hS 6 0 rfl rfl zpl (by omega) dX0_countHalf_36 (fun H locs hP hD hS => ?_)
    have hP : va_P D vwCl [(h0, .inr (0, [.int (nI (tw_P k)), .int (nI (tw_D k)), .int (nI (tw_I k)), .int (nI n), .ref ai, .ref ar, .ref af, .ref ap, .ref ah, .ref ac, .int (nI fc), .int hk])), (ai, .inl (cA, tw_P k, .inl fi)), (ar, .inl (cA, tw_P k, .inl fr)), (af, .inl (cA, 14, .inl ff)), (ap, .inl (cA, 2 * tw_P k, .inl fp)), (ah, .inl (cA, 2 * tw_P k, .inl (upd fh (tw_pl (tw_add (tw_P k) (tw_D k) p9 p9)) (nI (tw_en p9))))), (ac, .inl (cA, 2 * tw_P k, .inl (upd fn (tw_pl (tw_add (tw_P k) (tw_D k) p9 p9)) (nI (c9 + 1)))))] H := hP
    have hD : va_D A [(h0, .inr (0, [.int (nI (tw_P k)), .int (nI (tw_D k)), .int (nI (tw_I k)), .int (nI n), .ref ai, .ref ar, .ref af, .ref ap, .ref ah, .ref ac, .int (nI fc), .int hk])), (ai, .inl (cA, tw_P k, .inl fi)), (ar, .inl (cA, tw_P k, .inl fr)), (af, .inl (cA, 14, .inl ff)), (ap, .inl (cA, 2 * tw_P k, .inl fp)), (ah, .inl (cA, 2 * tw_P k, .inl (upd fh (tw_pl (tw_add (tw_P k) (tw_D k) p9 p9)) (nI (tw_en p9))))), (ac, .inl (cA, 2 * tw_P k, .inl (upd fn (tw_pl (tw_add (tw_P k) (tw_D k) p9 p9)) (nI (c9 + 1)))))] := hD
    exact W.vret hx hb hr (fun t ht9 hW => ⟨⟨((upd fh (tw_pl (tw_add (tw_P k) (tw_D k) p9 p9)) (nI (tw_en p9))), (upd fn (tw_pl (tw_add (tw_P k) (tw_D k) p9 p9)) (nI (c9 + 1)))), rfl, by rw [if_pos c17], by rw [ht9]; exact hP, va_K.moved hW.alike hK, hD⟩, hS.F ht9⟩) hS.2.2 dX0_countHalf_37
set_option maxHeartbeats 4000000 in
set_option maxRecDepth 100000 in
theorem c_X0_fillHalves1 (l : Launch) (D : va_G) {k : Nat} (hk5 : k < 5) {h0 ai ar af ap ah ac : Nat} {cA : ClassId} {n fc : Nat} {fi fr ff fp fh fn : Nat → Int32} (hfi : ∀ j, j < tw_P k → fi j = nI (tw_iv (tw_P k) j)) (hfr : ∀ j, j < tw_P k → fr j = tw_rv (tw_P k) j) (hok : hv_ok (tw_P k) (tw_D k) 16384 fh fn) (sz : Nat) : Met l yX0_fillHalves wX0_fillHalves ({ frames := 3, cells := 0, slots := 0, locals := 72 }) (va_Pc [.ref h0] (wd_pre D [(cA, .int)] [(h0, .inr (0, [.int (nI (tw_P k)), .int (nI (tw_D k)), .int (nI (tw_I k)), .int (nI n), .ref ai, .ref ar, .ref af, .ref ap, .ref ah, .ref ac, .int (nI fc), .int 1])), (ai, .inl (cA, tw_P k, .inl fi)), (ar, .inl (cA, tw_P k, .inl fr)), (af, .inl (cA, 14, .inl ff)), (ap, .inl (cA, 2 * tw_P k, .inl fp)), (ah, .inl (cA, 2 * tw_P k, .inl fh)), (ac, .inl (cA, 2 * tw_P k, .inl fn))] sz)) (va_Qv (fun (u : Int32 × (Nat → Int32) × (Nat → Int32)) => u.1 = 1 ∧ hv_ok (tw_P k) (tw_D k) 16384 u.2.1 u.2.2) (fun (u : Int32 × (Nat → Int32) × (Nat → Int32)) t => wd_at D [(cA, .int)] (va_A [(h0, .inr (0, [.int (nI (tw_P k)), .int (nI (tw_D k)), .int (nI (tw_I k)), .int (nI n), .ref ai, .ref ar, .ref af, .ref ap, .ref ah, .ref ac, .int (nI fc), .int 1])), (ai, .inl (cA, tw_P k, .inl fi)), (ar, .inl (cA, tw_P k, .inl fr)), (af, .inl (cA, 14, .inl ff)), (ap, .inl (cA, 2 * tw_P k, .inl fp)), (ah, .inl (cA, 2 * tw_P k, .inl fh)), (ac, .inl (cA, 2 * tw_P k, .inl fn))] sz) [(h0, .inr (0, [.int (nI (tw_P k)), .int (nI (tw_D k)), .int (nI (tw_I k)), .int (nI n), .ref ai, .ref ar, .ref af, .ref ap, .ref ah, .ref ac, .int (nI fc), .int u.1])), (ai, .inl (cA, tw_P k, .inl fi)), (ar, .inl (cA, tw_P k, .inl fr)), (af, .inl (cA, 14, .inl ff)), (ap, .inl (cA, 2 * tw_P k, .inl fp)), (ah, .inl (cA, 2 * tw_P k, .inl u.2.1)), (ac, .inl (cA, 2 * tw_P k, .inl u.2.2))] t) (va_A [(h0, .inr (0, [.int (nI (tw_P k)), .int (nI (tw_D k)), .int (nI (tw_I k)), .int (nI n), .ref ai, .ref ar, .ref af, .ref ap, .ref ah, .ref ac, .int (nI fc), .int 1])), (ai, .inl (cA, tw_P k, .inl fi)), (ar, .inl (cA, tw_P k, .inl fr)), (af, .inl (cA, 14, .inl ff)), (ap, .inl (cA, 2 * tw_P k, .inl fp)), (ah, .inl (cA, 2 * tw_P k, .inl fh)), (ac, .inl (cA, 2 * tw_P k, .inl fn))] sz)) 0 0 (va_A [(h0, .inr (0, [.int (nI (tw_P k)), .int (nI (tw_D k)), .int (nI (tw_I k)), .int (nI n), .ref ai, .ref ar, .ref af, .ref ap, .ref ah, .ref ac, .int (nI fc), .int 1])), (ai, .inl (cA, tw_P k, .inl fi)), (ar, .inl (cA, tw_P k, .inl fr)), (af, .inl (cA, 14, .inl ff)), (ap, .inl (cA, 2 * tw_P k, .inl fp)), (ah, .inl (cA, 2 * tw_P k, .inl fh)), (ac, .inl (cA, 2 * tw_P k, .inl fn))] sz) := by
  refine Met.ofW (cc := cX0_fillHalves) (maxL := 3) (ret := none) (by decide) rfl ?_
  intro p e s m args below meth c s₁ B hml hv
  obtain ⟨rfl, hsz, hP, hK, hD0⟩ := hv
  have hx := B.exec
  have hb := B.bytes
  have hr := B.returns
  have hts := atoms_spec (ws := wX0_fillHalves) B.pre
  have ht : ∀ w ∈ tb_all, w.before _ s = true := fun w h => hts w (List.mem_cons_of_mem _ h)
  have hown : s.vm.findClass RX0 = some m.cls := findClass_of_methodNamed B.named
  have hlocks := B.notSynchronized
  have hin : meth.name = "fillHalves" := (name_of_methodNamed B.named B.method).1
  subst hsz
  have hD := hD0.self (sz := s.heap.size)
  generalize hAe : va_A [(h0, .inr (0, [.int (nI (tw_P k)), .int (nI (tw_D k)), .int (nI (tw_I k)), .int (nI n), .ref ai, .ref ar, .ref af, .ref ap, .ref ah, .ref ac, .int (nI fc), .int 1])), (ai, .inl (cA, tw_P k, .inl fi)), (ar, .inl (cA, tw_P k, .inl fr)), (af, .inl (cA, 14, .inl ff)), (ap, .inl (cA, 2 * tw_P k, .inl fp)), (ah, .inl (cA, 2 * tw_P k, .inl fh)), (ac, .inl (cA, 2 * tw_P k, .inl fn))] s.heap.size = A at hD ⊢
  have hA : ∀ q : Nat, s.heap.size ≤ q → A q := fun q h => by rw [← hAe]; exact Or.inr h
  have hS : va_S A s.heap s.heap [] := va_S.rf
  have hl := lv_entry ([.ref h0]) (n := 3) (Nat.le_of_ble_eq_true rfl)
  rw [lg_entry_eq]
  generalize (lg_sl ([.ref h0]) ++ List.replicate (3 - (lg_sl ([.ref h0])).length) Slot.unset).toArray = ls at hl ⊢
  have hl : lv_has ls 3 [(0, .ref h0)] := hl
  obtain ⟨hP0, hP2, hD2, hI2, hDP⟩ := tw_kb hk5
  have hK0 := tw_kK k hk5
  have hP8 : tw_P k ≤ 8192 := by omega
  refine lv_aload_n hx hb dX0_fillHalves_0 rfl (lv_at hl 0 rfl) ?_
  refine va_get (D := D) (ci := 0) (v := .int 1) (C := RX0) (T := TX0) (N := 12) hx hb ht inX0 hown hK hP 0 rfl rfl 11 (by decide) (ht _ kf_X0_114) (fun _ h9 => h9) rfl dX0_fillHalves_1 ?_
  refine lv_if_eq (tgt := 8) hx hb dX0_fillHalves_4 (by decide) (fun c9 => absurd c9 (by decide)) (fun _ => ?_)
  exact W.vret hx hb hr (fun t ht9 hW => ⟨⟨(1, fh, fn), rfl, ⟨rfl, hok⟩, by rw [ht9]; exact hP, va_K.moved hW.alike hK, hD⟩, hS.F ht9⟩) hS.2.2 dX0_fillHalves_7
set_option maxHeartbeats 4000000 in
set_option maxRecDepth 100000 in
theorem c_X0_fillHalves0 (l : Launch) (D : va_G) {k : Nat} (hk5 : k < 5) {h0 ai ar af ap ah ac : Nat} {cA : ClassId} {n fc : Nat} {fi fr ff fp : Nat → Int32} (hfi : ∀ j, j < tw_P k → fi j = nI (tw_iv (tw_P k) j)) (hfr : ∀ j, j < tw_P k → fr j = tw_rv (tw_P k) j) (sz : Nat) : Met l yX0_fillHalves wX0_fillHalves ({ frames := 3, cells := 0, slots := 0, locals := 72 }) (va_Pc [.ref h0] (wd_pre D [(cA, .int)] [(h0, .inr (0, [.int (nI (tw_P k)), .int (nI (tw_D k)), .int (nI (tw_I k)), .int (nI n), .ref ai, .ref ar, .ref af, .ref ap, .ref ah, .ref ac, .int (nI fc), .int 0])), (ai, .inl (cA, tw_P k, .inl fi)), (ar, .inl (cA, tw_P k, .inl fr)), (af, .inl (cA, 14, .inl ff)), (ap, .inl (cA, 2 * tw_P k, .inl fp)), (ah, .inl (cA, 2 * tw_P k, .inl (fun _ => 0))), (ac, .inl (cA, 2 * tw_P k, .inl (fun _ => 0)))] sz)) (va_Qv (fun (u : Int32 × (Nat → Int32) × (Nat → Int32)) => u.1 = 1 ∧ hv_ok (tw_P k) (tw_D k) 16384 u.2.1 u.2.2) (fun (u : Int32 × (Nat → Int32) × (Nat → Int32)) t => wd_at D [(cA, .int)] (va_A [(h0, .inr (0, [.int (nI (tw_P k)), .int (nI (tw_D k)), .int (nI (tw_I k)), .int (nI n), .ref ai, .ref ar, .ref af, .ref ap, .ref ah, .ref ac, .int (nI fc), .int 0])), (ai, .inl (cA, tw_P k, .inl fi)), (ar, .inl (cA, tw_P k, .inl fr)), (af, .inl (cA, 14, .inl ff)), (ap, .inl (cA, 2 * tw_P k, .inl fp)), (ah, .inl (cA, 2 * tw_P k, .inl (fun _ => 0))), (ac, .inl (cA, 2 * tw_P k, .inl (fun _ => 0)))] sz) [(h0, .inr (0, [.int (nI (tw_P k)), .int (nI (tw_D k)), .int (nI (tw_I k)), .int (nI n), .ref ai, .ref ar, .ref af, .ref ap, .ref ah, .ref ac, .int (nI fc), .int u.1])), (ai, .inl (cA, tw_P k, .inl fi)), (ar, .inl (cA, tw_P k, .inl fr)), (af, .inl (cA, 14, .inl ff)), (ap, .inl (cA, 2 * tw_P k, .inl fp)), (ah, .inl (cA, 2 * tw_P k, .inl u.2.1)), (ac, .inl (cA, 2 * tw_P k, .inl u.2.2))] t) (va_A [(h0, .inr (0, [.int (nI (tw_P k)), .int (nI (tw_D k)), .int (nI (tw_I k)), .int (nI n), .ref ai, .ref ar, .ref af, .ref ap, .ref ah, .ref ac, .int (nI fc), .int 0])), (ai, .inl (cA, tw_P k, .inl fi)), (ar, .inl (cA, tw_P k, .inl fr)), (af, .inl (cA, 14, .inl ff)), (ap, .inl (cA, 2 * tw_P k, .inl fp)), (ah, .inl (cA, 2 * tw_P k, .inl (fun _ => 0))), (ac, .inl (cA, 2 * tw_P k, .inl (fun _ => 0)))] sz)) 0 0 (va_A [(h0, .inr (0, [.int (nI (tw_P k)), .int (nI (tw_D k)), .int (nI (tw_I k)), .int (nI n), .ref ai, .ref ar, .ref af, .ref ap, .ref ah, .ref ac, .int (nI fc), .int 0])), (ai, .inl (cA, tw_P k, .inl fi)), (ar, .inl (cA, tw_P k, .inl fr)), (af, .inl (cA, 14, .inl ff)), (ap, .inl (cA, 2 * tw_P k, .inl fp)), (ah, .inl (cA, 2 * tw_P k, .inl (fun _ => 0))), (ac, .inl (cA, 2 * tw_P k, .inl (fun _ => 0)))] sz) := by
  refine Met.ofW (cc := cX0_fillHalves) (maxL := 3) (ret := none) (by decide) rfl ?_
  intro p e s m args below meth c s₁ B hml hv
  obtain ⟨rfl, hsz, hP, hK, hD0⟩ := hv
  have hx := B.exec
  have hb := B.bytes
  have hr := B.returns
  have hts := atoms_spec (ws := wX0_fillHalves) B.pre
  have ht : ∀ w ∈ tb_all, w.before _ s = true := fun w h => hts w (List.mem_cons_of_mem _ h)
  have hown : s.vm.findClass RX0 = some m.cls := findClass_of_methodNamed B.named
  have hlocks := B.notSynchronized
  have hin : meth.name = "fillHalves" := (name_of_methodNamed B.named B.method).1
  subst hsz
  have hD := hD0.self (sz := s.heap.size)
  generalize hAe : va_A [(h0, .inr (0, [.int (nI (tw_P k)), .int (nI (tw_D k)), .int (nI (tw_I k)), .int (nI n), .ref ai, .ref ar, .ref af, .ref ap, .ref ah, .ref ac, .int (nI fc), .int 0])), (ai, .inl (cA, tw_P k, .inl fi)), (ar, .inl (cA, tw_P k, .inl fr)), (af, .inl (cA, 14, .inl ff)), (ap, .inl (cA, 2 * tw_P k, .inl fp)), (ah, .inl (cA, 2 * tw_P k, .inl (fun _ => 0))), (ac, .inl (cA, 2 * tw_P k, .inl (fun _ => 0)))] s.heap.size = A at hD ⊢
  have hA : ∀ q : Nat, s.heap.size ≤ q → A q := fun q h => by rw [← hAe]; exact Or.inr h
  have hS : va_S A s.heap s.heap [] := va_S.rf
  have hl := lv_entry ([.ref h0]) (n := 3) (Nat.le_of_ble_eq_true rfl)
  rw [lg_entry_eq]
  generalize (lg_sl ([.ref h0]) ++ List.replicate (3 - (lg_sl ([.ref h0])).length) Slot.unset).toArray = ls at hl ⊢
  have hl : lv_has ls 3 [(0, .ref h0)] := hl
  obtain ⟨hP0, hP2, hD2, hI2, hDP⟩ := tw_kb hk5
  have hK0 := tw_kK k hk5
  have hP8 : tw_P k ≤ 8192 := by omega
  refine lv_aload_n hx hb dX0_fillHalves_0 rfl (lv_at hl 0 rfl) ?_
  refine va_get (D := D) (ci := 0) (v := .int 0) (C := RX0) (T := TX0) (N := 12) hx hb ht inX0 hown hK hP 0 rfl rfl 11 (by decide) (ht _ kf_X0_114) (fun _ h9 => h9) rfl dX0_fillHalves_1 ?_
  refine lv_if_eq (tgt := 8) hx hb dX0_fillHalves_4 (by decide) (fun _ => ?_) (fun c9 => absurd rfl c9)
  refine lv_iconst (v := (nI 0)) hx hb dX0_fillHalves_8 (by decide) ?_
  refine lv_istore_n hx hb dX0_fillHalves_9 rfl hl (by decide) rfl (fun ls hl => ?_)
  have hl : lv_has ls 3 [(1, .int (nI 0)), (0, .ref h0)] := hl
  have loop : ∀ (f9 i : Nat) (gh gn : Nat → Int32) (H : Heap) (locs : List Loc) (ls : Array Slot), 16384 - i < f9 → i ≤ 16384 → hv_ok (tw_P k) (tw_D k) i gh gn → va_P D vwCl [(h0, .inr (0, [.int (nI (tw_P k)), .int (nI (tw_D k)), .int (nI (tw_I k)), .int (nI n), .ref ai, .ref ar, .ref af, .ref ap, .ref ah, .ref ac, .int (nI fc), .int 0])), (ai, .inl (cA, tw_P k, .inl fi)), (ar, .inl (cA, tw_P k, .inl fr)), (af, .inl (cA, 14, .inl ff)), (ap, .inl (cA, 2 * tw_P k, .inl fp)), (ah, .inl (cA, 2 * tw_P k, .inl gh)), (ac, .inl (cA, 2 * tw_P k, .inl gn))] H → va_D A [(h0, .inr (0, [.int (nI (tw_P k)), .int (nI (tw_D k)), .int (nI (tw_I k)), .int (nI n), .ref ai, .ref ar, .ref af, .ref ap, .ref ah, .ref ac, .int (nI fc), .int 0])), (ai, .inl (cA, tw_P k, .inl fi)), (ar, .inl (cA, tw_P k, .inl fr)), (af, .inl (cA, 14, .inl ff)), (ap, .inl (cA, 2 * tw_P k, .inl fp)), (ah, .inl (cA, 2 * tw_P k, .inl gh)), (ac, .inl (cA, 2 * tw_P k, .inl gn))] → va_S A s.heap H locs → lv_has ls 3 [(1, .int (nI i)), (0, .ref h0)] → W p l e (headSpec wX0_fillHalves ({ frames := 3, cells := 0, slots := 0, locals := 72 })).room s m ([.ref h0]).toArray below meth c H locs 0 0 (MQ below (va_Qv (fun (u : Int32 × (Nat → Int32) × (Nat → Int32)) => u.1 = 1 ∧ hv_ok (tw_P k) (tw_D k) 16384 u.2.1 u.2.2) (fun (u : Int32 × (Nat → Int32) × (Nat → Int32)) t => wd_at D [(cA, .int)] (A) [(h0, .inr (0, [.int (nI (tw_P k)), .int (nI (tw_D k)), .int (nI (tw_I k)), .int (nI n), .ref ai, .ref ar, .ref af, .ref ap, .ref ah, .ref ac, .int (nI fc), .int u.1])), (ai, .inl (cA, tw_P k, .inl fi)), (ar, .inl (cA, tw_P k, .inl fr)), (af, .inl (cA, 14, .inl ff)), (ap, .inl (cA, 2 * tw_P k, .inl fp)), (ah, .inl (cA, 2 * tw_P k, .inl u.2.1)), (ac, .inl (cA, 2 * tw_P k, .inl u.2.2))] t) A) ([.ref h0]).toArray s 0 0 A) (F0 m 10 ls []) := by
    intro f9
    induction f9 with
    | zero => intro i gh gn H locs ls h1; exact absurd h1 (Nat.not_lt_zero _)
    | succ f9 ih =>
      intro i gh gn H locs ls h1 h2 hg hP hD hS hl
      refine lv_iload_n hx hb dX0_fillHalves_10 rfl (lv_at hl 0 rfl) ?_
      refine lv_sipush (v := (nI 16384)) hx hb dX0_fillHalves_11 (by decide) ?_
      refine nv_icmp_ge (tgt := 39) hx hb dX0_fillHalves_14 (by decide) (nv_le (b := 16384) h2 (by decide)) (nv_le (b := 16384) (Nat.le_refl 16384) (by decide)) (fun c14 => ?_) (fun c14 => ?_)
      · have e8 : i = 16384 := Nat.le_antisymm h2 c14
        subst e8
        refine lv_aload_n hx hb dX0_fillHalves_39 rfl (lv_at hl 1 rfl) ?_
        refine lv_iconst (v := (nI 1)) hx hb dX0_fillHalves_40 (by decide) ?_
        refine va_put (D := D) (ci := 0) (v := .int (nI 1)) (ty := .boolean) (C := RX0) (T := TX0) (N := 12) hx hb ht inX0 tyX0 tyX0_ok nmX0 hown hK hP hD hS 0 rfl rfl 11 (by decide) (ht _ kf_X0_114) (fun _ h9 => h9) rfl (by decide +kernel) rfl rfl (Nat.le_of_ble_eq_true rfl) dX0_fillHalves_41 (fun H locs hP hD hS => ?_)
        have hP : va_P D vwCl [(h0, .inr (0, [.int (nI (tw_P k)), .int (nI (tw_D k)), .int (nI (tw_I k)), .int (nI n), .ref ai, .ref ar, .ref af, .ref ap, .ref ah, .ref ac, .int (nI fc), .int (nI 1)])), (ai, .inl (cA, tw_P k, .inl fi)), (ar, .inl (cA, tw_P k, .inl fr)), (af, .inl (cA, 14, .inl ff)), (ap, .inl (cA, 2 * tw_P k, .inl fp)), (ah, .inl (cA, 2 * tw_P k, .inl gh)), (ac, .inl (cA, 2 * tw_P k, .inl gn))] H := hP
        have hD : va_D A [(h0, .inr (0, [.int (nI (tw_P k)), .int (nI (tw_D k)), .int (nI (tw_I k)), .int (nI n), .ref ai, .ref ar, .ref af, .ref ap, .ref ah, .ref ac, .int (nI fc), .int (nI 1)])), (ai, .inl (cA, tw_P k, .inl fi)), (ar, .inl (cA, tw_P k, .inl fr)), (af, .inl (cA, 14, .inl ff)), (ap, .inl (cA, 2 * tw_P k, .inl fp)), (ah, .inl (cA, 2 * tw_P k, .inl gh)), (ac, .inl (cA, 2 * tw_P k, .inl gn))] := hD
        exact W.vret hx hb hr (fun t ht9 hW => ⟨⟨(1, gh, gn), rfl, ⟨rfl, hg⟩, by rw [ht9]; exact hP, va_K.moved hW.alike hK, hD⟩, hS.F ht9⟩) hS.2.2 dX0_fillHalves_44
      · refine lv_aload_n hx hb dX0_fillHalves_17 rfl (lv_at hl 1 rfl) ?_
        refine lv_iload_n hx hb dX0_fillHalves_18 rfl (lv_at hl 0 rfl) ?_
        refine vp_callSi (W.runV (As := [.int (nI i)]) (rest := []) ⟨hx, hb, hml, hown, ht⟩ (c_X0_read l D hk5 (j := i) (by omega)) (cwV 1 ht (tb_V kl_X0_87 ki_X0_read ks_X0_read kn_X0 kc_X0_read) rfl rfl rfl ⟨rfl, kd_X0_read⟩ ⟨Nat.le_of_ble_eq_true rfl, Nat.le_of_ble_eq_true rfl⟩) (cv_preH hP hK hfi hfr _) rfl rfl hl.1 rfl (lv_room (Nat.le_of_ble_eq_true rfl)) dX0_fillHalves_19 ⟨Nat.zero_le _, Nat.zero_le _⟩) (fun r hr9 => ?_)
        subst hr9
        refine lv_istore_n hx hb dX0_fillHalves_22 rfl hl (by decide) rfl (fun ls hl => ?_)
        have hl : lv_has ls 3 [(2, .int (tw_rr (tw_P k) (tw_D k) i)), (1, .int (nI i)), (0, .ref h0)] := hl
        cases er : tw_rd (tw_P k) (tw_D k) i with
        | none =>
          rw [tw_rr_none er] at hl
          refine lv_iload_n hx hb dX0_fillHalves_23 rfl (lv_at hl 0 rfl) ?_
          refine lv_iconst (v := (-1)) hx hb dX0_fillHalves_24 (by decide) ?_
          refine lv_icmp_eq (tgt := 33) hx hb dX0_fillHalves_25 (by decide) (fun _ => ?_) (fun c9 => absurd rfl c9)
          refine lv_iinc hx hb dX0_fillHalves_33 hl (k := 1) rfl nv_inc (by decide) rfl (fun ls hl => ?_)
          have hl : lv_has ls 3 [(1, .int (nI (i + 1))), (2, .int (-1)), (0, .ref h0)] := hl
          refine lv_goto (tgt := 10) hx hb dX0_fillHalves_36 (by decide) ?_
          exact ih (i + 1) gh gn H locs ls (by omega) (by omega) (hv_n hg er) hP hD hS (lv_sub hl [0, 2] rfl)
        | some q =>
          rw [tw_rr_some er] at hl
          have hq9 := (tw_rd_some hK0 er).1
          have zq := tw_en_le hP2 hq9
          refine lv_iload_n hx hb dX0_fillHalves_23 rfl (lv_at hl 0 rfl) ?_
          refine lv_iconst (v := (-1)) hx hb dX0_fillHalves_24 (by decide) ?_
          refine lv_icmp_eq (tgt := 33) hx hb dX0_fillHalves_25 (by decide) (fun c9 => absurd c9 (nv_m1 (by omega))) (fun _ => ?_)
          refine lv_aload_n hx hb dX0_fillHalves_28 rfl (lv_at hl 2 rfl) ?_
          refine lv_iload_n hx hb dX0_fillHalves_29 rfl (lv_at hl 0 rfl) ?_
          have hcl := tw_hc_le (tw_P k) (tw_D k) (tw_add (tw_P k) (tw_D k) q q) i
          have hPc := hP.sub (ws' := [(h0, .inr (0, [.int (nI (tw_P k)), .int (nI (tw_D k)), .int (nI (tw_I k)), .int (nI n), .ref ai, .ref ar, .ref af, .ref ap, .ref ah, .ref ac, .int (nI fc), .int 0])), (ai, .inl (cA, tw_P k, .inl fi)), (ar, .inl (cA, tw_P k, .inl fr)), (af, .inl (cA, 14, .inl ff)), (ap, .inl (cA, 2 * tw_P k, .inl fp)), (ah, .inl (cA, 2 * tw_P k, .inl gh)), (ac, .inl (cA, 2 * tw_P k, .inl gn))]) [0, 1, 2, 3, 4, 5, 6] rfl
          have hDc := hD.sub (ws' := [(h0, .inr (0, [.int (nI (tw_P k)), .int (nI (tw_D k)), .int (nI (tw_I k)), .int (nI n), .ref ai, .ref ar, .ref af, .ref ap, .ref ah, .ref ac, .int (nI fc), .int 0])), (ai, .inl (cA, tw_P k, .inl fi)), (ar, .inl (cA, tw_P k, .inl fr)), (af, .inl (cA, 14, .inl ff)), (ap, .inl (cA, 2 * tw_P k, .inl fp)), (ah, .inl (cA, 2 * tw_P k, .inl gh)), (ac, .inl (cA, 2 * tw_P k, .inl gn))]) [0, 1, 2, 3, 4, 5, 6] (by decide) rfl
          have hFc := va_free (wc := [(h0, .inr (0, [.int (nI (tw_P k)), .int (nI (tw_D k)), .int (nI (tw_I k)), .int (nI n), .ref ai, .ref ar, .ref af, .ref ap, .ref ah, .ref ac, .int (nI fc), .int 0])), (ai, .inl (cA, tw_P k, .inl fi)), (ar, .inl (cA, tw_P k, .inl fr)), (af, .inl (cA, 14, .inl ff)), (ap, .inl (cA, 2 * tw_P k, .inl fp)), (ah, .inl (cA, 2 * tw_P k, .inl gh)), (ac, .inl (cA, 2 * tw_P k, .inl gn))]) hD hS hA [0, 1, 2, 3, 4, 5, 6] rfl
          refine va_callv (va_runV (As := [.int (nI (tw_en q))]) (rest := []) ⟨hx, hb, hml, hown, ht⟩ (c_X0_countHalf l D hk5 hfi hfr hq9 (c9 := tw_hc (tw_P k) (tw_D k) (tw_add (tw_P k) (tw_D k) q q) i) (by omega) (hg _ (tw_clo hK0 hq9 hq9)).1 H.size) (cwV 1 ht (tb_V kl_X0_118 ki_X0_countHalf ks_X0_countHalf kn_X0 kc_X0_countHalf) rfl rfl rfl ⟨rfl, kd_X0_countHalf⟩ ⟨Nat.le_of_ble_eq_true rfl, Nat.le_of_ble_eq_true rfl⟩) (wd_preV _ hPc hK hDc (va_recv (ci := 0) (q0 := 0) hK hP rfl rfl)) rfl rfl hl.1 rfl (lv_room (Nat.le_of_ble_eq_true rfl)) dX0_fillHalves_30 ⟨Nat.le_of_ble_eq_true rfl, Nat.le_of_ble_eq_true rfl⟩) hS (fun q _ h => hFc q h) hFc (fun u9 t9 H1 locs ht9 hvm9 hw9 hB9 hz9 hk9 hS => ?_)
          obtain ⟨hP1, hK1, hD1⟩ := hB9
          rw [ht9] at hP1
          obtain ⟨hP, hD⟩ := va_join (wr := []) (w1 := [(h0, .inr (0, [.int (nI (tw_P k)), .int (nI (tw_D k)), .int (nI (tw_I k)), .int (nI n), .ref ai, .ref ar, .ref af, .ref ap, .ref ah, .ref ac, .int (nI fc), .int 0])), (ai, .inl (cA, tw_P k, .inl fi)), (ar, .inl (cA, tw_P k, .inl fr)), (af, .inl (cA, 14, .inl ff)), (ap, .inl (cA, 2 * tw_P k, .inl fp)), (ah, .inl (cA, 2 * tw_P k, .inl u9.1)), (ac, .inl (cA, 2 * tw_P k, .inl u9.2))]) hP hD [0, 1, 2, 3, 4, 5, 6] [] rfl rfl (by decide) (by decide) hk9 hFc hP1 hD1
          have hP := hP.sub (ws' := [(h0, .inr (0, [.int (nI (tw_P k)), .int (nI (tw_D k)), .int (nI (tw_I k)), .int (nI n), .ref ai, .ref ar, .ref af, .ref ap, .ref ah, .ref ac, .int (nI fc), .int 0])), (ai, .inl (cA, tw_P k, .inl fi)), (ar, .inl (cA, tw_P k, .inl fr)), (af, .inl (cA, 14, .inl ff)), (ap, .inl (cA, 2 * tw_P k, .inl fp)), (ah, .inl (cA, 2 * tw_P k, .inl u9.1)), (ac, .inl (cA, 2 * tw_P k, .inl u9.2))]) [0, 1, 2, 3, 4, 5, 6] rfl
          have hD := hD.sub (ws' := [(h0, .inr (0, [.int (nI (tw_P k)), .int (nI (tw_D k)), .int (nI (tw_I k)), .int (nI n), .ref ai, .ref ar, .ref af, .ref ap, .ref ah, .ref ac, .int (nI fc), .int 0])), (ai, .inl (cA, tw_P k, .inl fi)), (ar, .inl (cA, tw_P k, .inl fr)), (af, .inl (cA, 14, .inl ff)), (ap, .inl (cA, 2 * tw_P k, .inl fp)), (ah, .inl (cA, 2 * tw_P k, .inl u9.1)), (ac, .inl (cA, 2 * tw_P k, .inl u9.2))]) [0, 1, 2, 3, 4, 5, 6] (by decide) rfl
          generalize H1 = H at hP hS hz9 ⊢
          refine lv_iinc hx hb dX0_fillHalves_33 hl (k := 1) rfl nv_inc (by decide) rfl (fun ls hl => ?_)
          have hl : lv_has ls 3 [(1, .int (nI (i + 1))), (2, .int (nI (tw_en q))), (0, .ref h0)] := hl
          refine lv_goto (tgt := 10) hx hb dX0_fillHalves_36 (by decide) ?_
          refine ih (i + 1) u9.1 u9.2 H locs ls (by omega) (by omega) ?_ hP hD hS (lv_sub hl [0, 2] rfl)
          rw [hw9]
          exact hv_s hK0 hP8 hg er rfl
  exact loop 16385 0 _ _ s.heap [] ls (by omega) (Nat.zero_le _) (hv_0 _ _) hP hD hS (lv_sub hl [0, 1] rfl)
theorem c_X0_fillHalves (l : Launch) (D : va_G) {k : Nat} (hk5 : k < 5) {h0 ai ar af ap ah ac : Nat} {cA : ClassId} {n fc : Nat} {hk : Int32} {fi fr ff fp fh fn : Nat → Int32} (hfi : ∀ j, j < tw_P k → fi j = nI (tw_iv (tw_P k) j)) (hfr : ∀ j, j < tw_P k → fr j = tw_rv (tw_P k) j) (hh : cv_hv k hk fh fn) (sz : Nat) : Met l yX0_fillHalves wX0_fillHalves ({ frames := 3, cells := 0, slots := 0, locals := 72 }) (va_Pc [.ref h0] (wd_pre D [(cA, .int)] [(h0, .inr (0, [.int (nI (tw_P k)), .int (nI (tw_D k)), .int (nI (tw_I k)), .int (nI n), .ref ai, .ref ar, .ref af, .ref ap, .ref ah, .ref ac, .int (nI fc), .int hk])), (ai, .inl (cA, tw_P k, .inl fi)), (ar, .inl (cA, tw_P k, .inl fr)), (af, .inl (cA, 14, .inl ff)), (ap, .inl (cA, 2 * tw_P k, .inl fp)), (ah, .inl (cA, 2 * tw_P k, .inl fh)), (ac, .inl (cA, 2 * tw_P k, .inl fn))] sz)) (va_Qv (fun (u : Int32 × (Nat → Int32) × (Nat → Int32)) => u.1 = 1 ∧ hv_ok (tw_P k) (tw_D k) 16384 u.2.1 u.2.2) (fun (u : Int32 × (Nat → Int32) × (Nat → Int32)) t => wd_at D [(cA, .int)] (va_A [(h0, .inr (0, [.int (nI (tw_P k)), .int (nI (tw_D k)), .int (nI (tw_I k)), .int (nI n), .ref ai, .ref ar, .ref af, .ref ap, .ref ah, .ref ac, .int (nI fc), .int hk])), (ai, .inl (cA, tw_P k, .inl fi)), (ar, .inl (cA, tw_P k, .inl fr)), (af, .inl (cA, 14, .inl ff)), (ap, .inl (cA, 2 * tw_P k, .inl fp)), (ah, .inl (cA, 2 * tw_P k, .inl fh)), (ac, .inl (cA, 2 * tw_P k, .inl fn))] sz) [(h0, .inr (0, [.int (nI (tw_P k)), .int (nI (tw_D k)), .int (nI (tw_I k)), .int (nI n), .ref ai, .ref ar, .ref af, .ref ap, .ref ah, .ref ac, .int (nI fc), .int u.1])), (ai, .inl (cA, tw_P k, .inl fi)), (ar, .inl (cA, tw_P k, .inl fr)), (af, .inl (cA, 14, .inl ff)), (ap, .inl (cA, 2 * tw_P k, .inl fp)), (ah, .inl (cA, 2 * tw_P k, .inl u.2.1)), (ac, .inl (cA, 2 * tw_P k, .inl u.2.2))] t) (va_A [(h0, .inr (0, [.int (nI (tw_P k)), .int (nI (tw_D k)), .int (nI (tw_I k)), .int (nI n), .ref ai, .ref ar, .ref af, .ref ap, .ref ah, .ref ac, .int (nI fc), .int hk])), (ai, .inl (cA, tw_P k, .inl fi)), (ar, .inl (cA, tw_P k, .inl fr)), (af, .inl (cA, 14, .inl ff)), (ap, .inl (cA, 2 * tw_P k, .inl fp)), (ah, .inl (cA, 2 * tw_P k, .inl fh)), (ac, .inl (cA, 2 * tw_P k, .inl fn))] sz)) 0 0 (va_A [(h0, .inr (0, [.int (nI (tw_P k)), .int (nI (tw_D k)), .int (nI (tw_I k)), .int (nI n), .ref ai, .ref ar, .ref af, .ref ap, .ref ah, .ref ac, .int (nI fc), .int hk])), (ai, .inl (cA, tw_P k, .inl fi)), (ar, .inl (cA, tw_P k, .inl fr)), (af, .inl (cA, 14, .inl ff)), (ap, .inl (cA, 2 * tw_P k, .inl fp)), (ah, .inl (cA, 2 * tw_P k, .inl fh)), (ac, .inl (cA, 2 * tw_P k, .inl fn))] sz) := by
  rcases hh with ⟨rfl, rfl, rfl⟩ | ⟨rfl, hok⟩
  · exact c_X0_fillHalves0 l D hk5 hfi hfr sz
  · exact c_X0_fillHalves1 l D hk5 hfi hfr hok sz
set_option maxHeartbeats 4000000 in
set_option maxRecDepth 100000 in
theorem c_X0_howManyHalves (l : Launch) (D : va_G) {k : Nat} (hk5 : k < 5) {h0 ai ar af ap ah ac : Nat} {cA : ClassId} {n fc : Nat} {hk : Int32} {fi fr ff fp fh fn : Nat → Int32} (hfi : ∀ j, j < tw_P k → fi j = nI (tw_iv (tw_P k) j)) (hfr : ∀ j, j < tw_P k → fr j = tw_rv (tw_P k) j) (hh : cv_hv k hk fh fn) {q9 : Nat × Nat} (hq9 : tw_on (tw_P k) (tw_D k) q9) (sz : Nat) : Met l yX0_howManyHalves wX0_howManyHalves ({ frames := 4, cells := 0, slots := 0, locals := 94 }) (va_Pc [.ref h0, .int (nI (tw_en q9))] (wd_pre D [(cA, .int)] [(h0, .inr (0, [.int (nI (tw_P k)), .int (nI (tw_D k)), .int (nI (tw_I k)), .int (nI n), .ref ai, .ref ar, .ref af, .ref ap, .ref ah, .ref ac, .int (nI fc), .int hk])), (ai, .inl (cA, tw_P k, .inl fi)), (ar, .inl (cA, tw_P k, .inl fr)), (af, .inl (cA, 14, .inl ff)), (ap, .inl (cA, 2 * tw_P k, .inl fp)), (ah, .inl (cA, 2 * tw_P k, .inl fh)), (ac, .inl (cA, 2 * tw_P k, .inl fn))] sz)) (va_Qi (fun (r : Int32) (u : Int32 × (Nat → Int32) × (Nat → Int32)) => r = nI (tw_hc (tw_P k) (tw_D k) q9 16384) ∧ u.1 = 1 ∧ hv_ok (tw_P k) (tw_D k) 16384 u.2.1 u.2.2) (fun (u : Int32 × (Nat → Int32) × (Nat → Int32)) t => wd_at D [(cA, .int)] (va_A [(h0, .inr (0, [.int (nI (tw_P k)), .int (nI (tw_D k)), .int (nI (tw_I k)), .int (nI n), .ref ai, .ref ar, .ref af, .ref ap, .ref ah, .ref ac, .int (nI fc), .int hk])), (ai, .inl (cA, tw_P k, .inl fi)), (ar, .inl (cA, tw_P k, .inl fr)), (af, .inl (cA, 14, .inl ff)), (ap, .inl (cA, 2 * tw_P k, .inl fp)), (ah, .inl (cA, 2 * tw_P k, .inl fh)), (ac, .inl (cA, 2 * tw_P k, .inl fn))] sz) [(h0, .inr (0, [.int (nI (tw_P k)), .int (nI (tw_D k)), .int (nI (tw_I k)), .int (nI n), .ref ai, .ref ar, .ref af, .ref ap, .ref ah, .ref ac, .int (nI fc), .int u.1])), (ai, .inl (cA, tw_P k, .inl fi)), (ar, .inl (cA, tw_P k, .inl fr)), (af, .inl (cA, 14, .inl ff)), (ap, .inl (cA, 2 * tw_P k, .inl fp)), (ah, .inl (cA, 2 * tw_P k, .inl u.2.1)), (ac, .inl (cA, 2 * tw_P k, .inl u.2.2))] t) (va_A [(h0, .inr (0, [.int (nI (tw_P k)), .int (nI (tw_D k)), .int (nI (tw_I k)), .int (nI n), .ref ai, .ref ar, .ref af, .ref ap, .ref ah, .ref ac, .int (nI fc), .int hk])), (ai, .inl (cA, tw_P k, .inl fi)), (ar, .inl (cA, tw_P k, .inl fr)), (af, .inl (cA, 14, .inl ff)), (ap, .inl (cA, 2 * tw_P k, .inl fp)), (ah, .inl (cA, 2 * tw_P k, .inl fh)), (ac, .inl (cA, 2 * tw_P k, .inl fn))] sz)) 0 0 (va_A [(h0, .inr (0, [.int (nI (tw_P k)), .int (nI (tw_D k)), .int (nI (tw_I k)), .int (nI n), .ref ai, .ref ar, .ref af, .ref ap, .ref ah, .ref ac, .int (nI fc), .int hk])), (ai, .inl (cA, tw_P k, .inl fi)), (ar, .inl (cA, tw_P k, .inl fr)), (af, .inl (cA, 14, .inl ff)), (ap, .inl (cA, 2 * tw_P k, .inl fp)), (ah, .inl (cA, 2 * tw_P k, .inl fh)), (ac, .inl (cA, 2 * tw_P k, .inl fn))] sz) := by
  refine Met.ofW (cc := cX0_howManyHalves) (maxL := 2) (ret := (some .int)) (by decide) rfl ?_
  intro p e s m args below meth c s₁ B hml hv
  obtain ⟨rfl, hsz, hP, hK, hD0⟩ := hv
  have hx := B.exec
  have hb := B.bytes
  have hr := B.returns
  have hts := atoms_spec (ws := wX0_howManyHalves) B.pre
  have ht : ∀ w ∈ tb_all, w.before _ s = true := fun w h => hts w (List.mem_cons_of_mem _ h)
  have hown : s.vm.findClass RX0 = some m.cls := findClass_of_methodNamed B.named
  have hlocks := B.notSynchronized
  have hin : meth.name = "howManyHalves" := (name_of_methodNamed B.named B.method).1
  subst hsz
  have hD := hD0.self (sz := s.heap.size)
  generalize hAe : va_A [(h0, .inr (0, [.int (nI (tw_P k)), .int (nI (tw_D k)), .int (nI (tw_I k)), .int (nI n), .ref ai, .ref ar, .ref af, .ref ap, .ref ah, .ref ac, .int (nI fc), .int hk])), (ai, .inl (cA, tw_P k, .inl fi)), (ar, .inl (cA, tw_P k, .inl fr)), (af, .inl (cA, 14, .inl ff)), (ap, .inl (cA, 2 * tw_P k, .inl fp)), (ah, .inl (cA, 2 * tw_P k, .inl fh)), (ac, .inl (cA, 2 * tw_P k, .inl fn))] s.heap.size = A at hD ⊢
  have hA : ∀ q : Nat, s.heap.size ≤ q → A q := fun q h => by rw [← hAe]; exact Or.inr h
  have hS : va_S A s.heap s.heap [] := va_S.rf
  have hl := lv_entry ([.ref h0, .int (nI (tw_en q9))]) (n := 2) (Nat.le_of_ble_eq_true rfl)
  rw [lg_entry_eq]
  generalize (lg_sl ([.ref h0, .int (nI (tw_en q9))]) ++ List.replicate (2 - (lg_sl ([.ref h0, .int (nI (tw_en q9))])).length) Slot.unset).toArray = ls at hl ⊢
  have hl : lv_has ls 2 [(0, .ref h0), (1, .int (nI (tw_en q9)))] := hl
  obtain ⟨hP0, hP2, hD2, hI2, hDP⟩ := tw_kb hk5
  have hK0 := tw_kK k hk5
  have hP8 : tw_P k ≤ 8192 := by omega
  have zq := tw_en_le hP2 hq9
  have zpl := tw_pl_lt hq9
  refine lv_aload_n hx hb dX0_howManyHalves_0 rfl (lv_at hl 0 rfl) ?_
  have hPc := hP.sub (ws' := [(h0, .inr (0, [.int (nI (tw_P k)), .int (nI (tw_D k)), .int (nI (tw_I k)), .int (nI n), .ref ai, .ref ar, .ref af, .ref ap, .ref ah, .ref ac, .int (nI fc), .int hk])), (ai, .inl (cA, tw_P k, .inl fi)), (ar, .inl (cA, tw_P k, .inl fr)), (af, .inl (cA, 14, .inl ff)), (ap, .inl (cA, 2 * tw_P k, .inl fp)), (ah, .inl (cA, 2 * tw_P k, .inl fh)), (ac, .inl (cA, 2 * tw_P k, .inl fn))]) [0, 1, 2, 3, 4, 5, 6] rfl
  have hDc := hD.sub (ws' := [(h0, .inr (0, [.int (nI (tw_P k)), .int (nI (tw_D k)), .int (nI (tw_I k)), .int (nI n), .ref ai, .ref ar, .ref af, .ref ap, .ref ah, .ref ac, .int (nI fc), .int hk])), (ai, .inl (cA, tw_P k, .inl fi)), (ar, .inl (cA, tw_P k, .inl fr)), (af, .inl (cA, 14, .inl ff)), (ap, .inl (cA, 2 * tw_P k, .inl fp)), (ah, .inl (cA, 2 * tw_P k, .inl fh)), (ac, .inl (cA, 2 * tw_P k, .inl fn))]) [0, 1, 2, 3, 4, 5, 6] (by decide) rfl
  have hFc := va_free (wc := [(h0, .inr (0, [.int (nI (tw_P k)), .int (nI (tw_D k)), .int (nI (tw_I k)), .int (nI n), .ref ai, .ref ar, .ref af, .ref ap, .ref ah, .ref ac, .int (nI fc), .int hk])), (ai, .inl (cA, tw_P k, .inl fi)), (ar, .inl (cA, tw_P k, .inl fr)), (af, .inl (cA, 14, .inl ff)), (ap, .inl (cA, 2 * tw_P k, .inl fp)), (ah, .inl (cA, 2 * tw_P k, .inl fh)), (ac, .inl (cA, 2 * tw_P k, .inl fn))]) hD hS hA [0, 1, 2, 3, 4, 5, 6] rfl
  refine va_callv (va_runV (As := []) (rest := []) ⟨hx, hb, hml, hown, ht⟩ (c_X0_fillHalves l D hk5 hfi hfr hh s.heap.size) (cwV 0 ht (tb_V kl_X0_105 ki_X0_fillHalves ks_X0_fillHalves kn_X0 kc_X0_fillHalves) rfl rfl rfl ⟨rfl, kd_X0_fillHalves⟩ ⟨Nat.le_of_ble_eq_true rfl, Nat.le_of_ble_eq_true rfl⟩) (wd_preV _ hPc hK hDc (va_recv (ci := 0) (q0 := 0) hK hP rfl rfl)) rfl rfl hl.1 rfl (lv_room (Nat.le_of_ble_eq_true rfl)) dX0_howManyHalves_1 ⟨Nat.le_of_ble_eq_true rfl, Nat.le_of_ble_eq_true rfl⟩) hS (fun q _ h => hFc q h) hFc (fun u9 t9 H1 locs ht9 hvm9 hw9 hB9 hz9 hk9 hS => ?_)
  obtain ⟨hP1, hK1, hD1⟩ := hB9
  rw [ht9] at hP1
  obtain ⟨hP, hD⟩ := va_join (wr := []) (w1 := [(h0, .inr (0, [.int (nI (tw_P k)), .int (nI (tw_D k)), .int (nI (tw_I k)), .int (nI n), .ref ai, .ref ar, .ref af, .ref ap, .ref ah, .ref ac, .int (nI fc), .int u9.1])), (ai, .inl (cA, tw_P k, .inl fi)), (ar, .inl (cA, tw_P k, .inl fr)), (af, .inl (cA, 14, .inl ff)), (ap, .inl (cA, 2 * tw_P k, .inl fp)), (ah, .inl (cA, 2 * tw_P k, .inl u9.2.1)), (ac, .inl (cA, 2 * tw_P k, .inl u9.2.2))]) hP hD [0, 1, 2, 3, 4, 5, 6] [] rfl rfl (by decide) (by decide) hk9 hFc hP1 hD1
  have hP := hP.sub (ws' := [(h0, .inr (0, [.int (nI (tw_P k)), .int (nI (tw_D k)), .int (nI (tw_I k)), .int (nI n), .ref ai, .ref ar, .ref af, .ref ap, .ref ah, .ref ac, .int (nI fc), .int u9.1])), (ai, .inl (cA, tw_P k, .inl fi)), (ar, .inl (cA, tw_P k, .inl fr)), (af, .inl (cA, 14, .inl ff)), (ap, .inl (cA, 2 * tw_P k, .inl fp)), (ah, .inl (cA, 2 * tw_P k, .inl u9.2.1)), (ac, .inl (cA, 2 * tw_P k, .inl u9.2.2))]) [0, 1, 2, 3, 4, 5, 6] rfl
  have hD := hD.sub (ws' := [(h0, .inr (0, [.int (nI (tw_P k)), .int (nI (tw_D k)), .int (nI (tw_I k)), .int (nI n), .ref ai, .ref ar, .ref af, .ref ap, .ref ah, .ref ac, .int (nI fc), .int u9.1])), (ai, .inl (cA, tw_P k, .inl fi)), (ar, .inl (cA, tw_P k, .inl fr)), (af, .inl (cA, 14, .inl ff)), (ap, .inl (cA, 2 * tw_P k, .inl fp)), (ah, .inl (cA, 2 * tw_P k, .inl u9.2.1)), (ac, .inl (cA, 2 * tw_P k, .inl u9.2.2))]) [0, 1, 2, 3, 4, 5, 6] (by decide) rfl
  generalize H1 = H at hP hS hz9 ⊢
  refine lv_aload_n hx hb dX0_howManyHalves_4 rfl (lv_at hl 0 rfl) ?_
  refine va_get (D := D) (ci := 0) (v := .ref ac) (C := RX0) (T := TX0) (N := 12) hx hb ht inX0 hown hK hP 0 rfl rfl 9 (by decide) (ht _ kf_X0_29) (fun _ h9 => h9) rfl dX0_howManyHalves_5 ?_
  refine lv_aload_n hx hb dX0_howManyHalves_8 rfl (lv_at hl 0 rfl) ?_
  refine lv_iload_n hx hb dX0_howManyHalves_9 rfl (lv_at hl 1 rfl) ?_
  refine vp_callSi (W.runV (As := [.int (nI (tw_en q9))]) (rest := [.ref ac]) ⟨hx, hb, hml, hown, ht⟩ (c_X0_place l D (x := q9.1) (y := q9.2) (by have := hq9.1; omega) (by have := hq9.2.1; omega)) (cwV 1 ht (tb_V kl_X0_102 ki_X0_place ks_X0_place kn_X0 kc_X0_place) rfl rfl rfl ⟨rfl, kd_X0_place⟩ ⟨Nat.le_of_ble_eq_true rfl, Nat.le_of_ble_eq_true rfl⟩) (cv_preH hP hK hfi hfr _) rfl rfl hl.1 rfl (lv_room (Nat.le_of_ble_eq_true rfl)) dX0_howManyHalves_10 ⟨Nat.zero_le _, Nat.zero_le _⟩) (fun r hr9 => ?_)
  subst hr9
  refine nv_iald (A := fun _ => True) (H0 := s.heap) hx hb hK hP 6 0 rfl rfl zpl (by omega) dX0_howManyHalves_13 ?_
  have hv9 := hw9.2 q9 hq9
  rw [hv9.1]
  exact W.iret hx hb hr (fun t ht9 hW => ⟨⟨_, u9, rfl, ⟨rfl, hw9⟩, by rw [ht9]; exact hP, va_K.moved hW.alike hK, hD⟩, hS.F ht9⟩) hS.2.2 dX0_howManyHalves_14
set_option maxHeartbeats 4000000 in
set_option maxRecDepth 100000 in
theorem c_X0_leastHalf (l : Launch) (D : va_G) {k : Nat} (hk5 : k < 5) {h0 ai ar af ap ah ac : Nat} {cA : ClassId} {n fc : Nat} {hk : Int32} {fi fr ff fp fh fn : Nat → Int32} (hfi : ∀ j, j < tw_P k → fi j = nI (tw_iv (tw_P k) j)) (hfr : ∀ j, j < tw_P k → fr j = tw_rv (tw_P k) j) (hh : cv_hv k hk fh fn) {q9 : Nat × Nat} (hq9 : tw_on (tw_P k) (tw_D k) q9) {p9 : Nat × Nat} (hp9 : tw_hf (tw_P k) (tw_D k) q9 16384 = some p9) (sz : Nat) : Met l yX0_leastHalf wX0_leastHalf ({ frames := 4, cells := 0, slots := 0, locals := 94 }) (va_Pc [.ref h0, .int (nI (tw_en q9))] (wd_pre D [(cA, .int)] [(h0, .inr (0, [.int (nI (tw_P k)), .int (nI (tw_D k)), .int (nI (tw_I k)), .int (nI n), .ref ai, .ref ar, .ref af, .ref ap, .ref ah, .ref ac, .int (nI fc), .int hk])), (ai, .inl (cA, tw_P k, .inl fi)), (ar, .inl (cA, tw_P k, .inl fr)), (af, .inl (cA, 14, .inl ff)), (ap, .inl (cA, 2 * tw_P k, .inl fp)), (ah, .inl (cA, 2 * tw_P k, .inl fh)), (ac, .inl (cA, 2 * tw_P k, .inl fn))] sz)) (va_Qi (fun (r : Int32) (u : Int32 × (Nat → Int32) × (Nat → Int32)) => r = nI (tw_en p9) ∧ u.1 = 1 ∧ hv_ok (tw_P k) (tw_D k) 16384 u.2.1 u.2.2) (fun (u : Int32 × (Nat → Int32) × (Nat → Int32)) t => wd_at D [(cA, .int)] (va_A [(h0, .inr (0, [.int (nI (tw_P k)), .int (nI (tw_D k)), .int (nI (tw_I k)), .int (nI n), .ref ai, .ref ar, .ref af, .ref ap, .ref ah, .ref ac, .int (nI fc), .int hk])), (ai, .inl (cA, tw_P k, .inl fi)), (ar, .inl (cA, tw_P k, .inl fr)), (af, .inl (cA, 14, .inl ff)), (ap, .inl (cA, 2 * tw_P k, .inl fp)), (ah, .inl (cA, 2 * tw_P k, .inl fh)), (ac, .inl (cA, 2 * tw_P k, .inl fn))] sz) [(h0, .inr (0, [.int (nI (tw_P k)), .int (nI (tw_D k)), .int (nI (tw_I k)), .int (nI n), .ref ai, .ref ar, .ref af, .ref ap, .ref ah, .ref ac, .int (nI fc), .int u.1])), (ai, .inl (cA, tw_P k, .inl fi)), (ar, .inl (cA, tw_P k, .inl fr)), (af, .inl (cA, 14, .inl ff)), (ap, .inl (cA, 2 * tw_P k, .inl fp)), (ah, .inl (cA, 2 * tw_P k, .inl u.2.1)), (ac, .inl (cA, 2 * tw_P k, .inl u.2.2))] t) (va_A [(h0, .inr (0, [.int (nI (tw_P k)), .int (nI (tw_D k)), .int (nI (tw_I k)), .int (nI n), .ref ai, .ref ar, .ref af, .ref ap, .ref ah, .ref ac, .int (nI fc), .int hk])), (ai, .inl (cA, tw_P k, .inl fi)), (ar, .inl (cA, tw_P k, .inl fr)), (af, .inl (cA, 14, .inl ff)), (ap, .inl (cA, 2 * tw_P k, .inl fp)), (ah, .inl (cA, 2 * tw_P k, .inl fh)), (ac, .inl (cA, 2 * tw_P k, .inl fn))] sz)) 0 0 (va_A [(h0, .inr (0, [.int (nI (tw_P k)), .int (nI (tw_D k)), .int (nI (tw_I k)), .int (nI n), .ref ai, .ref ar, .ref af, .ref ap, .ref ah, .ref ac, .int (nI fc), .int hk])), (ai, .inl (cA, tw_P k, .inl fi)), (ar, .inl (cA, tw_P k, .inl fr)), (af, .inl (cA, 14, .inl ff)), (ap, .inl (cA, 2 * tw_P k, .inl fp)), (ah, .inl (cA, 2 * tw_P k, .inl fh)), (ac, .inl (cA, 2 * tw_P k, .inl fn))] sz) := by
  refine Met.ofW (cc := cX0_leastHalf) (maxL := 2) (ret := (some .int)) (by decide) rfl ?_
  intro p e s m args below meth c s₁ B hml hv
  obtain ⟨rfl, hsz, hP, hK, hD0⟩ := hv
  have hx := B.exec
  have hb := B.bytes
  have hr := B.returns
  have hts := atoms_spec (ws := wX0_leastHalf) B.pre
  have ht : ∀ w ∈ tb_all, w.before _ s = true := fun w h => hts w (List.mem_cons_of_mem _ h)
  have hown : s.vm.findClass RX0 = some m.cls := findClass_of_methodNamed B.named
  have hlocks := B.notSynchronized
  have hin : meth.name = "leastHalf" := (name_of_methodNamed B.named B.method).1
  subst hsz
  have hD := hD0.self (sz := s.heap.size)
  generalize hAe : va_A [(h0, .inr (0, [.int (nI (tw_P k)), .int (nI (tw_D k)), .int (nI (tw_I k)), .int (nI n), .ref ai, .ref ar, .ref af, .ref ap, .ref ah, .ref ac, .int (nI fc), .int hk])), (ai, .inl (cA, tw_P k, .inl fi)), (ar, .inl (cA, tw_P k, .inl fr)), (af, .inl (cA, 14, .inl ff)), (ap, .inl (cA, 2 * tw_P k, .inl fp)), (ah, .inl (cA, 2 * tw_P k, .inl fh)), (ac, .inl (cA, 2 * tw_P k, .inl fn))] s.heap.size = A at hD ⊢
  have hA : ∀ q : Nat, s.heap.size ≤ q → A q := fun q h => by rw [← hAe]; exact Or.inr h
  have hS : va_S A s.heap s.heap [] := va_S.rf
  have hl := lv_entry ([.ref h0, .int (nI (tw_en q9))]) (n := 2) (Nat.le_of_ble_eq_true rfl)
  rw [lg_entry_eq]
  generalize (lg_sl ([.ref h0, .int (nI (tw_en q9))]) ++ List.replicate (2 - (lg_sl ([.ref h0, .int (nI (tw_en q9))])).length) Slot.unset).toArray = ls at hl ⊢
  have hl : lv_has ls 2 [(0, .ref h0), (1, .int (nI (tw_en q9)))] := hl
  obtain ⟨hP0, hP2, hD2, hI2, hDP⟩ := tw_kb hk5
  have hK0 := tw_kK k hk5
  have hP8 : tw_P k ≤ 8192 := by omega
  have zq := tw_en_le hP2 hq9
  have zpl := tw_pl_lt hq9
  refine lv_aload_n hx hb dX0_leastHalf_0 rfl (lv_at hl 0 rfl) ?_
  have hPc := hP.sub (ws' := [(h0, .inr (0, [.int (nI (tw_P k)), .int (nI (tw_D k)), .int (nI (tw_I k)), .int (nI n), .ref ai, .ref ar, .ref af, .ref ap, .ref ah, .ref ac, .int (nI fc), .int hk])), (ai, .inl (cA, tw_P k, .inl fi)), (ar, .inl (cA, tw_P k, .inl fr)), (af, .inl (cA, 14, .inl ff)), (ap, .inl (cA, 2 * tw_P k, .inl fp)), (ah, .inl (cA, 2 * tw_P k, .inl fh)), (ac, .inl (cA, 2 * tw_P k, .inl fn))]) [0, 1, 2, 3, 4, 5, 6] rfl
  have hDc := hD.sub (ws' := [(h0, .inr (0, [.int (nI (tw_P k)), .int (nI (tw_D k)), .int (nI (tw_I k)), .int (nI n), .ref ai, .ref ar, .ref af, .ref ap, .ref ah, .ref ac, .int (nI fc), .int hk])), (ai, .inl (cA, tw_P k, .inl fi)), (ar, .inl (cA, tw_P k, .inl fr)), (af, .inl (cA, 14, .inl ff)), (ap, .inl (cA, 2 * tw_P k, .inl fp)), (ah, .inl (cA, 2 * tw_P k, .inl fh)), (ac, .inl (cA, 2 * tw_P k, .inl fn))]) [0, 1, 2, 3, 4, 5, 6] (by decide) rfl
  have hFc := va_free (wc := [(h0, .inr (0, [.int (nI (tw_P k)), .int (nI (tw_D k)), .int (nI (tw_I k)), .int (nI n), .ref ai, .ref ar, .ref af, .ref ap, .ref ah, .ref ac, .int (nI fc), .int hk])), (ai, .inl (cA, tw_P k, .inl fi)), (ar, .inl (cA, tw_P k, .inl fr)), (af, .inl (cA, 14, .inl ff)), (ap, .inl (cA, 2 * tw_P k, .inl fp)), (ah, .inl (cA, 2 * tw_P k, .inl fh)), (ac, .inl (cA, 2 * tw_P k, .inl fn))]) hD hS hA [0, 1, 2, 3, 4, 5, 6] rfl
  refine va_callv (va_runV (As := []) (rest := []) ⟨hx, hb, hml, hown, ht⟩ (c_X0_fillHalves l D hk5 hfi hfr hh s.heap.size) (cwV 0 ht (tb_V kl_X0_105 ki_X0_fillHalves ks_X0_fillHalves kn_X0 kc_X0_fillHalves) rfl rfl rfl ⟨rfl, kd_X0_fillHalves⟩ ⟨Nat.le_of_ble_eq_true rfl, Nat.le_of_ble_eq_true rfl⟩) (wd_preV _ hPc hK hDc (va_recv (ci := 0) (q0 := 0) hK hP rfl rfl)) rfl rfl hl.1 rfl (lv_room (Nat.le_of_ble_eq_true rfl)) dX0_leastHalf_1 ⟨Nat.le_of_ble_eq_true rfl, Nat.le_of_ble_eq_true rfl⟩) hS (fun q _ h => hFc q h) hFc (fun u9 t9 H1 locs ht9 hvm9 hw9 hB9 hz9 hk9 hS => ?_)
  obtain ⟨hP1, hK1, hD1⟩ := hB9
  rw [ht9] at hP1
  obtain ⟨hP, hD⟩ := va_join (wr := []) (w1 := [(h0, .inr (0, [.int (nI (tw_P k)), .int (nI (tw_D k)), .int (nI (tw_I k)), .int (nI n), .ref ai, .ref ar, .ref af, .ref ap, .ref ah, .ref ac, .int (nI fc), .int u9.1])), (ai, .inl (cA, tw_P k, .inl fi)), (ar, .inl (cA, tw_P k, .inl fr)), (af, .inl (cA, 14, .inl ff)), (ap, .inl (cA, 2 * tw_P k, .inl fp)), (ah, .inl (cA, 2 * tw_P k, .inl u9.2.1)), (ac, .inl (cA, 2 * tw_P k, .inl u9.2.2))]) hP hD [0, 1, 2, 3, 4, 5, 6] [] rfl rfl (by decide) (by decide) hk9 hFc hP1 hD1
  have hP := hP.sub (ws' := [(h0, .inr (0, [.int (nI (tw_P k)), .int (nI (tw_D k)), .int (nI (tw_I k)), .int (nI n), .ref ai, .ref ar, .ref af, .ref ap, .ref ah, .ref ac, .int (nI fc), .int u9.1])), (ai, .inl (cA, tw_P k, .inl fi)), (ar, .inl (cA, tw_P k, .inl fr)), (af, .inl (cA, 14, .inl ff)), (ap, .inl (cA, 2 * tw_P k, .inl fp)), (ah, .inl (cA, 2 * tw_P k, .inl u9.2.1)), (ac, .inl (cA, 2 * tw_P k, .inl u9.2.2))]) [0, 1, 2, 3, 4, 5, 6] rfl
  have hD := hD.sub (ws' := [(h0, .inr (0, [.int (nI (tw_P k)), .int (nI (tw_D k)), .int (nI (tw_I k)), .int (nI n), .ref ai, .ref ar, .ref af, .ref ap, .ref ah, .ref ac, .int (nI fc), .int u9.1])), (ai, .inl (cA, tw_P k, .inl fi)), (ar, .inl (cA, tw_P k, .inl fr)), (af, .inl (cA, 14, .inl ff)), (ap, .inl (cA, 2 * tw_P k, .inl fp)), (ah, .inl (cA, 2 * tw_P k, .inl u9.2.1)), (ac, .inl (cA, 2 * tw_P k, .inl u9.2.2))]) [0, 1, 2, 3, 4, 5, 6] (by decide) rfl
  generalize H1 = H at hP hS hz9 ⊢
  refine lv_aload_n hx hb dX0_leastHalf_4 rfl (lv_at hl 0 rfl) ?_
  refine va_get (D := D) (ci := 0) (v := .ref ah) (C := RX0) (T := TX0) (N := 12) hx hb ht inX0 hown hK hP 0 rfl rfl 8 (by decide) (ht _ kf_X0_26) (fun _ h9 => h9) rfl dX0_leastHalf_5 ?_
  refine lv_aload_n hx hb dX0_leastHalf_8 rfl (lv_at hl 0 rfl) ?_
  refine lv_iload_n hx hb dX0_leastHalf_9 rfl (lv_at hl 1 rfl) ?_
  refine vp_callSi (W.runV (As := [.int (nI (tw_en q9))]) (rest := [.ref ah]) ⟨hx, hb, hml, hown, ht⟩ (c_X0_place l D (x := q9.1) (y := q9.2) (by have := hq9.1; omega) (by have := hq9.2.1; omega)) (cwV 1 ht (tb_V kl_X0_102 ki_X0_place ks_X0_place kn_X0 kc_X0_place) rfl rfl rfl ⟨rfl, kd_X0_place⟩ ⟨Nat.le_of_ble_eq_true rfl, Nat.le_of_ble_eq_true rfl⟩) (cv_preH hP hK hfi hfr _) rfl rfl hl.1 rfl (lv_room (Nat.le_of_ble_eq_true rfl)) dX0_leastHalf_10 ⟨Nat.zero_le _, Nat.zero_le _⟩) (fun r hr9 => ?_)
  subst hr9
  refine nv_iald (A := fun _ => True) (H0 := s.heap) hx hb hK hP 5 0 rfl rfl zpl (by omega) dX0_leastHalf_13 ?_
  have hv9 := hw9.2 q9 hq9
  rw [hv9.2 p9 hp9]
  exact W.iret hx hb hr (fun t ht9 hW => ⟨⟨_, u9, rfl, ⟨rfl, hw9⟩, by rw [ht9]; exact hP, va_K.moved hW.alike hK, hD⟩, hS.F ht9⟩) hS.2.2 dX0_leastHalf_14
