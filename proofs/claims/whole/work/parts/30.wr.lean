/-! methods that write: the world before and behind -/
abbrev wd_pre (D : va_G) (tys : List (ClassId × FieldType)) (WS : va_W) (sz : Nat) (U : State) : Prop := U.heap.size = sz ∧ va_P D vwCl WS U.heap ∧ va_K D vwCl tys U ∧ va_D (fun _ => True) WS
abbrev wd_at (D : va_G) (tys : List (ClassId × FieldType)) (A : Nat → Prop) (WS : va_W) (t : State) : Prop := va_P D vwCl WS t.heap ∧ va_K D vwCl tys t ∧ va_D A WS
theorem up_at {f : Nat → Int32} {i : Nat} {x : Int32} : upd f i x i = x := pk_us
theorem up_ne {f : Nat → Int32} {i j : Nat} {x : Int32} (h : j ≠ i) : upd f i x j = f j := pk_un h
set_option maxHeartbeats 4000000 in
set_option maxRecDepth 100000 in
theorem c_J7_fill (l : Launch) (D : va_G) {a0 : Nat} {cA : ClassId} {n : Nat} (hn : n < 2 ^ 31) {f : Nat → Int32} {z : Int32} (sz : Nat) : Met l yJ7_fill wJ7_fill ({ frames := 0, cells := 0, slots := 0, locals := 0 }) (va_Pc [.ref a0, .int z] (wd_pre D [(cA, .int)] [(a0, .inl (cA, n, .inl f))] sz)) (va_Qv (fun (u : Nat → Int32) => ∀ j, j < n → u j = z) (fun (u : Nat → Int32) t => wd_at D [(cA, .int)] (va_A [(a0, .inl (cA, n, .inl f))] sz) [(a0, .inl (cA, n, .inl u))] t) (va_A [(a0, .inl (cA, n, .inl f))] sz)) 0 0 (va_A [(a0, .inl (cA, n, .inl f))] sz) := by
  refine va_MetF (cc := cJ7_fill) (maxL := 4) (ret := none) (by decide +kernel) rfl ?_
  intro p e s m args below meth c s₁ B hml hv
  obtain ⟨rfl, hsz, hP, hK, hD0⟩ := hv
  have hx := B.exec
  have hb := B.bytes
  have hr := B.returns
  have hts := atoms_spec (ws := wJ7_fill) B.pre
  have ht : ∀ w ∈ tb_all, w.before _ s = true := fun w h => hts w (List.mem_cons_of_mem _ h)
  have hown : s.vm.findClass RJ7 = some m.cls := findClass_of_methodNamed B.named
  have hlocks := B.notSynchronized
  have hin : meth.name = "fill" := (name_of_methodNamed B.named B.method).1
  subst hsz
  have hD := hD0.self (sz := s.heap.size)
  generalize hAe : va_A [(a0, .inl (cA, n, .inl f))] s.heap.size = A at hD ⊢
  have hA : ∀ q : Nat, s.heap.size ≤ q → A q := fun q h => by rw [← hAe]; exact Or.inr h
  have hS : va_S A s.heap s.heap [] := va_S.rf
  have hl := lv_entry ([.ref a0, .int z]) (n := 4) (Nat.le_of_ble_eq_true rfl)
  rw [lg_entry_eq]
  generalize (lg_sl ([.ref a0, .int z]) ++ List.replicate (4 - (lg_sl ([.ref a0, .int z])).length) Slot.unset).toArray = ls at hl ⊢
  have hl : lv_has ls 4 [(0, .ref a0), (1, .int z)] := hl
  refine lv_iconst (v := (nI 0)) hx hb dJ7_fill_0 (by decide) ?_
  refine lv_istore_n hx hb dJ7_fill_1 rfl hl (by decide) rfl (fun ls hl => ?_)
  have hl : lv_has ls 4 [(2, .int (nI 0)), (0, .ref a0), (1, .int z)] := hl
  refine lv_aload_n hx hb dJ7_fill_2 rfl (lv_at hl 1 rfl) ?_
  have zn : n ≤ 2147483647 := Nat.le_of_lt_succ hn
  refine va_alen (v := nI n) hx hb hK hP 0 0 rfl rfl rfl dJ7_fill_3 ?_
  refine lv_istore_n hx hb dJ7_fill_4 rfl hl (by decide) rfl (fun ls hl => ?_)
  have hl : lv_has ls 4 [(3, .int (nI n)), (2, .int (nI 0)), (0, .ref a0), (1, .int z)] := hl
  have loop : ∀ (f9 i : Nat) (g : Nat → Int32) (H : Heap) (locs : List Loc) (ls : Array Slot), n - i < f9 → i ≤ n → (∀ j, j < i → g j = z) → va_P D vwCl [(a0, .inl (cA, n, .inl g))] H → va_D A [(a0, .inl (cA, n, .inl g))] → va_S A s.heap H locs → lv_has ls 4 [(3, .int (nI n)), (2, .int (nI i)), (0, .ref a0), (1, .int z)] → W p l e (headSpec wJ7_fill ({ frames := 0, cells := 0, slots := 0, locals := 0 })).room s m ([.ref a0, .int z]).toArray below meth c H locs 0 0 (MQ below (va_Qv (fun (u : Nat → Int32) => ∀ j, j < n → u j = z) (fun (u : Nat → Int32) t => wd_at D [(cA, .int)] A [(a0, .inl (cA, n, .inl u))] t) A) ([.ref a0, .int z]).toArray s 0 0 A) (F0 m 5 ls []) := by
    intro f9
    induction f9 with
    | zero => intro i g H locs ls h1; exact absurd h1 (Nat.not_lt_zero _)
    | succ f9 ih =>
      intro i g H locs ls h1 h2 hg hP hD hS hl
      have zi : i ≤ 2147483647 := Nat.le_trans h2 zn
      refine lv_iload_n hx hb dJ7_fill_5 rfl (lv_at hl 1 rfl) ?_
      refine lv_iload_n hx hb dJ7_fill_6 rfl (lv_at hl 0 rfl) ?_
      refine nv_icmp_ge (tgt := 20) hx hb dJ7_fill_7 (by decide) (nv_le (b := 2147483647) zi (by decide)) (nv_le (b := 2147483647) zn (by decide)) (fun c7 => ?_) (fun c7 => ?_)
      · have e8 : i = n := Nat.le_antisymm h2 c7
        subst e8
        exact W.vret hx hb hr (fun t ht9 hW => ⟨⟨g, rfl, hg, by rw [ht9]; exact hP, va_K.moved hW.alike hK, hD⟩, hS.F ht9⟩) hS.2.2 dJ7_fill_20
      · refine lv_aload_n hx hb dJ7_fill_10 rfl (lv_at hl 2 rfl) ?_
        refine lv_iload_n hx hb dJ7_fill_11 rfl (lv_at hl 1 rfl) ?_
        refine lv_iload_n hx hb dJ7_fill_12 rfl (lv_at hl 3 rfl) ?_
        refine nv_iast hx hb hK hP hD hS 0 0 rfl rfl c7 hn dJ7_fill_13 (fun H locs hP hD hS => ?_)
        have hP : va_P D vwCl [(a0, .inl (cA, n, .inl (upd g i z)))] H := hP
        have hD : va_D A [(a0, .inl (cA, n, .inl (upd g i z)))] := hD
        refine lv_iinc hx hb dJ7_fill_14 hl (k := 1) rfl nv_inc (by decide) rfl (fun ls hl => ?_)
        have hl : lv_has ls 4 [(2, .int (nI (i + 1))), (3, .int (nI n)), (0, .ref a0), (1, .int z)] := hl
        refine lv_goto (tgt := 5) hx hb dJ7_fill_17 (by decide) ?_
        refine ih (i + 1) (upd g i z) H locs ls (by omega) (by omega) (fun j hj => ?_) hP hD hS (lv_sub hl [1, 0, 2, 3] rfl)
        by_cases q : j = i
        · rw [q]; exact up_at
        · rw [up_ne q]; exact hg j (by omega)
  exact loop (n + 1) 0 f s.heap [] ls (by omega) (Nat.zero_le _) (fun j hj => absurd hj (Nat.not_lt_zero _)) hP hD hS (lv_sub hl [0, 1, 2, 3] rfl)
set_option maxHeartbeats 4000000 in
set_option maxRecDepth 100000 in
theorem c_X0_fillInverses (l : Launch) (D : va_G) {k : Nat} (hk5 : k < 5) {h0 ai : Nat} {cA : ClassId} {fs : List Value} (h4 : fs[0]? = some (.int (nI (tw_P k)))) (h5 : fs[4]? = some (.ref ai)) (sz : Nat) : Met l yX0_fillInverses wX0_fillInverses ({ frames := 0, cells := 0, slots := 0, locals := 0 }) (va_Pc [.ref h0] (wd_pre D [(cA, .int)] [(h0, .inr (0, fs)), (ai, .inl (cA, tw_P k, .inl (fun _ => 0)))] sz)) (va_Qv (fun (u : Nat → Int32) => ∀ j, j < tw_P k → u j = nI (tw_iv (tw_P k) j)) (fun (u : Nat → Int32) t => wd_at D [(cA, .int)] (va_A [(h0, .inr (0, fs)), (ai, .inl (cA, tw_P k, .inl (fun _ => 0)))] sz) [(h0, .inr (0, fs)), (ai, .inl (cA, tw_P k, .inl u))] t) (va_A [(h0, .inr (0, fs)), (ai, .inl (cA, tw_P k, .inl (fun _ => 0)))] sz)) 0 0 (va_A [(h0, .inr (0, fs)), (ai, .inl (cA, tw_P k, .inl (fun _ => 0)))] sz) := by
  refine Met.ofW (cc := cX0_fillInverses) (maxL := 2) (ret := none) (by decide) rfl ?_
  intro p e s m args below meth c s₁ B hml hv
  obtain ⟨rfl, hsz, hP, hK, hD0⟩ := hv
  have hx := B.exec
  have hb := B.bytes
  have hr := B.returns
  have hts := atoms_spec (ws := wX0_fillInverses) B.pre
  have ht : ∀ w ∈ tb_all, w.before _ s = true := fun w h => hts w (List.mem_cons_of_mem _ h)
  have hown : s.vm.findClass RX0 = some m.cls := findClass_of_methodNamed B.named
  have hlocks := B.notSynchronized
  have hin : meth.name = "fillInverses" := (name_of_methodNamed B.named B.method).1
  subst hsz
  have hD := hD0.self (sz := s.heap.size)
  generalize hAe : va_A [(h0, .inr (0, fs)), (ai, .inl (cA, tw_P k, .inl (fun _ => 0)))] s.heap.size = A at hD ⊢
  have hA : ∀ q : Nat, s.heap.size ≤ q → A q := fun q h => by rw [← hAe]; exact Or.inr h
  have hS : va_S A s.heap s.heap [] := va_S.rf
  have hl := lv_entry ([.ref h0]) (n := 2) (Nat.le_of_ble_eq_true rfl)
  rw [lg_entry_eq]
  generalize (lg_sl ([.ref h0]) ++ List.replicate (2 - (lg_sl ([.ref h0])).length) Slot.unset).toArray = ls at hl ⊢
  have hl : lv_has ls 2 [(0, .ref h0)] := hl
  obtain ⟨hP0, hP2, hD2, hI2, hDP⟩ := tw_kb hk5
  have hK0 := tw_kK k hk5
  have hP3 := hK0.1
  refine lv_aload_n hx hb dX0_fillInverses_0 rfl (lv_at hl 0 rfl) ?_
  refine va_get (D := D) (ci := 0) (v := .ref ai) (C := RX0) (T := TX0) (N := 12) hx hb ht inX0 hown hK hP 0 rfl rfl 4 (by decide) (ht _ kf_X0_13) (fun _ h9 => h9) h5 dX0_fillInverses_1 ?_
  refine lv_iconst (v := (nI 1)) hx hb dX0_fillInverses_4 (by decide) ?_
  refine lv_iconst (v := (nI 1)) hx hb dX0_fillInverses_5 (by decide) ?_
  refine nv_iast hx hb hK hP hD hS 1 0 rfl rfl (by omega) (nv_le hP2 (by decide)) dX0_fillInverses_6 (fun H locs hP hD hS => ?_)
  have hP : va_P D vwCl [(h0, .inr (0, fs)), (ai, .inl (cA, tw_P k, .inl (upd (fun _ => 0) 1 (nI 1))))] H := hP
  have hD : va_D A [(h0, .inr (0, fs)), (ai, .inl (cA, tw_P k, .inl (upd (fun _ => 0) 1 (nI 1))))] := hD
  refine lv_iconst (v := (nI 2)) hx hb dX0_fillInverses_7 (by decide) ?_
  refine lv_istore_n hx hb dX0_fillInverses_8 rfl hl (by decide) rfl (fun ls hl => ?_)
  have hl : lv_has ls 2 [(1, .int (nI 2)), (0, .ref h0)] := hl
  have loop : ∀ (f9 i : Nat) (g : Nat → Int32) (H : Heap) (locs : List Loc) (ls : Array Slot), tw_P k - i < f9 → 2 ≤ i → i ≤ tw_P k → (∀ j, j < i → g j = nI (tw_iv (tw_P k) j)) → va_P D vwCl [(h0, .inr (0, fs)), (ai, .inl (cA, tw_P k, .inl g))] H → va_D A [(h0, .inr (0, fs)), (ai, .inl (cA, tw_P k, .inl g))] → va_S A s.heap H locs → lv_has ls 2 [(1, .int (nI i)), (0, .ref h0)] → W p l e (headSpec wX0_fillInverses ({ frames := 0, cells := 0, slots := 0, locals := 0 })).room s m ([.ref h0]).toArray below meth c H locs 0 0 (MQ below (va_Qv (fun (u : Nat → Int32) => ∀ j, j < tw_P k → u j = nI (tw_iv (tw_P k) j)) (fun (u : Nat → Int32) t => wd_at D [(cA, .int)] A [(h0, .inr (0, fs)), (ai, .inl (cA, tw_P k, .inl u))] t) A) ([.ref h0]).toArray s 0 0 A) (F0 m 9 ls []) := by
    intro f9
    induction f9 with
    | zero => intro i g H locs ls h1; exact absurd h1 (Nat.not_lt_zero _)
    | succ f9 ih =>
      intro i g H locs ls h1 h2 h3 hg hP hD hS hl
      have zi : i ≤ 8101 := Nat.le_trans h3 hP2
      refine lv_iload_n hx hb dX0_fillInverses_9 rfl (lv_at hl 0 rfl) ?_
      refine lv_aload_n hx hb dX0_fillInverses_10 rfl (lv_at hl 1 rfl) ?_
      refine va_get (D := D) (ci := 0) (v := .int (nI (tw_P k))) (C := RX0) (T := TX0) (N := 12) hx hb ht inX0 hown hK hP 0 rfl rfl 0 (by decide) (ht _ kf_X0_9) (fun _ h9 => h9) h4 dX0_fillInverses_11 ?_
      refine nv_icmp_ge (tgt := 57) hx hb dX0_fillInverses_14 (by decide) (nv_le (b := 8101) zi (by decide)) (nv_le (b := 8101) hP2 (by decide)) (fun c14 => ?_) (fun c14 => ?_)
      · have e8 : i = tw_P k := Nat.le_antisymm h3 c14
        subst e8
        exact W.vret hx hb hr (fun t ht9 hW => ⟨⟨g, rfl, hg, by rw [ht9]; exact hP, va_K.moved hW.alike hK, hD⟩, hS.F ht9⟩) hS.2.2 dX0_fillInverses_57
      · have hrem : tw_P k % i < i := Nat.mod_lt _ (by omega)
        refine lv_aload_n hx hb dX0_fillInverses_17 rfl (lv_at hl 1 rfl) ?_
        refine va_get (D := D) (ci := 0) (v := .ref ai) (C := RX0) (T := TX0) (N := 12) hx hb ht inX0 hown hK hP 0 rfl rfl 4 (by decide) (ht _ kf_X0_13) (fun _ h9 => h9) h5 dX0_fillInverses_18 ?_
        refine lv_iload_n hx hb dX0_fillInverses_21 rfl (lv_at hl 0 rfl) ?_
        refine lv_aload_n hx hb dX0_fillInverses_22 rfl (lv_at hl 1 rfl) ?_
        refine va_get (D := D) (ci := 0) (v := .int (nI (tw_P k))) (C := RX0) (T := TX0) (N := 12) hx hb ht inX0 hown hK hP 0 rfl rfl 0 (by decide) (ht _ kf_X0_9) (fun _ h9 => h9) h4 dX0_fillInverses_23 ?_
        refine lv_aload_n hx hb dX0_fillInverses_26 rfl (lv_at hl 1 rfl) ?_
        refine va_get (D := D) (ci := 0) (v := .int (nI (tw_P k))) (C := RX0) (T := TX0) (N := 12) hx hb ht inX0 hown hK hP 0 rfl rfl 0 (by decide) (ht _ kf_X0_9) (fun _ h9 => h9) h4 dX0_fillInverses_27 ?_
        refine lv_iload_n hx hb dX0_fillInverses_30 rfl (lv_at hl 0 rfl) ?_
        refine nv_idiv hx hb dX0_fillInverses_31 (by omega) (nv_le (b := 8101) hP2 (by decide)) (nv_le (b := 8101) zi (by decide)) ?_
        refine nv_isub hx hb dX0_fillInverses_32 (Nat.div_le_self _ _) ?_
        refine lv_aload_n hx hb dX0_fillInverses_33 rfl (lv_at hl 1 rfl) ?_
        refine va_get (D := D) (ci := 0) (v := .ref ai) (C := RX0) (T := TX0) (N := 12) hx hb ht inX0 hown hK hP 0 rfl rfl 4 (by decide) (ht _ kf_X0_13) (fun _ h9 => h9) h5 dX0_fillInverses_34 ?_
        refine lv_aload_n hx hb dX0_fillInverses_37 rfl (lv_at hl 1 rfl) ?_
        refine va_get (D := D) (ci := 0) (v := .int (nI (tw_P k))) (C := RX0) (T := TX0) (N := 12) hx hb ht inX0 hown hK hP 0 rfl rfl 0 (by decide) (ht _ kf_X0_9) (fun _ h9 => h9) h4 dX0_fillInverses_38 ?_
        refine lv_iload_n hx hb dX0_fillInverses_41 rfl (lv_at hl 0 rfl) ?_
        refine nv_irem hx hb dX0_fillInverses_42 (by omega) (nv_le (b := 8101) hP2 (by decide)) (nv_le (b := 8101) zi (by decide)) ?_
        refine nv_iald (A := fun _ => True) (H0 := s.heap) hx hb hK hP 1 0 rfl rfl (by omega) (nv_le hP2 (by decide)) dX0_fillInverses_43 ?_
        rw [hg _ hrem]
        refine nv_imul hx hb dX0_fillInverses_44 ?_
        refine lv_aload_n hx hb dX0_fillInverses_45 rfl (lv_at hl 1 rfl) ?_
        refine va_get (D := D) (ci := 0) (v := .int (nI (tw_P k))) (C := RX0) (T := TX0) (N := 12) hx hb ht inX0 hown hK hP 0 rfl rfl 0 (by decide) (ht _ kf_X0_9) (fun _ h9 => h9) h4 dX0_fillInverses_46 ?_
        refine nv_irem hx hb dX0_fillInverses_49 hP0 (nv_le (b := 65618100) (Nat.mul_le_mul (Nat.le_trans (Nat.sub_le _ _) hP2) (Nat.le_of_lt_succ (Nat.lt_of_lt_of_le (tw_iv_lt hP0 _) hP2))) (by decide)) (nv_le (b := 8101) hP2 (by decide)) ?_
        refine nv_iast hx hb hK hP hD hS 1 0 rfl rfl c14 (nv_le hP2 (by decide)) dX0_fillInverses_50 (fun H locs hP hD hS => ?_)
        have hP : va_P D vwCl [(h0, .inr (0, fs)), (ai, .inl (cA, tw_P k, .inl (upd g i (nI ((((tw_P k) - ((tw_P k) / i)) * (tw_iv (tw_P k) (tw_P k % i))) % (tw_P k))))))] H := hP
        have hD : va_D A [(h0, .inr (0, fs)), (ai, .inl (cA, tw_P k, .inl (upd g i (nI ((((tw_P k) - ((tw_P k) / i)) * (tw_iv (tw_P k) (tw_P k % i))) % (tw_P k))))))] := hD
        refine lv_iinc hx hb dX0_fillInverses_51 hl (k := 0) rfl nv_inc (by decide) rfl (fun ls hl => ?_)
        have hl : lv_has ls 2 [(1, .int (nI (i + 1))), (0, .ref h0)] := hl
        refine lv_goto (tgt := 9) hx hb dX0_fillInverses_54 (by decide) ?_
        refine ih (i + 1) (upd g i (nI ((((tw_P k) - ((tw_P k) / i)) * (tw_iv (tw_P k) (tw_P k % i))) % (tw_P k)))) H locs ls (by omega) (by omega) (by omega) (fun j hj => ?_) hP hD hS (lv_sub hl [0, 1] rfl)
        by_cases q : j = i
        · rw [q, up_at, tw_iv_rec hK0 h2 c14]
        · rw [up_ne q]; exact hg j (by omega)
  refine loop (tw_P k) 2 _ H locs ls (by omega) (Nat.le_refl 2) (by omega) (fun j hj => ?_) hP hD hS (lv_sub hl [0, 1] rfl)
  have hj2 : j = 0 ∨ j = 1 := by omega
  rcases hj2 with q | q
  · rw [q, tw_iv_0 hK0]; rfl
  · rw [q, tw_iv_1 hK0]; rfl
theorem tw_Dk : ∀ k, k < 5 → 2 ≤ tw_D k ∧ tw_D k < tw_P k - 1 := by decide
theorem tw_Dsq : ∀ k, k < 5 → ∀ j, j < tw_D k → 2 ≤ j → (tw_rt (tw_P k) j).isSome = true := by
  intro k hk
  match k, hk with
  | 0, _ => intro j h1 h2; exact absurd (show j < 2 from h1) (by omega)
  | 1, _ => intro j h1 h2; exact absurd (show j < 2 from h1) (by omega)
  | 2, _ => intro j h1 h2; exact absurd (show j < 2 from h1) (by omega)
  | 3, _ =>
    intro j h1 h2
    show (tw_rt 1009 j).isSome = true
    rw [tw_rt_bs (by decide) (by decide) tw_b3]
    have h3 : j < 11 := h1
    have h4 : ∀ j, j < 11 → 2 ≤ j → tw_B3.testBit j = true := by decide +kernel
    exact h4 j h3 h2
  | 4, _ => intro j h1 h2; exact absurd (show j < 2 from h1) (by omega)

set_option maxHeartbeats 4000000 in
set_option maxRecDepth 100000 in
theorem c_X0_leastNonSquare (l : Launch) (D : va_G) {k : Nat} (hk5 : k < 5) {h0 ar : Nat} {cA : ClassId} {fs : List Value} (h4 : fs[0]? = some (.int (nI (tw_P k)))) (h5 : fs[5]? = some (.ref ar)) {fr : Nat → Int32} (hfr : ∀ j, j < tw_P k → fr j = tw_rv (tw_P k) j) : Met l yX0_leastNonSquare wX0_leastNonSquare ({ frames := 0, cells := 0, slots := 0, locals := 0 }) (va_Pc [.ref h0] (fun U => va_P D vwCl [(h0, .inr (0, fs)), (ar, .inl (cA, tw_P k, .inl fr))] U.heap ∧ va_K D vwCl [(cA, .int)] U)) (vp_Si (fun r => r = nI (tw_D k))) 0 0 (fun _ => False) := by
  refine Met.ofW (cc := cX0_leastNonSquare) (maxL := 2) (ret := (some .int)) (by decide) rfl ?_
  intro p e s m args below meth c s₁ B hml hv
  obtain ⟨rfl, hv⟩ := hv
  have hx := B.exec
  have hb := B.bytes
  have hr := B.returns
  have hts := atoms_spec (ws := wX0_leastNonSquare) B.pre
  have ht : ∀ w ∈ tb_all, w.before _ s = true := fun w h => hts w (List.mem_cons_of_mem _ h)
  have hown : s.vm.findClass RX0 = some m.cls := findClass_of_methodNamed B.named
  have hlocks := B.notSynchronized
  have hl := lv_entry ([.ref h0]) (n := 2) (Nat.le_of_ble_eq_true rfl)
  rw [lg_entry_eq]
  generalize (lg_sl ([.ref h0]) ++ List.replicate (2 - (lg_sl ([.ref h0])).length) Slot.unset).toArray = ls at hl ⊢
  have hl : lv_has ls 2 [(0, .ref h0)] := hl
  obtain ⟨hP, hK⟩ := hv
  obtain ⟨hP0, hP2, hD2, hI2, hDP⟩ := tw_kb hk5
  have hK0 := tw_kK k hk5
  have hDk := tw_Dk k hk5
  refine lv_iconst (v := (nI 2)) hx hb dX0_leastNonSquare_0 (by decide) ?_
  refine lv_istore_n hx hb dX0_leastNonSquare_1 rfl hl (by decide) rfl (fun ls hl => ?_)
  have hl : lv_has ls 2 [(1, .int (nI 2)), (0, .ref h0)] := hl
  have loop : ∀ (f9 i : Nat) (ls : Array Slot), tw_P k - i < f9 → 2 ≤ i → i ≤ tw_D k → lv_has ls 2 [(1, .int (nI i)), (0, .ref h0)] → W p l e (headSpec wX0_leastNonSquare ({ frames := 0, cells := 0, slots := 0, locals := 0 })).room s m ([.ref h0]).toArray below meth c s.heap [] 0 0 (MQ below (vp_Si (fun r => r = nI (tw_D k))) ([.ref h0]).toArray s 0 0 (fun _ => False)) (F0 m 2 ls []) := by
    intro f9
    induction f9 with
    | zero => intro i ls h1; exact absurd h1 (Nat.not_lt_zero _)
    | succ f9 ih =>
      intro i ls h1 h2 h3 hl
      have zi : i ≤ 8100 := Nat.le_trans h3 hD2
      refine lv_iload_n hx hb dX0_leastNonSquare_2 rfl (lv_at hl 0 rfl) ?_
      refine lv_aload_n hx hb dX0_leastNonSquare_3 rfl (lv_at hl 1 rfl) ?_
      refine va_get (D := D) (ci := 0) (v := .int (nI (tw_P k))) (C := RX0) (T := TX0) (N := 12) hx hb ht inX0 hown hK hP 0 rfl rfl 0 (by decide) (ht _ kf_X0_9) (fun _ h9 => h9) h4 dX0_leastNonSquare_4 ?_
      refine lv_iconst (v := (nI 1)) hx hb dX0_leastNonSquare_7 (by decide) ?_
      refine nv_isub hx hb dX0_leastNonSquare_8 hP0 ?_
      refine nv_icmp_ge (tgt := 27) hx hb dX0_leastNonSquare_9 (by decide) (nv_le (b := 8100) zi (by decide)) (nv_le (b := 8101) (Nat.le_trans (Nat.sub_le _ _) hP2) (by decide)) (fun c9 => ?_) (fun c9 => ?_)
      · exact absurd c9 (by omega)
      · refine lv_aload_n hx hb dX0_leastNonSquare_12 rfl (lv_at hl 1 rfl) ?_
        refine va_get (D := D) (ci := 0) (v := .ref ar) (C := RX0) (T := TX0) (N := 12) hx hb ht inX0 hown hK hP 0 rfl rfl 5 (by decide) (ht _ kf_X0_17) (fun _ h9 => h9) h5 dX0_leastNonSquare_13 ?_
        refine lv_iload_n hx hb dX0_leastNonSquare_16 rfl (lv_at hl 0 rfl) ?_
        refine nv_iald (A := fun _ => True) (H0 := s.heap) hx hb hK hP 1 0 rfl rfl (by omega) (nv_le hP2 (by decide)) dX0_leastNonSquare_17 ?_
        rw [hfr _ (by omega)]
        by_cases e8 : i = tw_D k
        · have e9 : tw_rv (tw_P k) i = -1 := by rw [e8]; unfold tw_rv; rw [tw_rt_D hK0]
          rw [e9]
          refine nv_if_ltM (tgt := 27) hx hb dX0_leastNonSquare_18 (by decide) ?_
          refine lv_iload_n hx hb dX0_leastNonSquare_27 rfl (lv_at hl 0 rfl) ?_
          exact W.iret hx hb hr (fun t ht hW => ⟨_, rfl, by rw [e8], ht⟩) (fun q h => nomatch h) dX0_leastNonSquare_28
        · have e9 : ∃ r, tw_rt (tw_P k) i = some r := Option.isSome_iff_exists.mp (tw_Dsq k hk5 i (by omega) h2)
          obtain ⟨r9, e9⟩ := e9
          have e7 : tw_rv (tw_P k) i = nI r9 := by unfold tw_rv; rw [e9]
          rw [e7]
          have hr5 := tw_rt_some e9
          have zr : r9 ≤ 8100 := by omega
          refine nv_if_lt (tgt := 27) hx hb dX0_leastNonSquare_18 (by decide) (nv_le (b := 8100) zr (by decide)) ?_
          refine lv_iinc hx hb dX0_leastNonSquare_21 hl (k := 0) rfl nv_inc (by decide) rfl (fun ls hl => ?_)
          have hl : lv_has ls 2 [(1, .int (nI (i + 1))), (0, .ref h0)] := hl
          refine lv_goto (tgt := 2) hx hb dX0_leastNonSquare_24 (by decide) ?_
          exact ih (i + 1) ls (by omega) (by omega) (by omega) (lv_sub hl [0, 1] rfl)
  exact loop (tw_P k) 2 ls (by omega) (Nat.le_refl 2) hDk.1 (lv_sub hl [0, 1] rfl)
