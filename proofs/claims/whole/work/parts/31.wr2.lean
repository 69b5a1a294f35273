/-! the rest of a curve's making -/
theorem wd_preS {D : va_G} {tys : List (ClassId × FieldType)} {WS : va_W} {A : Nat → Prop} {s : State} {H : Heap} (As : List Value) (hP : va_P D vwCl WS H) (hK : va_K D vwCl tys s) (hD : va_D A WS) : PreS s H (va_Pc As (wd_pre D tys WS H.size)) As :=
  ⟨fun a U g mk q => ⟨q.1, q.2.1, q.2.2.1, va_K.moved (u := U) (U := U.calling g mk a) (Vm.Alike.refl U.vm) q.2.2.2.1, q.2.2.2.2⟩, fun U hU hW => ⟨rfl, by rw [hU], by rw [hU]; exact hP, va_K.moved hW.alike hK, hD.weaken (fun _ _ _ _ => trivial)⟩⟩
theorem wd_preV {D : va_G} {tys : List (ClassId × FieldType)} {WS : va_W} {A : Nat → Prop} {s : State} {H : Heap} {C : String} {b : Nat} (As : List Value) (hP : va_P D vwCl WS H) (hK : va_K D vwCl tys s) (hD : va_D A WS) (hc : ∃ cell : Cell, H[b]? = some cell ∧ cell.vm.isStatics = false ∧ s.vm.findClass C = some cell.cls) : PreV s H C b (va_Pc (.ref b :: As) (wd_pre D tys WS H.size)) As :=
  ⟨fun a U g mk q => ⟨q.1, q.2.1, q.2.2.1, va_K.moved (u := U) (U := U.calling g mk a) (Vm.Alike.refl U.vm) q.2.2.2.1, q.2.2.2.2⟩, hc, fun U hU hW => ⟨rfl, by rw [hU], by rw [hU]; exact hP, va_K.moved hW.alike hK, hD.weaken (fun _ _ _ _ => trivial)⟩⟩
def tw_rvi (P i w : Nat) : Int32 := match tw_rt P w with
  | none => -1
  | some r => if r < i then nI r else -1
theorem tw_rvi_0 (P w : Nat) : tw_rvi P 0 w = -1 := by
  unfold tw_rvi
  cases tw_rt P w <;> rfl
theorem tw_rvi_e {P D I i : Nat} (h : tw_K P D I) (hi : P / 2 < i) (w : Nat) : tw_rvi P i w = tw_rv P w := by
  unfold tw_rvi tw_rv
  cases e : tw_rt P w with
  | none => rfl
  | some r =>
    have q := tw_rt_half D I h e
    show (if r < i then nI r else -1) = nI r
    rw [if_pos (by omega)]
theorem tw_rvi_s {P D I i : Nat} (h : tw_K P D I) (hi : i ≤ P / 2) {g : Nat → Int32} (hg : ∀ w, w < P → g w = tw_rvi P i w) : ∀ w, w < P → upd g (i * i % P) (nI i) w = tw_rvi P (i + 1) w := by
  intro w hw
  have ho := h.2.1
  have h2 : 2 * i < P := by omega
  by_cases q : w = i * i % P
  · rw [q, up_at]
    unfold tw_rvi
    rw [tw_rt_small D I h h2]
    show nI i = if i < i + 1 then nI i else -1
    rw [if_pos (Nat.lt_succ_self i)]
  · rw [up_ne q, hg w hw]
    unfold tw_rvi
    cases e : tw_rt P w with
    | none => rfl
    | some r =>
      obtain ⟨r1, r2, -⟩ := tw_rt_some e
      have hne : r ≠ i := by
        intro z
        exact q (by rw [← r2, z])
      show (if r < i then nI r else -1) = if r < i + 1 then nI r else -1
      by_cases c : r < i
      · rw [if_pos c, if_pos (by omega)]
      · rw [if_neg c, if_neg (by omega)]
/-- factors found one by one -/
def tw_ff : Nat → Nat → Nat → List Nat → List Nat
  | 0, _, _, acc => acc
  | u + 1, f, r, acc => if r < f then acc else if r % f = 0 then tw_ff u f (r / f) (acc ++ [f]) else tw_ff u (f + 1) r acc
theorem tw_ff_k : ∀ k, k < 5 → tw_ff 20000 2 (tw_N k) [] = tw_fs k := tw_c5 (by decide +kernel) (by decide +kernel) (by decide +kernel) (by decide +kernel) (by decide +kernel)
theorem tw_ff_len : ∀ (u f r : Nat) (acc : List Nat), acc.length ≤ (tw_ff u f r acc).length
  | 0, _, _, acc => Nat.le_refl _
  | u + 1, f, r, acc => by
    show acc.length ≤ (if r < f then acc else if r % f = 0 then tw_ff u f (r / f) (acc ++ [f]) else tw_ff u (f + 1) r acc).length
    split
    · exact Nat.le_refl _
    · split
      · have q := tw_ff_len u f (r / f) (acc ++ [f])
        rw [List.length_append] at q
        exact Nat.le_trans (Nat.le_add_right _ _) q
      · exact tw_ff_len u (f + 1) r acc
theorem tw_ff_lt {u f r : Nat} {acc : List Nat} (h : r < f) : tw_ff u f r acc = acc := by
  cases u with
  | zero => rfl
  | succ u =>
    show (if r < f then acc else _) = acc
    rw [if_pos h]
theorem tw_ff_dv {u f r : Nat} {acc : List Nat} (h : ¬ r < f) (h2 : r % f = 0) : tw_ff (u + 1) f r acc = tw_ff u f (r / f) (acc ++ [f]) := by
  show (if r < f then acc else if r % f = 0 then tw_ff u f (r / f) (acc ++ [f]) else tw_ff u (f + 1) r acc) = _
  rw [if_neg h, if_pos h2]
theorem tw_ff_nx {u f r : Nat} {acc : List Nat} (h : ¬ r < f) (h2 : ¬ r % f = 0) : tw_ff (u + 1) f r acc = tw_ff u (f + 1) r acc := by
  show (if r < f then acc else if r % f = 0 then tw_ff u f (r / f) (acc ++ [f]) else tw_ff u (f + 1) r acc) = _
  rw [if_neg h, if_neg h2]
theorem tw_gapp {acc : List Nat} {f : Nat} {g : Nat → Int32} (hg : ∀ j, j < acc.length → g j = nI (acc.getD j 0)) : ∀ j, j < (acc ++ [f]).length → upd g acc.length (nI f) j = nI ((acc ++ [f]).getD j 0) := by
  intro j hj
  rw [List.length_append] at hj
  have hj2 : j < acc.length + 1 := hj
  by_cases q : j = acc.length
  · rw [q, up_at]
    simp [List.getD_eq_getElem?_getD]
  · have h3 : j < acc.length := by omega
    rw [up_ne q, hg j h3]
    simp [List.getD_eq_getElem?_getD, List.getElem?_append_left h3]
theorem tw_nyb (P D y : Nat) : tw_ny P D y ≤ 2 := by
  unfold tw_ny
  split
  · exact Nat.zero_le _
  · split <;> omega
theorem tw_syb (P D : Nat) : ∀ n, tw_sum (tw_ny P D) n ≤ 2 * n
  | 0 => Nat.le_refl _
  | n + 1 => by
    have a := tw_syb P D n
    have b := tw_nyb P D n
    show tw_sum (tw_ny P D) n + tw_ny P D n ≤ 2 * (n + 1)
    omega
set_option maxHeartbeats 4000000 in
set_option maxRecDepth 100000 in
theorem c_X0_fillRoots (l : Launch) (D : va_G) {k : Nat} (hk5 : k < 5) {h0 ar : Nat} {cA : ClassId} {fs : List Value} (h4 : fs[0]? = some (.int (nI (tw_P k)))) (h5 : fs[5]? = some (.ref ar)) {f : Nat → Int32} (sz : Nat) : Met l yX0_fillRoots wX0_fillRoots ({ frames := 1, cells := 0, slots := 0, locals := 23 }) (va_Pc [.ref h0] (wd_pre D [(cA, .int)] [(h0, .inr (0, fs)), (ar, .inl (cA, tw_P k, .inl f))] sz)) (va_Qv (fun (u : Nat → Int32) => ∀ j, j < tw_P k → u j = tw_rv (tw_P k) j) (fun (u : Nat → Int32) t => wd_at D [(cA, .int)] (va_A [(h0, .inr (0, fs)), (ar, .inl (cA, tw_P k, .inl f))] sz) [(h0, .inr (0, fs)), (ar, .inl (cA, tw_P k, .inl u))] t) (va_A [(h0, .inr (0, fs)), (ar, .inl (cA, tw_P k, .inl f))] sz)) 0 0 (va_A [(h0, .inr (0, fs)), (ar, .inl (cA, tw_P k, .inl f))] sz) := by
  refine Met.ofW (cc := cX0_fillRoots) (maxL := 2) (ret := none) (by decide) rfl ?_
  intro p e s m args below meth c s₁ B hml hv
  obtain ⟨rfl, hsz, hP, hK, hD0⟩ := hv
  have hx := B.exec
  have hb := B.bytes
  have hr := B.returns
  have hts := atoms_spec (ws := wX0_fillRoots) B.pre
  have ht : ∀ w ∈ tb_all, w.before _ s = true := fun w h => hts w (List.mem_cons_of_mem _ h)
  have hown : s.vm.findClass RX0 = some m.cls := findClass_of_methodNamed B.named
  have hlocks := B.notSynchronized
  have hin : meth.name = "fillRoots" := (name_of_methodNamed B.named B.method).1
  subst hsz
  have hD := hD0.self (sz := s.heap.size)
  generalize hAe : va_A [(h0, .inr (0, fs)), (ar, .inl (cA, tw_P k, .inl f))] s.heap.size = A at hD ⊢
  have hA : ∀ q : Nat, s.heap.size ≤ q → A q := fun q h => by rw [← hAe]; exact Or.inr h
  have hS : va_S A s.heap s.heap [] := va_S.rf
  have hl := lv_entry ([.ref h0]) (n := 2) (Nat.le_of_ble_eq_true rfl)
  rw [lg_entry_eq]
  generalize (lg_sl ([.ref h0]) ++ List.replicate (2 - (lg_sl ([.ref h0])).length) Slot.unset).toArray = ls at hl ⊢
  have hl : lv_has ls 2 [(0, .ref h0)] := hl
  obtain ⟨hP0, hP2, hD2, hI2, hDP⟩ := tw_kb hk5
  have hK0 := tw_kK k hk5
  refine lv_aload_n hx hb dX0_fillRoots_0 rfl (lv_at hl 0 rfl) ?_
  refine va_get (D := D) (ci := 0) (v := .ref ar) (C := RX0) (T := TX0) (N := 12) hx hb ht inX0 hown hK hP 0 rfl rfl 5 (by decide) (ht _ kf_X0_17) (fun _ h9 => h9) h5 dX0_fillRoots_1 ?_
  refine lv_iconst (v := (-1)) hx hb dX0_fillRoots_4 (by decide) ?_
  have hPc := hP.sub (ws' := [(ar, .inl (cA, tw_P k, .inl f))]) [1] rfl
  have hDc := hD.sub (ws' := [(ar, .inl (cA, tw_P k, .inl f))]) [1] (by decide) rfl
  have hFc := va_free (wc := [(ar, .inl (cA, tw_P k, .inl f))]) hD hS hA [1] rfl
  refine va_callv (va_runS (As := [.ref ar, .int (-1)]) (rest := []) ⟨hx, hb, hml, hown, ht⟩ (c_J7_fill l D (nv_le hP2 (by decide)) s.heap.size) (va_cwS 2 ht (tb_S kl_X0_108 kt_J7_fill kn_J7 kc_J7_fill) rfl rfl rfl kd_J7_fill ⟨Nat.le_of_ble_eq_true rfl, Nat.le_of_ble_eq_true rfl⟩) (wd_preS _ hPc hK hDc) rfl rfl hl.1 rfl (lv_room (Nat.le_of_ble_eq_true rfl)) dX0_fillRoots_5 ⟨Nat.le_of_ble_eq_true rfl, Nat.le_of_ble_eq_true rfl⟩) hS (fun q _ h => hFc q h) hFc (fun u9 t9 H1 locs ht9 hvm9 hw9 hB9 hz9 hk9 hS => ?_)
  obtain ⟨hP1, hK1, hD1⟩ := hB9
  rw [ht9] at hP1
  obtain ⟨hP, hD⟩ := va_join (wr := [(h0, .inr (0, fs))]) (w1 := [(ar, .inl (cA, tw_P k, .inl u9))]) hP hD [1] [0] rfl rfl (by decide) (by decide) hk9 hFc hP1 hD1
  have hP := hP.sub (ws' := [(h0, .inr (0, fs)), (ar, .inl (cA, tw_P k, .inl u9))]) [0, 1] rfl
  have hD := hD.sub (ws' := [(h0, .inr (0, fs)), (ar, .inl (cA, tw_P k, .inl u9))]) [0, 1] (by decide) rfl
  generalize H1 = H at hP hS hz9 ⊢
  refine lv_iconst (v := (nI 0)) hx hb dX0_fillRoots_8 (by decide) ?_
  refine lv_istore_n hx hb dX0_fillRoots_9 rfl hl (by decide) rfl (fun ls hl => ?_)
  have hl : lv_has ls 2 [(1, .int (nI 0)), (0, .ref h0)] := hl
  have loop : ∀ (f9 i : Nat) (g : Nat → Int32) (H : Heap) (locs : List Loc) (ls : Array Slot), tw_P k - i < f9 → i ≤ tw_P k → (∀ j, j < tw_P k → g j = tw_rvi (tw_P k) i j) → va_P D vwCl [(h0, .inr (0, fs)), (ar, .inl (cA, tw_P k, .inl g))] H → va_D A [(h0, .inr (0, fs)), (ar, .inl (cA, tw_P k, .inl g))] → va_S A s.heap H locs → lv_has ls 2 [(1, .int (nI i)), (0, .ref h0)] → W p l e (headSpec wX0_fillRoots ({ frames := 1, cells := 0, slots := 0, locals := 23 })).room s m ([.ref h0]).toArray below meth c H locs 0 0 (MQ below (va_Qv (fun (u : Nat → Int32) => ∀ j, j < tw_P k → u j = tw_rv (tw_P k) j) (fun (u : Nat → Int32) t => wd_at D [(cA, .int)] (A) [(h0, .inr (0, fs)), (ar, .inl (cA, tw_P k, .inl u))] t) A) ([.ref h0]).toArray s 0 0 A) (F0 m 10 ls []) := by
    intro f9
    induction f9 with
    | zero => intro i g H locs ls h1; exact absurd h1 (Nat.not_lt_zero _)
    | succ f9 ih =>
      intro i g H locs ls h1 h3 hg hP hD hS hl
      have zi : i ≤ 8101 := Nat.le_trans h3 hP2
      refine lv_iload_n hx hb dX0_fillRoots_10 rfl (lv_at hl 0 rfl) ?_
      refine lv_aload_n hx hb dX0_fillRoots_11 rfl (lv_at hl 1 rfl) ?_
      refine va_get (D := D) (ci := 0) (v := .int (nI (tw_P k))) (C := RX0) (T := TX0) (N := 12) hx hb ht inX0 hown hK hP 0 rfl rfl 0 (by decide) (ht _ kf_X0_9) (fun _ h9 => h9) h4 dX0_fillRoots_12 ?_
      refine lv_iconst (v := (nI 2)) hx hb dX0_fillRoots_15 (by decide) ?_
      refine nv_idiv hx hb dX0_fillRoots_16 (by decide) (nv_le (b := 8101) hP2 (by decide)) (nv_le (b := 2) (Nat.le_refl 2) (by decide)) ?_
      refine nv_icmp_gt (tgt := 40) hx hb dX0_fillRoots_17 (by decide) (nv_le (b := 8101) zi (by decide)) (nv_le (b := 8101) (Nat.le_trans (Nat.div_le_self _ _) hP2) (by decide)) (fun c17 => ?_) (fun c17 => ?_)
      · exact W.vret hx hb hr (fun t ht9 hW => ⟨⟨g, rfl, fun j hj => by rw [hg j hj, tw_rvi_e hK0 c17], by rw [ht9]; exact hP, va_K.moved hW.alike hK, hD⟩, hS.F ht9⟩) hS.2.2 dX0_fillRoots_40
      · refine lv_aload_n hx hb dX0_fillRoots_20 rfl (lv_at hl 1 rfl) ?_
        refine va_get (D := D) (ci := 0) (v := .ref ar) (C := RX0) (T := TX0) (N := 12) hx hb ht inX0 hown hK hP 0 rfl rfl 5 (by decide) (ht _ kf_X0_17) (fun _ h9 => h9) h5 dX0_fillRoots_21 ?_
        refine lv_iload_n hx hb dX0_fillRoots_24 rfl (lv_at hl 0 rfl) ?_
        refine lv_iload_n hx hb dX0_fillRoots_25 rfl (lv_at hl 0 rfl) ?_
        refine nv_imul hx hb dX0_fillRoots_26 ?_
        refine lv_aload_n hx hb dX0_fillRoots_27 rfl (lv_at hl 1 rfl) ?_
        refine va_get (D := D) (ci := 0) (v := .int (nI (tw_P k))) (C := RX0) (T := TX0) (N := 12) hx hb ht inX0 hown hK hP 0 rfl rfl 0 (by decide) (ht _ kf_X0_9) (fun _ h9 => h9) h4 dX0_fillRoots_28 ?_
        refine nv_irem hx hb dX0_fillRoots_31 hP0 (nv_le (b := 65626201) (Nat.mul_le_mul zi zi) (by decide)) (nv_le (b := 8101) hP2 (by decide)) ?_
        refine lv_iload_n hx hb dX0_fillRoots_32 rfl (lv_at hl 0 rfl) ?_
        refine nv_iast hx hb hK hP hD hS 1 0 rfl rfl (Nat.mod_lt _ hP0) (nv_le hP2 (by decide)) dX0_fillRoots_33 (fun H locs hP hD hS => ?_)
        have hP : va_P D vwCl [(h0, .inr (0, fs)), (ar, .inl (cA, tw_P k, .inl (upd g ((i * i) % (tw_P k)) (nI i))))] H := hP
        have hD : va_D A [(h0, .inr (0, fs)), (ar, .inl (cA, tw_P k, .inl (upd g ((i * i) % (tw_P k)) (nI i))))] := hD
        refine lv_iinc hx hb dX0_fillRoots_34 hl (k := 0) rfl nv_inc (by decide) rfl (fun ls hl => ?_)
        have hl : lv_has ls 2 [(1, .int (nI (i + 1))), (0, .ref h0)] := hl
        refine lv_goto (tgt := 10) hx hb dX0_fillRoots_37 (by decide) ?_
        exact ih (i + 1) (upd g ((i * i) % (tw_P k)) (nI i)) H locs ls (by omega) (by omega) (tw_rvi_s hK0 c17 hg) hP hD hS (lv_sub hl [0, 1] rfl)
  exact loop (tw_P k + 1) 0 u9 H locs ls (by omega) (Nat.zero_le _) (fun j hj => by rw [hw9 j hj, tw_rvi_0]) hP hD hS (lv_sub hl [0, 1] rfl)
set_option maxHeartbeats 4000000 in
set_option maxRecDepth 100000 in
theorem c_X0_countPoints (l : Launch) (D : va_G) {k : Nat} (hk5 : k < 5) {n fc h0 : Nat} {ff : Nat → Int32} : Met l yX0_countPoints wX0_countPoints ({ frames := 1, cells := 0, slots := 0, locals := 23 }) (va_Pc [.ref h0] (cv_at D k n fc h0 ff)) (vp_Si (fun r => r = nI (tw_N k))) 0 0 (fun _ => False) := by
  refine Met.ofW (cc := cX0_countPoints) (maxL := 4) (ret := (some .int)) (by decide) rfl ?_
  intro p e s m args below meth c s₁ B hml hv
  obtain ⟨rfl, hv⟩ := hv
  have hx := B.exec
  have hb := B.bytes
  have hr := B.returns
  have hts := atoms_spec (ws := wX0_countPoints) B.pre
  have ht : ∀ w ∈ tb_all, w.before _ s = true := fun w h => hts w (List.mem_cons_of_mem _ h)
  have hown : s.vm.findClass RX0 = some m.cls := findClass_of_methodNamed B.named
  have hlocks := B.notSynchronized
  have hl := lv_entry ([.ref h0]) (n := 4) (Nat.le_of_ble_eq_true rfl)
  rw [lg_entry_eq]
  generalize (lg_sl ([.ref h0]) ++ List.replicate (4 - (lg_sl ([.ref h0])).length) Slot.unset).toArray = ls at hl ⊢
  have hl : lv_has ls 4 [(0, .ref h0)] := hl
  obtain ⟨hP0, hP2, hD2, hI2, hDP⟩ := tw_kb hk5
  have hat := hv
  obtain ⟨ai, ar, af, ap, ah, ac, cA, hk, fi, fr, fp, fh, fn, hP, hK, hfi, hfr⟩ := hv
  have hK0 := tw_kK k hk5
  have hsum := tw_kS k hk5
  refine lv_iconst (v := (nI 0)) hx hb dX0_countPoints_0 (by decide) ?_
  refine lv_istore_n hx hb dX0_countPoints_1 rfl hl (by decide) rfl (fun ls hl => ?_)
  have hl : lv_has ls 4 [(1, .int (nI 0)), (0, .ref h0)] := hl
  refine lv_iconst (v := (nI 0)) hx hb dX0_countPoints_2 (by decide) ?_
  refine lv_istore_n hx hb dX0_countPoints_3 rfl hl (by decide) rfl (fun ls hl => ?_)
  have hl : lv_has ls 4 [(2, .int (nI 0)), (1, .int (nI 0)), (0, .ref h0)] := hl
  have loop : ∀ (f9 i : Nat) (ls : Array Slot), tw_P k - i < f9 → i ≤ tw_P k → lv_has ls 4 [(2, .int (nI i)), (1, .int (nI (tw_sum (tw_ny (tw_P k) (tw_D k)) i))), (0, .ref h0)] → W p l e (headSpec wX0_countPoints ({ frames := 1, cells := 0, slots := 0, locals := 23 })).room s m ([.ref h0]).toArray below meth c s.heap [] 0 0 (MQ below (vp_Si (fun r => r = nI (tw_N k))) ([.ref h0]).toArray s 0 0 (fun _ => False)) (F0 m 4 ls []) := by
    intro f9
    induction f9 with
    | zero => intro i ls h1; exact absurd h1 (Nat.not_lt_zero _)
    | succ f9 ih =>
      intro i ls h1 h3 hl
      have zi : i ≤ 8101 := Nat.le_trans h3 hP2
      have zs : tw_sum (tw_ny (tw_P k) (tw_D k)) i ≤ 16202 := by have := tw_syb (tw_P k) (tw_D k) i; omega
      refine lv_iload_n hx hb dX0_countPoints_4 rfl (lv_at hl 0 rfl) ?_
      refine lv_aload_n hx hb dX0_countPoints_5 rfl (lv_at hl 2 rfl) ?_
      refine va_get (D := D) (ci := 0) (v := .int (nI (tw_P k))) (C := RX0) (T := TX0) (N := 12) hx hb ht inX0 hown hK hP 0 rfl rfl 0 (by decide) (ht _ kf_X0_9) (fun _ h9 => h9) rfl dX0_countPoints_6 ?_
      refine nv_icmp_ge (tgt := 40) hx hb dX0_countPoints_9 (by decide) (nv_le (b := 8101) zi (by decide)) (nv_le (b := 8101) hP2 (by decide)) (fun c9 => ?_) (fun c9 => ?_)
      · have e8 : i = tw_P k := Nat.le_antisymm h3 c9
        subst e8
        refine lv_iload_n hx hb dX0_countPoints_40 rfl (lv_at hl 1 rfl) ?_
        exact W.iret hx hb hr (fun t ht hW => ⟨_, rfl, by rw [hsum], ht⟩) (fun q h => nomatch h) dX0_countPoints_41
      · refine lv_aload_n hx hb dX0_countPoints_12 rfl (lv_at hl 2 rfl) ?_
        refine lv_iload_n hx hb dX0_countPoints_13 rfl (lv_at hl 0 rfl) ?_
        refine vp_callSi (W.runV (As := [.int (nI i)]) (rest := []) ⟨hx, hb, hml, hown, ht⟩ (c_X0_rootFor l D hk5 c9) (cwV 1 ht (tb_V kl_X0_64 ki_X0_rootFor ks_X0_rootFor kn_X0 kc_X0_rootFor) rfl rfl rfl ⟨rfl, kd_X0_rootFor⟩ ⟨Nat.le_of_ble_eq_true rfl, Nat.le_of_ble_eq_true rfl⟩) (cv_pre hat _) rfl rfl hl.1 rfl (lv_room (Nat.le_of_ble_eq_true rfl)) dX0_countPoints_14 ⟨Nat.zero_le _, Nat.zero_le _⟩) (fun r hr9 => ?_)
        subst hr9
        refine lv_istore_n hx hb dX0_countPoints_17 rfl hl (by decide) rfl (fun ls hl => ?_)
        have hl : lv_has ls 4 [(3, .int (tw_rv (tw_P k) (tw_w (tw_P k) (tw_D k) i))), (2, .int (nI i)), (1, .int (nI (tw_sum (tw_ny (tw_P k) (tw_D k)) i))), (0, .ref h0)] := hl
        cases er : tw_rt (tw_P k) (tw_w (tw_P k) (tw_D k) i) with
        | none =>
          have e9 : tw_rv (tw_P k) (tw_w (tw_P k) (tw_D k) i) = -1 := by unfold tw_rv; rw [er]
          rw [e9] at hl
          refine lv_iload_n hx hb dX0_countPoints_18 rfl (lv_at hl 0 rfl) ?_
          refine nv_if_ltM (tgt := 34) hx hb dX0_countPoints_19 (by decide) ?_
          refine lv_iinc hx hb dX0_countPoints_34 hl (k := 1) rfl nv_inc (by decide) rfl (fun ls hl => ?_)
          have hl : lv_has ls 4 [(2, .int (nI (i + 1))), (3, .int (-1)), (1, .int (nI (tw_sum (tw_ny (tw_P k) (tw_D k)) i))), (0, .ref h0)] := hl
          refine lv_goto (tgt := 4) hx hb dX0_countPoints_37 (by decide) ?_
          refine ih (i + 1) ls (by omega) (by omega) ?_
          have e6 : tw_ny (tw_P k) (tw_D k) i = 0 := by unfold tw_ny; rw [er]
          have e7 : tw_sum (tw_ny (tw_P k) (tw_D k)) (i + 1) = tw_sum (tw_ny (tw_P k) (tw_D k)) i := by show _ + tw_ny (tw_P k) (tw_D k) i = _; rw [e6]; rfl
          rw [e7]
          exact lv_sub hl [0, 2, 3] rfl
        | some r9 =>
          have e9 : tw_rv (tw_P k) (tw_w (tw_P k) (tw_D k) i) = nI r9 := by unfold tw_rv; rw [er]
          rw [e9] at hl
          have hr5 := tw_rt_some er
          have zr : r9 ≤ 8100 := by omega
          refine lv_iload_n hx hb dX0_countPoints_18 rfl (lv_at hl 0 rfl) ?_
          refine nv_if_lt (tgt := 34) hx hb dX0_countPoints_19 (by decide) (nv_le (b := 8100) zr (by decide)) ?_
          refine lv_iload_n hx hb dX0_countPoints_22 rfl (lv_at hl 2 rfl) ?_
          refine lv_iload_n hx hb dX0_countPoints_23 rfl (lv_at hl 0 rfl) ?_
          refine nv_if_ne (tgt := 31) hx hb dX0_countPoints_24 (by decide) (nv_le (b := 8100) zr (by decide)) (fun c24 => ?_) (fun c24 => ?_)
          · refine lv_iconst (v := (nI 2)) hx hb dX0_countPoints_31 (by decide) ?_
            refine nv_iadd hx hb dX0_countPoints_32 ?_
            refine lv_istore_n hx hb dX0_countPoints_33 rfl hl (by decide) rfl (fun ls hl => ?_)
            have hl : lv_has ls 4 [(1, .int (nI ((tw_sum (tw_ny (tw_P k) (tw_D k)) i) + 2))), (3, .int (nI r9)), (2, .int (nI i)), (0, .ref h0)] := hl
            refine lv_iinc hx hb dX0_countPoints_34 hl (k := 2) rfl nv_inc (by decide) rfl (fun ls hl => ?_)
            have hl : lv_has ls 4 [(2, .int (nI (i + 1))), (1, .int (nI ((tw_sum (tw_ny (tw_P k) (tw_D k)) i) + 2))), (3, .int (nI r9)), (0, .ref h0)] := hl
            refine lv_goto (tgt := 4) hx hb dX0_countPoints_37 (by decide) ?_
            refine ih (i + 1) ls (by omega) (by omega) ?_
            have e6 : tw_ny (tw_P k) (tw_D k) i = 2 := by unfold tw_ny; rw [er]; show (if r9 = 0 then 1 else 2) = 2; rw [if_neg (by omega)]
            have e7 : tw_sum (tw_ny (tw_P k) (tw_D k)) (i + 1) = tw_sum (tw_ny (tw_P k) (tw_D k)) i + 2 := by show _ + tw_ny (tw_P k) (tw_D k) i = _; rw [e6]
            rw [e7]
            exact lv_sub hl [0, 1, 3] rfl
          · refine lv_iconst (v := (nI 1)) hx hb dX0_countPoints_27 (by decide) ?_
            refine lv_goto (tgt := 32) hx hb dX0_countPoints_28 (by decide) ?_
            refine nv_iadd hx hb dX0_countPoints_32 ?_
            refine lv_istore_n hx hb dX0_countPoints_33 rfl hl (by decide) rfl (fun ls hl => ?_)
            have hl : lv_has ls 4 [(1, .int (nI ((tw_sum (tw_ny (tw_P k) (tw_D k)) i) + 1))), (3, .int (nI r9)), (2, .int (nI i)), (0, .ref h0)] := hl
            refine lv_iinc hx hb dX0_countPoints_34 hl (k := 2) rfl nv_inc (by decide) rfl (fun ls hl => ?_)
            have hl : lv_has ls 4 [(2, .int (nI (i + 1))), (1, .int (nI ((tw_sum (tw_ny (tw_P k) (tw_D k)) i) + 1))), (3, .int (nI r9)), (0, .ref h0)] := hl
            refine lv_goto (tgt := 4) hx hb dX0_countPoints_37 (by decide) ?_
            refine ih (i + 1) ls (by omega) (by omega) ?_
            have e6 : tw_ny (tw_P k) (tw_D k) i = 1 := by unfold tw_ny; rw [er]; show (if r9 = 0 then 1 else 2) = 1; rw [if_pos c24]
            have e7 : tw_sum (tw_ny (tw_P k) (tw_D k)) (i + 1) = tw_sum (tw_ny (tw_P k) (tw_D k)) i + 1 := by show _ + tw_ny (tw_P k) (tw_D k) i = _; rw [e6]
            rw [e7]
            exact lv_sub hl [0, 1, 3] rfl
  exact loop (tw_P k + 1) 0 ls (by omega) (Nat.zero_le _) (lv_sub hl [0, 1, 2] rfl)
set_option maxHeartbeats 4000000 in
set_option maxRecDepth 100000 in
theorem c_X0_fillFactors (l : Launch) (D : va_G) {k : Nat} (hk5 : k < 5) {h0 af : Nat} {cA : ClassId} {v0 v1 v2 v4 v5 v7 v8 v9 v11 : Value} (sz : Nat) : Met l yX0_fillFactors wX0_fillFactors ({ frames := 0, cells := 0, slots := 0, locals := 0 }) (va_Pc [.ref h0] (wd_pre D [(cA, .int)] [(h0, .inr (0, [v0, v1, v2, .int (nI (tw_N k)), v4, v5, .ref af, v7, v8, v9, .int (nI 0), v11])), (af, .inl (cA, 14, .inl (fun _ => 0)))] sz)) (va_Qv (fun (u : Nat → Int32) => ∀ j, j < (tw_fs k).length → u j = nI ((tw_fs k).getD j 0)) (fun (u : Nat → Int32) t => wd_at D [(cA, .int)] (va_A [(h0, .inr (0, [v0, v1, v2, .int (nI (tw_N k)), v4, v5, .ref af, v7, v8, v9, .int (nI 0), v11])), (af, .inl (cA, 14, .inl (fun _ => 0)))] sz) [(h0, .inr (0, [v0, v1, v2, .int (nI (tw_N k)), v4, v5, .ref af, v7, v8, v9, .int (nI (tw_fs k).length), v11])), (af, .inl (cA, 14, .inl u))] t) (va_A [(h0, .inr (0, [v0, v1, v2, .int (nI (tw_N k)), v4, v5, .ref af, v7, v8, v9, .int (nI 0), v11])), (af, .inl (cA, 14, .inl (fun _ => 0)))] sz)) 0 0 (va_A [(h0, .inr (0, [v0, v1, v2, .int (nI (tw_N k)), v4, v5, .ref af, v7, v8, v9, .int (nI 0), v11])), (af, .inl (cA, 14, .inl (fun _ => 0)))] sz) := by
  refine Met.ofW (cc := cX0_fillFactors) (maxL := 3) (ret := none) (by decide) rfl ?_
  intro p e s m args below meth c s₁ B hml hv
  obtain ⟨rfl, hsz, hP, hK, hD0⟩ := hv
  have hx := B.exec
  have hb := B.bytes
  have hr := B.returns
  have hts := atoms_spec (ws := wX0_fillFactors) B.pre
  have ht : ∀ w ∈ tb_all, w.before _ s = true := fun w h => hts w (List.mem_cons_of_mem _ h)
  have hown : s.vm.findClass RX0 = some m.cls := findClass_of_methodNamed B.named
  have hlocks := B.notSynchronized
  have hin : meth.name = "fillFactors" := (name_of_methodNamed B.named B.method).1
  subst hsz
  have hD := hD0.self (sz := s.heap.size)
  generalize hAe : va_A [(h0, .inr (0, [v0, v1, v2, .int (nI (tw_N k)), v4, v5, .ref af, v7, v8, v9, .int (nI 0), v11])), (af, .inl (cA, 14, .inl (fun _ => 0)))] s.heap.size = A at hD ⊢
  have hA : ∀ q : Nat, s.heap.size ≤ q → A q := fun q h => by rw [← hAe]; exact Or.inr h
  have hS : va_S A s.heap s.heap [] := va_S.rf
  have hl := lv_entry ([.ref h0]) (n := 3) (Nat.le_of_ble_eq_true rfl)
  rw [lg_entry_eq]
  generalize (lg_sl ([.ref h0]) ++ List.replicate (3 - (lg_sl ([.ref h0])).length) Slot.unset).toArray = ls at hl ⊢
  have hl : lv_has ls 3 [(0, .ref h0)] := hl
  have hN := tw_kN k hk5
  have hF := tw_fsb k hk5
  have hff := tw_ff_k k hk5
  refine lv_aload_n hx hb dX0_fillFactors_0 rfl (lv_at hl 0 rfl) ?_
  refine va_get (D := D) (ci := 0) (v := .int (nI (tw_N k))) (C := RX0) (T := TX0) (N := 12) hx hb ht inX0 hown hK hP 0 rfl rfl 3 (by decide) (ht _ kf_X0_51) (fun _ h9 => h9) rfl dX0_fillFactors_1 ?_
  refine lv_istore_n hx hb dX0_fillFactors_4 rfl hl (by decide) rfl (fun ls hl => ?_)
  have hl : lv_has ls 3 [(1, .int (nI (tw_N k))), (0, .ref h0)] := hl
  refine lv_iconst (v := (nI 2)) hx hb dX0_fillFactors_5 (by decide) ?_
  refine lv_istore_n hx hb dX0_fillFactors_6 rfl hl (by decide) rfl (fun ls hl => ?_)
  have hl : lv_has ls 3 [(2, .int (nI 2)), (1, .int (nI (tw_N k))), (0, .ref h0)] := hl
  have loop : ∀ (f9 f r : Nat) (acc : List Nat) (g : Nat → Int32) (H : Heap) (locs : List Loc) (ls : Array Slot), 2 * r < f9 + f → 2 ≤ f → f ≤ 20000 → 1 ≤ r → r ≤ 8232 → tw_ff f9 f r acc = tw_fs k → (∀ j, j < acc.length → g j = nI (acc.getD j 0)) → va_P D vwCl [(h0, .inr (0, [v0, v1, v2, .int (nI (tw_N k)), v4, v5, .ref af, v7, v8, v9, .int (nI acc.length), v11])), (af, .inl (cA, 14, .inl g))] H → va_D A [(h0, .inr (0, [v0, v1, v2, .int (nI (tw_N k)), v4, v5, .ref af, v7, v8, v9, .int (nI acc.length), v11])), (af, .inl (cA, 14, .inl g))] → va_S A s.heap H locs → lv_has ls 3 [(2, .int (nI f)), (1, .int (nI r)), (0, .ref h0)] → W p l e (headSpec wX0_fillFactors ({ frames := 0, cells := 0, slots := 0, locals := 0 })).room s m ([.ref h0]).toArray below meth c H locs 0 0 (MQ below (va_Qv (fun (u : Nat → Int32) => ∀ j, j < (tw_fs k).length → u j = nI ((tw_fs k).getD j 0)) (fun (u : Nat → Int32) t => wd_at D [(cA, .int)] (A) [(h0, .inr (0, [v0, v1, v2, .int (nI (tw_N k)), v4, v5, .ref af, v7, v8, v9, .int (nI (tw_fs k).length), v11])), (af, .inl (cA, 14, .inl u))] t) A) ([.ref h0]).toArray s 0 0 A) (F0 m 12 ls []) := by
    intro f9
    induction f9 with
    | zero =>
      intro f r acc g H locs ls h1 h2 h3 h4 h5 hinv hg hP hD hS hl
      have za : acc.length ≤ 14 := by have q1 := tw_ff_len 0 f r acc; rw [hinv] at q1; exact Nat.le_trans q1 hF.1
      refine lv_iload_n hx hb dX0_fillFactors_12 rfl (lv_at hl 1 rfl) ?_
      refine lv_iload_n hx hb dX0_fillFactors_13 rfl (lv_at hl 0 rfl) ?_
      refine nv_irem hx hb dX0_fillFactors_14 (by omega) (nv_le (b := 8232) h5 (by decide)) (nv_le (b := 20000) h3 (by decide)) ?_
      refine nv_if_ne (tgt := 54) hx hb dX0_fillFactors_15 (by decide) (nv_le (b := 19999) (nv_md (by omega) h3) (by decide)) (fun c15 => ?_) (fun c15 => ?_)
      · refine lv_iinc hx hb dX0_fillFactors_54 hl (k := 0) rfl nv_inc (by decide) rfl (fun ls hl => ?_)
        have hl : lv_has ls 3 [(2, .int (nI (f + 1))), (1, .int (nI r)), (0, .ref h0)] := hl
        refine lv_goto (tgt := 7) hx hb dX0_fillFactors_57 (by decide) ?_
        refine lv_iload_n hx hb dX0_fillFactors_7 rfl (lv_at hl 0 rfl) ?_
        refine lv_iload_n hx hb dX0_fillFactors_8 rfl (lv_at hl 1 rfl) ?_
        refine nv_icmp_gt (tgt := 60) hx hb dX0_fillFactors_9 (by decide) (nv_le (b := 20001) (Nat.succ_le_succ h3) (by decide)) (nv_le (b := 8232) h5 (by decide)) (fun c9 => ?_) (fun c9 => ?_)
        · have e8 : acc = tw_fs k := hinv
          rw [e8] at hP hD hg
          exact W.vret hx hb hr (fun t ht9 hW => ⟨⟨g, rfl, hg, by rw [ht9]; exact hP, va_K.moved hW.alike hK, hD⟩, hS.F ht9⟩) hS.2.2 dX0_fillFactors_60
        · omega
      · have e7 : r % f = r := Nat.mod_eq_of_lt (by omega)
        omega
    | succ f9 ih =>
      intro f r acc g H locs ls h1 h2 h3 h4 h5 hinv hg hP hD hS hl
      have za : acc.length ≤ 14 := by have q1 := tw_ff_len (f9 + 1) f r acc; rw [hinv] at q1; exact Nat.le_trans q1 hF.1
      refine lv_iload_n hx hb dX0_fillFactors_12 rfl (lv_at hl 1 rfl) ?_
      refine lv_iload_n hx hb dX0_fillFactors_13 rfl (lv_at hl 0 rfl) ?_
      refine nv_irem hx hb dX0_fillFactors_14 (by omega) (nv_le (b := 8232) h5 (by decide)) (nv_le (b := 20000) h3 (by decide)) ?_
      refine nv_if_ne (tgt := 54) hx hb dX0_fillFactors_15 (by decide) (nv_le (b := 19999) (nv_md (by omega) h3) (by decide)) (fun c15 => ?_) (fun c15 => ?_)
      · refine lv_iinc hx hb dX0_fillFactors_54 hl (k := 0) rfl nv_inc (by decide) rfl (fun ls hl => ?_)
        have hl : lv_has ls 3 [(2, .int (nI (f + 1))), (1, .int (nI r)), (0, .ref h0)] := hl
        refine lv_goto (tgt := 7) hx hb dX0_fillFactors_57 (by decide) ?_
        refine lv_iload_n hx hb dX0_fillFactors_7 rfl (lv_at hl 0 rfl) ?_
        refine lv_iload_n hx hb dX0_fillFactors_8 rfl (lv_at hl 1 rfl) ?_
        refine nv_icmp_gt (tgt := 60) hx hb dX0_fillFactors_9 (by decide) (nv_le (b := 20001) (Nat.succ_le_succ h3) (by decide)) (nv_le (b := 8232) h5 (by decide)) (fun c9 => ?_) (fun c9 => ?_)
        · have e8 : acc = tw_fs k := by
            by_cases c : r < f
            · rw [tw_ff_lt c] at hinv; exact hinv
            · rw [tw_ff_nx c (by omega), tw_ff_lt c9] at hinv; exact hinv
          rw [e8] at hP hD hg
          exact W.vret hx hb hr (fun t ht9 hW => ⟨⟨g, rfl, hg, by rw [ht9]; exact hP, va_K.moved hW.alike hK, hD⟩, hS.F ht9⟩) hS.2.2 dX0_fillFactors_60
        · by_cases c : r < f
          · omega
          rw [tw_ff_nx c (by omega)] at hinv
          exact ih (f + 1) r acc g H locs ls (by omega) (by omega) (by omega) h4 h5 hinv hg hP hD hS (lv_sub hl [0, 1, 2] rfl)
      · have c : ¬ r < f := by intro z; rw [Nat.mod_eq_of_lt z] at c15; omega
        rw [tw_ff_dv c c15] at hinv
        have zb : acc.length < 14 := by have q1 := tw_ff_len f9 f (r / f) (acc ++ [f]); rw [hinv, List.length_append] at q1; have q2 : acc.length + 1 ≤ (tw_fs k).length := q1; have := hF.1; omega
        refine lv_aload_n hx hb dX0_fillFactors_18 rfl (lv_at hl 2 rfl) ?_
        refine va_get (D := D) (ci := 0) (v := .int (nI acc.length)) (C := RX0) (T := TX0) (N := 12) hx hb ht inX0 hown hK hP 0 rfl rfl 10 (by decide) (ht _ kf_X0_80) (fun _ h9 => h9) rfl dX0_fillFactors_19 ?_
        refine lv_bipush (v := (nI 14)) hx hb dX0_fillFactors_22 (by decide) ?_
        refine nv_icmp_ge (tgt := 54) hx hb dX0_fillFactors_24 (by decide) (nv_le (b := 14) za (by decide)) (nv_le (b := 14) (Nat.le_refl 14) (by decide)) (fun c24 => ?_) (fun c24 => ?_)
        · exact absurd zb (Nat.not_lt.mpr c24)
        · refine lv_aload_n hx hb dX0_fillFactors_27 rfl (lv_at hl 2 rfl) ?_
          refine va_get (D := D) (ci := 0) (v := .ref af) (C := RX0) (T := TX0) (N := 12) hx hb ht inX0 hown hK hP 0 rfl rfl 6 (by decide) (ht _ kf_X0_20) (fun _ h9 => h9) rfl dX0_fillFactors_28 ?_
          refine lv_aload_n hx hb dX0_fillFactors_31 rfl (lv_at hl 2 rfl) ?_
          refine va_get (D := D) (ci := 0) (v := .int (nI acc.length)) (C := RX0) (T := TX0) (N := 12) hx hb ht inX0 hown hK hP 0 rfl rfl 10 (by decide) (ht _ kf_X0_80) (fun _ h9 => h9) rfl dX0_fillFactors_32 ?_
          refine lv_iload_n hx hb dX0_fillFactors_35 rfl (lv_at hl 0 rfl) ?_
          refine nv_iast hx hb hK hP hD hS 1 0 rfl rfl zb (by decide) dX0_fillFactors_36 (fun H locs hP hD hS => ?_)
          have hP : va_P D vwCl [(h0, .inr (0, [v0, v1, v2, .int (nI (tw_N k)), v4, v5, .ref af, v7, v8, v9, .int (nI acc.length), v11])), (af, .inl (cA, 14, .inl (upd g acc.length (nI f))))] H := hP
          have hD : va_D A [(h0, .inr (0, [v0, v1, v2, .int (nI (tw_N k)), v4, v5, .ref af, v7, v8, v9, .int (nI acc.length), v11])), (af, .inl (cA, 14, .inl (upd g acc.length (nI f))))] := hD
          refine lv_iload_n hx hb dX0_fillFactors_37 rfl (lv_at hl 1 rfl) ?_
          refine lv_iload_n hx hb dX0_fillFactors_38 rfl (lv_at hl 0 rfl) ?_
          refine nv_idiv hx hb dX0_fillFactors_39 (by omega) (nv_le (b := 8232) h5 (by decide)) (nv_le (b := 20000) h3 (by decide)) ?_
          refine lv_istore_n hx hb dX0_fillFactors_40 rfl hl (by decide) rfl (fun ls hl => ?_)
          have hl : lv_has ls 3 [(1, .int (nI (r / f))), (2, .int (nI f)), (0, .ref h0)] := hl
          refine lv_aload_n hx hb dX0_fillFactors_41 rfl (lv_at hl 2 rfl) ?_
          refine lv_dup hx hb dX0_fillFactors_42 rfl ?_
          refine va_get (D := D) (ci := 0) (v := .int (nI acc.length)) (C := RX0) (T := TX0) (N := 12) hx hb ht inX0 hown hK hP 0 rfl rfl 10 (by decide) (ht _ kf_X0_80) (fun _ h9 => h9) rfl dX0_fillFactors_43 ?_
          refine lv_iconst (v := (nI 1)) hx hb dX0_fillFactors_46 (by decide) ?_
          refine nv_iadd hx hb dX0_fillFactors_47 ?_
          refine va_put (D := D) (ci := 0) (v := .int (nI (acc.length + 1))) (ty := .int) (C := RX0) (T := TX0) (N := 12) hx hb ht inX0 tyX0 tyX0_ok nmX0 hown hK hP hD hS 0 rfl rfl 10 (by decide) (ht _ kf_X0_80) (fun _ h9 => h9) rfl (by decide +kernel) rfl rfl (Nat.le_of_ble_eq_true rfl) dX0_fillFactors_48 (fun H locs hP hD hS => ?_)
          have hP : va_P D vwCl [(h0, .inr (0, [v0, v1, v2, .int (nI (tw_N k)), v4, v5, .ref af, v7, v8, v9, .int (nI (acc.length + 1)), v11])), (af, .inl (cA, 14, .inl (upd g acc.length (nI f))))] H := hP
          have hD : va_D A [(h0, .inr (0, [v0, v1, v2, .int (nI (tw_N k)), v4, v5, .ref af, v7, v8, v9, .int (nI (acc.length + 1)), v11])), (af, .inl (cA, 14, .inl (upd g acc.length (nI f))))] := hD
          refine lv_goto (tgt := 12) hx hb dX0_fillFactors_51 (by decide) ?_
          have zr1 : 1 ≤ r / f := Nat.div_pos (by omega) (by omega)
          have zr2 : 2 * (r / f) ≤ r := by have q1 := Nat.div_mul_le_self r f; have q2 : r / f * 2 ≤ r / f * f := Nat.mul_le_mul_left _ h2; omega
          have el : (acc ++ [f]).length = acc.length + 1 := List.length_append
          refine ih f (r / f) (acc ++ [f]) (upd g acc.length (nI f)) H locs ls (by omega) h2 h3 zr1 (by omega) hinv (tw_gapp hg) ?_ ?_ hS (lv_sub hl [1, 0, 2] rfl)
          · rw [el]; exact hP
          · rw [el]; exact hD
  refine lv_iload_n hx hb dX0_fillFactors_7 rfl (lv_at hl 0 rfl) ?_
  refine lv_iload_n hx hb dX0_fillFactors_8 rfl (lv_at hl 1 rfl) ?_
  refine nv_icmp_gt (tgt := 60) hx hb dX0_fillFactors_9 (by decide) (nv_le (b := 2) (Nat.le_refl 2) (by decide)) (nv_le (b := 8232) hN.2 (by decide)) (fun c9 => ?_) (fun c9 => ?_)
  · have := hN.1
    omega
  · exact loop 20000 2 (tw_N k) [] (fun _ => 0) s.heap [] ls (by have := hN.2; omega) (Nat.le_refl 2) (by decide) (by have := hN.1; omega) hN.2 hff (fun j hj => absurd hj (Nat.not_lt_zero _)) hP hD hS (lv_sub hl [0, 1, 2] rfl)
