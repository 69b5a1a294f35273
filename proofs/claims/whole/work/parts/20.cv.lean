/-! a curve: its cells, what they hold, what its methods may take of them -/
theorem st_pre {s : State} {H : Heap} (As : List Value) : PreS s H (va_Pc As (fun _ => True)) As := ⟨fun _ _ _ _ q => ⟨q.1, trivial⟩, fun _ _ _ => ⟨rfl, trivial⟩⟩
abbrev cv_W (h0 ai ar af ap ah ac : Nat) (cA : ClassId) (k n fc : Nat) (hk : Int32) (fi fr ff fp fh fn : Nat → Int32) : va_W :=
  [(h0, .inr (0, [.int (nI (tw_P k)), .int (nI (tw_D k)), .int (nI (tw_I k)), .int (nI n), .ref ai, .ref ar, .ref af, .ref ap, .ref ah, .ref ac, .int (nI fc), .int hk])),
   (ai, .inl (cA, tw_P k, .inl fi)), (ar, .inl (cA, tw_P k, .inl fr)), (af, .inl (cA, 14, .inl ff)), (ap, .inl (cA, 2 * tw_P k, .inl fp)), (ah, .inl (cA, 2 * tw_P k, .inl fh)), (ac, .inl (cA, 2 * tw_P k, .inl fn))]
def cv_at (D : va_G) (k n fc h0 : Nat) (ff : Nat → Int32) (U : State) : Prop := ∃ (ai ar af ap ah ac : Nat) (cA : ClassId) (hk : Int32) (fi fr fp fh fn : Nat → Int32), va_P D vwCl (cv_W h0 ai ar af ap ah ac cA k n fc hk fi fr ff fp fh fn) U.heap ∧ va_K D vwCl [(cA, .int)] U ∧ (∀ j, j < tw_P k → fi j = nI (tw_iv (tw_P k) j)) ∧ ∀ j, j < tw_P k → fr j = tw_rv (tw_P k) j
theorem cv_moved {D : va_G} {k n fc h0 : Nat} {ff : Nat → Int32} {u U : State} (h : cv_at D k n fc h0 ff u) (hh : U.heap = u.heap) (hv : u.vm.Alike U.vm) : cv_at D k n fc h0 ff U := by
  obtain ⟨ai, ar, af, ap, ah, ac, cA, hk, fi, fr, fp, fh, fn, hP, hK, hfi, hfr⟩ := h
  exact ⟨ai, ar, af, ap, ah, ac, cA, hk, fi, fr, fp, fh, fn, by rw [hh]; exact hP, va_K.moved hv hK, hfi, hfr⟩
theorem cv_pre {D : va_G} {k n fc h0 : Nat} {ff : Nat → Int32} {s : State} (h : cv_at D k n fc h0 ff s) (As : List Value) : PreV s s.heap RX0 h0 (va_Pc (.ref h0 :: As) (cv_at D k n fc h0 ff)) As := by
  refine ⟨fun a U g mk q => ⟨q.1, cv_moved q.2 rfl (Vm.Alike.refl U.vm)⟩, ?_, fun U hU hW => ⟨rfl, cv_moved h hU hW.alike⟩⟩
  obtain ⟨ai, ar, af, ap, ah, ac, cA, hk, fi, fr, fp, fh, fn, hP, hK, hfi, hfr⟩ := h
  exact va_recv (ci := 0) (q0 := 0) hK hP rfl rfl
def tw_en (p : Nat × Nat) : Nat := p.1 * 8192 + p.2
theorem tw_kb {k : Nat} (hk : k < 5) : 0 < tw_P k ∧ tw_P k ≤ 8101 ∧ tw_D k ≤ 8100 ∧ tw_I k ≤ 8100 ∧ tw_D k < tw_P k := by
  have a := tw_kP k hk
  have b := (tw_kK k hk).2.2.1
  have c : ∀ k, k < 5 → tw_I k ≤ 8100 := by decide
  exact ⟨by omega, a.2, by omega, c k hk, b⟩
set_option maxHeartbeats 4000000 in
set_option maxRecDepth 100000 in
theorem c_X0_point (l : Launch) {x y : Nat} (hx1 : x ≤ 8191) (hy1 : y ≤ 8191) : Met l yX0_point wX0_point ({ frames := 0, cells := 0, slots := 0, locals := 0 }) (va_Pc [.int (nI x), .int (nI y)] (fun _ => True)) (vp_Si (fun r => r = nI (x * 8192 + y))) 0 0 (fun _ => False) := by
  refine Met.ofW (cc := cX0_point) (maxL := 2) (ret := (some .int)) (by decide) rfl ?_
  intro p e s m args below meth c s₁ B hml hv
  obtain ⟨rfl, hv⟩ := hv
  have hx := B.exec
  have hb := B.bytes
  have hr := B.returns
  have hts := atoms_spec (ws := wX0_point) B.pre
  have ht : ∀ w ∈ tb_all, w.before _ s = true := fun w h => hts w (List.mem_cons_of_mem _ h)
  have hown : s.vm.findClass RX0 = some m.cls := findClass_of_methodNamed B.named
  have hlocks := B.notSynchronized
  have hl := lv_entry ([.int (nI x), .int (nI y)]) (n := 2) (Nat.le_of_ble_eq_true rfl)
  rw [lg_entry_eq]
  generalize (lg_sl ([.int (nI x), .int (nI y)]) ++ List.replicate (2 - (lg_sl ([.int (nI x), .int (nI y)])).length) Slot.unset).toArray = ls at hl ⊢
  have hl : lv_has ls 2 [(0, .int (nI x)), (1, .int (nI y))] := hl
  refine lv_iload_n hx hb dX0_point_0 rfl (lv_at hl 0 rfl) ?_
  refine lv_bipush (v := (nI 13)) hx hb dX0_point_1 (by decide) ?_
  refine nv_ishl hx hb 13 dX0_point_3 (by decide) (Nat.lt_of_le_of_lt (m := 67100672) (Nat.mul_le_mul_right _ hx1) (by decide)) ?_
  refine lv_iload_n hx hb dX0_point_4 rfl (lv_at hl 1 rfl) ?_
  refine nv_ior hx hb 13 dX0_point_5 (Nat.lt_succ_of_le hy1) ?_
  exact W.iret hx hb hr (fun t ht hW => ⟨_, rfl, rfl, ht⟩) (fun q h => nomatch h) dX0_point_6
set_option maxHeartbeats 4000000 in
set_option maxRecDepth 100000 in
theorem c_X0_xOf (l : Launch) {x y : Nat} (hx1 : x ≤ 8191) (hy1 : y ≤ 8191) : Met l yX0_xOf wX0_xOf ({ frames := 0, cells := 0, slots := 0, locals := 0 }) (va_Pc [.int (nI (x * 8192 + y))] (fun _ => True)) (vp_Si (fun r => r = nI x)) 0 0 (fun _ => False) := by
  refine Met.ofW (cc := cX0_xOf) (maxL := 1) (ret := (some .int)) (by decide) rfl ?_
  intro p e s m args below meth c s₁ B hml hv
  obtain ⟨rfl, hv⟩ := hv
  have hx := B.exec
  have hb := B.bytes
  have hr := B.returns
  have hts := atoms_spec (ws := wX0_xOf) B.pre
  have ht : ∀ w ∈ tb_all, w.before _ s = true := fun w h => hts w (List.mem_cons_of_mem _ h)
  have hown : s.vm.findClass RX0 = some m.cls := findClass_of_methodNamed B.named
  have hlocks := B.notSynchronized
  have hl := lv_entry ([.int (nI (x * 8192 + y))]) (n := 1) (Nat.le_of_ble_eq_true rfl)
  rw [lg_entry_eq]
  generalize (lg_sl ([.int (nI (x * 8192 + y))]) ++ List.replicate (1 - (lg_sl ([.int (nI (x * 8192 + y))])).length) Slot.unset).toArray = ls at hl ⊢
  have hl : lv_has ls 1 [(0, .int (nI (x * 8192 + y)))] := hl
  refine lv_iload_n hx hb dX0_xOf_0 rfl (lv_at hl 0 rfl) ?_
  refine lv_bipush (v := (nI 13)) hx hb dX0_xOf_1 (by decide) ?_
  refine nv_ishr hx hb 13 dX0_xOf_3 (by decide) (nv_le (b := 67108863) (by omega) (by decide)) ?_
  exact W.iret hx hb hr (fun t ht hW => ⟨_, rfl, congrArg nI (by omega), ht⟩) (fun q h => nomatch h) dX0_xOf_4
set_option maxHeartbeats 4000000 in
set_option maxRecDepth 100000 in
theorem c_X0_yOf (l : Launch) {x y : Nat} (hx1 : x ≤ 8191) (hy1 : y ≤ 8191) : Met l yX0_yOf wX0_yOf ({ frames := 0, cells := 0, slots := 0, locals := 0 }) (va_Pc [.int (nI (x * 8192 + y))] (fun _ => True)) (vp_Si (fun r => r = nI y)) 0 0 (fun _ => False) := by
  refine Met.ofW (cc := cX0_yOf) (maxL := 1) (ret := (some .int)) (by decide) rfl ?_
  intro p e s m args below meth c s₁ B hml hv
  obtain ⟨rfl, hv⟩ := hv
  have hx := B.exec
  have hb := B.bytes
  have hr := B.returns
  have hts := atoms_spec (ws := wX0_yOf) B.pre
  have ht : ∀ w ∈ tb_all, w.before _ s = true := fun w h => hts w (List.mem_cons_of_mem _ h)
  have hown : s.vm.findClass RX0 = some m.cls := findClass_of_methodNamed B.named
  have hlocks := B.notSynchronized
  have hl := lv_entry ([.int (nI (x * 8192 + y))]) (n := 1) (Nat.le_of_ble_eq_true rfl)
  rw [lg_entry_eq]
  generalize (lg_sl ([.int (nI (x * 8192 + y))]) ++ List.replicate (1 - (lg_sl ([.int (nI (x * 8192 + y))])).length) Slot.unset).toArray = ls at hl ⊢
  have hl : lv_has ls 1 [(0, .int (nI (x * 8192 + y)))] := hl
  refine lv_iload_n hx hb dX0_yOf_0 rfl (lv_at hl 0 rfl) ?_
  refine lv_sipush (v := (nI 8191)) hx hb dX0_yOf_1 (by decide) ?_
  refine nv_iand hx hb 13 dX0_yOf_4 (Nat.lt_trans (nv_le (b := 67108863) (by omega) (by decide)) (by decide)) (by decide) ?_
  exact W.iret hx hb hr (fun t ht hW => ⟨_, rfl, congrArg nI (by omega), ht⟩) (fun q h => nomatch h) dX0_yOf_5
set_option maxHeartbeats 4000000 in
set_option maxRecDepth 100000 in
theorem c_X0_compress (l : Launch) {x y : Nat} (hx1 : x ≤ 8191) (hy1 : y ≤ 8191) : Met l yX0_compress wX0_compress ({ frames := 1, cells := 0, slots := 0, locals := 20 }) (va_Pc [.int (nI (x * 8192 + y))] (fun _ => True)) (vp_Si (fun r => r = nI (tw_pk (x, y)))) 0 0 (fun _ => False) := by
  refine Met.ofW (cc := cX0_compress) (maxL := 1) (ret := (some .int)) (by decide) rfl ?_
  intro p e s m args below meth c s₁ B hml hv
  obtain ⟨rfl, hv⟩ := hv
  have hx := B.exec
  have hb := B.bytes
  have hr := B.returns
  have hts := atoms_spec (ws := wX0_compress) B.pre
  have ht : ∀ w ∈ tb_all, w.before _ s = true := fun w h => hts w (List.mem_cons_of_mem _ h)
  have hown : s.vm.findClass RX0 = some m.cls := findClass_of_methodNamed B.named
  have hlocks := B.notSynchronized
  have hl := lv_entry ([.int (nI (x * 8192 + y))]) (n := 1) (Nat.le_of_ble_eq_true rfl)
  rw [lg_entry_eq]
  generalize (lg_sl ([.int (nI (x * 8192 + y))]) ++ List.replicate (1 - (lg_sl ([.int (nI (x * 8192 + y))])).length) Slot.unset).toArray = ls at hl ⊢
  have hl : lv_has ls 1 [(0, .int (nI (x * 8192 + y)))] := hl
  refine lv_iload_n hx hb dX0_compress_0 rfl (lv_at hl 0 rfl) ?_
  refine vp_callSi (W.runS (As := [.int (nI (x * 8192 + y))]) (rest := []) ⟨hx, hb, hml, hown, ht⟩ (c_X0_yOf l hx1 hy1) (va_cwS 1 ht (tb_S kl_X0_57 kt_X0_yOf kn_X0 kc_X0_yOf) rfl rfl rfl kd_X0_yOf ⟨Nat.le_of_ble_eq_true rfl, Nat.le_of_ble_eq_true rfl⟩) (st_pre _) rfl rfl hl.1 rfl (lv_room (Nat.le_of_ble_eq_true rfl)) dX0_compress_1 ⟨Nat.zero_le _, Nat.zero_le _⟩) (fun r hr9 => ?_)
  subst hr9
  refine lv_iload_n hx hb dX0_compress_4 rfl (lv_at hl 0 rfl) ?_
  refine vp_callSi (W.runS (As := [.int (nI (x * 8192 + y))]) (rest := [.int (nI y)]) ⟨hx, hb, hml, hown, ht⟩ (c_X0_xOf l hx1 hy1) (va_cwS 1 ht (tb_S kl_X0_61 kt_X0_xOf kn_X0 kc_X0_xOf) rfl rfl rfl kd_X0_xOf ⟨Nat.le_of_ble_eq_true rfl, Nat.le_of_ble_eq_true rfl⟩) (st_pre _) rfl rfl hl.1 rfl (lv_room (Nat.le_of_ble_eq_true rfl)) dX0_compress_5 ⟨Nat.zero_le _, Nat.zero_le _⟩) (fun r hr9 => ?_)
  subst hr9
  refine lv_iconst (v := (nI 1)) hx hb dX0_compress_8 (by decide) ?_
  refine nv_iand hx hb 1 dX0_compress_9 (Nat.lt_trans (nv_le (b := 8191) hx1 (by decide)) (by decide)) (by decide) ?_
  refine lv_bipush (v := (nI 13)) hx hb dX0_compress_10 (by decide) ?_
  refine nv_ishl hx hb 13 dX0_compress_12 (by decide) (Nat.lt_of_le_of_lt (m := 8192) (Nat.mul_le_mul_right _ (Nat.le_of_lt_succ (Nat.mod_lt _ (by decide)))) (by decide)) ?_
  refine nv_iadd hx hb dX0_compress_13 ?_
  exact W.iret hx hb hr (fun t ht hW => ⟨_, rfl, congrArg nI (by show _ = y + 8192 * (x % 2); omega), ht⟩) (fun q h => nomatch h) dX0_compress_14
set_option maxHeartbeats 4000000 in
set_option maxRecDepth 100000 in
theorem c_X0_place (l : Launch) (D : va_G) {k n fc h0 : Nat} {ff : Nat → Int32} {x y : Nat} (hx1 : x ≤ 8191) (hy1 : y ≤ 8191) : Met l yX0_place wX0_place ({ frames := 1, cells := 0, slots := 0, locals := 20 }) (va_Pc [.ref h0, .int (nI (x * 8192 + y))] (cv_at D k n fc h0 ff)) (vp_Si (fun r => r = nI (tw_pl (x, y)))) 0 0 (fun _ => False) := by
  refine Met.ofW (cc := cX0_place) (maxL := 2) (ret := (some .int)) (by decide) rfl ?_
  intro p e s m args below meth c s₁ B hml hv
  obtain ⟨rfl, hv⟩ := hv
  have hx := B.exec
  have hb := B.bytes
  have hr := B.returns
  have hts := atoms_spec (ws := wX0_place) B.pre
  have ht : ∀ w ∈ tb_all, w.before _ s = true := fun w h => hts w (List.mem_cons_of_mem _ h)
  have hown : s.vm.findClass RX0 = some m.cls := findClass_of_methodNamed B.named
  have hlocks := B.notSynchronized
  have hl := lv_entry ([.ref h0, .int (nI (x * 8192 + y))]) (n := 2) (Nat.le_of_ble_eq_true rfl)
  rw [lg_entry_eq]
  generalize (lg_sl ([.ref h0, .int (nI (x * 8192 + y))]) ++ List.replicate (2 - (lg_sl ([.ref h0, .int (nI (x * 8192 + y))])).length) Slot.unset).toArray = ls at hl ⊢
  have hl : lv_has ls 2 [(0, .ref h0), (1, .int (nI (x * 8192 + y)))] := hl
  refine lv_iconst (v := (nI 2)) hx hb dX0_place_0 (by decide) ?_
  refine lv_iload_n hx hb dX0_place_1 rfl (lv_at hl 1 rfl) ?_
  refine vp_callSi (W.runS (As := [.int (nI (x * 8192 + y))]) (rest := [.int (nI 2)]) ⟨hx, hb, hml, hown, ht⟩ (c_X0_yOf l hx1 hy1) (va_cwS 1 ht (tb_S kl_X0_57 kt_X0_yOf kn_X0 kc_X0_yOf) rfl rfl rfl kd_X0_yOf ⟨Nat.le_of_ble_eq_true rfl, Nat.le_of_ble_eq_true rfl⟩) (st_pre _) rfl rfl hl.1 rfl (lv_room (Nat.le_of_ble_eq_true rfl)) dX0_place_2 ⟨Nat.zero_le _, Nat.zero_le _⟩) (fun r hr9 => ?_)
  subst hr9
  refine nv_imul hx hb dX0_place_5 ?_
  refine lv_iload_n hx hb dX0_place_6 rfl (lv_at hl 1 rfl) ?_
  refine vp_callSi (W.runS (As := [.int (nI (x * 8192 + y))]) (rest := [.int (nI (2 * y))]) ⟨hx, hb, hml, hown, ht⟩ (c_X0_xOf l hx1 hy1) (va_cwS 1 ht (tb_S kl_X0_61 kt_X0_xOf kn_X0 kc_X0_xOf) rfl rfl rfl kd_X0_xOf ⟨Nat.le_of_ble_eq_true rfl, Nat.le_of_ble_eq_true rfl⟩) (st_pre _) rfl rfl hl.1 rfl (lv_room (Nat.le_of_ble_eq_true rfl)) dX0_place_7 ⟨Nat.zero_le _, Nat.zero_le _⟩) (fun r hr9 => ?_)
  subst hr9
  refine lv_iconst (v := (nI 1)) hx hb dX0_place_10 (by decide) ?_
  refine nv_iand hx hb 1 dX0_place_11 (Nat.lt_trans (nv_le (b := 8191) hx1 (by decide)) (by decide)) (by decide) ?_
  refine nv_iadd hx hb dX0_place_12 ?_
  exact W.iret hx hb hr (fun t ht hW => ⟨_, rfl, congrArg nI (by show _ = 2 * y + x % 2; omega), ht⟩) (fun q h => nomatch h) dX0_place_13
set_option maxHeartbeats 4000000 in
set_option maxRecDepth 100000 in
theorem c_X0_other (l : Launch) (D : va_G) {k : Nat} (hk5 : k < 5) {n fc h0 : Nat} {ff : Nat → Int32} {x y : Nat} (hx1 : x < tw_P k) (hy1 : y < tw_P k) : Met l yX0_other wX0_other ({ frames := 1, cells := 0, slots := 0, locals := 21 }) (va_Pc [.ref h0, .int (nI (x * 8192 + y))] (cv_at D k n fc h0 ff)) (vp_Si (fun r => r = nI (tw_en (tw_ng (tw_P k) (x, y))))) 0 0 (fun _ => False) := by
  refine Met.ofW (cc := cX0_other) (maxL := 2) (ret := (some .int)) (by decide) rfl ?_
  intro p e s m args below meth c s₁ B hml hv
  obtain ⟨rfl, hv⟩ := hv
  have hx := B.exec
  have hb := B.bytes
  have hr := B.returns
  have hts := atoms_spec (ws := wX0_other) B.pre
  have ht : ∀ w ∈ tb_all, w.before _ s = true := fun w h => hts w (List.mem_cons_of_mem _ h)
  have hown : s.vm.findClass RX0 = some m.cls := findClass_of_methodNamed B.named
  have hlocks := B.notSynchronized
  have hl := lv_entry ([.ref h0, .int (nI (x * 8192 + y))]) (n := 2) (Nat.le_of_ble_eq_true rfl)
  rw [lg_entry_eq]
  generalize (lg_sl ([.ref h0, .int (nI (x * 8192 + y))]) ++ List.replicate (2 - (lg_sl ([.ref h0, .int (nI (x * 8192 + y))])).length) Slot.unset).toArray = ls at hl ⊢
  have hl : lv_has ls 2 [(0, .ref h0), (1, .int (nI (x * 8192 + y)))] := hl
  obtain ⟨hP0, hP2, hD2, hI2, hDP⟩ := tw_kb hk5
  have hat := hv
  obtain ⟨ai, ar, af, ap, ah, ac, cA, hk, fi, fr, fp, fh, fn, hP, hK, hfi, hfr⟩ := hv
  refine lv_aload_n hx hb dX0_other_0 rfl (lv_at hl 0 rfl) ?_
  refine va_get (D := D) (ci := 0) (v := .int (nI (tw_P k))) (C := RX0) (T := TX0) (N := 12) hx hb ht inX0 hown hK hP 0 rfl rfl 0 (by decide) (ht _ kf_X0_9) (fun _ h9 => h9) rfl dX0_other_1 ?_
  refine lv_iload_n hx hb dX0_other_4 rfl (lv_at hl 1 rfl) ?_
  refine vp_callSi (W.runS (As := [.int (nI (x * 8192 + y))]) (rest := [.int (nI (tw_P k))]) ⟨hx, hb, hml, hown, ht⟩ (c_X0_xOf l (x := x) (y := y) (by omega) (by omega)) (va_cwS 1 ht (tb_S kl_X0_61 kt_X0_xOf kn_X0 kc_X0_xOf) rfl rfl rfl kd_X0_xOf ⟨Nat.le_of_ble_eq_true rfl, Nat.le_of_ble_eq_true rfl⟩) (st_pre _) rfl rfl hl.1 rfl (lv_room (Nat.le_of_ble_eq_true rfl)) dX0_other_5 ⟨Nat.zero_le _, Nat.zero_le _⟩) (fun r hr9 => ?_)
  subst hr9
  refine nv_isub hx hb dX0_other_8 (Nat.le_of_lt hx1) ?_
  refine lv_aload_n hx hb dX0_other_9 rfl (lv_at hl 0 rfl) ?_
  refine va_get (D := D) (ci := 0) (v := .int (nI (tw_P k))) (C := RX0) (T := TX0) (N := 12) hx hb ht inX0 hown hK hP 0 rfl rfl 0 (by decide) (ht _ kf_X0_9) (fun _ h9 => h9) rfl dX0_other_10 ?_
  refine nv_irem hx hb dX0_other_13 hP0 (nv_le (b := 8101) (Nat.le_trans (Nat.sub_le _ _) hP2) (by decide)) (nv_le (b := 8101) hP2 (by decide)) ?_
  refine lv_iload_n hx hb dX0_other_14 rfl (lv_at hl 1 rfl) ?_
  refine vp_callSi (W.runS (As := [.int (nI (x * 8192 + y))]) (rest := [.int (nI (((tw_P k) - x) % (tw_P k)))]) ⟨hx, hb, hml, hown, ht⟩ (c_X0_yOf l (x := x) (y := y) (by omega) (by omega)) (va_cwS 1 ht (tb_S kl_X0_57 kt_X0_yOf kn_X0 kc_X0_yOf) rfl rfl rfl kd_X0_yOf ⟨Nat.le_of_ble_eq_true rfl, Nat.le_of_ble_eq_true rfl⟩) (st_pre _) rfl rfl hl.1 rfl (lv_room (Nat.le_of_ble_eq_true rfl)) dX0_other_15 ⟨Nat.zero_le _, Nat.zero_le _⟩) (fun r hr9 => ?_)
  subst hr9
  refine vp_callSi (W.runS (As := [.int (nI (((tw_P k) - x) % (tw_P k))), .int (nI y)]) (rest := []) ⟨hx, hb, hml, hown, ht⟩ (c_X0_point l (Nat.le_trans (nv_md hP0 hP2) (by decide)) (by omega)) (va_cwS 2 ht (tb_S kl_X0_67 kt_X0_point kn_X0 kc_X0_point) rfl rfl rfl kd_X0_point ⟨Nat.le_of_ble_eq_true rfl, Nat.le_of_ble_eq_true rfl⟩) (st_pre _) rfl rfl hl.1 rfl (lv_room (Nat.le_of_ble_eq_true rfl)) dX0_other_18 ⟨Nat.zero_le _, Nat.zero_le _⟩) (fun r hr9 => ?_)
  subst hr9
  exact W.iret hx hb hr (fun t ht hW => ⟨_, rfl, rfl, ht⟩) (fun q h => nomatch h) dX0_other_21
set_option maxHeartbeats 4000000 in
set_option maxRecDepth 100000 in
theorem c_X0_sum (l : Launch) (D : va_G) {k : Nat} (hk5 : k < 5) {n fc h0 : Nat} {ff : Nat → Int32} {x y u v : Nat} (hx1 : x < tw_P k) (hy1 : y < tw_P k) (hu1 : u < tw_P k) (hv1 : v < tw_P k) : Met l yX0_sum wX0_sum ({ frames := 1, cells := 0, slots := 0, locals := 21 }) (va_Pc [.ref h0, .int (nI (x * 8192 + y)), .int (nI (u * 8192 + v))] (cv_at D k n fc h0 ff)) (vp_Si (fun r => r = nI (tw_en (tw_add (tw_P k) (tw_D k) (x, y) (u, v))))) 0 0 (fun _ => False) := by
  refine Met.ofW (cc := cX0_sum) (maxL := 10) (ret := (some .int)) (by decide) rfl ?_
  intro p e s m args below meth c s₁ B hml hv
  obtain ⟨rfl, hv⟩ := hv
  have hx := B.exec
  have hb := B.bytes
  have hr := B.returns
  have hts := atoms_spec (ws := wX0_sum) B.pre
  have ht : ∀ w ∈ tb_all, w.before _ s = true := fun w h => hts w (List.mem_cons_of_mem _ h)
  have hown : s.vm.findClass RX0 = some m.cls := findClass_of_methodNamed B.named
  have hlocks := B.notSynchronized
  have hl := lv_entry ([.ref h0, .int (nI (x * 8192 + y)), .int (nI (u * 8192 + v))]) (n := 10) (Nat.le_of_ble_eq_true rfl)
  rw [lg_entry_eq]
  generalize (lg_sl ([.ref h0, .int (nI (x * 8192 + y)), .int (nI (u * 8192 + v))]) ++ List.replicate (10 - (lg_sl ([.ref h0, .int (nI (x * 8192 + y)), .int (nI (u * 8192 + v))])).length) Slot.unset).toArray = ls at hl ⊢
  have hl : lv_has ls 10 [(0, .ref h0), (1, .int (nI (x * 8192 + y))), (2, .int (nI (u * 8192 + v)))] := hl
  obtain ⟨hP0, hP2, hD2, hI2, hDP⟩ := tw_kb hk5
  have hat := hv
  obtain ⟨ai, ar, af, ap, ah, ac, cA, hk, fi, fr, fp, fh, fn, hP, hK, hfi, hfr⟩ := hv
  have zx : x ≤ 8100 := by omega
  have zy : y ≤ 8100 := by omega
  have zu : u ≤ 8100 := by omega
  have zv : v ≤ 8100 := by omega
  refine lv_iload_n hx hb dX0_sum_0 rfl (lv_at hl 1 rfl) ?_
  refine vp_callSi (W.runS (As := [.int (nI (x * 8192 + y))]) (rest := []) ⟨hx, hb, hml, hown, ht⟩ (c_X0_xOf l (x := x) (y := y) (by omega) (by omega)) (va_cwS 1 ht (tb_S kl_X0_61 kt_X0_xOf kn_X0 kc_X0_xOf) rfl rfl rfl kd_X0_xOf ⟨Nat.le_of_ble_eq_true rfl, Nat.le_of_ble_eq_true rfl⟩) (st_pre _) rfl rfl hl.1 rfl (lv_room (Nat.le_of_ble_eq_true rfl)) dX0_sum_1 ⟨Nat.zero_le _, Nat.zero_le _⟩) (fun r hr9 => ?_)
  subst hr9
  refine lv_istore_n hx hb dX0_sum_4 rfl hl (by decide) rfl (fun ls hl => ?_)
  have hl : lv_has ls 10 [(3, .int (nI x)), (0, .ref h0), (1, .int (nI (x * 8192 + y))), (2, .int (nI (u * 8192 + v)))] := hl
  refine lv_iload_n hx hb dX0_sum_5 rfl (lv_at hl 2 rfl) ?_
  refine vp_callSi (W.runS (As := [.int (nI (x * 8192 + y))]) (rest := []) ⟨hx, hb, hml, hown, ht⟩ (c_X0_yOf l (x := x) (y := y) (by omega) (by omega)) (va_cwS 1 ht (tb_S kl_X0_57 kt_X0_yOf kn_X0 kc_X0_yOf) rfl rfl rfl kd_X0_yOf ⟨Nat.le_of_ble_eq_true rfl, Nat.le_of_ble_eq_true rfl⟩) (st_pre _) rfl rfl hl.1 rfl (lv_room (Nat.le_of_ble_eq_true rfl)) dX0_sum_6 ⟨Nat.zero_le _, Nat.zero_le _⟩) (fun r hr9 => ?_)
  subst hr9
  refine lv_istore hx hb dX0_sum_9 hl (by decide) rfl (fun ls hl => ?_)
  have hl : lv_has ls 10 [(4, .int (nI y)), (3, .int (nI x)), (0, .ref h0), (1, .int (nI (x * 8192 + y))), (2, .int (nI (u * 8192 + v)))] := hl
  refine lv_iload_n hx hb dX0_sum_11 rfl (lv_at hl 4 rfl) ?_
  refine vp_callSi (W.runS (As := [.int (nI (u * 8192 + v))]) (rest := []) ⟨hx, hb, hml, hown, ht⟩ (c_X0_xOf l (x := u) (y := v) (by omega) (by omega)) (va_cwS 1 ht (tb_S kl_X0_61 kt_X0_xOf kn_X0 kc_X0_xOf) rfl rfl rfl kd_X0_xOf ⟨Nat.le_of_ble_eq_true rfl, Nat.le_of_ble_eq_true rfl⟩) (st_pre _) rfl rfl hl.1 rfl (lv_room (Nat.le_of_ble_eq_true rfl)) dX0_sum_12 ⟨Nat.zero_le _, Nat.zero_le _⟩) (fun r hr9 => ?_)
  subst hr9
  refine lv_istore hx hb dX0_sum_15 hl (by decide) rfl (fun ls hl => ?_)
  have hl : lv_has ls 10 [(5, .int (nI u)), (4, .int (nI y)), (3, .int (nI x)), (0, .ref h0), (1, .int (nI (x * 8192 + y))), (2, .int (nI (u * 8192 + v)))] := hl
  refine lv_iload_n hx hb dX0_sum_17 rfl (lv_at hl 5 rfl) ?_
  refine vp_callSi (W.runS (As := [.int (nI (u * 8192 + v))]) (rest := []) ⟨hx, hb, hml, hown, ht⟩ (c_X0_yOf l (x := u) (y := v) (by omega) (by omega)) (va_cwS 1 ht (tb_S kl_X0_57 kt_X0_yOf kn_X0 kc_X0_yOf) rfl rfl rfl kd_X0_yOf ⟨Nat.le_of_ble_eq_true rfl, Nat.le_of_ble_eq_true rfl⟩) (st_pre _) rfl rfl hl.1 rfl (lv_room (Nat.le_of_ble_eq_true rfl)) dX0_sum_18 ⟨Nat.zero_le _, Nat.zero_le _⟩) (fun r hr9 => ?_)
  subst hr9
  refine lv_istore hx hb dX0_sum_21 hl (by decide) rfl (fun ls hl => ?_)
  have hl : lv_has ls 10 [(6, .int (nI v)), (5, .int (nI u)), (4, .int (nI y)), (3, .int (nI x)), (0, .ref h0), (1, .int (nI (x * 8192 + y))), (2, .int (nI (u * 8192 + v)))] := hl
  refine lv_aload_n hx hb dX0_sum_23 rfl (lv_at hl 4 rfl) ?_
  refine va_get (D := D) (ci := 0) (v := .int (nI (tw_D k))) (C := RX0) (T := TX0) (N := 12) hx hb ht inX0 hown hK hP 0 rfl rfl 1 (by decide) (ht _ kf_X0_42) (fun _ h9 => h9) rfl dX0_sum_24 ?_
  refine lv_iload_n hx hb dX0_sum_27 rfl (lv_at hl 3 rfl) ?_
  refine lv_iload hx hb dX0_sum_28 (lv_at hl 2 rfl) ?_
  refine nv_imul hx hb dX0_sum_30 ?_
  refine lv_aload_n hx hb dX0_sum_31 rfl (lv_at hl 4 rfl) ?_
  refine va_get (D := D) (ci := 0) (v := .int (nI (tw_P k))) (C := RX0) (T := TX0) (N := 12) hx hb ht inX0 hown hK hP 0 rfl rfl 0 (by decide) (ht _ kf_X0_9) (fun _ h9 => h9) rfl dX0_sum_32 ?_
  refine nv_irem hx hb dX0_sum_35 hP0 (nv_le (b := 65610000) (Nat.mul_le_mul zx zy) (by decide)) (nv_le (b := 8101) hP2 (by decide)) ?_
  refine nv_imul hx hb dX0_sum_36 ?_
  refine lv_aload_n hx hb dX0_sum_37 rfl (lv_at hl 4 rfl) ?_
  refine va_get (D := D) (ci := 0) (v := .int (nI (tw_P k))) (C := RX0) (T := TX0) (N := 12) hx hb ht inX0 hown hK hP 0 rfl rfl 0 (by decide) (ht _ kf_X0_9) (fun _ h9 => h9) rfl dX0_sum_38 ?_
  refine nv_irem hx hb dX0_sum_41 hP0 (nv_le (b := 65610000) (Nat.mul_le_mul hD2 (nv_md hP0 hP2)) (by decide)) (nv_le (b := 8101) hP2 (by decide)) ?_
  refine lv_iload hx hb dX0_sum_42 (lv_at hl 1 rfl) ?_
  refine lv_iload hx hb dX0_sum_44 (lv_at hl 0 rfl) ?_
  refine nv_imul hx hb dX0_sum_46 ?_
  refine lv_aload_n hx hb dX0_sum_47 rfl (lv_at hl 4 rfl) ?_
  refine va_get (D := D) (ci := 0) (v := .int (nI (tw_P k))) (C := RX0) (T := TX0) (N := 12) hx hb ht inX0 hown hK hP 0 rfl rfl 0 (by decide) (ht _ kf_X0_9) (fun _ h9 => h9) rfl dX0_sum_48 ?_
  refine nv_irem hx hb dX0_sum_51 hP0 (nv_le (b := 65610000) (Nat.mul_le_mul zu zv) (by decide)) (nv_le (b := 8101) hP2 (by decide)) ?_
  refine nv_imul hx hb dX0_sum_52 ?_
  refine lv_aload_n hx hb dX0_sum_53 rfl (lv_at hl 4 rfl) ?_
  refine va_get (D := D) (ci := 0) (v := .int (nI (tw_P k))) (C := RX0) (T := TX0) (N := 12) hx hb ht inX0 hown hK hP 0 rfl rfl 0 (by decide) (ht _ kf_X0_9) (fun _ h9 => h9) rfl dX0_sum_54 ?_
  refine nv_irem hx hb dX0_sum_57 hP0 (nv_le (b := 65610000) (Nat.mul_le_mul (nv_md hP0 hP2) (nv_md hP0 hP2)) (by decide)) (nv_le (b := 8101) hP2 (by decide)) ?_
  refine lv_istore hx hb dX0_sum_58 hl (by decide) rfl (fun ls hl => ?_)
  have hl : lv_has ls 10 [(7, .int (nI (((((tw_D k) * ((x * y) % (tw_P k))) % (tw_P k)) * ((u * v) % (tw_P k))) % (tw_P k)))), (6, .int (nI v)), (5, .int (nI u)), (4, .int (nI y)), (3, .int (nI x)), (0, .ref h0), (1, .int (nI (x * 8192 + y))), (2, .int (nI (u * 8192 + v)))] := hl
  refine lv_iload_n hx hb dX0_sum_60 rfl (lv_at hl 4 rfl) ?_
  refine lv_iload hx hb dX0_sum_61 (lv_at hl 1 rfl) ?_
  refine nv_imul hx hb dX0_sum_63 ?_
  refine lv_iload hx hb dX0_sum_64 (lv_at hl 3 rfl) ?_
  refine lv_iload hx hb dX0_sum_66 (lv_at hl 2 rfl) ?_
  refine nv_imul hx hb dX0_sum_68 ?_
  refine nv_iadd hx hb dX0_sum_69 ?_
  refine lv_aload_n hx hb dX0_sum_70 rfl (lv_at hl 5 rfl) ?_
  refine va_get (D := D) (ci := 0) (v := .int (nI (tw_P k))) (C := RX0) (T := TX0) (N := 12) hx hb ht inX0 hown hK hP 0 rfl rfl 0 (by decide) (ht _ kf_X0_9) (fun _ h9 => h9) rfl dX0_sum_71 ?_
  refine nv_irem hx hb dX0_sum_74 hP0 (nv_le (b := 131220000) (Nat.add_le_add (Nat.mul_le_mul zx zv) (Nat.mul_le_mul zy zu)) (by decide)) (nv_le (b := 8101) hP2 (by decide)) ?_
  refine lv_aload_n hx hb dX0_sum_75 rfl (lv_at hl 5 rfl) ?_
  refine va_get (D := D) (ci := 0) (v := .ref ai) (C := RX0) (T := TX0) (N := 12) hx hb ht inX0 hown hK hP 0 rfl rfl 4 (by decide) (ht _ kf_X0_13) (fun _ h9 => h9) rfl dX0_sum_76 ?_
  refine lv_iconst (v := (nI 1)) hx hb dX0_sum_79 (by decide) ?_
  refine lv_iload hx hb dX0_sum_80 (lv_at hl 0 rfl) ?_
  refine nv_iadd hx hb dX0_sum_82 ?_
  refine lv_aload_n hx hb dX0_sum_83 rfl (lv_at hl 5 rfl) ?_
  refine va_get (D := D) (ci := 0) (v := .int (nI (tw_P k))) (C := RX0) (T := TX0) (N := 12) hx hb ht inX0 hown hK hP 0 rfl rfl 0 (by decide) (ht _ kf_X0_9) (fun _ h9 => h9) rfl dX0_sum_84 ?_
  refine nv_irem hx hb dX0_sum_87 hP0 (nv_le (b := 8101) (Nat.add_le_add (Nat.le_refl 1) (nv_md hP0 hP2)) (by decide)) (nv_le (b := 8101) hP2 (by decide)) ?_
  refine nv_iald (A := fun _ => True) (H0 := s.heap) hx hb hK hP 1 0 rfl rfl (Nat.mod_lt _ hP0) (nv_le hP2 (by decide)) dX0_sum_88 ?_
  rw [hfi _ (Nat.mod_lt _ hP0)]
  refine nv_imul hx hb dX0_sum_89 ?_
  refine lv_aload_n hx hb dX0_sum_90 rfl (lv_at hl 5 rfl) ?_
  refine va_get (D := D) (ci := 0) (v := .int (nI (tw_P k))) (C := RX0) (T := TX0) (N := 12) hx hb ht inX0 hown hK hP 0 rfl rfl 0 (by decide) (ht _ kf_X0_9) (fun _ h9 => h9) rfl dX0_sum_91 ?_
  refine nv_irem hx hb dX0_sum_94 hP0 (nv_le (b := 65610000) (Nat.mul_le_mul (nv_md hP0 hP2) (Nat.le_of_lt_succ (Nat.lt_of_lt_of_le (tw_iv_lt hP0 _) hP2))) (by decide)) (nv_le (b := 8101) hP2 (by decide)) ?_
  refine lv_istore hx hb dX0_sum_95 hl (by decide) rfl (fun ls hl => ?_)
  have hl : lv_has ls 10 [(8, .int (nI (((((x * v) + (y * u)) % (tw_P k)) * (tw_iv (tw_P k) ((1 + (((((tw_D k) * ((x * y) % (tw_P k))) % (tw_P k)) * ((u * v) % (tw_P k))) % (tw_P k))) % (tw_P k)))) % (tw_P k)))), (7, .int (nI (((((tw_D k) * ((x * y) % (tw_P k))) % (tw_P k)) * ((u * v) % (tw_P k))) % (tw_P k)))), (6, .int (nI v)), (5, .int (nI u)), (4, .int (nI y)), (3, .int (nI x)), (0, .ref h0), (1, .int (nI (x * 8192 + y))), (2, .int (nI (u * 8192 + v)))] := hl
  refine lv_iload hx hb dX0_sum_97 (lv_at hl 4 rfl) ?_
  refine lv_iload hx hb dX0_sum_99 (lv_at hl 2 rfl) ?_
  refine nv_imul hx hb dX0_sum_101 ?_
  refine lv_iload_n hx hb dX0_sum_102 rfl (lv_at hl 5 rfl) ?_
  refine lv_iload hx hb dX0_sum_103 (lv_at hl 3 rfl) ?_
  refine nv_imul hx hb dX0_sum_105 ?_
  refine nv_iadd hx hb dX0_sum_106 ?_
  refine lv_aload_n hx hb dX0_sum_107 rfl (lv_at hl 6 rfl) ?_
  refine va_get (D := D) (ci := 0) (v := .int (nI (tw_P k))) (C := RX0) (T := TX0) (N := 12) hx hb ht inX0 hown hK hP 0 rfl rfl 0 (by decide) (ht _ kf_X0_9) (fun _ h9 => h9) rfl dX0_sum_108 ?_
  refine nv_irem hx hb dX0_sum_111 hP0 (nv_le (b := 131220000) (Nat.add_le_add (Nat.mul_le_mul zy zv) (Nat.mul_le_mul zx zu)) (by decide)) (nv_le (b := 8101) hP2 (by decide)) ?_
  refine lv_aload_n hx hb dX0_sum_112 rfl (lv_at hl 6 rfl) ?_
  refine va_get (D := D) (ci := 0) (v := .ref ai) (C := RX0) (T := TX0) (N := 12) hx hb ht inX0 hown hK hP 0 rfl rfl 4 (by decide) (ht _ kf_X0_13) (fun _ h9 => h9) rfl dX0_sum_113 ?_
  refine lv_iconst (v := (nI 1)) hx hb dX0_sum_116 (by decide) ?_
  refine lv_aload_n hx hb dX0_sum_117 rfl (lv_at hl 6 rfl) ?_
  refine va_get (D := D) (ci := 0) (v := .int (nI (tw_P k))) (C := RX0) (T := TX0) (N := 12) hx hb ht inX0 hown hK hP 0 rfl rfl 0 (by decide) (ht _ kf_X0_9) (fun _ h9 => h9) rfl dX0_sum_118 ?_
  refine nv_iadd hx hb dX0_sum_121 ?_
  refine lv_iload hx hb dX0_sum_122 (lv_at hl 1 rfl) ?_
  refine nv_isub hx hb dX0_sum_124 (Nat.le_trans (Nat.le_of_lt (Nat.mod_lt _ hP0)) (Nat.le_add_left _ _)) ?_
  refine lv_aload_n hx hb dX0_sum_125 rfl (lv_at hl 6 rfl) ?_
  refine va_get (D := D) (ci := 0) (v := .int (nI (tw_P k))) (C := RX0) (T := TX0) (N := 12) hx hb ht inX0 hown hK hP 0 rfl rfl 0 (by decide) (ht _ kf_X0_9) (fun _ h9 => h9) rfl dX0_sum_126 ?_
  refine nv_irem hx hb dX0_sum_129 hP0 (nv_le (b := 8102) (Nat.le_trans (Nat.sub_le _ _) (Nat.add_le_add (Nat.le_refl 1) hP2)) (by decide)) (nv_le (b := 8101) hP2 (by decide)) ?_
  refine nv_iald (A := fun _ => True) (H0 := s.heap) hx hb hK hP 1 0 rfl rfl (Nat.mod_lt _ hP0) (nv_le hP2 (by decide)) dX0_sum_130 ?_
  rw [hfi _ (Nat.mod_lt _ hP0)]
  refine nv_imul hx hb dX0_sum_131 ?_
  refine lv_aload_n hx hb dX0_sum_132 rfl (lv_at hl 6 rfl) ?_
  refine va_get (D := D) (ci := 0) (v := .int (nI (tw_P k))) (C := RX0) (T := TX0) (N := 12) hx hb ht inX0 hown hK hP 0 rfl rfl 0 (by decide) (ht _ kf_X0_9) (fun _ h9 => h9) rfl dX0_sum_133 ?_
  refine nv_irem hx hb dX0_sum_136 hP0 (nv_le (b := 65610000) (Nat.mul_le_mul (nv_md hP0 hP2) (Nat.le_of_lt_succ (Nat.lt_of_lt_of_le (tw_iv_lt hP0 _) hP2))) (by decide)) (nv_le (b := 8101) hP2 (by decide)) ?_
  refine lv_istore hx hb dX0_sum_137 hl (by decide) rfl (fun ls hl => ?_)
  have hl : lv_has ls 10 [(9, .int (nI (((((y * v) + (x * u)) % (tw_P k)) * (tw_iv (tw_P k) (((1 + (tw_P k)) - (((((tw_D k) * ((x * y) % (tw_P k))) % (tw_P k)) * ((u * v) % (tw_P k))) % (tw_P k))) % (tw_P k)))) % (tw_P k)))), (8, .int (nI (((((x * v) + (y * u)) % (tw_P k)) * (tw_iv (tw_P k) ((1 + (((((tw_D k) * ((x * y) % (tw_P k))) % (tw_P k)) * ((u * v) % (tw_P k))) % (tw_P k))) % (tw_P k)))) % (tw_P k)))), (7, .int (nI (((((tw_D k) * ((x * y) % (tw_P k))) % (tw_P k)) * ((u * v) % (tw_P k))) % (tw_P k)))), (6, .int (nI v)), (5, .int (nI u)), (4, .int (nI y)), (3, .int (nI x)), (0, .ref h0), (1, .int (nI (x * 8192 + y))), (2, .int (nI (u * 8192 + v)))] := hl
  refine lv_iload hx hb dX0_sum_139 (lv_at hl 1 rfl) ?_
  refine lv_iload hx hb dX0_sum_141 (lv_at hl 0 rfl) ?_
  refine vp_callSi (W.runS (As := [.int (nI (((((x * v) + (y * u)) % (tw_P k)) * (tw_iv (tw_P k) ((1 + (((((tw_D k) * ((x * y) % (tw_P k))) % (tw_P k)) * ((u * v) % (tw_P k))) % (tw_P k))) % (tw_P k)))) % (tw_P k))), .int (nI (((((y * v) + (x * u)) % (tw_P k)) * (tw_iv (tw_P k) (((1 + (tw_P k)) - (((((tw_D k) * ((x * y) % (tw_P k))) % (tw_P k)) * ((u * v) % (tw_P k))) % (tw_P k))) % (tw_P k)))) % (tw_P k)))]) (rest := []) ⟨hx, hb, hml, hown, ht⟩ (c_X0_point l (Nat.le_trans (nv_md hP0 hP2) (by decide)) (Nat.le_trans (nv_md hP0 hP2) (by decide))) (va_cwS 2 ht (tb_S kl_X0_67 kt_X0_point kn_X0 kc_X0_point) rfl rfl rfl kd_X0_point ⟨Nat.le_of_ble_eq_true rfl, Nat.le_of_ble_eq_true rfl⟩) (st_pre _) rfl rfl hl.1 rfl (lv_room (Nat.le_of_ble_eq_true rfl)) dX0_sum_143 ⟨Nat.zero_le _, Nat.zero_le _⟩) (fun r hr9 => ?_)
  subst hr9
  exact W.iret hx hb hr (fun t ht hW => ⟨_, rfl, rfl, ht⟩) (fun q h => nomatch h) dX0_sum_146
