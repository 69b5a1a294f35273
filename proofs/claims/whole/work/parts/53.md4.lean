/-! the model's public calls that it takes: registers, sums, multiples -/
theorem tw_on1 {P D : Nat} {p : Nat × Nat} (hP : P ≤ 8101) (h : tw_on P D p) : p.1 ≤ 8100 := by
  have := h.1
  omega
theorem tw_on2 {P D : Nat} {p : Nat × Nat} (hP : P ≤ 8101) (h : tw_on P D p) : p.2 ≤ 8100 := by
  have := h.2.1
  omega
theorem md_ng {x P : Nat} (hx : x < P) (hP : P < 2 ^ 31) : ((-(nI x)).toInt64.toInt % (P : Int)).toNat = (P - x) % P := by
  have e : (-(nI x)).toInt64.toInt = (0 : Int) - x := by
    rw [Int32.toInt_toInt64, Int32.toInt_neg, nI_toInt (by omega)]
    rw [Int.bmod_eq_of_le (by omega) (by omega)]
    omega
  have h := fm_c (a := 0) (b := x) (c := P - x) (P := P) 1 (by omega)
  rw [e]
  exact h
set_option maxHeartbeats 4000000 in
set_option maxRecDepth 100000 in
theorem c_X2_keep (l : Launch) (D : va_G) {k : Nat} {m0 mx my mr mb : Nat} {th : Int32} {cA : ClassId} {fx fy : Nat → Int32} {j : Nat} (hj : j < 12) {p9 : Nat × Nat} (hp1 : p9.1 ≤ 8100) (hp2 : p9.2 ≤ 8100) (sz : Nat) : Met l yX2_keep wX2_keep ({ frames := 1, cells := 0, slots := 0, locals := 21 }) (va_Pc [.ref m0, .int (nI j)] (wd_pre D [(cA, .int)] [(m0, .inr (2, [.int th, .int (nI k), .int (nI (tw_P k)), .int (nI (tw_D k)), .int (nI (tw_I k)), .ref mx, .ref my, .ref mr, .ref mb, .int (nI p9.1), .int (nI p9.2)])), (mx, .inl (cA, 12, .inl fx)), (my, .inl (cA, 12, .inl fy))] sz)) (va_Qi (fun (r : Int32) (u : Unit) => r = nI (tw_pk p9)) (fun (u : Unit) t => wd_at D [(cA, .int)] (va_A [(m0, .inr (2, [.int th, .int (nI k), .int (nI (tw_P k)), .int (nI (tw_D k)), .int (nI (tw_I k)), .ref mx, .ref my, .ref mr, .ref mb, .int (nI p9.1), .int (nI p9.2)])), (mx, .inl (cA, 12, .inl fx)), (my, .inl (cA, 12, .inl fy))] sz) [(m0, .inr (2, [.int th, .int (nI k), .int (nI (tw_P k)), .int (nI (tw_D k)), .int (nI (tw_I k)), .ref mx, .ref my, .ref mr, .ref mb, .int (nI p9.1), .int (nI p9.2)])), (mx, .inl (cA, 12, .inl (upd fx j (nI p9.1)))), (my, .inl (cA, 12, .inl (upd fy j (nI p9.2))))] t) (va_A [(m0, .inr (2, [.int th, .int (nI k), .int (nI (tw_P k)), .int (nI (tw_D k)), .int (nI (tw_I k)), .ref mx, .ref my, .ref mr, .ref mb, .int (nI p9.1), .int (nI p9.2)])), (mx, .inl (cA, 12, .inl fx)), (my, .inl (cA, 12, .inl fy))] sz)) 0 0 (va_A [(m0, .inr (2, [.int th, .int (nI k), .int (nI (tw_P k)), .int (nI (tw_D k)), .int (nI (tw_I k)), .ref mx, .ref my, .ref mr, .ref mb, .int (nI p9.1), .int (nI p9.2)])), (mx, .inl (cA, 12, .inl fx)), (my, .inl (cA, 12, .inl fy))] sz) := by
  refine Met.ofW (cc := cX2_keep) (maxL := 2) (ret := (some .int)) (by decide) rfl ?_
  intro p e s m args below meth c s₁ B hml hv
  obtain ⟨rfl, hsz, hP, hK, hD0⟩ := hv
  have hx := B.exec
  have hb := B.bytes
  have hr := B.returns
  have hts := atoms_spec (ws := wX2_keep) B.pre
  have ht : ∀ w ∈ tb_all, w.before _ s = true := fun w h => hts w (List.mem_cons_of_mem _ h)
  have hown : s.vm.findClass RX2 = some m.cls := findClass_of_methodNamed B.named
  have hlocks := B.notSynchronized
  have hin : meth.name = "keep" := (name_of_methodNamed B.named B.method).1
  subst hsz
  have hD := hD0.self (sz := s.heap.size)
  generalize hAe : va_A [(m0, .inr (2, [.int th, .int (nI k), .int (nI (tw_P k)), .int (nI (tw_D k)), .int (nI (tw_I k)), .ref mx, .ref my, .ref mr, .ref mb, .int (nI p9.1), .int (nI p9.2)])), (mx, .inl (cA, 12, .inl fx)), (my, .inl (cA, 12, .inl fy))] s.heap.size = A at hD ⊢
  have hA : ∀ q : Nat, s.heap.size ≤ q → A q := fun q h => by rw [← hAe]; exact Or.inr h
  have hS : va_S A s.heap s.heap [] := va_S.rf
  have hl := lv_entry ([.ref m0, .int (nI j)]) (n := 2) (Nat.le_of_ble_eq_true rfl)
  rw [lg_entry_eq]
  generalize (lg_sl ([.ref m0, .int (nI j)]) ++ List.replicate (2 - (lg_sl ([.ref m0, .int (nI j)])).length) Slot.unset).toArray = ls at hl ⊢
  have hl : lv_has ls 2 [(0, .ref m0), (1, .int (nI j))] := hl
  refine lv_aload_n hx hb dX2_keep_0 rfl (lv_at hl 0 rfl) ?_
  refine va_get (D := D) (ci := 2) (v := .ref mx) (C := RX2) (T := TX2) (N := 11) hx hb ht inX2 hown hK hP 0 rfl rfl 5 (by decide) (ht _ kf_X2_13) (fun _ h9 => h9) rfl dX2_keep_1 ?_
  refine lv_iload_n hx hb dX2_keep_4 rfl (lv_at hl 1 rfl) ?_
  refine lv_aload_n hx hb dX2_keep_5 rfl (lv_at hl 0 rfl) ?_
  refine va_get (D := D) (ci := 2) (v := .int (nI p9.1)) (C := RX2) (T := TX2) (N := 11) hx hb ht inX2 hown hK hP 0 rfl rfl 9 (by decide) (ht _ kf_X2_59) (fun _ h9 => h9) rfl dX2_keep_6 ?_
  refine nv_iast hx hb hK hP hD hS 1 0 rfl rfl hj (by decide) dX2_keep_9 (fun H locs hP hD hS => ?_)
  have hP : va_P D vwCl [(m0, .inr (2, [.int th, .int (nI k), .int (nI (tw_P k)), .int (nI (tw_D k)), .int (nI (tw_I k)), .ref mx, .ref my, .ref mr, .ref mb, .int (nI p9.1), .int (nI p9.2)])), (mx, .inl (cA, 12, .inl (upd fx j (nI p9.1)))), (my, .inl (cA, 12, .inl fy))] H := hP
  have hD : va_D A [(m0, .inr (2, [.int th, .int (nI k), .int (nI (tw_P k)), .int (nI (tw_D k)), .int (nI (tw_I k)), .ref mx, .ref my, .ref mr, .ref mb, .int (nI p9.1), .int (nI p9.2)])), (mx, .inl (cA, 12, .inl (upd fx j (nI p9.1)))), (my, .inl (cA, 12, .inl fy))] := hD
  refine lv_aload_n hx hb dX2_keep_10 rfl (lv_at hl 0 rfl) ?_
  refine va_get (D := D) (ci := 2) (v := .ref my) (C := RX2) (T := TX2) (N := 11) hx hb ht inX2 hown hK hP 0 rfl rfl 6 (by decide) (ht _ kf_X2_17) (fun _ h9 => h9) rfl dX2_keep_11 ?_
  refine lv_iload_n hx hb dX2_keep_14 rfl (lv_at hl 1 rfl) ?_
  refine lv_aload_n hx hb dX2_keep_15 rfl (lv_at hl 0 rfl) ?_
  refine va_get (D := D) (ci := 2) (v := .int (nI p9.2)) (C := RX2) (T := TX2) (N := 11) hx hb ht inX2 hown hK hP 0 rfl rfl 10 (by decide) (ht _ kf_X2_56) (fun _ h9 => h9) rfl dX2_keep_16 ?_
  refine nv_iast hx hb hK hP hD hS 2 0 rfl rfl hj (by decide) dX2_keep_19 (fun H locs hP hD hS => ?_)
  have hP : va_P D vwCl [(m0, .inr (2, [.int th, .int (nI k), .int (nI (tw_P k)), .int (nI (tw_D k)), .int (nI (tw_I k)), .ref mx, .ref my, .ref mr, .ref mb, .int (nI p9.1), .int (nI p9.2)])), (mx, .inl (cA, 12, .inl (upd fx j (nI p9.1)))), (my, .inl (cA, 12, .inl (upd fy j (nI p9.2))))] H := hP
  have hD : va_D A [(m0, .inr (2, [.int th, .int (nI k), .int (nI (tw_P k)), .int (nI (tw_D k)), .int (nI (tw_I k)), .ref mx, .ref my, .ref mr, .ref mb, .int (nI p9.1), .int (nI p9.2)])), (mx, .inl (cA, 12, .inl (upd fx j (nI p9.1)))), (my, .inl (cA, 12, .inl (upd fy j (nI p9.2))))] := hD
  refine lv_aload_n hx hb dX2_keep_20 rfl (lv_at hl 0 rfl) ?_
  refine va_get (D := D) (ci := 2) (v := .int (nI p9.1)) (C := RX2) (T := TX2) (N := 11) hx hb ht inX2 hown hK hP 0 rfl rfl 9 (by decide) (ht _ kf_X2_59) (fun _ h9 => h9) rfl dX2_keep_21 ?_
  refine lv_aload_n hx hb dX2_keep_24 rfl (lv_at hl 0 rfl) ?_
  refine va_get (D := D) (ci := 2) (v := .int (nI p9.2)) (C := RX2) (T := TX2) (N := 11) hx hb ht inX2 hown hK hP 0 rfl rfl 10 (by decide) (ht _ kf_X2_56) (fun _ h9 => h9) rfl dX2_keep_25 ?_
  refine vp_callSi (W.runS (As := [.int (nI p9.1), .int (nI p9.2)]) (rest := []) ⟨hx, hb, hml, hown, ht⟩ (c_X2_pack l (x := p9.1) (y := p9.2) (by omega) (by omega)) (va_cwS 2 ht (tb_S kl_X2_73 kt_X2_pack kn_X2 kc_X2_pack) rfl rfl rfl kd_X2_pack ⟨Nat.le_of_ble_eq_true rfl, Nat.le_of_ble_eq_true rfl⟩) (st_pre _) rfl rfl hl.1 rfl (lv_room (Nat.le_of_ble_eq_true rfl)) dX2_keep_28 ⟨Nat.zero_le _, Nat.zero_le _⟩) (fun r hr9 => ?_)
  subst hr9
  exact W.iret hx hb hr (fun t ht9 hW => ⟨⟨_, (), rfl, rfl, by rw [ht9]; exact hP, va_K.moved hW.alike hK, hD⟩, hS.F ht9⟩) hS.2.2 dX2_keep_31
set_option maxHeartbeats 4000000 in
set_option maxRecDepth 100000 in
theorem c_X2_packed (l : Launch) (D : va_G) {k : Nat} (hk5 : k < 5) {m0 mx my mr mb : Nat} {th sx sy : Int32} {cA : ClassId} {fx fy fr fb : Nat → Int32} {R : Nat → Nat × Nat} (hfr : ∀ j, j < tw_P k → fr j = tw_rv (tw_P k) j) (hR : ∀ j, j < 12 → tw_on (tw_P k) (tw_D k) (R j) ∧ fx j = nI (R j).1 ∧ fy j = nI (R j).2) {j : Nat} (hj : j < 12) (sz : Nat) : Met l yX2_packed wX2_packed ({ frames := 1, cells := 0, slots := 0, locals := 21 }) (va_Pc [.ref m0, .int (nI j)] (wd_pre D [(cA, .int)] [(m0, .inr (2, [.int th, .int (nI k), .int (nI (tw_P k)), .int (nI (tw_D k)), .int (nI (tw_I k)), .ref mx, .ref my, .ref mr, .ref mb, .int sx, .int sy])), (mx, .inl (cA, 12, .inl fx)), (my, .inl (cA, 12, .inl fy)), (mr, .inl (cA, 8101, .inl fr)), (mb, .inl (cA, 5, .inl fb))] sz)) (va_Qi (fun (r : Int32) (u : Unit) => r = nI (tw_pk (R j))) (fun (u : Unit) t => wd_at D [(cA, .int)] (va_A [(m0, .inr (2, [.int th, .int (nI k), .int (nI (tw_P k)), .int (nI (tw_D k)), .int (nI (tw_I k)), .ref mx, .ref my, .ref mr, .ref mb, .int sx, .int sy])), (mx, .inl (cA, 12, .inl fx)), (my, .inl (cA, 12, .inl fy)), (mr, .inl (cA, 8101, .inl fr)), (mb, .inl (cA, 5, .inl fb))] sz) [(m0, .inr (2, [.int (nI 0), .int (nI k), .int (nI (tw_P k)), .int (nI (tw_D k)), .int (nI (tw_I k)), .ref mx, .ref my, .ref mr, .ref mb, .int sx, .int sy])), (mx, .inl (cA, 12, .inl fx)), (my, .inl (cA, 12, .inl fy)), (mr, .inl (cA, 8101, .inl fr)), (mb, .inl (cA, 5, .inl fb))] t) (va_A [(m0, .inr (2, [.int th, .int (nI k), .int (nI (tw_P k)), .int (nI (tw_D k)), .int (nI (tw_I k)), .ref mx, .ref my, .ref mr, .ref mb, .int sx, .int sy])), (mx, .inl (cA, 12, .inl fx)), (my, .inl (cA, 12, .inl fy)), (mr, .inl (cA, 8101, .inl fr)), (mb, .inl (cA, 5, .inl fb))] sz)) 0 0 (va_A [(m0, .inr (2, [.int th, .int (nI k), .int (nI (tw_P k)), .int (nI (tw_D k)), .int (nI (tw_I k)), .ref mx, .ref my, .ref mr, .ref mb, .int sx, .int sy])), (mx, .inl (cA, 12, .inl fx)), (my, .inl (cA, 12, .inl fy)), (mr, .inl (cA, 8101, .inl fr)), (mb, .inl (cA, 5, .inl fb))] sz) := by
  refine Met.ofW (cc := cX2_packed) (maxL := 2) (ret := (some .int)) (by decide) rfl ?_
  intro p e s m args below meth c s₁ B hml hv
  obtain ⟨rfl, hsz, hP, hK, hD0⟩ := hv
  have hx := B.exec
  have hb := B.bytes
  have hr := B.returns
  have hts := atoms_spec (ws := wX2_packed) B.pre
  have ht : ∀ w ∈ tb_all, w.before _ s = true := fun w h => hts w (List.mem_cons_of_mem _ h)
  have hown : s.vm.findClass RX2 = some m.cls := findClass_of_methodNamed B.named
  have hlocks := B.notSynchronized
  have hin : meth.name = "packed" := (name_of_methodNamed B.named B.method).1
  subst hsz
  have hD := hD0.self (sz := s.heap.size)
  generalize hAe : va_A [(m0, .inr (2, [.int th, .int (nI k), .int (nI (tw_P k)), .int (nI (tw_D k)), .int (nI (tw_I k)), .ref mx, .ref my, .ref mr, .ref mb, .int sx, .int sy])), (mx, .inl (cA, 12, .inl fx)), (my, .inl (cA, 12, .inl fy)), (mr, .inl (cA, 8101, .inl fr)), (mb, .inl (cA, 5, .inl fb))] s.heap.size = A at hD ⊢
  have hA : ∀ q : Nat, s.heap.size ≤ q → A q := fun q h => by rw [← hAe]; exact Or.inr h
  have hS : va_S A s.heap s.heap [] := va_S.rf
  have hl := lv_entry ([.ref m0, .int (nI j)]) (n := 2) (Nat.le_of_ble_eq_true rfl)
  rw [lg_entry_eq]
  generalize (lg_sl ([.ref m0, .int (nI j)]) ++ List.replicate (2 - (lg_sl ([.ref m0, .int (nI j)])).length) Slot.unset).toArray = ls at hl ⊢
  have hl : lv_has ls 2 [(0, .ref m0), (1, .int (nI j))] := hl
  obtain ⟨hP0, hP2, hD2, hI2, hDP⟩ := tw_kb hk5
  have hK0 := tw_kK k hk5
  have hP8 : tw_P k ≤ 8192 := by omega
  have hN := tw_kN k hk5
  have zk : k ≤ 4 := by omega
  refine lv_aload_n hx hb dX2_packed_0 rfl (lv_at hl 0 rfl) ?_
  refine lv_iload_n hx hb dX2_packed_1 rfl (lv_at hl 1 rfl) ?_
  refine vp_callSi (W.runS (As := [.int (nI j)]) (rest := [.ref m0]) ⟨hx, hb, hml, hown, ht⟩ (c_X2_none l hj) (va_cwS 1 ht (tb_S kl_X2_76 kt_X2_none kn_X2 kc_X2_none) rfl rfl rfl kd_X2_none ⟨Nat.le_of_ble_eq_true rfl, Nat.le_of_ble_eq_true rfl⟩) (st_pre _) rfl rfl hl.1 rfl (lv_room (Nat.le_of_ble_eq_true rfl)) dX2_packed_2 ⟨Nat.zero_le _, Nat.zero_le _⟩) (fun r hr9 => ?_)
  subst hr9
  refine lv_if_eq (tgt := 12) hx hb dX2_packed_5 (by decide) (fun _ => ?_) (fun c9 => absurd rfl c9)
  refine lv_iconst (v := (nI 0)) hx hb dX2_packed_12 (by decide) ?_
  refine va_put (D := D) (ci := 2) (v := .int (nI 0)) (ty := .int) (C := RX2) (T := TX2) (N := 11) hx hb ht inX2 tyX2 tyX2_ok nmX2 hown hK hP hD hS 0 rfl rfl 0 (by decide) (ht _ kf_X2_30) (fun _ h9 => h9) rfl (by decide +kernel) rfl rfl (Nat.le_of_ble_eq_true rfl) dX2_packed_13 (fun H locs hP hD hS => ?_)
  have hP : va_P D vwCl [(m0, .inr (2, [.int (nI 0), .int (nI k), .int (nI (tw_P k)), .int (nI (tw_D k)), .int (nI (tw_I k)), .ref mx, .ref my, .ref mr, .ref mb, .int sx, .int sy])), (mx, .inl (cA, 12, .inl fx)), (my, .inl (cA, 12, .inl fy)), (mr, .inl (cA, 8101, .inl fr)), (mb, .inl (cA, 5, .inl fb))] H := hP
  have hD : va_D A [(m0, .inr (2, [.int (nI 0), .int (nI k), .int (nI (tw_P k)), .int (nI (tw_D k)), .int (nI (tw_I k)), .ref mx, .ref my, .ref mr, .ref mb, .int sx, .int sy])), (mx, .inl (cA, 12, .inl fx)), (my, .inl (cA, 12, .inl fy)), (mr, .inl (cA, 8101, .inl fr)), (mb, .inl (cA, 5, .inl fb))] := hD
  refine lv_aload_n hx hb dX2_packed_16 rfl (lv_at hl 0 rfl) ?_
  refine va_get (D := D) (ci := 2) (v := .int (nI 0)) (C := RX2) (T := TX2) (N := 11) hx hb ht inX2 hown hK hP 0 rfl rfl 0 (by decide) (ht _ kf_X2_30) (fun _ h9 => h9) rfl dX2_packed_17 ?_
  refine nv_if_le (tgt := 27) hx hb dX2_packed_20 (by decide) (by decide) (fun _ => ?_) (fun c8 => absurd c8 (by decide))
  refine lv_aload_n hx hb dX2_packed_27 rfl (lv_at hl 0 rfl) ?_
  refine va_get (D := D) (ci := 2) (v := .ref mx) (C := RX2) (T := TX2) (N := 11) hx hb ht inX2 hown hK hP 0 rfl rfl 5 (by decide) (ht _ kf_X2_13) (fun _ h9 => h9) rfl dX2_packed_28 ?_
  refine lv_iload_n hx hb dX2_packed_31 rfl (lv_at hl 1 rfl) ?_
  refine nv_iald (A := fun _ => True) (H0 := s.heap) hx hb hK hP 1 0 rfl rfl hj (by decide) dX2_packed_32 ?_
  rw [(hR _ hj).2.1]
  refine lv_aload_n hx hb dX2_packed_33 rfl (lv_at hl 0 rfl) ?_
  refine va_get (D := D) (ci := 2) (v := .ref my) (C := RX2) (T := TX2) (N := 11) hx hb ht inX2 hown hK hP 0 rfl rfl 6 (by decide) (ht _ kf_X2_17) (fun _ h9 => h9) rfl dX2_packed_34 ?_
  refine lv_iload_n hx hb dX2_packed_37 rfl (lv_at hl 1 rfl) ?_
  refine nv_iald (A := fun _ => True) (H0 := s.heap) hx hb hK hP 2 0 rfl rfl hj (by decide) dX2_packed_38 ?_
  rw [(hR _ hj).2.2]
  refine vp_callSi (W.runS (As := [.int (nI ((R j).1)), .int (nI ((R j).2))]) (rest := []) ⟨hx, hb, hml, hown, ht⟩ (c_X2_pack l (x := (R j).1) (y := (R j).2) (by have := tw_on1 hP2 (hR j hj).1; omega) (by have := tw_on2 hP2 (hR j hj).1; omega)) (va_cwS 2 ht (tb_S kl_X2_73 kt_X2_pack kn_X2 kc_X2_pack) rfl rfl rfl kd_X2_pack ⟨Nat.le_of_ble_eq_true rfl, Nat.le_of_ble_eq_true rfl⟩) (st_pre _) rfl rfl hl.1 rfl (lv_room (Nat.le_of_ble_eq_true rfl)) dX2_packed_39 ⟨Nat.zero_le _, Nat.zero_le _⟩) (fun r hr9 => ?_)
  subst hr9
  exact W.iret hx hb hr (fun t ht9 hW => ⟨⟨_, (), rfl, rfl, by rw [ht9]; exact hP, va_K.moved hW.alike hK, hD⟩, hS.F ht9⟩) hS.2.2 dX2_packed_42
set_option maxHeartbeats 4000000 in
set_option maxRecDepth 100000 in
theorem c_X2_get (l : Launch) (D : va_G) {k : Nat} (hk5 : k < 5) {m0 mx my mr mb : Nat} {th sx sy : Int32} {cA : ClassId} {fx fy fr fb : Nat → Int32} {R : Nat → Nat × Nat} (hfr : ∀ j, j < tw_P k → fr j = tw_rv (tw_P k) j) (hR : ∀ j, j < 12 → tw_on (tw_P k) (tw_D k) (R j) ∧ fx j = nI (R j).1 ∧ fy j = nI (R j).2) {j b : Nat} (hj : j < 12) (hb1 : b ≤ 1) (sz : Nat) : Met l yX2_get wX2_get ({ frames := 1, cells := 0, slots := 0, locals := 20 }) (va_Pc [.ref m0, .int (nI j), .int (nI b)] (wd_pre D [(cA, .int)] [(m0, .inr (2, [.int th, .int (nI k), .int (nI (tw_P k)), .int (nI (tw_D k)), .int (nI (tw_I k)), .ref mx, .ref my, .ref mr, .ref mb, .int sx, .int sy])), (mx, .inl (cA, 12, .inl fx)), (my, .inl (cA, 12, .inl fy)), (mr, .inl (cA, 8101, .inl fr)), (mb, .inl (cA, 5, .inl fb))] sz)) (va_Qi (fun (r : Int32) (u : Unit) => r = nI (if b = 0 then (R j).1 else (R j).2)) (fun (u : Unit) t => wd_at D [(cA, .int)] (va_A [(m0, .inr (2, [.int th, .int (nI k), .int (nI (tw_P k)), .int (nI (tw_D k)), .int (nI (tw_I k)), .ref mx, .ref my, .ref mr, .ref mb, .int sx, .int sy])), (mx, .inl (cA, 12, .inl fx)), (my, .inl (cA, 12, .inl fy)), (mr, .inl (cA, 8101, .inl fr)), (mb, .inl (cA, 5, .inl fb))] sz) [(m0, .inr (2, [.int (nI 0), .int (nI k), .int (nI (tw_P k)), .int (nI (tw_D k)), .int (nI (tw_I k)), .ref mx, .ref my, .ref mr, .ref mb, .int sx, .int sy])), (mx, .inl (cA, 12, .inl fx)), (my, .inl (cA, 12, .inl fy)), (mr, .inl (cA, 8101, .inl fr)), (mb, .inl (cA, 5, .inl fb))] t) (va_A [(m0, .inr (2, [.int th, .int (nI k), .int (nI (tw_P k)), .int (nI (tw_D k)), .int (nI (tw_I k)), .ref mx, .ref my, .ref mr, .ref mb, .int sx, .int sy])), (mx, .inl (cA, 12, .inl fx)), (my, .inl (cA, 12, .inl fy)), (mr, .inl (cA, 8101, .inl fr)), (mb, .inl (cA, 5, .inl fb))] sz)) 0 0 (va_A [(m0, .inr (2, [.int th, .int (nI k), .int (nI (tw_P k)), .int (nI (tw_D k)), .int (nI (tw_I k)), .ref mx, .ref my, .ref mr, .ref mb, .int sx, .int sy])), (mx, .inl (cA, 12, .inl fx)), (my, .inl (cA, 12, .inl fy)), (mr, .inl (cA, 8101, .inl fr)), (mb, .inl (cA, 5, .inl fb))] sz) := by
  refine Met.ofW (cc := cX2_get) (maxL := 3) (ret := (some .int)) (by decide) rfl ?_
  intro p e s m args below meth c s₁ B hml hv
  obtain ⟨rfl, hsz, hP, hK, hD0⟩ := hv
  have hx := B.exec
  have hb := B.bytes
  have hr := B.returns
  have hts := atoms_spec (ws := wX2_get) B.pre
  have ht : ∀ w ∈ tb_all, w.before _ s = true := fun w h => hts w (List.mem_cons_of_mem _ h)
  have hown : s.vm.findClass RX2 = some m.cls := findClass_of_methodNamed B.named
  have hlocks := B.notSynchronized
  have hin : meth.name = "get" := (name_of_methodNamed B.named B.method).1
  subst hsz
  have hD := hD0.self (sz := s.heap.size)
  generalize hAe : va_A [(m0, .inr (2, [.int th, .int (nI k), .int (nI (tw_P k)), .int (nI (tw_D k)), .int (nI (tw_I k)), .ref mx, .ref my, .ref mr, .ref mb, .int sx, .int sy])), (mx, .inl (cA, 12, .inl fx)), (my, .inl (cA, 12, .inl fy)), (mr, .inl (cA, 8101, .inl fr)), (mb, .inl (cA, 5, .inl fb))] s.heap.size = A at hD ⊢
  have hA : ∀ q : Nat, s.heap.size ≤ q → A q := fun q h => by rw [← hAe]; exact Or.inr h
  have hS : va_S A s.heap s.heap [] := va_S.rf
  have hl := lv_entry ([.ref m0, .int (nI j), .int (nI b)]) (n := 3) (Nat.le_of_ble_eq_true rfl)
  rw [lg_entry_eq]
  generalize (lg_sl ([.ref m0, .int (nI j), .int (nI b)]) ++ List.replicate (3 - (lg_sl ([.ref m0, .int (nI j), .int (nI b)])).length) Slot.unset).toArray = ls at hl ⊢
  have hl : lv_has ls 3 [(0, .ref m0), (1, .int (nI j)), (2, .int (nI b))] := hl
  obtain ⟨hP0, hP2, hD2, hI2, hDP⟩ := tw_kb hk5
  have hK0 := tw_kK k hk5
  have hP8 : tw_P k ≤ 8192 := by omega
  have hN := tw_kN k hk5
  have zk : k ≤ 4 := by omega
  refine lv_aload_n hx hb dX2_get_0 rfl (lv_at hl 0 rfl) ?_
  refine lv_iload_n hx hb dX2_get_1 rfl (lv_at hl 1 rfl) ?_
  refine vp_callSi (W.runS (As := [.int (nI j)]) (rest := [.ref m0]) ⟨hx, hb, hml, hown, ht⟩ (c_X2_none l hj) (va_cwS 1 ht (tb_S kl_X2_76 kt_X2_none kn_X2 kc_X2_none) rfl rfl rfl kd_X2_none ⟨Nat.le_of_ble_eq_true rfl, Nat.le_of_ble_eq_true rfl⟩) (st_pre _) rfl rfl hl.1 rfl (lv_room (Nat.le_of_ble_eq_true rfl)) dX2_get_2 ⟨Nat.zero_le _, Nat.zero_le _⟩) (fun r hr9 => ?_)
  subst hr9
  refine lv_if_eq (tgt := 12) hx hb dX2_get_5 (by decide) (fun _ => ?_) (fun c9 => absurd rfl c9)
  refine lv_iconst (v := (nI 0)) hx hb dX2_get_12 (by decide) ?_
  refine va_put (D := D) (ci := 2) (v := .int (nI 0)) (ty := .int) (C := RX2) (T := TX2) (N := 11) hx hb ht inX2 tyX2 tyX2_ok nmX2 hown hK hP hD hS 0 rfl rfl 0 (by decide) (ht _ kf_X2_30) (fun _ h9 => h9) rfl (by decide +kernel) rfl rfl (Nat.le_of_ble_eq_true rfl) dX2_get_13 (fun H locs hP hD hS => ?_)
  have hP : va_P D vwCl [(m0, .inr (2, [.int (nI 0), .int (nI k), .int (nI (tw_P k)), .int (nI (tw_D k)), .int (nI (tw_I k)), .ref mx, .ref my, .ref mr, .ref mb, .int sx, .int sy])), (mx, .inl (cA, 12, .inl fx)), (my, .inl (cA, 12, .inl fy)), (mr, .inl (cA, 8101, .inl fr)), (mb, .inl (cA, 5, .inl fb))] H := hP
  have hD : va_D A [(m0, .inr (2, [.int (nI 0), .int (nI k), .int (nI (tw_P k)), .int (nI (tw_D k)), .int (nI (tw_I k)), .ref mx, .ref my, .ref mr, .ref mb, .int sx, .int sy])), (mx, .inl (cA, 12, .inl fx)), (my, .inl (cA, 12, .inl fy)), (mr, .inl (cA, 8101, .inl fr)), (mb, .inl (cA, 5, .inl fb))] := hD
  refine lv_aload_n hx hb dX2_get_16 rfl (lv_at hl 0 rfl) ?_
  refine va_get (D := D) (ci := 2) (v := .int (nI 0)) (C := RX2) (T := TX2) (N := 11) hx hb ht inX2 hown hK hP 0 rfl rfl 0 (by decide) (ht _ kf_X2_30) (fun _ h9 => h9) rfl dX2_get_17 ?_
  refine nv_if_le (tgt := 27) hx hb dX2_get_20 (by decide) (by decide) (fun _ => ?_) (fun c8 => absurd c8 (by decide))
  refine lv_iload_n hx hb dX2_get_27 rfl (lv_at hl 2 rfl) ?_
  refine nv_if_eq (tgt := 40) hx hb dX2_get_28 (by decide) (nv_le (b := 1) hb1 (by decide)) (fun c28 => ?_) (fun c28 => ?_)
  · refine lv_aload_n hx hb dX2_get_40 rfl (lv_at hl 0 rfl) ?_
    refine va_get (D := D) (ci := 2) (v := .ref mx) (C := RX2) (T := TX2) (N := 11) hx hb ht inX2 hown hK hP 0 rfl rfl 5 (by decide) (ht _ kf_X2_13) (fun _ h9 => h9) rfl dX2_get_41 ?_
    refine lv_iload_n hx hb dX2_get_44 rfl (lv_at hl 1 rfl) ?_
    refine nv_iald (A := fun _ => True) (H0 := s.heap) hx hb hK hP 1 0 rfl rfl hj (by decide) dX2_get_45 ?_
    rw [(hR _ hj).2.1]
    exact W.iret hx hb hr (fun t ht9 hW => ⟨⟨_, (), rfl, by rw [if_pos c28], by rw [ht9]; exact hP, va_K.moved hW.alike hK, hD⟩, hS.F ht9⟩) hS.2.2 dX2_get_46
  · refine lv_aload_n hx hb dX2_get_31 rfl (lv_at hl 0 rfl) ?_
    refine va_get (D := D) (ci := 2) (v := .ref my) (C := RX2) (T := TX2) (N := 11) hx hb ht inX2 hown hK hP 0 rfl rfl 6 (by decide) (ht _ kf_X2_17) (fun _ h9 => h9) rfl dX2_get_32 ?_
    refine lv_iload_n hx hb dX2_get_35 rfl (lv_at hl 1 rfl) ?_
    refine nv_iald (A := fun _ => True) (H0 := s.heap) hx hb hK hP 2 0 rfl rfl hj (by decide) dX2_get_36 ?_
    rw [(hR _ hj).2.2]
    refine lv_goto (tgt := 46) hx hb dX2_get_37 (by decide) ?_
    exact W.iret hx hb hr (fun t ht9 hW => ⟨⟨_, (), rfl, by rw [if_neg (by omega)], by rw [ht9]; exact hP, va_K.moved hW.alike hK, hD⟩, hS.F ht9⟩) hS.2.2 dX2_get_46
set_option maxHeartbeats 4000000 in
set_option maxRecDepth 100000 in
theorem c_X2_order (l : Launch) (D : va_G) {k : Nat} (hk5 : k < 5) {m0 mx my mr mb : Nat} {th sx sy : Int32} {cA : ClassId} {fx fy fr fb : Nat → Int32} {R : Nat → Nat × Nat} (hfr : ∀ j, j < tw_P k → fr j = tw_rv (tw_P k) j) (hR : ∀ j, j < 12 → tw_on (tw_P k) (tw_D k) (R j) ∧ fx j = nI (R j).1 ∧ fy j = nI (R j).2) {j : Nat} (hj : j < 12) (sz : Nat) : Met l yX2_order wX2_order ({ frames := 4, cells := 0, slots := 0, locals := 98 }) (va_Pc [.ref m0, .int (nI j)] (wd_pre D [(cA, .int)] [(m0, .inr (2, [.int th, .int (nI k), .int (nI (tw_P k)), .int (nI (tw_D k)), .int (nI (tw_I k)), .ref mx, .ref my, .ref mr, .ref mb, .int sx, .int sy])), (mx, .inl (cA, 12, .inl fx)), (my, .inl (cA, 12, .inl fy)), (mr, .inl (cA, 8101, .inl fr)), (mb, .inl (cA, 5, .inl fb))] sz)) (va_Qi (fun (r : Int32) (u : Int32 × Int32) => r = nI (tw_od (tw_P k) (tw_D k) (tw_N k) (R j))) (fun (u : Int32 × Int32) t => wd_at D [(cA, .int)] (va_A [(m0, .inr (2, [.int th, .int (nI k), .int (nI (tw_P k)), .int (nI (tw_D k)), .int (nI (tw_I k)), .ref mx, .ref my, .ref mr, .ref mb, .int sx, .int sy])), (mx, .inl (cA, 12, .inl fx)), (my, .inl (cA, 12, .inl fy)), (mr, .inl (cA, 8101, .inl fr)), (mb, .inl (cA, 5, .inl fb))] sz) [(m0, .inr (2, [.int (nI 0), .int (nI k), .int (nI (tw_P k)), .int (nI (tw_D k)), .int (nI (tw_I k)), .ref mx, .ref my, .ref mr, .ref mb, .int u.1, .int u.2])), (mx, .inl (cA, 12, .inl fx)), (my, .inl (cA, 12, .inl fy)), (mr, .inl (cA, 8101, .inl fr)), (mb, .inl (cA, 5, .inl fb))] t) (va_A [(m0, .inr (2, [.int th, .int (nI k), .int (nI (tw_P k)), .int (nI (tw_D k)), .int (nI (tw_I k)), .ref mx, .ref my, .ref mr, .ref mb, .int sx, .int sy])), (mx, .inl (cA, 12, .inl fx)), (my, .inl (cA, 12, .inl fy)), (mr, .inl (cA, 8101, .inl fr)), (mb, .inl (cA, 5, .inl fb))] sz)) 0 0 (va_A [(m0, .inr (2, [.int th, .int (nI k), .int (nI (tw_P k)), .int (nI (tw_D k)), .int (nI (tw_I k)), .ref mx, .ref my, .ref mr, .ref mb, .int sx, .int sy])), (mx, .inl (cA, 12, .inl fx)), (my, .inl (cA, 12, .inl fy)), (mr, .inl (cA, 8101, .inl fr)), (mb, .inl (cA, 5, .inl fb))] sz) := by
  refine Met.ofW (cc := cX2_order) (maxL := 2) (ret := (some .int)) (by decide) rfl ?_
  intro p e s m args below meth c s₁ B hml hv
  obtain ⟨rfl, hsz, hP, hK, hD0⟩ := hv
  have hx := B.exec
  have hb := B.bytes
  have hr := B.returns
  have hts := atoms_spec (ws := wX2_order) B.pre
  have ht : ∀ w ∈ tb_all, w.before _ s = true := fun w h => hts w (List.mem_cons_of_mem _ h)
  have hown : s.vm.findClass RX2 = some m.cls := findClass_of_methodNamed B.named
  have hlocks := B.notSynchronized
  have hin : meth.name = "order" := (name_of_methodNamed B.named B.method).1
  subst hsz
  have hD := hD0.self (sz := s.heap.size)
  generalize hAe : va_A [(m0, .inr (2, [.int th, .int (nI k), .int (nI (tw_P k)), .int (nI (tw_D k)), .int (nI (tw_I k)), .ref mx, .ref my, .ref mr, .ref mb, .int sx, .int sy])), (mx, .inl (cA, 12, .inl fx)), (my, .inl (cA, 12, .inl fy)), (mr, .inl (cA, 8101, .inl fr)), (mb, .inl (cA, 5, .inl fb))] s.heap.size = A at hD ⊢
  have hA : ∀ q : Nat, s.heap.size ≤ q → A q := fun q h => by rw [← hAe]; exact Or.inr h
  have hS : va_S A s.heap s.heap [] := va_S.rf
  have hl := lv_entry ([.ref m0, .int (nI j)]) (n := 2) (Nat.le_of_ble_eq_true rfl)
  rw [lg_entry_eq]
  generalize (lg_sl ([.ref m0, .int (nI j)]) ++ List.replicate (2 - (lg_sl ([.ref m0, .int (nI j)])).length) Slot.unset).toArray = ls at hl ⊢
  have hl : lv_has ls 2 [(0, .ref m0), (1, .int (nI j))] := hl
  obtain ⟨hP0, hP2, hD2, hI2, hDP⟩ := tw_kb hk5
  have hK0 := tw_kK k hk5
  have hP8 : tw_P k ≤ 8192 := by omega
  have hN := tw_kN k hk5
  have zk : k ≤ 4 := by omega
  refine lv_aload_n hx hb dX2_order_0 rfl (lv_at hl 0 rfl) ?_
  refine lv_iload_n hx hb dX2_order_1 rfl (lv_at hl 1 rfl) ?_
  refine vp_callSi (W.runS (As := [.int (nI j)]) (rest := [.ref m0]) ⟨hx, hb, hml, hown, ht⟩ (c_X2_none l hj) (va_cwS 1 ht (tb_S kl_X2_76 kt_X2_none kn_X2 kc_X2_none) rfl rfl rfl kd_X2_none ⟨Nat.le_of_ble_eq_true rfl, Nat.le_of_ble_eq_true rfl⟩) (st_pre _) rfl rfl hl.1 rfl (lv_room (Nat.le_of_ble_eq_true rfl)) dX2_order_2 ⟨Nat.zero_le _, Nat.zero_le _⟩) (fun r hr9 => ?_)
  subst hr9
  refine lv_if_eq (tgt := 12) hx hb dX2_order_5 (by decide) (fun _ => ?_) (fun c9 => absurd rfl c9)
  refine lv_iconst (v := (nI 0)) hx hb dX2_order_12 (by decide) ?_
  refine va_put (D := D) (ci := 2) (v := .int (nI 0)) (ty := .int) (C := RX2) (T := TX2) (N := 11) hx hb ht inX2 tyX2 tyX2_ok nmX2 hown hK hP hD hS 0 rfl rfl 0 (by decide) (ht _ kf_X2_30) (fun _ h9 => h9) rfl (by decide +kernel) rfl rfl (Nat.le_of_ble_eq_true rfl) dX2_order_13 (fun H locs hP hD hS => ?_)
  have hP : va_P D vwCl [(m0, .inr (2, [.int (nI 0), .int (nI k), .int (nI (tw_P k)), .int (nI (tw_D k)), .int (nI (tw_I k)), .ref mx, .ref my, .ref mr, .ref mb, .int sx, .int sy])), (mx, .inl (cA, 12, .inl fx)), (my, .inl (cA, 12, .inl fy)), (mr, .inl (cA, 8101, .inl fr)), (mb, .inl (cA, 5, .inl fb))] H := hP
  have hD : va_D A [(m0, .inr (2, [.int (nI 0), .int (nI k), .int (nI (tw_P k)), .int (nI (tw_D k)), .int (nI (tw_I k)), .ref mx, .ref my, .ref mr, .ref mb, .int sx, .int sy])), (mx, .inl (cA, 12, .inl fx)), (my, .inl (cA, 12, .inl fy)), (mr, .inl (cA, 8101, .inl fr)), (mb, .inl (cA, 5, .inl fb))] := hD
  refine lv_aload_n hx hb dX2_order_16 rfl (lv_at hl 0 rfl) ?_
  refine va_get (D := D) (ci := 2) (v := .int (nI 0)) (C := RX2) (T := TX2) (N := 11) hx hb ht inX2 hown hK hP 0 rfl rfl 0 (by decide) (ht _ kf_X2_30) (fun _ h9 => h9) rfl dX2_order_17 ?_
  refine nv_if_le (tgt := 27) hx hb dX2_order_20 (by decide) (by decide) (fun _ => ?_) (fun c8 => absurd c8 (by decide))
  refine lv_aload_n hx hb dX2_order_27 rfl (lv_at hl 0 rfl) ?_
  refine lv_aload_n hx hb dX2_order_28 rfl (lv_at hl 0 rfl) ?_
  refine va_get (D := D) (ci := 2) (v := .ref mx) (C := RX2) (T := TX2) (N := 11) hx hb ht inX2 hown hK hP 0 rfl rfl 5 (by decide) (ht _ kf_X2_13) (fun _ h9 => h9) rfl dX2_order_29 ?_
  refine lv_iload_n hx hb dX2_order_32 rfl (lv_at hl 1 rfl) ?_
  refine nv_iald (A := fun _ => True) (H0 := s.heap) hx hb hK hP 1 0 rfl rfl hj (by decide) dX2_order_33 ?_
  rw [(hR _ hj).2.1]
  refine lv_aload_n hx hb dX2_order_34 rfl (lv_at hl 0 rfl) ?_
  refine va_get (D := D) (ci := 2) (v := .ref my) (C := RX2) (T := TX2) (N := 11) hx hb ht inX2 hown hK hP 0 rfl rfl 6 (by decide) (ht _ kf_X2_17) (fun _ h9 => h9) rfl dX2_order_35 ?_
  refine lv_iload_n hx hb dX2_order_38 rfl (lv_at hl 1 rfl) ?_
  refine nv_iald (A := fun _ => True) (H0 := s.heap) hx hb hK hP 2 0 rfl rfl hj (by decide) dX2_order_39 ?_
  rw [(hR _ hj).2.2]
  have hPc := hP.sub (ws' := [(m0, .inr (2, [.int (nI 0), .int (nI k), .int (nI (tw_P k)), .int (nI (tw_D k)), .int (nI (tw_I k)), .ref mx, .ref my, .ref mr, .ref mb, .int sx, .int sy]))]) [0] rfl
  have hDc := hD.sub (ws' := [(m0, .inr (2, [.int (nI 0), .int (nI k), .int (nI (tw_P k)), .int (nI (tw_D k)), .int (nI (tw_I k)), .ref mx, .ref my, .ref mr, .ref mb, .int sx, .int sy]))]) [0] (by decide) rfl
  have hFc := va_free (wc := [(m0, .inr (2, [.int (nI 0), .int (nI k), .int (nI (tw_P k)), .int (nI (tw_D k)), .int (nI (tw_I k)), .ref mx, .ref my, .ref mr, .ref mb, .int sx, .int sy]))]) hD hS hA [0] rfl
  refine va_calli (va_runV (As := [.int (nI ((R j).1)), .int (nI ((R j).2))]) (rest := []) ⟨hx, hb, hml, hown, ht⟩ (c_X2_orderOf l D hk5 (hR j hj).1 H.size) (cwV 2 ht (tb_V kl_X2_66 ki_X2_orderOf ks_X2_orderOf kn_X2 kc_X2_orderOf) rfl rfl rfl ⟨rfl, kd_X2_orderOf⟩ ⟨Nat.le_of_ble_eq_true rfl, Nat.le_of_ble_eq_true rfl⟩) (wd_preV _ hPc (hK.sub (tys' := []) [] rfl) hDc (va_recv (ci := 2) (q0 := 0) hK hP rfl rfl)) rfl rfl hl.1 rfl (lv_room (Nat.le_of_ble_eq_true rfl)) dX2_order_40 ⟨Nat.le_of_ble_eq_true rfl, Nat.le_of_ble_eq_true rfl⟩) hS (fun q _ h => hFc q h) hFc (fun r9 u9 t9 H1 locs ht9 hvm9 hw9 hB9 hz9 hk9 hS => ?_)
  obtain ⟨hP1, hK1, hD1⟩ := hB9
  rw [ht9] at hP1
  obtain ⟨hP, hD⟩ := va_join (wr := [(mx, .inl (cA, 12, .inl fx)), (my, .inl (cA, 12, .inl fy)), (mr, .inl (cA, 8101, .inl fr)), (mb, .inl (cA, 5, .inl fb))]) (w1 := [(m0, .inr (2, [.int (nI 0), .int (nI k), .int (nI (tw_P k)), .int (nI (tw_D k)), .int (nI (tw_I k)), .ref mx, .ref my, .ref mr, .ref mb, .int u9.1, .int u9.2]))]) hP hD [0] [1, 2, 3, 4] rfl rfl (by decide) (by decide) hk9 hFc hP1 hD1
  have hP := hP.sub (ws' := [(m0, .inr (2, [.int (nI 0), .int (nI k), .int (nI (tw_P k)), .int (nI (tw_D k)), .int (nI (tw_I k)), .ref mx, .ref my, .ref mr, .ref mb, .int u9.1, .int u9.2])), (mx, .inl (cA, 12, .inl fx)), (my, .inl (cA, 12, .inl fy)), (mr, .inl (cA, 8101, .inl fr)), (mb, .inl (cA, 5, .inl fb))]) [4, 0, 1, 2, 3] rfl
  have hD := hD.sub (ws' := [(m0, .inr (2, [.int (nI 0), .int (nI k), .int (nI (tw_P k)), .int (nI (tw_D k)), .int (nI (tw_I k)), .ref mx, .ref my, .ref mr, .ref mb, .int u9.1, .int u9.2])), (mx, .inl (cA, 12, .inl fx)), (my, .inl (cA, 12, .inl fy)), (mr, .inl (cA, 8101, .inl fr)), (mb, .inl (cA, 5, .inl fb))]) [4, 0, 1, 2, 3] (by decide) rfl
  generalize H1 = H at hP hS hz9 ⊢
  exact W.iret hx hb hr (fun t ht9 hW => ⟨⟨_, u9, rfl, hw9, by rw [ht9]; exact hP, va_K.moved hW.alike hK, hD⟩, hS.F ht9⟩) hS.2.2 dX2_order_43
set_option maxHeartbeats 4000000 in
set_option maxRecDepth 100000 in
theorem c_X2_points (l : Launch) (D : va_G) {k : Nat} (hk5 : k < 5) {m0 mx my mr mb : Nat} {th sx sy : Int32} {cA : ClassId} {fx fy fr fb : Nat → Int32} {R : Nat → Nat × Nat} (hfr : ∀ j, j < tw_P k → fr j = tw_rv (tw_P k) j) (hR : ∀ j, j < 12 → tw_on (tw_P k) (tw_D k) (R j) ∧ fx j = nI (R j).1 ∧ fy j = nI (R j).2) (sz : Nat) : Met l yX2_points wX2_points ({ frames := 4, cells := 0, slots := 0, locals := 94 }) (va_Pc [.ref m0] (wd_pre D [(cA, .int)] [(m0, .inr (2, [.int th, .int (nI k), .int (nI (tw_P k)), .int (nI (tw_D k)), .int (nI (tw_I k)), .ref mx, .ref my, .ref mr, .ref mb, .int sx, .int sy])), (mx, .inl (cA, 12, .inl fx)), (my, .inl (cA, 12, .inl fy)), (mr, .inl (cA, 8101, .inl fr)), (mb, .inl (cA, 5, .inl fb))] sz)) (va_Qi (fun (r : Int32) (u : Unit) => r = nI (tw_N k)) (fun (u : Unit) t => wd_at D [(cA, .int)] (va_A [(m0, .inr (2, [.int th, .int (nI k), .int (nI (tw_P k)), .int (nI (tw_D k)), .int (nI (tw_I k)), .ref mx, .ref my, .ref mr, .ref mb, .int sx, .int sy])), (mx, .inl (cA, 12, .inl fx)), (my, .inl (cA, 12, .inl fy)), (mr, .inl (cA, 8101, .inl fr)), (mb, .inl (cA, 5, .inl fb))] sz) [(m0, .inr (2, [.int (nI 0), .int (nI k), .int (nI (tw_P k)), .int (nI (tw_D k)), .int (nI (tw_I k)), .ref mx, .ref my, .ref mr, .ref mb, .int sx, .int sy])), (mx, .inl (cA, 12, .inl fx)), (my, .inl (cA, 12, .inl fy)), (mr, .inl (cA, 8101, .inl fr)), (mb, .inl (cA, 5, .inl fb))] t) (va_A [(m0, .inr (2, [.int th, .int (nI k), .int (nI (tw_P k)), .int (nI (tw_D k)), .int (nI (tw_I k)), .ref mx, .ref my, .ref mr, .ref mb, .int sx, .int sy])), (mx, .inl (cA, 12, .inl fx)), (my, .inl (cA, 12, .inl fy)), (mr, .inl (cA, 8101, .inl fr)), (mb, .inl (cA, 5, .inl fb))] sz)) 0 0 (va_A [(m0, .inr (2, [.int th, .int (nI k), .int (nI (tw_P k)), .int (nI (tw_D k)), .int (nI (tw_I k)), .ref mx, .ref my, .ref mr, .ref mb, .int sx, .int sy])), (mx, .inl (cA, 12, .inl fx)), (my, .inl (cA, 12, .inl fy)), (mr, .inl (cA, 8101, .inl fr)), (mb, .inl (cA, 5, .inl fb))] sz) := by
  refine Met.ofW (cc := cX2_points) (maxL := 1) (ret := (some .int)) (by decide) rfl ?_
  intro p e s m args below meth c s₁ B hml hv
  obtain ⟨rfl, hsz, hP, hK, hD0⟩ := hv
  have hx := B.exec
  have hb := B.bytes
  have hr := B.returns
  have hts := atoms_spec (ws := wX2_points) B.pre
  have ht : ∀ w ∈ tb_all, w.before _ s = true := fun w h => hts w (List.mem_cons_of_mem _ h)
  have hown : s.vm.findClass RX2 = some m.cls := findClass_of_methodNamed B.named
  have hlocks := B.notSynchronized
  have hin : meth.name = "points" := (name_of_methodNamed B.named B.method).1
  subst hsz
  have hD := hD0.self (sz := s.heap.size)
  generalize hAe : va_A [(m0, .inr (2, [.int th, .int (nI k), .int (nI (tw_P k)), .int (nI (tw_D k)), .int (nI (tw_I k)), .ref mx, .ref my, .ref mr, .ref mb, .int sx, .int sy])), (mx, .inl (cA, 12, .inl fx)), (my, .inl (cA, 12, .inl fy)), (mr, .inl (cA, 8101, .inl fr)), (mb, .inl (cA, 5, .inl fb))] s.heap.size = A at hD ⊢
  have hA : ∀ q : Nat, s.heap.size ≤ q → A q := fun q h => by rw [← hAe]; exact Or.inr h
  have hS : va_S A s.heap s.heap [] := va_S.rf
  have hl := lv_entry ([.ref m0]) (n := 1) (Nat.le_of_ble_eq_true rfl)
  rw [lg_entry_eq]
  generalize (lg_sl ([.ref m0]) ++ List.replicate (1 - (lg_sl ([.ref m0])).length) Slot.unset).toArray = ls at hl ⊢
  have hl : lv_has ls 1 [(0, .ref m0)] := hl
  obtain ⟨hP0, hP2, hD2, hI2, hDP⟩ := tw_kb hk5
  have hK0 := tw_kK k hk5
  have hP8 : tw_P k ≤ 8192 := by omega
  have hN := tw_kN k hk5
  have zk : k ≤ 4 := by omega
  refine lv_aload_n hx hb dX2_points_0 rfl (lv_at hl 0 rfl) ?_
  refine lv_iconst (v := (nI 0)) hx hb dX2_points_1 (by decide) ?_
  refine va_put (D := D) (ci := 2) (v := .int (nI 0)) (ty := .int) (C := RX2) (T := TX2) (N := 11) hx hb ht inX2 tyX2 tyX2_ok nmX2 hown hK hP hD hS 0 rfl rfl 0 (by decide) (ht _ kf_X2_30) (fun _ h9 => h9) rfl (by decide +kernel) rfl rfl (Nat.le_of_ble_eq_true rfl) dX2_points_2 (fun H locs hP hD hS => ?_)
  have hP : va_P D vwCl [(m0, .inr (2, [.int (nI 0), .int (nI k), .int (nI (tw_P k)), .int (nI (tw_D k)), .int (nI (tw_I k)), .ref mx, .ref my, .ref mr, .ref mb, .int sx, .int sy])), (mx, .inl (cA, 12, .inl fx)), (my, .inl (cA, 12, .inl fy)), (mr, .inl (cA, 8101, .inl fr)), (mb, .inl (cA, 5, .inl fb))] H := hP
  have hD : va_D A [(m0, .inr (2, [.int (nI 0), .int (nI k), .int (nI (tw_P k)), .int (nI (tw_D k)), .int (nI (tw_I k)), .ref mx, .ref my, .ref mr, .ref mb, .int sx, .int sy])), (mx, .inl (cA, 12, .inl fx)), (my, .inl (cA, 12, .inl fy)), (mr, .inl (cA, 8101, .inl fr)), (mb, .inl (cA, 5, .inl fb))] := hD
  refine lv_aload_n hx hb dX2_points_5 rfl (lv_at hl 0 rfl) ?_
  refine vp_callSi (W.runV (As := []) (rest := []) ⟨hx, hb, hml, hown, ht⟩ (c_X2_all l D hk5 hfr) (cwV 0 ht (tb_V kl_X2_94 ki_X2_all ks_X2_all kn_X2 kc_X2_all) rfl rfl rfl ⟨rfl, kd_X2_all⟩ ⟨Nat.le_of_ble_eq_true rfl, Nat.le_of_ble_eq_true rfl⟩) (ro_preV _ (hP.sub (ws' := [(m0, .inr (2, [.int (nI 0), .int (nI k), .int (nI (tw_P k)), .int (nI (tw_D k)), .int (nI (tw_I k)), .ref mx, .ref my, .ref mr, .ref mb, .int sx, .int sy])), (mr, .inl (cA, 8101, .inl fr))]) [0, 3] rfl) hK (va_recv (ci := 2) (q0 := 0) hK hP rfl rfl)) rfl rfl hl.1 rfl (lv_room (Nat.le_of_ble_eq_true rfl)) dX2_points_6 ⟨Nat.zero_le _, Nat.zero_le _⟩) (fun r hr9 => ?_)
  subst hr9
  exact W.iret hx hb hr (fun t ht9 hW => ⟨⟨_, (), rfl, rfl, by rw [ht9]; exact hP, va_K.moved hW.alike hK, hD⟩, hS.F ht9⟩) hS.2.2 dX2_points_9
set_option maxHeartbeats 4000000 in
set_option maxRecDepth 100000 in
theorem c_X2_put (l : Launch) (D : va_G) {k : Nat} (hk5 : k < 5) {m0 mx my mr mb : Nat} {th sx sy : Int32} {cA : ClassId} {fx fy fr fb : Nat → Int32} {R : Nat → Nat × Nat} (hfr : ∀ j, j < tw_P k → fr j = tw_rv (tw_P k) j) (hR : ∀ j, j < 12 → tw_on (tw_P k) (tw_D k) (R j) ∧ fx j = nI (R j).1 ∧ fy j = nI (R j).2) {j x y : Nat} (hj : j < 12) (hon : tw_on (tw_P k) (tw_D k) (x, y)) (sz : Nat) : Met l yX2_put wX2_put ({ frames := 3, cells := 0, slots := 0, locals := 69 }) (va_Pc [.ref m0, .int (nI j), .int (nI x), .int (nI y)] (wd_pre D [(cA, .int)] [(m0, .inr (2, [.int th, .int (nI k), .int (nI (tw_P k)), .int (nI (tw_D k)), .int (nI (tw_I k)), .ref mx, .ref my, .ref mr, .ref mb, .int sx, .int sy])), (mx, .inl (cA, 12, .inl fx)), (my, .inl (cA, 12, .inl fy)), (mr, .inl (cA, 8101, .inl fr)), (mb, .inl (cA, 5, .inl fb))] sz)) (va_Qv (fun (u : Unit) => u = ()) (fun (u : Unit) t => wd_at D [(cA, .int)] (va_A [(m0, .inr (2, [.int th, .int (nI k), .int (nI (tw_P k)), .int (nI (tw_D k)), .int (nI (tw_I k)), .ref mx, .ref my, .ref mr, .ref mb, .int sx, .int sy])), (mx, .inl (cA, 12, .inl fx)), (my, .inl (cA, 12, .inl fy)), (mr, .inl (cA, 8101, .inl fr)), (mb, .inl (cA, 5, .inl fb))] sz) [(m0, .inr (2, [.int (nI 0), .int (nI k), .int (nI (tw_P k)), .int (nI (tw_D k)), .int (nI (tw_I k)), .ref mx, .ref my, .ref mr, .ref mb, .int sx, .int sy])), (mx, .inl (cA, 12, .inl (upd fx j (nI x)))), (my, .inl (cA, 12, .inl (upd fy j (nI y)))), (mr, .inl (cA, 8101, .inl fr)), (mb, .inl (cA, 5, .inl fb))] t) (va_A [(m0, .inr (2, [.int th, .int (nI k), .int (nI (tw_P k)), .int (nI (tw_D k)), .int (nI (tw_I k)), .ref mx, .ref my, .ref mr, .ref mb, .int sx, .int sy])), (mx, .inl (cA, 12, .inl fx)), (my, .inl (cA, 12, .inl fy)), (mr, .inl (cA, 8101, .inl fr)), (mb, .inl (cA, 5, .inl fb))] sz)) 0 0 (va_A [(m0, .inr (2, [.int th, .int (nI k), .int (nI (tw_P k)), .int (nI (tw_D k)), .int (nI (tw_I k)), .ref mx, .ref my, .ref mr, .ref mb, .int sx, .int sy])), (mx, .inl (cA, 12, .inl fx)), (my, .inl (cA, 12, .inl fy)), (mr, .inl (cA, 8101, .inl fr)), (mb, .inl (cA, 5, .inl fb))] sz) := by
  refine Met.ofW (cc := cX2_put) (maxL := 4) (ret := none) (by decide) rfl ?_
  intro p e s m args below meth c s₁ B hml hv
  obtain ⟨rfl, hsz, hP, hK, hD0⟩ := hv
  have hx := B.exec
  have hb := B.bytes
  have hr := B.returns
  have hts := atoms_spec (ws := wX2_put) B.pre
  have ht : ∀ w ∈ tb_all, w.before _ s = true := fun w h => hts w (List.mem_cons_of_mem _ h)
  have hown : s.vm.findClass RX2 = some m.cls := findClass_of_methodNamed B.named
  have hlocks := B.notSynchronized
  have hin : meth.name = "put" := (name_of_methodNamed B.named B.method).1
  subst hsz
  have hD := hD0.self (sz := s.heap.size)
  generalize hAe : va_A [(m0, .inr (2, [.int th, .int (nI k), .int (nI (tw_P k)), .int (nI (tw_D k)), .int (nI (tw_I k)), .ref mx, .ref my, .ref mr, .ref mb, .int sx, .int sy])), (mx, .inl (cA, 12, .inl fx)), (my, .inl (cA, 12, .inl fy)), (mr, .inl (cA, 8101, .inl fr)), (mb, .inl (cA, 5, .inl fb))] s.heap.size = A at hD ⊢
  have hA : ∀ q : Nat, s.heap.size ≤ q → A q := fun q h => by rw [← hAe]; exact Or.inr h
  have hS : va_S A s.heap s.heap [] := va_S.rf
  have hl := lv_entry ([.ref m0, .int (nI j), .int (nI x), .int (nI y)]) (n := 4) (Nat.le_of_ble_eq_true rfl)
  rw [lg_entry_eq]
  generalize (lg_sl ([.ref m0, .int (nI j), .int (nI x), .int (nI y)]) ++ List.replicate (4 - (lg_sl ([.ref m0, .int (nI j), .int (nI x), .int (nI y)])).length) Slot.unset).toArray = ls at hl ⊢
  have hl : lv_has ls 4 [(0, .ref m0), (1, .int (nI j)), (2, .int (nI x)), (3, .int (nI y))] := hl
  obtain ⟨hP0, hP2, hD2, hI2, hDP⟩ := tw_kb hk5
  have hK0 := tw_kK k hk5
  have hP8 : tw_P k ≤ 8192 := by omega
  have hN := tw_kN k hk5
  have zk : k ≤ 4 := by omega
  have hx1 : x < tw_P k := hon.1
  have hy1 : y < tw_P k := hon.2.1
  have zx : x ≤ 8100 := by omega
  have zy : y ≤ 8100 := by omega
  refine lv_aload_n hx hb dX2_put_0 rfl (lv_at hl 0 rfl) ?_
  refine lv_iload_n hx hb dX2_put_1 rfl (lv_at hl 1 rfl) ?_
  refine vp_callSi (W.runS (As := [.int (nI j)]) (rest := [.ref m0]) ⟨hx, hb, hml, hown, ht⟩ (c_X2_none l hj) (va_cwS 1 ht (tb_S kl_X2_76 kt_X2_none kn_X2 kc_X2_none) rfl rfl rfl kd_X2_none ⟨Nat.le_of_ble_eq_true rfl, Nat.le_of_ble_eq_true rfl⟩) (st_pre _) rfl rfl hl.1 rfl (lv_room (Nat.le_of_ble_eq_true rfl)) dX2_put_2 ⟨Nat.zero_le _, Nat.zero_le _⟩) (fun r hr9 => ?_)
  subst hr9
  refine lv_if_eq (tgt := 12) hx hb dX2_put_5 (by decide) (fun _ => ?_) (fun c9 => absurd rfl c9)
  refine lv_iload_n hx hb dX2_put_12 rfl (lv_at hl 2 rfl) ?_
  refine nv_if_lt (tgt := 45) hx hb dX2_put_13 (by decide) (nv_le (b := 8100) zx (by decide)) ?_
  refine lv_iload_n hx hb dX2_put_16 rfl (lv_at hl 2 rfl) ?_
  refine lv_aload_n hx hb dX2_put_17 rfl (lv_at hl 0 rfl) ?_
  refine va_get (D := D) (ci := 2) (v := .int (nI (tw_P k))) (C := RX2) (T := TX2) (N := 11) hx hb ht inX2 hown hK hP 0 rfl rfl 2 (by decide) (ht _ kf_X2_7) (fun _ h9 => h9) rfl dX2_put_18 ?_
  refine nv_icmp_ge (tgt := 45) hx hb dX2_put_21 (by decide) (nv_le (b := 8100) zx (by decide)) (nv_le (b := 8101) hP2 (by decide)) (fun c21 => ?_) (fun c21 => ?_)
  · omega
  · refine lv_iload_n hx hb dX2_put_24 rfl (lv_at hl 3 rfl) ?_
    refine nv_if_lt (tgt := 45) hx hb dX2_put_25 (by decide) (nv_le (b := 8100) zy (by decide)) ?_
    refine lv_iload_n hx hb dX2_put_28 rfl (lv_at hl 3 rfl) ?_
    refine lv_aload_n hx hb dX2_put_29 rfl (lv_at hl 0 rfl) ?_
    refine va_get (D := D) (ci := 2) (v := .int (nI (tw_P k))) (C := RX2) (T := TX2) (N := 11) hx hb ht inX2 hown hK hP 0 rfl rfl 2 (by decide) (ht _ kf_X2_7) (fun _ h9 => h9) rfl dX2_put_30 ?_
    refine nv_icmp_ge (tgt := 45) hx hb dX2_put_33 (by decide) (nv_le (b := 8100) zy (by decide)) (nv_le (b := 8101) hP2 (by decide)) (fun c33 => ?_) (fun c33 => ?_)
    · omega
    · refine lv_aload_n hx hb dX2_put_36 rfl (lv_at hl 0 rfl) ?_
      refine lv_iload_n hx hb dX2_put_37 rfl (lv_at hl 2 rfl) ?_
      refine lv_iload_n hx hb dX2_put_38 rfl (lv_at hl 3 rfl) ?_
      refine vp_callSi (W.runV (As := [.int (nI x), .int (nI y)]) (rest := [.ref m0]) ⟨hx, hb, hml, hown, ht⟩ (c_X2_isPoint l D hk5 hx1 hy1) (cwV 2 ht (tb_V kl_X2_80 ki_X2_isPoint ks_X2_isPoint kn_X2 kc_X2_isPoint) rfl rfl rfl ⟨rfl, kd_X2_isPoint⟩ ⟨Nat.le_of_ble_eq_true rfl, Nat.le_of_ble_eq_true rfl⟩) (ro_preV _ (hP.sub (ws' := [(m0, .inr (2, [.int th, .int (nI k), .int (nI (tw_P k)), .int (nI (tw_D k)), .int (nI (tw_I k)), .ref mx, .ref my, .ref mr, .ref mb, .int sx, .int sy]))]) [0] rfl) (hK.sub (tys' := []) [] rfl) (va_recv (ci := 2) (q0 := 0) hK hP rfl rfl)) rfl rfl hl.1 rfl (lv_room (Nat.le_of_ble_eq_true rfl)) dX2_put_39 ⟨Nat.zero_le _, Nat.zero_le _⟩) (fun r hr9 => ?_)
      subst hr9
      rw [if_pos hon.2.2]
      refine lv_if_ne (tgt := 49) hx hb dX2_put_42 (by decide) (fun _ => ?_) (fun c9 => absurd c9 (by decide))
      refine lv_iconst (v := (nI 0)) hx hb dX2_put_49 (by decide) ?_
      refine va_put (D := D) (ci := 2) (v := .int (nI 0)) (ty := .int) (C := RX2) (T := TX2) (N := 11) hx hb ht inX2 tyX2 tyX2_ok nmX2 hown hK hP hD hS 0 rfl rfl 0 (by decide) (ht _ kf_X2_30) (fun _ h9 => h9) rfl (by decide +kernel) rfl rfl (Nat.le_of_ble_eq_true rfl) dX2_put_50 (fun H locs hP hD hS => ?_)
      have hP : va_P D vwCl [(m0, .inr (2, [.int (nI 0), .int (nI k), .int (nI (tw_P k)), .int (nI (tw_D k)), .int (nI (tw_I k)), .ref mx, .ref my, .ref mr, .ref mb, .int sx, .int sy])), (mx, .inl (cA, 12, .inl fx)), (my, .inl (cA, 12, .inl fy)), (mr, .inl (cA, 8101, .inl fr)), (mb, .inl (cA, 5, .inl fb))] H := hP
      have hD : va_D A [(m0, .inr (2, [.int (nI 0), .int (nI k), .int (nI (tw_P k)), .int (nI (tw_D k)), .int (nI (tw_I k)), .ref mx, .ref my, .ref mr, .ref mb, .int sx, .int sy])), (mx, .inl (cA, 12, .inl fx)), (my, .inl (cA, 12, .inl fy)), (mr, .inl (cA, 8101, .inl fr)), (mb, .inl (cA, 5, .inl fb))] := hD
      refine lv_aload_n hx hb dX2_put_53 rfl (lv_at hl 0 rfl) ?_
      refine va_get (D := D) (ci := 2) (v := .int (nI 0)) (C := RX2) (T := TX2) (N := 11) hx hb ht inX2 hown hK hP 0 rfl rfl 0 (by decide) (ht _ kf_X2_30) (fun _ h9 => h9) rfl dX2_put_54 ?_
      refine nv_if_le (tgt := 61) hx hb dX2_put_57 (by decide) (by decide) (fun _ => ?_) (fun c8 => absurd c8 (by decide))
      refine lv_aload_n hx hb dX2_put_61 rfl (lv_at hl 0 rfl) ?_
      refine va_get (D := D) (ci := 2) (v := .ref mx) (C := RX2) (T := TX2) (N := 11) hx hb ht inX2 hown hK hP 0 rfl rfl 5 (by decide) (ht _ kf_X2_13) (fun _ h9 => h9) rfl dX2_put_62 ?_
      refine lv_iload_n hx hb dX2_put_65 rfl (lv_at hl 1 rfl) ?_
      refine lv_iload_n hx hb dX2_put_66 rfl (lv_at hl 2 rfl) ?_
      refine nv_iast hx hb hK hP hD hS 1 0 rfl rfl hj (by decide) dX2_put_67 (fun H locs hP hD hS => ?_)
      have hP : va_P D vwCl [(m0, .inr (2, [.int (nI 0), .int (nI k), .int (nI (tw_P k)), .int (nI (tw_D k)), .int (nI (tw_I k)), .ref mx, .ref my, .ref mr, .ref mb, .int sx, .int sy])), (mx, .inl (cA, 12, .inl (upd fx j (nI x)))), (my, .inl (cA, 12, .inl fy)), (mr, .inl (cA, 8101, .inl fr)), (mb, .inl (cA, 5, .inl fb))] H := hP
      have hD : va_D A [(m0, .inr (2, [.int (nI 0), .int (nI k), .int (nI (tw_P k)), .int (nI (tw_D k)), .int (nI (tw_I k)), .ref mx, .ref my, .ref mr, .ref mb, .int sx, .int sy])), (mx, .inl (cA, 12, .inl (upd fx j (nI x)))), (my, .inl (cA, 12, .inl fy)), (mr, .inl (cA, 8101, .inl fr)), (mb, .inl (cA, 5, .inl fb))] := hD
      refine lv_aload_n hx hb dX2_put_68 rfl (lv_at hl 0 rfl) ?_
      refine va_get (D := D) (ci := 2) (v := .ref my) (C := RX2) (T := TX2) (N := 11) hx hb ht inX2 hown hK hP 0 rfl rfl 6 (by decide) (ht _ kf_X2_17) (fun _ h9 => h9) rfl dX2_put_69 ?_
      refine lv_iload_n hx hb dX2_put_72 rfl (lv_at hl 1 rfl) ?_
      refine lv_iload_n hx hb dX2_put_73 rfl (lv_at hl 3 rfl) ?_
      refine nv_iast hx hb hK hP hD hS 2 0 rfl rfl hj (by decide) dX2_put_74 (fun H locs hP hD hS => ?_)
      have hP : va_P D vwCl [(m0, .inr (2, [.int (nI 0), .int (nI k), .int (nI (tw_P k)), .int (nI (tw_D k)), .int (nI (tw_I k)), .ref mx, .ref my, .ref mr, .ref mb, .int sx, .int sy])), (mx, .inl (cA, 12, .inl (upd fx j (nI x)))), (my, .inl (cA, 12, .inl (upd fy j (nI y)))), (mr, .inl (cA, 8101, .inl fr)), (mb, .inl (cA, 5, .inl fb))] H := hP
      have hD : va_D A [(m0, .inr (2, [.int (nI 0), .int (nI k), .int (nI (tw_P k)), .int (nI (tw_D k)), .int (nI (tw_I k)), .ref mx, .ref my, .ref mr, .ref mb, .int sx, .int sy])), (mx, .inl (cA, 12, .inl (upd fx j (nI x)))), (my, .inl (cA, 12, .inl (upd fy j (nI y)))), (mr, .inl (cA, 8101, .inl fr)), (mb, .inl (cA, 5, .inl fb))] := hD
      exact W.vret hx hb hr (fun t ht9 hW => ⟨⟨(), rfl, rfl, by rw [ht9]; exact hP, va_K.moved hW.alike hK, hD⟩, hS.F ht9⟩) hS.2.2 dX2_put_75
set_option maxHeartbeats 4000000 in
set_option maxRecDepth 100000 in
theorem c_X2_unpack (l : Launch) (D : va_G) {k : Nat} (hk5 : k < 5) {m0 mx my mr mb : Nat} {th sx sy : Int32} {cA : ClassId} {fx fy fr fb : Nat → Int32} {R : Nat → Nat × Nat} (hfr : ∀ j, j < tw_P k → fr j = tw_rv (tw_P k) j) (hR : ∀ j, j < 12 → tw_on (tw_P k) (tw_D k) (R j) ∧ fx j = nI (R j).1 ∧ fy j = nI (R j).2) {j m9 : Nat} (hj : j < 12) (hm9 : m9 < 2 ^ 31) {p9 : Nat × Nat} (hp9 : tw_rd (tw_P k) (tw_D k) m9 = some p9) (sz : Nat) : Met l yX2_unpack wX2_unpack ({ frames := 3, cells := 0, slots := 0, locals := 72 }) (va_Pc [.ref m0, .int (nI j), .int (nI m9)] (wd_pre D [(cA, .int)] [(m0, .inr (2, [.int th, .int (nI k), .int (nI (tw_P k)), .int (nI (tw_D k)), .int (nI (tw_I k)), .ref mx, .ref my, .ref mr, .ref mb, .int sx, .int sy])), (mx, .inl (cA, 12, .inl fx)), (my, .inl (cA, 12, .inl fy)), (mr, .inl (cA, 8101, .inl fr)), (mb, .inl (cA, 5, .inl fb))] sz)) (va_Qv (fun (u : Unit) => u = ()) (fun (u : Unit) t => wd_at D [(cA, .int)] (va_A [(m0, .inr (2, [.int th, .int (nI k), .int (nI (tw_P k)), .int (nI (tw_D k)), .int (nI (tw_I k)), .ref mx, .ref my, .ref mr, .ref mb, .int sx, .int sy])), (mx, .inl (cA, 12, .inl fx)), (my, .inl (cA, 12, .inl fy)), (mr, .inl (cA, 8101, .inl fr)), (mb, .inl (cA, 5, .inl fb))] sz) [(m0, .inr (2, [.int (nI 0), .int (nI k), .int (nI (tw_P k)), .int (nI (tw_D k)), .int (nI (tw_I k)), .ref mx, .ref my, .ref mr, .ref mb, .int sx, .int sy])), (mx, .inl (cA, 12, .inl (upd fx j (nI p9.1)))), (my, .inl (cA, 12, .inl (upd fy j (nI p9.2)))), (mr, .inl (cA, 8101, .inl fr)), (mb, .inl (cA, 5, .inl fb))] t) (va_A [(m0, .inr (2, [.int th, .int (nI k), .int (nI (tw_P k)), .int (nI (tw_D k)), .int (nI (tw_I k)), .ref mx, .ref my, .ref mr, .ref mb, .int sx, .int sy])), (mx, .inl (cA, 12, .inl fx)), (my, .inl (cA, 12, .inl fy)), (mr, .inl (cA, 8101, .inl fr)), (mb, .inl (cA, 5, .inl fb))] sz)) 0 0 (va_A [(m0, .inr (2, [.int th, .int (nI k), .int (nI (tw_P k)), .int (nI (tw_D k)), .int (nI (tw_I k)), .ref mx, .ref my, .ref mr, .ref mb, .int sx, .int sy])), (mx, .inl (cA, 12, .inl fx)), (my, .inl (cA, 12, .inl fy)), (mr, .inl (cA, 8101, .inl fr)), (mb, .inl (cA, 5, .inl fb))] sz) := by
  refine Met.ofW (cc := cX2_unpack) (maxL := 3) (ret := none) (by decide) rfl ?_
  intro p e s m args below meth c s₁ B hml hv
  obtain ⟨rfl, hsz, hP, hK, hD0⟩ := hv
  have hx := B.exec
  have hb := B.bytes
  have hr := B.returns
  have hts := atoms_spec (ws := wX2_unpack) B.pre
  have ht : ∀ w ∈ tb_all, w.before _ s = true := fun w h => hts w (List.mem_cons_of_mem _ h)
  have hown : s.vm.findClass RX2 = some m.cls := findClass_of_methodNamed B.named
  have hlocks := B.notSynchronized
  have hin : meth.name = "unpack" := (name_of_methodNamed B.named B.method).1
  subst hsz
  have hD := hD0.self (sz := s.heap.size)
  generalize hAe : va_A [(m0, .inr (2, [.int th, .int (nI k), .int (nI (tw_P k)), .int (nI (tw_D k)), .int (nI (tw_I k)), .ref mx, .ref my, .ref mr, .ref mb, .int sx, .int sy])), (mx, .inl (cA, 12, .inl fx)), (my, .inl (cA, 12, .inl fy)), (mr, .inl (cA, 8101, .inl fr)), (mb, .inl (cA, 5, .inl fb))] s.heap.size = A at hD ⊢
  have hA : ∀ q : Nat, s.heap.size ≤ q → A q := fun q h => by rw [← hAe]; exact Or.inr h
  have hS : va_S A s.heap s.heap [] := va_S.rf
  have hl := lv_entry ([.ref m0, .int (nI j), .int (nI m9)]) (n := 3) (Nat.le_of_ble_eq_true rfl)
  rw [lg_entry_eq]
  generalize (lg_sl ([.ref m0, .int (nI j), .int (nI m9)]) ++ List.replicate (3 - (lg_sl ([.ref m0, .int (nI j), .int (nI m9)])).length) Slot.unset).toArray = ls at hl ⊢
  have hl : lv_has ls 3 [(0, .ref m0), (1, .int (nI j)), (2, .int (nI m9))] := hl
  obtain ⟨hP0, hP2, hD2, hI2, hDP⟩ := tw_kb hk5
  have hK0 := tw_kK k hk5
  have hP8 : tw_P k ≤ 8192 := by omega
  have hN := tw_kN k hk5
  have zk : k ≤ 4 := by omega
  have zm : m9 ≤ 2147483647 := Nat.le_of_lt_succ hm9
  have hon := (tw_rd_some hK0 hp9).1
  have z1 := tw_on1 hP2 hon
  have e5 := (tw_rd_y hK0 hP8 hp9).1
  refine lv_aload_n hx hb dX2_unpack_0 rfl (lv_at hl 0 rfl) ?_
  refine lv_iload_n hx hb dX2_unpack_1 rfl (lv_at hl 1 rfl) ?_
  refine vp_callSi (W.runS (As := [.int (nI j)]) (rest := [.ref m0]) ⟨hx, hb, hml, hown, ht⟩ (c_X2_none l hj) (va_cwS 1 ht (tb_S kl_X2_76 kt_X2_none kn_X2 kc_X2_none) rfl rfl rfl kd_X2_none ⟨Nat.le_of_ble_eq_true rfl, Nat.le_of_ble_eq_true rfl⟩) (st_pre _) rfl rfl hl.1 rfl (lv_room (Nat.le_of_ble_eq_true rfl)) dX2_unpack_2 ⟨Nat.zero_le _, Nat.zero_le _⟩) (fun r hr9 => ?_)
  subst hr9
  refine lv_if_eq (tgt := 12) hx hb dX2_unpack_5 (by decide) (fun _ => ?_) (fun c9 => absurd rfl c9)
  refine lv_aload_n hx hb dX2_unpack_12 rfl (lv_at hl 0 rfl) ?_
  refine lv_iload_n hx hb dX2_unpack_13 rfl (lv_at hl 2 rfl) ?_
  refine vp_callSi (W.runV (As := [.int (nI m9)]) (rest := [.ref m0]) ⟨hx, hb, hml, hown, ht⟩ (c_X2_xOf l D hk5 hfr (j := m9) hm9) (cwV 1 ht (tb_V kl_X2_84 ki_X2_xOf ks_X2_xOf kn_X2 kc_X2_xOf) rfl rfl rfl ⟨rfl, kd_X2_xOf⟩ ⟨Nat.le_of_ble_eq_true rfl, Nat.le_of_ble_eq_true rfl⟩) (ro_preV _ (hP.sub (ws' := [(m0, .inr (2, [.int th, .int (nI k), .int (nI (tw_P k)), .int (nI (tw_D k)), .int (nI (tw_I k)), .ref mx, .ref my, .ref mr, .ref mb, .int sx, .int sy])), (mr, .inl (cA, 8101, .inl fr))]) [0, 3] rfl) hK (va_recv (ci := 2) (q0 := 0) hK hP rfl rfl)) rfl rfl hl.1 rfl (lv_room (Nat.le_of_ble_eq_true rfl)) dX2_unpack_14 ⟨Nat.zero_le _, Nat.zero_le _⟩) (fun r hr9 => ?_)
  subst hr9
  rw [tw_xr_some hp9]
  refine lv_iconst (v := (-1)) hx hb dX2_unpack_17 (by decide) ?_
  refine lv_icmp_ne (tgt := 25) hx hb dX2_unpack_18 (by decide) (fun _ => ?_) (fun c9 => absurd c9 (nv_m1 (by omega)))
  refine lv_iconst (v := (nI 0)) hx hb dX2_unpack_25 (by decide) ?_
  refine va_put (D := D) (ci := 2) (v := .int (nI 0)) (ty := .int) (C := RX2) (T := TX2) (N := 11) hx hb ht inX2 tyX2 tyX2_ok nmX2 hown hK hP hD hS 0 rfl rfl 0 (by decide) (ht _ kf_X2_30) (fun _ h9 => h9) rfl (by decide +kernel) rfl rfl (Nat.le_of_ble_eq_true rfl) dX2_unpack_26 (fun H locs hP hD hS => ?_)
  have hP : va_P D vwCl [(m0, .inr (2, [.int (nI 0), .int (nI k), .int (nI (tw_P k)), .int (nI (tw_D k)), .int (nI (tw_I k)), .ref mx, .ref my, .ref mr, .ref mb, .int sx, .int sy])), (mx, .inl (cA, 12, .inl fx)), (my, .inl (cA, 12, .inl fy)), (mr, .inl (cA, 8101, .inl fr)), (mb, .inl (cA, 5, .inl fb))] H := hP
  have hD : va_D A [(m0, .inr (2, [.int (nI 0), .int (nI k), .int (nI (tw_P k)), .int (nI (tw_D k)), .int (nI (tw_I k)), .ref mx, .ref my, .ref mr, .ref mb, .int sx, .int sy])), (mx, .inl (cA, 12, .inl fx)), (my, .inl (cA, 12, .inl fy)), (mr, .inl (cA, 8101, .inl fr)), (mb, .inl (cA, 5, .inl fb))] := hD
  refine lv_aload_n hx hb dX2_unpack_29 rfl (lv_at hl 0 rfl) ?_
  refine va_get (D := D) (ci := 2) (v := .int (nI 0)) (C := RX2) (T := TX2) (N := 11) hx hb ht inX2 hown hK hP 0 rfl rfl 0 (by decide) (ht _ kf_X2_30) (fun _ h9 => h9) rfl dX2_unpack_30 ?_
  refine nv_if_le (tgt := 37) hx hb dX2_unpack_33 (by decide) (by decide) (fun _ => ?_) (fun c8 => absurd c8 (by decide))
  refine lv_aload_n hx hb dX2_unpack_37 rfl (lv_at hl 0 rfl) ?_
  refine va_get (D := D) (ci := 2) (v := .ref mx) (C := RX2) (T := TX2) (N := 11) hx hb ht inX2 hown hK hP 0 rfl rfl 5 (by decide) (ht _ kf_X2_13) (fun _ h9 => h9) rfl dX2_unpack_38 ?_
  refine lv_iload_n hx hb dX2_unpack_41 rfl (lv_at hl 1 rfl) ?_
  refine lv_aload_n hx hb dX2_unpack_42 rfl (lv_at hl 0 rfl) ?_
  refine lv_iload_n hx hb dX2_unpack_43 rfl (lv_at hl 2 rfl) ?_
  refine vp_callSi (W.runV (As := [.int (nI m9)]) (rest := [.int (nI j), .ref mx]) ⟨hx, hb, hml, hown, ht⟩ (c_X2_xOf l D hk5 hfr (j := m9) hm9) (cwV 1 ht (tb_V kl_X2_84 ki_X2_xOf ks_X2_xOf kn_X2 kc_X2_xOf) rfl rfl rfl ⟨rfl, kd_X2_xOf⟩ ⟨Nat.le_of_ble_eq_true rfl, Nat.le_of_ble_eq_true rfl⟩) (ro_preV _ (hP.sub (ws' := [(m0, .inr (2, [.int (nI 0), .int (nI k), .int (nI (tw_P k)), .int (nI (tw_D k)), .int (nI (tw_I k)), .ref mx, .ref my, .ref mr, .ref mb, .int sx, .int sy])), (mr, .inl (cA, 8101, .inl fr))]) [0, 3] rfl) hK (va_recv (ci := 2) (q0 := 0) hK hP rfl rfl)) rfl rfl hl.1 rfl (lv_room (Nat.le_of_ble_eq_true rfl)) dX2_unpack_44 ⟨Nat.zero_le _, Nat.zero_le _⟩) (fun r hr9 => ?_)
  subst hr9
  rw [tw_xr_some hp9]
  refine nv_iast hx hb hK hP hD hS 1 0 rfl rfl hj (by decide) dX2_unpack_47 (fun H locs hP hD hS => ?_)
  have hP : va_P D vwCl [(m0, .inr (2, [.int (nI 0), .int (nI k), .int (nI (tw_P k)), .int (nI (tw_D k)), .int (nI (tw_I k)), .ref mx, .ref my, .ref mr, .ref mb, .int sx, .int sy])), (mx, .inl (cA, 12, .inl (upd fx j (nI p9.1)))), (my, .inl (cA, 12, .inl fy)), (mr, .inl (cA, 8101, .inl fr)), (mb, .inl (cA, 5, .inl fb))] H := hP
  have hD : va_D A [(m0, .inr (2, [.int (nI 0), .int (nI k), .int (nI (tw_P k)), .int (nI (tw_D k)), .int (nI (tw_I k)), .ref mx, .ref my, .ref mr, .ref mb, .int sx, .int sy])), (mx, .inl (cA, 12, .inl (upd fx j (nI p9.1)))), (my, .inl (cA, 12, .inl fy)), (mr, .inl (cA, 8101, .inl fr)), (mb, .inl (cA, 5, .inl fb))] := hD
  refine lv_aload_n hx hb dX2_unpack_48 rfl (lv_at hl 0 rfl) ?_
  refine va_get (D := D) (ci := 2) (v := .ref my) (C := RX2) (T := TX2) (N := 11) hx hb ht inX2 hown hK hP 0 rfl rfl 6 (by decide) (ht _ kf_X2_17) (fun _ h9 => h9) rfl dX2_unpack_49 ?_
  refine lv_iload_n hx hb dX2_unpack_52 rfl (lv_at hl 1 rfl) ?_
  refine lv_iload_n hx hb dX2_unpack_53 rfl (lv_at hl 2 rfl) ?_
  refine lv_sipush (v := (nI 8192)) hx hb dX2_unpack_54 (by decide) ?_
  refine nv_irem hx hb dX2_unpack_57 (by decide) (nv_le (b := 2147483647) zm (by decide)) (nv_le (b := 8192) (Nat.le_refl 8192) (by decide)) ?_
  rw [← e5]
  refine nv_iast hx hb hK hP hD hS 2 0 rfl rfl hj (by decide) dX2_unpack_58 (fun H locs hP hD hS => ?_)
  have hP : va_P D vwCl [(m0, .inr (2, [.int (nI 0), .int (nI k), .int (nI (tw_P k)), .int (nI (tw_D k)), .int (nI (tw_I k)), .ref mx, .ref my, .ref mr, .ref mb, .int sx, .int sy])), (mx, .inl (cA, 12, .inl (upd fx j (nI p9.1)))), (my, .inl (cA, 12, .inl (upd fy j (nI p9.2)))), (mr, .inl (cA, 8101, .inl fr)), (mb, .inl (cA, 5, .inl fb))] H := hP
  have hD : va_D A [(m0, .inr (2, [.int (nI 0), .int (nI k), .int (nI (tw_P k)), .int (nI (tw_D k)), .int (nI (tw_I k)), .ref mx, .ref my, .ref mr, .ref mb, .int sx, .int sy])), (mx, .inl (cA, 12, .inl (upd fx j (nI p9.1)))), (my, .inl (cA, 12, .inl (upd fy j (nI p9.2)))), (mr, .inl (cA, 8101, .inl fr)), (mb, .inl (cA, 5, .inl fb))] := hD
  exact W.vret hx hb hr (fun t ht9 hW => ⟨⟨(), rfl, rfl, by rw [ht9]; exact hP, va_K.moved hW.alike hK, hD⟩, hS.F ht9⟩) hS.2.2 dX2_unpack_59
set_option maxHeartbeats 4000000 in
set_option maxRecDepth 100000 in
theorem c_X2_join (l : Launch) (D : va_G) {k : Nat} (hk5 : k < 5) {m0 mx my mr mb : Nat} {th sx sy : Int32} {cA : ClassId} {fx fy fr fb : Nat → Int32} {R : Nat → Nat × Nat} (hfr : ∀ j, j < tw_P k → fr j = tw_rv (tw_P k) j) (hR : ∀ j, j < 12 → tw_on (tw_P k) (tw_D k) (R j) ∧ fx j = nI (R j).1 ∧ fy j = nI (R j).2) {j j2 j3 b : Nat} (hj : j < 12) (hj2 : j2 < 12) (hj3 : j3 < 12) (hb1 : b ≤ 1) (sz : Nat) : Met l yX2_join wX2_join ({ frames := 3, cells := 0, slots := 0, locals := 73 }) (va_Pc [.ref m0, .int (nI j), .int (nI j2), .int (nI j3), .int (nI b)] (wd_pre D [(cA, .int)] [(m0, .inr (2, [.int th, .int (nI k), .int (nI (tw_P k)), .int (nI (tw_D k)), .int (nI (tw_I k)), .ref mx, .ref my, .ref mr, .ref mb, .int sx, .int sy])), (mx, .inl (cA, 12, .inl fx)), (my, .inl (cA, 12, .inl fy)), (mr, .inl (cA, 8101, .inl fr)), (mb, .inl (cA, 5, .inl fb))] sz)) (va_Qi (fun (r : Int32) (u : Unit) => r = nI (tw_pk (tw_add (tw_P k) (tw_D k) (R j2) (if b = 0 then R j3 else tw_ng (tw_P k) (R j3))))) (fun (u : Unit) t => wd_at D [(cA, .int)] (va_A [(m0, .inr (2, [.int th, .int (nI k), .int (nI (tw_P k)), .int (nI (tw_D k)), .int (nI (tw_I k)), .ref mx, .ref my, .ref mr, .ref mb, .int sx, .int sy])), (mx, .inl (cA, 12, .inl fx)), (my, .inl (cA, 12, .inl fy)), (mr, .inl (cA, 8101, .inl fr)), (mb, .inl (cA, 5, .inl fb))] sz) [(m0, .inr (2, [.int (nI 0), .int (nI k), .int (nI (tw_P k)), .int (nI (tw_D k)), .int (nI (tw_I k)), .ref mx, .ref my, .ref mr, .ref mb, .int (nI (tw_add (tw_P k) (tw_D k) (R j2) (if b = 0 then R j3 else tw_ng (tw_P k) (R j3))).1), .int (nI (tw_add (tw_P k) (tw_D k) (R j2) (if b = 0 then R j3 else tw_ng (tw_P k) (R j3))).2)])), (mx, .inl (cA, 12, .inl (upd fx j (nI (tw_add (tw_P k) (tw_D k) (R j2) (if b = 0 then R j3 else tw_ng (tw_P k) (R j3))).1)))), (my, .inl (cA, 12, .inl (upd fy j (nI (tw_add (tw_P k) (tw_D k) (R j2) (if b = 0 then R j3 else tw_ng (tw_P k) (R j3))).2)))), (mr, .inl (cA, 8101, .inl fr)), (mb, .inl (cA, 5, .inl fb))] t) (va_A [(m0, .inr (2, [.int th, .int (nI k), .int (nI (tw_P k)), .int (nI (tw_D k)), .int (nI (tw_I k)), .ref mx, .ref my, .ref mr, .ref mb, .int sx, .int sy])), (mx, .inl (cA, 12, .inl fx)), (my, .inl (cA, 12, .inl fy)), (mr, .inl (cA, 8101, .inl fr)), (mb, .inl (cA, 5, .inl fb))] sz)) 0 0 (va_A [(m0, .inr (2, [.int th, .int (nI k), .int (nI (tw_P k)), .int (nI (tw_D k)), .int (nI (tw_I k)), .ref mx, .ref my, .ref mr, .ref mb, .int sx, .int sy])), (mx, .inl (cA, 12, .inl fx)), (my, .inl (cA, 12, .inl fy)), (mr, .inl (cA, 8101, .inl fr)), (mb, .inl (cA, 5, .inl fb))] sz) := by
  refine Met.ofW (cc := cX2_join) (maxL := 5) (ret := (some .int)) (by decide) rfl ?_
  intro p e s m args below meth c s₁ B hml hv
  obtain ⟨rfl, hsz, hP, hK, hD0⟩ := hv
  have hx := B.exec
  have hb := B.bytes
  have hr := B.returns
  have hts := atoms_spec (ws := wX2_join) B.pre
  have ht : ∀ w ∈ tb_all, w.before _ s = true := fun w h => hts w (List.mem_cons_of_mem _ h)
  have hown : s.vm.findClass RX2 = some m.cls := findClass_of_methodNamed B.named
  have hlocks := B.notSynchronized
  have hin : meth.name = "join" := (name_of_methodNamed B.named B.method).1
  subst hsz
  have hD := hD0.self (sz := s.heap.size)
  generalize hAe : va_A [(m0, .inr (2, [.int th, .int (nI k), .int (nI (tw_P k)), .int (nI (tw_D k)), .int (nI (tw_I k)), .ref mx, .ref my, .ref mr, .ref mb, .int sx, .int sy])), (mx, .inl (cA, 12, .inl fx)), (my, .inl (cA, 12, .inl fy)), (mr, .inl (cA, 8101, .inl fr)), (mb, .inl (cA, 5, .inl fb))] s.heap.size = A at hD ⊢
  have hA : ∀ q : Nat, s.heap.size ≤ q → A q := fun q h => by rw [← hAe]; exact Or.inr h
  have hS : va_S A s.heap s.heap [] := va_S.rf
  have hl := lv_entry ([.ref m0, .int (nI j), .int (nI j2), .int (nI j3), .int (nI b)]) (n := 5) (Nat.le_of_ble_eq_true rfl)
  rw [lg_entry_eq]
  generalize (lg_sl ([.ref m0, .int (nI j), .int (nI j2), .int (nI j3), .int (nI b)]) ++ List.replicate (5 - (lg_sl ([.ref m0, .int (nI j), .int (nI j2), .int (nI j3), .int (nI b)])).length) Slot.unset).toArray = ls at hl ⊢
  have hl : lv_has ls 5 [(0, .ref m0), (1, .int (nI j)), (2, .int (nI j2)), (3, .int (nI j3)), (4, .int (nI b))] := hl
  obtain ⟨hP0, hP2, hD2, hI2, hDP⟩ := tw_kb hk5
  have hK0 := tw_kK k hk5
  have hP8 : tw_P k ≤ 8192 := by omega
  have hN := tw_kN k hk5
  have zk : k ≤ 4 := by omega
  have o2 := (hR j2 hj2).1
  have o3 := (hR j3 hj3).1
  have o3n := (tw_neg hK0 o3).1
  refine lv_aload_n hx hb dX2_join_0 rfl (lv_at hl 0 rfl) ?_
  refine lv_iload_n hx hb dX2_join_1 rfl (lv_at hl 1 rfl) ?_
  refine vp_callSi (W.runS (As := [.int (nI j)]) (rest := [.ref m0]) ⟨hx, hb, hml, hown, ht⟩ (c_X2_none l hj) (va_cwS 1 ht (tb_S kl_X2_76 kt_X2_none kn_X2 kc_X2_none) rfl rfl rfl kd_X2_none ⟨Nat.le_of_ble_eq_true rfl, Nat.le_of_ble_eq_true rfl⟩) (st_pre _) rfl rfl hl.1 rfl (lv_room (Nat.le_of_ble_eq_true rfl)) dX2_join_2 ⟨Nat.zero_le _, Nat.zero_le _⟩) (fun r hr9 => ?_)
  subst hr9
  refine lv_if_ne (tgt := 22) hx hb dX2_join_5 (by decide) (fun c9 => absurd rfl c9) (fun _ => ?_)
  refine lv_iload_n hx hb dX2_join_8 rfl (lv_at hl 2 rfl) ?_
  refine vp_callSi (W.runS (As := [.int (nI j2)]) (rest := [.ref m0]) ⟨hx, hb, hml, hown, ht⟩ (c_X2_none l hj2) (va_cwS 1 ht (tb_S kl_X2_76 kt_X2_none kn_X2 kc_X2_none) rfl rfl rfl kd_X2_none ⟨Nat.le_of_ble_eq_true rfl, Nat.le_of_ble_eq_true rfl⟩) (st_pre _) rfl rfl hl.1 rfl (lv_room (Nat.le_of_ble_eq_true rfl)) dX2_join_9 ⟨Nat.zero_le _, Nat.zero_le _⟩) (fun r hr9 => ?_)
  subst hr9
  refine lv_if_ne (tgt := 22) hx hb dX2_join_12 (by decide) (fun c9 => absurd rfl c9) (fun _ => ?_)
  refine lv_iload_n hx hb dX2_join_15 rfl (lv_at hl 3 rfl) ?_
  refine vp_callSi (W.runS (As := [.int (nI j3)]) (rest := [.ref m0]) ⟨hx, hb, hml, hown, ht⟩ (c_X2_none l hj3) (va_cwS 1 ht (tb_S kl_X2_76 kt_X2_none kn_X2 kc_X2_none) rfl rfl rfl kd_X2_none ⟨Nat.le_of_ble_eq_true rfl, Nat.le_of_ble_eq_true rfl⟩) (st_pre _) rfl rfl hl.1 rfl (lv_room (Nat.le_of_ble_eq_true rfl)) dX2_join_16 ⟨Nat.zero_le _, Nat.zero_le _⟩) (fun r hr9 => ?_)
  subst hr9
  refine lv_if_eq (tgt := 26) hx hb dX2_join_19 (by decide) (fun _ => ?_) (fun c9 => absurd rfl c9)
  refine lv_iconst (v := (nI 0)) hx hb dX2_join_26 (by decide) ?_
  refine va_put (D := D) (ci := 2) (v := .int (nI 0)) (ty := .int) (C := RX2) (T := TX2) (N := 11) hx hb ht inX2 tyX2 tyX2_ok nmX2 hown hK hP hD hS 0 rfl rfl 0 (by decide) (ht _ kf_X2_30) (fun _ h9 => h9) rfl (by decide +kernel) rfl rfl (Nat.le_of_ble_eq_true rfl) dX2_join_27 (fun H locs hP hD hS => ?_)
  have hP : va_P D vwCl [(m0, .inr (2, [.int (nI 0), .int (nI k), .int (nI (tw_P k)), .int (nI (tw_D k)), .int (nI (tw_I k)), .ref mx, .ref my, .ref mr, .ref mb, .int sx, .int sy])), (mx, .inl (cA, 12, .inl fx)), (my, .inl (cA, 12, .inl fy)), (mr, .inl (cA, 8101, .inl fr)), (mb, .inl (cA, 5, .inl fb))] H := hP
  have hD : va_D A [(m0, .inr (2, [.int (nI 0), .int (nI k), .int (nI (tw_P k)), .int (nI (tw_D k)), .int (nI (tw_I k)), .ref mx, .ref my, .ref mr, .ref mb, .int sx, .int sy])), (mx, .inl (cA, 12, .inl fx)), (my, .inl (cA, 12, .inl fy)), (mr, .inl (cA, 8101, .inl fr)), (mb, .inl (cA, 5, .inl fb))] := hD
  refine lv_aload_n hx hb dX2_join_30 rfl (lv_at hl 0 rfl) ?_
  refine va_get (D := D) (ci := 2) (v := .int (nI 0)) (C := RX2) (T := TX2) (N := 11) hx hb ht inX2 hown hK hP 0 rfl rfl 0 (by decide) (ht _ kf_X2_30) (fun _ h9 => h9) rfl dX2_join_31 ?_
  refine nv_if_le (tgt := 39) hx hb dX2_join_34 (by decide) (by decide) (fun _ => ?_) (fun c8 => absurd c8 (by decide))
  refine lv_aload_n hx hb dX2_join_39 rfl (lv_at hl 0 rfl) ?_
  refine lv_aload_n hx hb dX2_join_40 rfl (lv_at hl 0 rfl) ?_
  refine va_get (D := D) (ci := 2) (v := .ref mx) (C := RX2) (T := TX2) (N := 11) hx hb ht inX2 hown hK hP 0 rfl rfl 5 (by decide) (ht _ kf_X2_13) (fun _ h9 => h9) rfl dX2_join_41 ?_
  refine lv_iload_n hx hb dX2_join_44 rfl (lv_at hl 2 rfl) ?_
  refine nv_iald (A := fun _ => True) (H0 := s.heap) hx hb hK hP 1 0 rfl rfl hj2 (by decide) dX2_join_45 ?_
  rw [(hR _ hj2).2.1]
  refine lv_aload_n hx hb dX2_join_46 rfl (lv_at hl 0 rfl) ?_
  refine va_get (D := D) (ci := 2) (v := .ref my) (C := RX2) (T := TX2) (N := 11) hx hb ht inX2 hown hK hP 0 rfl rfl 6 (by decide) (ht _ kf_X2_17) (fun _ h9 => h9) rfl dX2_join_47 ?_
  refine lv_iload_n hx hb dX2_join_50 rfl (lv_at hl 2 rfl) ?_
  refine nv_iald (A := fun _ => True) (H0 := s.heap) hx hb hK hP 2 0 rfl rfl hj2 (by decide) dX2_join_51 ?_
  rw [(hR _ hj2).2.2]
  refine lv_iload hx hb dX2_join_52 (lv_at hl 4 rfl) ?_
  refine nv_if_eq (tgt := 72) hx hb dX2_join_54 (by decide) (nv_le (b := 1) hb1 (by decide)) (fun c54 => ?_) (fun c54 => ?_)
  · have e5 : (if b = 0 then R j3 else tw_ng (tw_P k) (R j3)) = R j3 := if_pos c54
    rw [e5]
    refine lv_aload_n hx hb dX2_join_72 rfl (lv_at hl 0 rfl) ?_
    refine va_get (D := D) (ci := 2) (v := .ref mx) (C := RX2) (T := TX2) (N := 11) hx hb ht inX2 hown hK hP 0 rfl rfl 5 (by decide) (ht _ kf_X2_13) (fun _ h9 => h9) rfl dX2_join_73 ?_
    refine lv_iload_n hx hb dX2_join_76 rfl (lv_at hl 3 rfl) ?_
    refine nv_iald (A := fun _ => True) (H0 := s.heap) hx hb hK hP 1 0 rfl rfl hj3 (by decide) dX2_join_77 ?_
    rw [(hR _ hj3).2.1]
    refine lv_aload_n hx hb dX2_join_78 rfl (lv_at hl 0 rfl) ?_
    refine va_get (D := D) (ci := 2) (v := .ref my) (C := RX2) (T := TX2) (N := 11) hx hb ht inX2 hown hK hP 0 rfl rfl 6 (by decide) (ht _ kf_X2_17) (fun _ h9 => h9) rfl dX2_join_79 ?_
    refine lv_iload_n hx hb dX2_join_82 rfl (lv_at hl 3 rfl) ?_
    refine nv_iald (A := fun _ => True) (H0 := s.heap) hx hb hK hP 2 0 rfl rfl hj3 (by decide) dX2_join_83 ?_
    rw [(hR _ hj3).2.2]
    have hPc := hP.sub (ws' := [(m0, .inr (2, [.int (nI 0), .int (nI k), .int (nI (tw_P k)), .int (nI (tw_D k)), .int (nI (tw_I k)), .ref mx, .ref my, .ref mr, .ref mb, .int sx, .int sy]))]) [0] rfl
    have hDc := hD.sub (ws' := [(m0, .inr (2, [.int (nI 0), .int (nI k), .int (nI (tw_P k)), .int (nI (tw_D k)), .int (nI (tw_I k)), .ref mx, .ref my, .ref mr, .ref mb, .int sx, .int sy]))]) [0] (by decide) rfl
    have hFc := va_free (wc := [(m0, .inr (2, [.int (nI 0), .int (nI k), .int (nI (tw_P k)), .int (nI (tw_D k)), .int (nI (tw_I k)), .ref mx, .ref my, .ref mr, .ref mb, .int sx, .int sy]))]) hD hS hA [0] rfl
    refine va_callv (va_runV (As := [.int (nI ((R j2).1)), .int (nI ((R j2).2)), .int (nI ((R j3).1)), .int (nI ((R j3).2))]) (rest := []) ⟨hx, hb, hml, hown, ht⟩ (c_X2_sum l D hk5 (x := (R j2).1) (y := (R j2).2) (x2 := (R j3).1) (y2 := (R j3).2) (o2).1 (o2).2.1 (o3).1 (o3).2.1 H.size) (cwV 4 ht (tb_V kl_X2_62 ki_X2_sum ks_X2_sum kn_X2 kc_X2_sum) rfl rfl rfl ⟨rfl, kd_X2_sum⟩ ⟨Nat.le_of_ble_eq_true rfl, Nat.le_of_ble_eq_true rfl⟩) (wd_preV _ hPc (hK.sub (tys' := []) [] rfl) hDc (va_recv (ci := 2) (q0 := 0) hK hP rfl rfl)) rfl rfl hl.1 rfl (lv_room (Nat.le_of_ble_eq_true rfl)) dX2_join_84 ⟨Nat.le_of_ble_eq_true rfl, Nat.le_of_ble_eq_true rfl⟩) hS (fun q _ h => hFc q h) hFc (fun u9 t9 H1 locs ht9 hvm9 hw9 hB9 hz9 hk9 hS => ?_)
    obtain ⟨hP1, hK1, hD1⟩ := hB9
    rw [ht9] at hP1
    obtain ⟨hP, hD⟩ := va_join (wr := [(mx, .inl (cA, 12, .inl fx)), (my, .inl (cA, 12, .inl fy)), (mr, .inl (cA, 8101, .inl fr)), (mb, .inl (cA, 5, .inl fb))]) (w1 := [(m0, .inr (2, [.int (nI 0), .int (nI k), .int (nI (tw_P k)), .int (nI (tw_D k)), .int (nI (tw_I k)), .ref mx, .ref my, .ref mr, .ref mb, .int (nI (tw_add (tw_P k) (tw_D k) (R j2) (R j3)).1), .int (nI (tw_add (tw_P k) (tw_D k) (R j2) (R j3)).2)]))]) hP hD [0] [1, 2, 3, 4] rfl rfl (by decide) (by decide) hk9 hFc hP1 hD1
    have hP := hP.sub (ws' := [(m0, .inr (2, [.int (nI 0), .int (nI k), .int (nI (tw_P k)), .int (nI (tw_D k)), .int (nI (tw_I k)), .ref mx, .ref my, .ref mr, .ref mb, .int (nI (tw_add (tw_P k) (tw_D k) (R j2) (R j3)).1), .int (nI (tw_add (tw_P k) (tw_D k) (R j2) (R j3)).2)])), (mx, .inl (cA, 12, .inl fx)), (my, .inl (cA, 12, .inl fy)), (mr, .inl (cA, 8101, .inl fr)), (mb, .inl (cA, 5, .inl fb))]) [4, 0, 1, 2, 3] rfl
    have hD := hD.sub (ws' := [(m0, .inr (2, [.int (nI 0), .int (nI k), .int (nI (tw_P k)), .int (nI (tw_D k)), .int (nI (tw_I k)), .ref mx, .ref my, .ref mr, .ref mb, .int (nI (tw_add (tw_P k) (tw_D k) (R j2) (R j3)).1), .int (nI (tw_add (tw_P k) (tw_D k) (R j2) (R j3)).2)])), (mx, .inl (cA, 12, .inl fx)), (my, .inl (cA, 12, .inl fy)), (mr, .inl (cA, 8101, .inl fr)), (mb, .inl (cA, 5, .inl fb))]) [4, 0, 1, 2, 3] (by decide) rfl
    generalize H1 = H at hP hS hz9 ⊢
    refine lv_aload_n hx hb dX2_join_87 rfl (lv_at hl 0 rfl) ?_
    refine lv_iload_n hx hb dX2_join_88 rfl (lv_at hl 1 rfl) ?_
    have hPc := hP.sub (ws' := [(m0, .inr (2, [.int (nI 0), .int (nI k), .int (nI (tw_P k)), .int (nI (tw_D k)), .int (nI (tw_I k)), .ref mx, .ref my, .ref mr, .ref mb, .int (nI (tw_add (tw_P k) (tw_D k) (R j2) (R j3)).1), .int (nI (tw_add (tw_P k) (tw_D k) (R j2) (R j3)).2)])), (mx, .inl (cA, 12, .inl fx)), (my, .inl (cA, 12, .inl fy))]) [0, 1, 2] rfl
    have hDc := hD.sub (ws' := [(m0, .inr (2, [.int (nI 0), .int (nI k), .int (nI (tw_P k)), .int (nI (tw_D k)), .int (nI (tw_I k)), .ref mx, .ref my, .ref mr, .ref mb, .int (nI (tw_add (tw_P k) (tw_D k) (R j2) (R j3)).1), .int (nI (tw_add (tw_P k) (tw_D k) (R j2) (R j3)).2)])), (mx, .inl (cA, 12, .inl fx)), (my, .inl (cA, 12, .inl fy))]) [0, 1, 2] (by decide) rfl
    have hFc := va_free (wc := [(m0, .inr (2, [.int (nI 0), .int (nI k), .int (nI (tw_P k)), .int (nI (tw_D k)), .int (nI (tw_I k)), .ref mx, .ref my, .ref mr, .ref mb, .int (nI (tw_add (tw_P k) (tw_D k) (R j2) (R j3)).1), .int (nI (tw_add (tw_P k) (tw_D k) (R j2) (R j3)).2)])), (mx, .inl (cA, 12, .inl fx)), (my, .inl (cA, 12, .inl fy))]) hD hS hA [0, 1, 2] rfl
    refine va_calli (va_runV (As := [.int (nI j)]) (rest := []) ⟨hx, hb, hml, hown, ht⟩ (c_X2_keep l D hj (p9 := tw_add (tw_P k) (tw_D k) (R j2) (R j3)) (tw_on1 hP2 (tw_clo hK0 o2 o3)) (tw_on2 hP2 (tw_clo hK0 o2 o3)) H.size) (cwV 1 ht (tb_V kl_X2_88 ki_X2_keep ks_X2_keep kn_X2 kc_X2_keep) rfl rfl rfl ⟨rfl, kd_X2_keep⟩ ⟨Nat.le_of_ble_eq_true rfl, Nat.le_of_ble_eq_true rfl⟩) (wd_preV _ hPc hK hDc (va_recv (ci := 2) (q0 := 0) hK hP rfl rfl)) rfl rfl hl.1 rfl (lv_room (Nat.le_of_ble_eq_true rfl)) dX2_join_89 ⟨Nat.le_of_ble_eq_true rfl, Nat.le_of_ble_eq_true rfl⟩) hS (fun q _ h => hFc q h) hFc (fun r9 k9 t9 H1 locs ht9 hvm9 hw9 hB9 hz9 hk9 hS => ?_)
    obtain ⟨hP1, hK1, hD1⟩ := hB9
    rw [ht9] at hP1
    obtain ⟨hP, hD⟩ := va_join (wr := [(mr, .inl (cA, 8101, .inl fr)), (mb, .inl (cA, 5, .inl fb))]) (w1 := [(m0, .inr (2, [.int (nI 0), .int (nI k), .int (nI (tw_P k)), .int (nI (tw_D k)), .int (nI (tw_I k)), .ref mx, .ref my, .ref mr, .ref mb, .int (nI (tw_add (tw_P k) (tw_D k) (R j2) (R j3)).1), .int (nI (tw_add (tw_P k) (tw_D k) (R j2) (R j3)).2)])), (mx, .inl (cA, 12, .inl (upd fx j (nI (tw_add (tw_P k) (tw_D k) (R j2) (R j3)).1)))), (my, .inl (cA, 12, .inl (upd fy j (nI (tw_add (tw_P k) (tw_D k) (R j2) (R j3)).2))))]) hP hD [0, 1, 2] [3, 4] rfl rfl (by decide) (by decide) hk9 hFc hP1 hD1
    have hP := hP.sub (ws' := [(m0, .inr (2, [.int (nI 0), .int (nI k), .int (nI (tw_P k)), .int (nI (tw_D k)), .int (nI (tw_I k)), .ref mx, .ref my, .ref mr, .ref mb, .int (nI (tw_add (tw_P k) (tw_D k) (R j2) (R j3)).1), .int (nI (tw_add (tw_P k) (tw_D k) (R j2) (R j3)).2)])), (mx, .inl (cA, 12, .inl (upd fx j (nI (tw_add (tw_P k) (tw_D k) (R j2) (R j3)).1)))), (my, .inl (cA, 12, .inl (upd fy j (nI (tw_add (tw_P k) (tw_D k) (R j2) (R j3)).2)))), (mr, .inl (cA, 8101, .inl fr)), (mb, .inl (cA, 5, .inl fb))]) [2, 3, 4, 0, 1] rfl
    have hD := hD.sub (ws' := [(m0, .inr (2, [.int (nI 0), .int (nI k), .int (nI (tw_P k)), .int (nI (tw_D k)), .int (nI (tw_I k)), .ref mx, .ref my, .ref mr, .ref mb, .int (nI (tw_add (tw_P k) (tw_D k) (R j2) (R j3)).1), .int (nI (tw_add (tw_P k) (tw_D k) (R j2) (R j3)).2)])), (mx, .inl (cA, 12, .inl (upd fx j (nI (tw_add (tw_P k) (tw_D k) (R j2) (R j3)).1)))), (my, .inl (cA, 12, .inl (upd fy j (nI (tw_add (tw_P k) (tw_D k) (R j2) (R j3)).2)))), (mr, .inl (cA, 8101, .inl fr)), (mb, .inl (cA, 5, .inl fb))]) [2, 3, 4, 0, 1] (by decide) rfl
    generalize H1 = H at hP hS hz9 ⊢
    exact W.iret hx hb hr (fun t ht9 hW => ⟨⟨_, (), rfl, hw9, by rw [ht9]; exact hP, va_K.moved hW.alike hK, hD⟩, hS.F ht9⟩) hS.2.2 dX2_join_92
  · have e5 : (if b = 0 then R j3 else tw_ng (tw_P k) (R j3)) = tw_ng (tw_P k) (R j3) := if_neg (by omega)
    rw [e5]
    refine lv_aload_n hx hb dX2_join_57 rfl (lv_at hl 0 rfl) ?_
    refine lv_aload_n hx hb dX2_join_58 rfl (lv_at hl 0 rfl) ?_
    refine va_get (D := D) (ci := 2) (v := .ref mx) (C := RX2) (T := TX2) (N := 11) hx hb ht inX2 hown hK hP 0 rfl rfl 5 (by decide) (ht _ kf_X2_13) (fun _ h9 => h9) rfl dX2_join_59 ?_
    refine lv_iload_n hx hb dX2_join_62 rfl (lv_at hl 3 rfl) ?_
    refine nv_iald (A := fun _ => True) (H0 := s.heap) hx hb hK hP 1 0 rfl rfl hj3 (by decide) dX2_join_63 ?_
    rw [(hR _ hj3).2.1]
    refine lv_ineg hx hb dX2_join_64 ?_
    refine lv_i2l (v := (-(nI (R j3).1)).toInt64) hx hb dX2_join_65 rfl ?_
    refine vp_callSi (W.runV (As := [.long ((-(nI (R j3).1)).toInt64)]) (rest := [.int (nI ((R j2).2)), .int (nI ((R j2).1)), .ref m0]) ⟨hx, hb, hml, hown, ht⟩ (c_X2_of l D hk5 ((-(nI (R j3).1)).toInt64)) (cwV 1 ht (tb_V kl_X2_48 ki_X2_of ks_X2_of kn_X2 kc_X2_of) rfl rfl rfl ⟨rfl, kd_X2_of⟩ ⟨Nat.le_of_ble_eq_true rfl, Nat.le_of_ble_eq_true rfl⟩) (ro_preV _ (hP.sub (ws' := [(m0, .inr (2, [.int (nI 0), .int (nI k), .int (nI (tw_P k)), .int (nI (tw_D k)), .int (nI (tw_I k)), .ref mx, .ref my, .ref mr, .ref mb, .int sx, .int sy]))]) [0] rfl) (hK.sub (tys' := []) [] rfl) (va_recv (ci := 2) (q0 := 0) hK hP rfl rfl)) rfl rfl hl.1 rfl (lv_room (Nat.le_of_ble_eq_true rfl)) dX2_join_66 ⟨Nat.zero_le _, Nat.zero_le _⟩) (fun r hr9 => ?_)
    subst hr9
    rw [md_ng o3.1 (by omega)]
    refine lv_goto (tgt := 78) hx hb dX2_join_69 (by decide) ?_
    refine lv_aload_n hx hb dX2_join_78 rfl (lv_at hl 0 rfl) ?_
    refine va_get (D := D) (ci := 2) (v := .ref my) (C := RX2) (T := TX2) (N := 11) hx hb ht inX2 hown hK hP 0 rfl rfl 6 (by decide) (ht _ kf_X2_17) (fun _ h9 => h9) rfl dX2_join_79 ?_
    refine lv_iload_n hx hb dX2_join_82 rfl (lv_at hl 3 rfl) ?_
    refine nv_iald (A := fun _ => True) (H0 := s.heap) hx hb hK hP 2 0 rfl rfl hj3 (by decide) dX2_join_83 ?_
    rw [(hR _ hj3).2.2]
    have hPc := hP.sub (ws' := [(m0, .inr (2, [.int (nI 0), .int (nI k), .int (nI (tw_P k)), .int (nI (tw_D k)), .int (nI (tw_I k)), .ref mx, .ref my, .ref mr, .ref mb, .int sx, .int sy]))]) [0] rfl
    have hDc := hD.sub (ws' := [(m0, .inr (2, [.int (nI 0), .int (nI k), .int (nI (tw_P k)), .int (nI (tw_D k)), .int (nI (tw_I k)), .ref mx, .ref my, .ref mr, .ref mb, .int sx, .int sy]))]) [0] (by decide) rfl
    have hFc := va_free (wc := [(m0, .inr (2, [.int (nI 0), .int (nI k), .int (nI (tw_P k)), .int (nI (tw_D k)), .int (nI (tw_I k)), .ref mx, .ref my, .ref mr, .ref mb, .int sx, .int sy]))]) hD hS hA [0] rfl
    refine va_callv (va_runV (As := [.int (nI ((R j2).1)), .int (nI ((R j2).2)), .int (nI ((tw_ng (tw_P k) (R j3)).1)), .int (nI ((tw_ng (tw_P k) (R j3)).2))]) (rest := []) ⟨hx, hb, hml, hown, ht⟩ (c_X2_sum l D hk5 (x := (R j2).1) (y := (R j2).2) (x2 := (tw_ng (tw_P k) (R j3)).1) (y2 := (tw_ng (tw_P k) (R j3)).2) (o2).1 (o2).2.1 (o3n).1 (o3n).2.1 H.size) (cwV 4 ht (tb_V kl_X2_62 ki_X2_sum ks_X2_sum kn_X2 kc_X2_sum) rfl rfl rfl ⟨rfl, kd_X2_sum⟩ ⟨Nat.le_of_ble_eq_true rfl, Nat.le_of_ble_eq_true rfl⟩) (wd_preV _ hPc (hK.sub (tys' := []) [] rfl) hDc (va_recv (ci := 2) (q0 := 0) hK hP rfl rfl)) rfl rfl hl.1 rfl (lv_room (Nat.le_of_ble_eq_true rfl)) dX2_join_84 ⟨Nat.le_of_ble_eq_true rfl, Nat.le_of_ble_eq_true rfl⟩) hS (fun q _ h => hFc q h) hFc (fun u9 t9 H1 locs ht9 hvm9 hw9 hB9 hz9 hk9 hS => ?_)
    obtain ⟨hP1, hK1, hD1⟩ := hB9
    rw [ht9] at hP1
    obtain ⟨hP, hD⟩ := va_join (wr := [(mx, .inl (cA, 12, .inl fx)), (my, .inl (cA, 12, .inl fy)), (mr, .inl (cA, 8101, .inl fr)), (mb, .inl (cA, 5, .inl fb))]) (w1 := [(m0, .inr (2, [.int (nI 0), .int (nI k), .int (nI (tw_P k)), .int (nI (tw_D k)), .int (nI (tw_I k)), .ref mx, .ref my, .ref mr, .ref mb, .int (nI (tw_add (tw_P k) (tw_D k) (R j2) (tw_ng (tw_P k) (R j3))).1), .int (nI (tw_add (tw_P k) (tw_D k) (R j2) (tw_ng (tw_P k) (R j3))).2)]))]) hP hD [0] [1, 2, 3, 4] rfl rfl (by decide) (by decide) hk9 hFc hP1 hD1
    have hP := hP.sub (ws' := [(m0, .inr (2, [.int (nI 0), .int (nI k), .int (nI (tw_P k)), .int (nI (tw_D k)), .int (nI (tw_I k)), .ref mx, .ref my, .ref mr, .ref mb, .int (nI (tw_add (tw_P k) (tw_D k) (R j2) (tw_ng (tw_P k) (R j3))).1), .int (nI (tw_add (tw_P k) (tw_D k) (R j2) (tw_ng (tw_P k) (R j3))).2)])), (mx, .inl (cA, 12, .inl fx)), (my, .inl (cA, 12, .inl fy)), (mr, .inl (cA, 8101, .inl fr)), (mb, .inl (cA, 5, .inl fb))]) [4, 0, 1, 2, 3] rfl
    have hD := hD.sub (ws' := [(m0, .inr (2, [.int (nI 0), .int (nI k), .int (nI (tw_P k)), .int (nI (tw_D k)), .int (nI (tw_I k)), .ref mx, .ref my, .ref mr, .ref mb, .int (nI (tw_add (tw_P k) (tw_D k) (R j2) (tw_ng (tw_P k) (R j3))).1), .int (nI (tw_add (tw_P k) (tw_D k) (R j2) (tw_ng (tw_P k) (R j3))).2)])), (mx, .inl (cA, 12, .inl fx)), (my, .inl (cA, 12, .inl fy)), (mr, .inl (cA, 8101, .inl fr)), (mb, .inl (cA, 5, .inl fb))]) [4, 0, 1, 2, 3] (by decide) rfl
    generalize H1 = H at hP hS hz9 ⊢
    refine lv_aload_n hx hb dX2_join_87 rfl (lv_at hl 0 rfl) ?_
    refine lv_iload_n hx hb dX2_join_88 rfl (lv_at hl 1 rfl) ?_
    have hPc := hP.sub (ws' := [(m0, .inr (2, [.int (nI 0), .int (nI k), .int (nI (tw_P k)), .int (nI (tw_D k)), .int (nI (tw_I k)), .ref mx, .ref my, .ref mr, .ref mb, .int (nI (tw_add (tw_P k) (tw_D k) (R j2) (tw_ng (tw_P k) (R j3))).1), .int (nI (tw_add (tw_P k) (tw_D k) (R j2) (tw_ng (tw_P k) (R j3))).2)])), (mx, .inl (cA, 12, .inl fx)), (my, .inl (cA, 12, .inl fy))]) [0, 1, 2] rfl
    have hDc := hD.sub (ws' := [(m0, .inr (2, [.int (nI 0), .int (nI k), .int (nI (tw_P k)), .int (nI (tw_D k)), .int (nI (tw_I k)), .ref mx, .ref my, .ref mr, .ref mb, .int (nI (tw_add (tw_P k) (tw_D k) (R j2) (tw_ng (tw_P k) (R j3))).1), .int (nI (tw_add (tw_P k) (tw_D k) (R j2) (tw_ng (tw_P k) (R j3))).2)])), (mx, .inl (cA, 12, .inl fx)), (my, .inl (cA, 12, .inl fy))]) [0, 1, 2] (by decide) rfl
    have hFc := va_free (wc := [(m0, .inr (2, [.int (nI 0), .int (nI k), .int (nI (tw_P k)), .int (nI (tw_D k)), .int (nI (tw_I k)), .ref mx, .ref my, .ref mr, .ref mb, .int (nI (tw_add (tw_P k) (tw_D k) (R j2) (tw_ng (tw_P k) (R j3))).1), .int (nI (tw_add (tw_P k) (tw_D k) (R j2) (tw_ng (tw_P k) (R j3))).2)])), (mx, .inl (cA, 12, .inl fx)), (my, .inl (cA, 12, .inl fy))]) hD hS hA [0, 1, 2] rfl
    refine va_calli (va_runV (As := [.int (nI j)]) (rest := []) ⟨hx, hb, hml, hown, ht⟩ (c_X2_keep l D hj (p9 := tw_add (tw_P k) (tw_D k) (R j2) (tw_ng (tw_P k) (R j3))) (tw_on1 hP2 (tw_clo hK0 o2 o3n)) (tw_on2 hP2 (tw_clo hK0 o2 o3n)) H.size) (cwV 1 ht (tb_V kl_X2_88 ki_X2_keep ks_X2_keep kn_X2 kc_X2_keep) rfl rfl rfl ⟨rfl, kd_X2_keep⟩ ⟨Nat.le_of_ble_eq_true rfl, Nat.le_of_ble_eq_true rfl⟩) (wd_preV _ hPc hK hDc (va_recv (ci := 2) (q0 := 0) hK hP rfl rfl)) rfl rfl hl.1 rfl (lv_room (Nat.le_of_ble_eq_true rfl)) dX2_join_89 ⟨Nat.le_of_ble_eq_true rfl, Nat.le_of_ble_eq_true rfl⟩) hS (fun q _ h => hFc q h) hFc (fun r9 k9 t9 H1 locs ht9 hvm9 hw9 hB9 hz9 hk9 hS => ?_)
    obtain ⟨hP1, hK1, hD1⟩ := hB9
    rw [ht9] at hP1
    obtain ⟨hP, hD⟩ := va_join (wr := [(mr, .inl (cA, 8101, .inl fr)), (mb, .inl (cA, 5, .inl fb))]) (w1 := [(m0, .inr (2, [.int (nI 0), .int (nI k), .int (nI (tw_P k)), .int (nI (tw_D k)), .int (nI (tw_I k)), .ref mx, .ref my, .ref mr, .ref mb, .int (nI (tw_add (tw_P k) (tw_D k) (R j2) (tw_ng (tw_P k) (R j3))).1), .int (nI (tw_add (tw_P k) (tw_D k) (R j2) (tw_ng (tw_P k) (R j3))).2)])), (mx, .inl (cA, 12, .inl (upd fx j (nI (tw_add (tw_P k) (tw_D k) (R j2) (tw_ng (tw_P k) (R j3))).1)))), (my, .inl (cA, 12, .inl (upd fy j (nI (tw_add (tw_P k) (tw_D k) (R j2) (tw_ng (tw_P k) (R j3))).2))))]) hP hD [0, 1, 2] [3, 4] rfl rfl (by decide) (by decide) hk9 hFc hP1 hD1
    have hP := hP.sub (ws' := [(m0, .inr (2, [.int (nI 0), .int (nI k), .int (nI (tw_P k)), .int (nI (tw_D k)), .int (nI (tw_I k)), .ref mx, .ref my, .ref mr, .ref mb, .int (nI (tw_add (tw_P k) (tw_D k) (R j2) (tw_ng (tw_P k) (R j3))).1), .int (nI (tw_add (tw_P k) (tw_D k) (R j2) (tw_ng (tw_P k) (R j3))).2)])), (mx, .inl (cA, 12, .inl (upd fx j (nI (tw_add (tw_P k) (tw_D k) (R j2) (tw_ng (tw_P k) (R j3))).1)))), (my, .inl (cA, 12, .inl (upd fy j (nI (tw_add (tw_P k) (tw_D k) (R j2) (tw_ng (tw_P k) (R j3))).2)))), (mr, .inl (cA, 8101, .inl fr)), (mb, .inl (cA, 5, .inl fb))]) [2, 3, 4, 0, 1] rfl
    have hD := hD.sub (ws' := [(m0, .inr (2, [.int (nI 0), .int (nI k), .int (nI (tw_P k)), .int (nI (tw_D k)), .int (nI (tw_I k)), .ref mx, .ref my, .ref mr, .ref mb, .int (nI (tw_add (tw_P k) (tw_D k) (R j2) (tw_ng (tw_P k) (R j3))).1), .int (nI (tw_add (tw_P k) (tw_D k) (R j2) (tw_ng (tw_P k) (R j3))).2)])), (mx, .inl (cA, 12, .inl (upd fx j (nI (tw_add (tw_P k) (tw_D k) (R j2) (tw_ng (tw_P k) (R j3))).1)))), (my, .inl (cA, 12, .inl (upd fy j (nI (tw_add (tw_P k) (tw_D k) (R j2) (tw_ng (tw_P k) (R j3))).2)))), (mr, .inl (cA, 8101, .inl fr)), (mb, .inl (cA, 5, .inl fb))]) [2, 3, 4, 0, 1] (by decide) rfl
    generalize H1 = H at hP hS hz9 ⊢
    exact W.iret hx hb hr (fun t ht9 hW => ⟨⟨_, (), rfl, hw9, by rw [ht9]; exact hP, va_K.moved hW.alike hK, hD⟩, hS.F ht9⟩) hS.2.2 dX2_join_92
set_option maxHeartbeats 4000000 in
set_option maxRecDepth 100000 in
theorem c_X2_times2 (l : Launch) (D : va_G) {k : Nat} (hk5 : k < 5) {m0 mx my mr mb : Nat} {th sx sy : Int32} {cA : ClassId} {fx fy fr fb : Nat → Int32} {R : Nat → Nat × Nat} (hfr : ∀ j, j < tw_P k → fr j = tw_rv (tw_P k) j) (hR : ∀ j, j < 12 → tw_on (tw_P k) (tw_D k) (R j) ∧ fx j = nI (R j).1 ∧ fy j = nI (R j).2) {j j2 : Nat} (hj : j < 12) (hj2 : j2 < 12) (z : Int64) (sz : Nat) : Met l yX2_times2 wX2_times2 ({ frames := 5, cells := 0, slots := 0, locals := 125 }) (va_Pc [.ref m0, .int (nI j), .long z, .int (nI j2)] (wd_pre D [(cA, .int)] [(m0, .inr (2, [.int th, .int (nI k), .int (nI (tw_P k)), .int (nI (tw_D k)), .int (nI (tw_I k)), .ref mx, .ref my, .ref mr, .ref mb, .int sx, .int sy])), (mx, .inl (cA, 12, .inl fx)), (my, .inl (cA, 12, .inl fy)), (mr, .inl (cA, 8101, .inl fr)), (mb, .inl (cA, 5, .inl fb))] sz)) (va_Qi (fun (r : Int32) (u : Unit) => r = nI (tw_pk (tw_mu (tw_P k) (tw_D k) (z.toInt % (tw_N k : Int)).toNat (R j2)))) (fun (u : Unit) t => wd_at D [(cA, .int)] (va_A [(m0, .inr (2, [.int th, .int (nI k), .int (nI (tw_P k)), .int (nI (tw_D k)), .int (nI (tw_I k)), .ref mx, .ref my, .ref mr, .ref mb, .int sx, .int sy])), (mx, .inl (cA, 12, .inl fx)), (my, .inl (cA, 12, .inl fy)), (mr, .inl (cA, 8101, .inl fr)), (mb, .inl (cA, 5, .inl fb))] sz) [(m0, .inr (2, [.int (nI 0), .int (nI k), .int (nI (tw_P k)), .int (nI (tw_D k)), .int (nI (tw_I k)), .ref mx, .ref my, .ref mr, .ref mb, .int (nI (tw_mu (tw_P k) (tw_D k) (z.toInt % (tw_N k : Int)).toNat (R j2)).1), .int (nI (tw_mu (tw_P k) (tw_D k) (z.toInt % (tw_N k : Int)).toNat (R j2)).2)])), (mx, .inl (cA, 12, .inl (upd fx j (nI (tw_mu (tw_P k) (tw_D k) (z.toInt % (tw_N k : Int)).toNat (R j2)).1)))), (my, .inl (cA, 12, .inl (upd fy j (nI (tw_mu (tw_P k) (tw_D k) (z.toInt % (tw_N k : Int)).toNat (R j2)).2)))), (mr, .inl (cA, 8101, .inl fr)), (mb, .inl (cA, 5, .inl fb))] t) (va_A [(m0, .inr (2, [.int th, .int (nI k), .int (nI (tw_P k)), .int (nI (tw_D k)), .int (nI (tw_I k)), .ref mx, .ref my, .ref mr, .ref mb, .int sx, .int sy])), (mx, .inl (cA, 12, .inl fx)), (my, .inl (cA, 12, .inl fy)), (mr, .inl (cA, 8101, .inl fr)), (mb, .inl (cA, 5, .inl fb))] sz)) 0 0 (va_A [(m0, .inr (2, [.int th, .int (nI k), .int (nI (tw_P k)), .int (nI (tw_D k)), .int (nI (tw_I k)), .ref mx, .ref my, .ref mr, .ref mb, .int sx, .int sy])), (mx, .inl (cA, 12, .inl fx)), (my, .inl (cA, 12, .inl fy)), (mr, .inl (cA, 8101, .inl fr)), (mb, .inl (cA, 5, .inl fb))] sz) := by
  refine Met.ofW (cc := cX2_times2) (maxL := 5) (ret := (some .int)) (by decide) rfl ?_
  intro p e s m args below meth c s₁ B hml hv
  obtain ⟨rfl, hsz, hP, hK, hD0⟩ := hv
  have hx := B.exec
  have hb := B.bytes
  have hr := B.returns
  have hts := atoms_spec (ws := wX2_times2) B.pre
  have ht : ∀ w ∈ tb_all, w.before _ s = true := fun w h => hts w (List.mem_cons_of_mem _ h)
  have hown : s.vm.findClass RX2 = some m.cls := findClass_of_methodNamed B.named
  have hlocks := B.notSynchronized
  have hin : meth.name = "times" := (name_of_methodNamed B.named B.method).1
  subst hsz
  have hD := hD0.self (sz := s.heap.size)
  generalize hAe : va_A [(m0, .inr (2, [.int th, .int (nI k), .int (nI (tw_P k)), .int (nI (tw_D k)), .int (nI (tw_I k)), .ref mx, .ref my, .ref mr, .ref mb, .int sx, .int sy])), (mx, .inl (cA, 12, .inl fx)), (my, .inl (cA, 12, .inl fy)), (mr, .inl (cA, 8101, .inl fr)), (mb, .inl (cA, 5, .inl fb))] s.heap.size = A at hD ⊢
  have hA : ∀ q : Nat, s.heap.size ≤ q → A q := fun q h => by rw [← hAe]; exact Or.inr h
  have hS : va_S A s.heap s.heap [] := va_S.rf
  have hl := lv_entry ([.ref m0, .int (nI j), .long z, .int (nI j2)]) (n := 5) (Nat.le_of_ble_eq_true rfl)
  rw [lg_entry_eq]
  generalize (lg_sl ([.ref m0, .int (nI j), .long z, .int (nI j2)]) ++ List.replicate (5 - (lg_sl ([.ref m0, .int (nI j), .long z, .int (nI j2)])).length) Slot.unset).toArray = ls at hl ⊢
  have hl : lv_has ls 5 [(0, .ref m0), (1, .int (nI j)), (2, .long z), (4, .int (nI j2))] := hl
  obtain ⟨hP0, hP2, hD2, hI2, hDP⟩ := tw_kb hk5
  have hK0 := tw_kK k hk5
  have hP8 : tw_P k ≤ 8192 := by omega
  have hN := tw_kN k hk5
  have zk : k ≤ 4 := by omega
  have o2 := (hR j2 hj2).1
  refine lv_aload_n hx hb dX2_times2_0 rfl (lv_at hl 0 rfl) ?_
  refine lv_iload_n hx hb dX2_times2_1 rfl (lv_at hl 1 rfl) ?_
  refine vp_callSi (W.runS (As := [.int (nI j)]) (rest := [.ref m0]) ⟨hx, hb, hml, hown, ht⟩ (c_X2_none l hj) (va_cwS 1 ht (tb_S kl_X2_76 kt_X2_none kn_X2 kc_X2_none) rfl rfl rfl kd_X2_none ⟨Nat.le_of_ble_eq_true rfl, Nat.le_of_ble_eq_true rfl⟩) (st_pre _) rfl rfl hl.1 rfl (lv_room (Nat.le_of_ble_eq_true rfl)) dX2_times2_2 ⟨Nat.zero_le _, Nat.zero_le _⟩) (fun r hr9 => ?_)
  subst hr9
  refine lv_if_ne (tgt := 16) hx hb dX2_times2_5 (by decide) (fun c9 => absurd rfl c9) (fun _ => ?_)
  refine lv_iload hx hb dX2_times2_8 (lv_at hl 3 rfl) ?_
  refine vp_callSi (W.runS (As := [.int (nI j2)]) (rest := [.ref m0]) ⟨hx, hb, hml, hown, ht⟩ (c_X2_none l hj2) (va_cwS 1 ht (tb_S kl_X2_76 kt_X2_none kn_X2 kc_X2_none) rfl rfl rfl kd_X2_none ⟨Nat.le_of_ble_eq_true rfl, Nat.le_of_ble_eq_true rfl⟩) (st_pre _) rfl rfl hl.1 rfl (lv_room (Nat.le_of_ble_eq_true rfl)) dX2_times2_10 ⟨Nat.zero_le _, Nat.zero_le _⟩) (fun r hr9 => ?_)
  subst hr9
  refine lv_if_eq (tgt := 20) hx hb dX2_times2_13 (by decide) (fun _ => ?_) (fun c9 => absurd rfl c9)
  refine lv_iconst (v := (nI 0)) hx hb dX2_times2_20 (by decide) ?_
  refine va_put (D := D) (ci := 2) (v := .int (nI 0)) (ty := .int) (C := RX2) (T := TX2) (N := 11) hx hb ht inX2 tyX2 tyX2_ok nmX2 hown hK hP hD hS 0 rfl rfl 0 (by decide) (ht _ kf_X2_30) (fun _ h9 => h9) rfl (by decide +kernel) rfl rfl (Nat.le_of_ble_eq_true rfl) dX2_times2_21 (fun H locs hP hD hS => ?_)
  have hP : va_P D vwCl [(m0, .inr (2, [.int (nI 0), .int (nI k), .int (nI (tw_P k)), .int (nI (tw_D k)), .int (nI (tw_I k)), .ref mx, .ref my, .ref mr, .ref mb, .int sx, .int sy])), (mx, .inl (cA, 12, .inl fx)), (my, .inl (cA, 12, .inl fy)), (mr, .inl (cA, 8101, .inl fr)), (mb, .inl (cA, 5, .inl fb))] H := hP
  have hD : va_D A [(m0, .inr (2, [.int (nI 0), .int (nI k), .int (nI (tw_P k)), .int (nI (tw_D k)), .int (nI (tw_I k)), .ref mx, .ref my, .ref mr, .ref mb, .int sx, .int sy])), (mx, .inl (cA, 12, .inl fx)), (my, .inl (cA, 12, .inl fy)), (mr, .inl (cA, 8101, .inl fr)), (mb, .inl (cA, 5, .inl fb))] := hD
  refine lv_aload_n hx hb dX2_times2_24 rfl (lv_at hl 0 rfl) ?_
  refine va_get (D := D) (ci := 2) (v := .int (nI 0)) (C := RX2) (T := TX2) (N := 11) hx hb ht inX2 hown hK hP 0 rfl rfl 0 (by decide) (ht _ kf_X2_30) (fun _ h9 => h9) rfl dX2_times2_25 ?_
  refine nv_if_le (tgt := 33) hx hb dX2_times2_28 (by decide) (by decide) (fun _ => ?_) (fun c8 => absurd c8 (by decide))
  refine lv_aload_n hx hb dX2_times2_33 rfl (lv_at hl 0 rfl) ?_
  refine lv_lload_n hx hb dX2_times2_34 rfl (lv_at hl 2 rfl) ?_
  refine lv_aload_n hx hb dX2_times2_35 rfl (lv_at hl 0 rfl) ?_
  refine va_get (D := D) (ci := 2) (v := .ref mx) (C := RX2) (T := TX2) (N := 11) hx hb ht inX2 hown hK hP 0 rfl rfl 5 (by decide) (ht _ kf_X2_13) (fun _ h9 => h9) rfl dX2_times2_36 ?_
  refine lv_iload hx hb dX2_times2_39 (lv_at hl 3 rfl) ?_
  refine nv_iald (A := fun _ => True) (H0 := s.heap) hx hb hK hP 1 0 rfl rfl hj2 (by decide) dX2_times2_41 ?_
  rw [(hR _ hj2).2.1]
  refine lv_aload_n hx hb dX2_times2_42 rfl (lv_at hl 0 rfl) ?_
  refine va_get (D := D) (ci := 2) (v := .ref my) (C := RX2) (T := TX2) (N := 11) hx hb ht inX2 hown hK hP 0 rfl rfl 6 (by decide) (ht _ kf_X2_17) (fun _ h9 => h9) rfl dX2_times2_43 ?_
  refine lv_iload hx hb dX2_times2_46 (lv_at hl 3 rfl) ?_
  refine nv_iald (A := fun _ => True) (H0 := s.heap) hx hb hK hP 2 0 rfl rfl hj2 (by decide) dX2_times2_48 ?_
  rw [(hR _ hj2).2.2]
  have hPc := hP.sub (ws' := [(m0, .inr (2, [.int (nI 0), .int (nI k), .int (nI (tw_P k)), .int (nI (tw_D k)), .int (nI (tw_I k)), .ref mx, .ref my, .ref mr, .ref mb, .int sx, .int sy]))]) [0] rfl
  have hDc := hD.sub (ws' := [(m0, .inr (2, [.int (nI 0), .int (nI k), .int (nI (tw_P k)), .int (nI (tw_D k)), .int (nI (tw_I k)), .ref mx, .ref my, .ref mr, .ref mb, .int sx, .int sy]))]) [0] (by decide) rfl
  have hFc := va_free (wc := [(m0, .inr (2, [.int (nI 0), .int (nI k), .int (nI (tw_P k)), .int (nI (tw_D k)), .int (nI (tw_I k)), .ref mx, .ref my, .ref mr, .ref mb, .int sx, .int sy]))]) hD hS hA [0] rfl
  refine va_callv (va_runV (As := [.long z, .int (nI ((R j2).1)), .int (nI ((R j2).2))]) (rest := []) ⟨hx, hb, hml, hown, ht⟩ (c_X2_often l D hk5 o2 z H.size) (cwV 3 ht (tb_V kl_X2_91 ki_X2_often ks_X2_often kn_X2 kc_X2_often) rfl rfl rfl ⟨rfl, kd_X2_often⟩ ⟨Nat.le_of_ble_eq_true rfl, Nat.le_of_ble_eq_true rfl⟩) (wd_preV _ hPc (hK.sub (tys' := []) [] rfl) hDc (va_recv (ci := 2) (q0 := 0) hK hP rfl rfl)) rfl rfl hl.1 rfl (lv_room (Nat.le_of_ble_eq_true rfl)) dX2_times2_49 ⟨Nat.le_of_ble_eq_true rfl, Nat.le_of_ble_eq_true rfl⟩) hS (fun q _ h => hFc q h) hFc (fun u9 t9 H1 locs ht9 hvm9 hw9 hB9 hz9 hk9 hS => ?_)
  obtain ⟨hP1, hK1, hD1⟩ := hB9
  rw [ht9] at hP1
  obtain ⟨hP, hD⟩ := va_join (wr := [(mx, .inl (cA, 12, .inl fx)), (my, .inl (cA, 12, .inl fy)), (mr, .inl (cA, 8101, .inl fr)), (mb, .inl (cA, 5, .inl fb))]) (w1 := [(m0, .inr (2, [.int (nI 0), .int (nI k), .int (nI (tw_P k)), .int (nI (tw_D k)), .int (nI (tw_I k)), .ref mx, .ref my, .ref mr, .ref mb, .int (nI (tw_mu (tw_P k) (tw_D k) (z.toInt % (tw_N k : Int)).toNat (R j2)).1), .int (nI (tw_mu (tw_P k) (tw_D k) (z.toInt % (tw_N k : Int)).toNat (R j2)).2)]))]) hP hD [0] [1, 2, 3, 4] rfl rfl (by decide) (by decide) hk9 hFc hP1 hD1
  have hP := hP.sub (ws' := [(m0, .inr (2, [.int (nI 0), .int (nI k), .int (nI (tw_P k)), .int (nI (tw_D k)), .int (nI (tw_I k)), .ref mx, .ref my, .ref mr, .ref mb, .int (nI (tw_mu (tw_P k) (tw_D k) (z.toInt % (tw_N k : Int)).toNat (R j2)).1), .int (nI (tw_mu (tw_P k) (tw_D k) (z.toInt % (tw_N k : Int)).toNat (R j2)).2)])), (mx, .inl (cA, 12, .inl fx)), (my, .inl (cA, 12, .inl fy)), (mr, .inl (cA, 8101, .inl fr)), (mb, .inl (cA, 5, .inl fb))]) [4, 0, 1, 2, 3] rfl
  have hD := hD.sub (ws' := [(m0, .inr (2, [.int (nI 0), .int (nI k), .int (nI (tw_P k)), .int (nI (tw_D k)), .int (nI (tw_I k)), .ref mx, .ref my, .ref mr, .ref mb, .int (nI (tw_mu (tw_P k) (tw_D k) (z.toInt % (tw_N k : Int)).toNat (R j2)).1), .int (nI (tw_mu (tw_P k) (tw_D k) (z.toInt % (tw_N k : Int)).toNat (R j2)).2)])), (mx, .inl (cA, 12, .inl fx)), (my, .inl (cA, 12, .inl fy)), (mr, .inl (cA, 8101, .inl fr)), (mb, .inl (cA, 5, .inl fb))]) [4, 0, 1, 2, 3] (by decide) rfl
  generalize H1 = H at hP hS hz9 ⊢
  refine lv_aload_n hx hb dX2_times2_52 rfl (lv_at hl 0 rfl) ?_
  refine lv_iload_n hx hb dX2_times2_53 rfl (lv_at hl 1 rfl) ?_
  have hPc := hP.sub (ws' := [(m0, .inr (2, [.int (nI 0), .int (nI k), .int (nI (tw_P k)), .int (nI (tw_D k)), .int (nI (tw_I k)), .ref mx, .ref my, .ref mr, .ref mb, .int (nI (tw_mu (tw_P k) (tw_D k) (z.toInt % (tw_N k : Int)).toNat (R j2)).1), .int (nI (tw_mu (tw_P k) (tw_D k) (z.toInt % (tw_N k : Int)).toNat (R j2)).2)])), (mx, .inl (cA, 12, .inl fx)), (my, .inl (cA, 12, .inl fy))]) [0, 1, 2] rfl
  have hDc := hD.sub (ws' := [(m0, .inr (2, [.int (nI 0), .int (nI k), .int (nI (tw_P k)), .int (nI (tw_D k)), .int (nI (tw_I k)), .ref mx, .ref my, .ref mr, .ref mb, .int (nI (tw_mu (tw_P k) (tw_D k) (z.toInt % (tw_N k : Int)).toNat (R j2)).1), .int (nI (tw_mu (tw_P k) (tw_D k) (z.toInt % (tw_N k : Int)).toNat (R j2)).2)])), (mx, .inl (cA, 12, .inl fx)), (my, .inl (cA, 12, .inl fy))]) [0, 1, 2] (by decide) rfl
  have hFc := va_free (wc := [(m0, .inr (2, [.int (nI 0), .int (nI k), .int (nI (tw_P k)), .int (nI (tw_D k)), .int (nI (tw_I k)), .ref mx, .ref my, .ref mr, .ref mb, .int (nI (tw_mu (tw_P k) (tw_D k) (z.toInt % (tw_N k : Int)).toNat (R j2)).1), .int (nI (tw_mu (tw_P k) (tw_D k) (z.toInt % (tw_N k : Int)).toNat (R j2)).2)])), (mx, .inl (cA, 12, .inl fx)), (my, .inl (cA, 12, .inl fy))]) hD hS hA [0, 1, 2] rfl
  refine va_calli (va_runV (As := [.int (nI j)]) (rest := []) ⟨hx, hb, hml, hown, ht⟩ (c_X2_keep l D hj (p9 := tw_mu (tw_P k) (tw_D k) (z.toInt % (tw_N k : Int)).toNat (R j2)) (tw_on1 hP2 (tw_mu_on hK0 o2 _)) (tw_on2 hP2 (tw_mu_on hK0 o2 _)) H.size) (cwV 1 ht (tb_V kl_X2_88 ki_X2_keep ks_X2_keep kn_X2 kc_X2_keep) rfl rfl rfl ⟨rfl, kd_X2_keep⟩ ⟨Nat.le_of_ble_eq_true rfl, Nat.le_of_ble_eq_true rfl⟩) (wd_preV _ hPc hK hDc (va_recv (ci := 2) (q0 := 0) hK hP rfl rfl)) rfl rfl hl.1 rfl (lv_room (Nat.le_of_ble_eq_true rfl)) dX2_times2_54 ⟨Nat.le_of_ble_eq_true rfl, Nat.le_of_ble_eq_true rfl⟩) hS (fun q _ h => hFc q h) hFc (fun r9 k9 t9 H1 locs ht9 hvm9 hw9 hB9 hz9 hk9 hS => ?_)
  obtain ⟨hP1, hK1, hD1⟩ := hB9
  rw [ht9] at hP1
  obtain ⟨hP, hD⟩ := va_join (wr := [(mr, .inl (cA, 8101, .inl fr)), (mb, .inl (cA, 5, .inl fb))]) (w1 := [(m0, .inr (2, [.int (nI 0), .int (nI k), .int (nI (tw_P k)), .int (nI (tw_D k)), .int (nI (tw_I k)), .ref mx, .ref my, .ref mr, .ref mb, .int (nI (tw_mu (tw_P k) (tw_D k) (z.toInt % (tw_N k : Int)).toNat (R j2)).1), .int (nI (tw_mu (tw_P k) (tw_D k) (z.toInt % (tw_N k : Int)).toNat (R j2)).2)])), (mx, .inl (cA, 12, .inl (upd fx j (nI (tw_mu (tw_P k) (tw_D k) (z.toInt % (tw_N k : Int)).toNat (R j2)).1)))), (my, .inl (cA, 12, .inl (upd fy j (nI (tw_mu (tw_P k) (tw_D k) (z.toInt % (tw_N k : Int)).toNat (R j2)).2))))]) hP hD [0, 1, 2] [3, 4] rfl rfl (by decide) (by decide) hk9 hFc hP1 hD1
  have hP := hP.sub (ws' := [(m0, .inr (2, [.int (nI 0), .int (nI k), .int (nI (tw_P k)), .int (nI (tw_D k)), .int (nI (tw_I k)), .ref mx, .ref my, .ref mr, .ref mb, .int (nI (tw_mu (tw_P k) (tw_D k) (z.toInt % (tw_N k : Int)).toNat (R j2)).1), .int (nI (tw_mu (tw_P k) (tw_D k) (z.toInt % (tw_N k : Int)).toNat (R j2)).2)])), (mx, .inl (cA, 12, .inl (upd fx j (nI (tw_mu (tw_P k) (tw_D k) (z.toInt % (tw_N k : Int)).toNat (R j2)).1)))), (my, .inl (cA, 12, .inl (upd fy j (nI (tw_mu (tw_P k) (tw_D k) (z.toInt % (tw_N k : Int)).toNat (R j2)).2)))), (mr, .inl (cA, 8101, .inl fr)), (mb, .inl (cA, 5, .inl fb))]) [2, 3, 4, 0, 1] rfl
  have hD := hD.sub (ws' := [(m0, .inr (2, [.int (nI 0), .int (nI k), .int (nI (tw_P k)), .int (nI (tw_D k)), .int (nI (tw_I k)), .ref mx, .ref my, .ref mr, .ref mb, .int (nI (tw_mu (tw_P k) (tw_D k) (z.toInt % (tw_N k : Int)).toNat (R j2)).1), .int (nI (tw_mu (tw_P k) (tw_D k) (z.toInt % (tw_N k : Int)).toNat (R j2)).2)])), (mx, .inl (cA, 12, .inl (upd fx j (nI (tw_mu (tw_P k) (tw_D k) (z.toInt % (tw_N k : Int)).toNat (R j2)).1)))), (my, .inl (cA, 12, .inl (upd fy j (nI (tw_mu (tw_P k) (tw_D k) (z.toInt % (tw_N k : Int)).toNat (R j2)).2)))), (mr, .inl (cA, 8101, .inl fr)), (mb, .inl (cA, 5, .inl fb))]) [2, 3, 4, 0, 1] (by decide) rfl
  generalize H1 = H at hP hS hz9 ⊢
  exact W.iret hx hb hr (fun t ht9 hW => ⟨⟨_, (), rfl, hw9, by rw [ht9]; exact hP, va_K.moved hW.alike hK, hD⟩, hS.F ht9⟩) hS.2.2 dX2_times2_57
set_option maxHeartbeats 4000000 in
set_option maxRecDepth 100000 in
theorem c_X2_both (l : Launch) (D : va_G) {k : Nat} (hk5 : k < 5) {m0 mx my mr mb : Nat} {th sx sy : Int32} {cA : ClassId} {fx fy fr fb : Nat → Int32} {R : Nat → Nat × Nat} (hfr : ∀ j, j < tw_P k → fr j = tw_rv (tw_P k) j) (hR : ∀ j, j < 12 → tw_on (tw_P k) (tw_D k) (R j) ∧ fx j = nI (R j).1 ∧ fy j = nI (R j).2) {j j2 j3 : Nat} (hj : j < 12) (hj2 : j2 < 12) (hj3 : j3 < 12) (z z2 : Int64) (sz : Nat) : Met l yX2_both wX2_both ({ frames := 5, cells := 0, slots := 0, locals := 125 }) (va_Pc [.ref m0, .int (nI j), .long z, .int (nI j2), .long z2, .int (nI j3)] (wd_pre D [(cA, .int)] [(m0, .inr (2, [.int th, .int (nI k), .int (nI (tw_P k)), .int (nI (tw_D k)), .int (nI (tw_I k)), .ref mx, .ref my, .ref mr, .ref mb, .int sx, .int sy])), (mx, .inl (cA, 12, .inl fx)), (my, .inl (cA, 12, .inl fy)), (mr, .inl (cA, 8101, .inl fr)), (mb, .inl (cA, 5, .inl fb))] sz)) (va_Qi (fun (r : Int32) (u : Unit) => r = nI (tw_pk (tw_add (tw_P k) (tw_D k) (tw_mu (tw_P k) (tw_D k) (z.toInt % (tw_N k : Int)).toNat (R j2)) (tw_mu (tw_P k) (tw_D k) (z2.toInt % (tw_N k : Int)).toNat (R j3))))) (fun (u : Unit) t => wd_at D [(cA, .int)] (va_A [(m0, .inr (2, [.int th, .int (nI k), .int (nI (tw_P k)), .int (nI (tw_D k)), .int (nI (tw_I k)), .ref mx, .ref my, .ref mr, .ref mb, .int sx, .int sy])), (mx, .inl (cA, 12, .inl fx)), (my, .inl (cA, 12, .inl fy)), (mr, .inl (cA, 8101, .inl fr)), (mb, .inl (cA, 5, .inl fb))] sz) [(m0, .inr (2, [.int (nI 0), .int (nI k), .int (nI (tw_P k)), .int (nI (tw_D k)), .int (nI (tw_I k)), .ref mx, .ref my, .ref mr, .ref mb, .int (nI (tw_add (tw_P k) (tw_D k) (tw_mu (tw_P k) (tw_D k) (z.toInt % (tw_N k : Int)).toNat (R j2)) (tw_mu (tw_P k) (tw_D k) (z2.toInt % (tw_N k : Int)).toNat (R j3))).1), .int (nI (tw_add (tw_P k) (tw_D k) (tw_mu (tw_P k) (tw_D k) (z.toInt % (tw_N k : Int)).toNat (R j2)) (tw_mu (tw_P k) (tw_D k) (z2.toInt % (tw_N k : Int)).toNat (R j3))).2)])), (mx, .inl (cA, 12, .inl (upd fx j (nI (tw_add (tw_P k) (tw_D k) (tw_mu (tw_P k) (tw_D k) (z.toInt % (tw_N k : Int)).toNat (R j2)) (tw_mu (tw_P k) (tw_D k) (z2.toInt % (tw_N k : Int)).toNat (R j3))).1)))), (my, .inl (cA, 12, .inl (upd fy j (nI (tw_add (tw_P k) (tw_D k) (tw_mu (tw_P k) (tw_D k) (z.toInt % (tw_N k : Int)).toNat (R j2)) (tw_mu (tw_P k) (tw_D k) (z2.toInt % (tw_N k : Int)).toNat (R j3))).2)))), (mr, .inl (cA, 8101, .inl fr)), (mb, .inl (cA, 5, .inl fb))] t) (va_A [(m0, .inr (2, [.int th, .int (nI k), .int (nI (tw_P k)), .int (nI (tw_D k)), .int (nI (tw_I k)), .ref mx, .ref my, .ref mr, .ref mb, .int sx, .int sy])), (mx, .inl (cA, 12, .inl fx)), (my, .inl (cA, 12, .inl fy)), (mr, .inl (cA, 8101, .inl fr)), (mb, .inl (cA, 5, .inl fb))] sz)) 0 0 (va_A [(m0, .inr (2, [.int th, .int (nI k), .int (nI (tw_P k)), .int (nI (tw_D k)), .int (nI (tw_I k)), .ref mx, .ref my, .ref mr, .ref mb, .int sx, .int sy])), (mx, .inl (cA, 12, .inl fx)), (my, .inl (cA, 12, .inl fy)), (mr, .inl (cA, 8101, .inl fr)), (mb, .inl (cA, 5, .inl fb))] sz) := by
  refine Met.ofW (cc := cX2_both) (maxL := 10) (ret := (some .int)) (by decide) rfl ?_
  intro p e s m args below meth c s₁ B hml hv
  obtain ⟨rfl, hsz, hP, hK, hD0⟩ := hv
  have hx := B.exec
  have hb := B.bytes
  have hr := B.returns
  have hts := atoms_spec (ws := wX2_both) B.pre
  have ht : ∀ w ∈ tb_all, w.before _ s = true := fun w h => hts w (List.mem_cons_of_mem _ h)
  have hown : s.vm.findClass RX2 = some m.cls := findClass_of_methodNamed B.named
  have hlocks := B.notSynchronized
  have hin : meth.name = "both" := (name_of_methodNamed B.named B.method).1
  subst hsz
  have hD := hD0.self (sz := s.heap.size)
  generalize hAe : va_A [(m0, .inr (2, [.int th, .int (nI k), .int (nI (tw_P k)), .int (nI (tw_D k)), .int (nI (tw_I k)), .ref mx, .ref my, .ref mr, .ref mb, .int sx, .int sy])), (mx, .inl (cA, 12, .inl fx)), (my, .inl (cA, 12, .inl fy)), (mr, .inl (cA, 8101, .inl fr)), (mb, .inl (cA, 5, .inl fb))] s.heap.size = A at hD ⊢
  have hA : ∀ q : Nat, s.heap.size ≤ q → A q := fun q h => by rw [← hAe]; exact Or.inr h
  have hS : va_S A s.heap s.heap [] := va_S.rf
  have hl := lv_entry ([.ref m0, .int (nI j), .long z, .int (nI j2), .long z2, .int (nI j3)]) (n := 10) (Nat.le_of_ble_eq_true rfl)
  rw [lg_entry_eq]
  generalize (lg_sl ([.ref m0, .int (nI j), .long z, .int (nI j2), .long z2, .int (nI j3)]) ++ List.replicate (10 - (lg_sl ([.ref m0, .int (nI j), .long z, .int (nI j2), .long z2, .int (nI j3)])).length) Slot.unset).toArray = ls at hl ⊢
  have hl : lv_has ls 10 [(0, .ref m0), (1, .int (nI j)), (2, .long z), (4, .int (nI j2)), (5, .long z2), (7, .int (nI j3))] := hl
  obtain ⟨hP0, hP2, hD2, hI2, hDP⟩ := tw_kb hk5
  have hK0 := tw_kK k hk5
  have hP8 : tw_P k ≤ 8192 := by omega
  have hN := tw_kN k hk5
  have zk : k ≤ 4 := by omega
  have o2 := (hR j2 hj2).1
  have o3 := (hR j3 hj3).1
  have om := tw_mu_on hK0 o2 (z.toInt % (tw_N k : Int)).toNat
  have om2 := tw_mu_on hK0 o3 (z2.toInt % (tw_N k : Int)).toNat
  refine lv_aload_n hx hb dX2_both_0 rfl (lv_at hl 0 rfl) ?_
  refine lv_iload_n hx hb dX2_both_1 rfl (lv_at hl 1 rfl) ?_
  refine vp_callSi (W.runS (As := [.int (nI j)]) (rest := [.ref m0]) ⟨hx, hb, hml, hown, ht⟩ (c_X2_none l hj) (va_cwS 1 ht (tb_S kl_X2_76 kt_X2_none kn_X2 kc_X2_none) rfl rfl rfl kd_X2_none ⟨Nat.le_of_ble_eq_true rfl, Nat.le_of_ble_eq_true rfl⟩) (st_pre _) rfl rfl hl.1 rfl (lv_room (Nat.le_of_ble_eq_true rfl)) dX2_both_2 ⟨Nat.zero_le _, Nat.zero_le _⟩) (fun r hr9 => ?_)
  subst hr9
  refine lv_if_ne (tgt := 24) hx hb dX2_both_5 (by decide) (fun c9 => absurd rfl c9) (fun _ => ?_)
  refine lv_iload hx hb dX2_both_8 (lv_at hl 3 rfl) ?_
  refine vp_callSi (W.runS (As := [.int (nI j2)]) (rest := [.ref m0]) ⟨hx, hb, hml, hown, ht⟩ (c_X2_none l hj2) (va_cwS 1 ht (tb_S kl_X2_76 kt_X2_none kn_X2 kc_X2_none) rfl rfl rfl kd_X2_none ⟨Nat.le_of_ble_eq_true rfl, Nat.le_of_ble_eq_true rfl⟩) (st_pre _) rfl rfl hl.1 rfl (lv_room (Nat.le_of_ble_eq_true rfl)) dX2_both_10 ⟨Nat.zero_le _, Nat.zero_le _⟩) (fun r hr9 => ?_)
  subst hr9
  refine lv_if_ne (tgt := 24) hx hb dX2_both_13 (by decide) (fun c9 => absurd rfl c9) (fun _ => ?_)
  refine lv_iload hx hb dX2_both_16 (lv_at hl 5 rfl) ?_
  refine vp_callSi (W.runS (As := [.int (nI j3)]) (rest := [.ref m0]) ⟨hx, hb, hml, hown, ht⟩ (c_X2_none l hj3) (va_cwS 1 ht (tb_S kl_X2_76 kt_X2_none kn_X2 kc_X2_none) rfl rfl rfl kd_X2_none ⟨Nat.le_of_ble_eq_true rfl, Nat.le_of_ble_eq_true rfl⟩) (st_pre _) rfl rfl hl.1 rfl (lv_room (Nat.le_of_ble_eq_true rfl)) dX2_both_18 ⟨Nat.zero_le _, Nat.zero_le _⟩) (fun r hr9 => ?_)
  subst hr9
  refine lv_if_eq (tgt := 28) hx hb dX2_both_21 (by decide) (fun _ => ?_) (fun c9 => absurd rfl c9)
  refine lv_iconst (v := (nI 0)) hx hb dX2_both_28 (by decide) ?_
  refine va_put (D := D) (ci := 2) (v := .int (nI 0)) (ty := .int) (C := RX2) (T := TX2) (N := 11) hx hb ht inX2 tyX2 tyX2_ok nmX2 hown hK hP hD hS 0 rfl rfl 0 (by decide) (ht _ kf_X2_30) (fun _ h9 => h9) rfl (by decide +kernel) rfl rfl (Nat.le_of_ble_eq_true rfl) dX2_both_29 (fun H locs hP hD hS => ?_)
  have hP : va_P D vwCl [(m0, .inr (2, [.int (nI 0), .int (nI k), .int (nI (tw_P k)), .int (nI (tw_D k)), .int (nI (tw_I k)), .ref mx, .ref my, .ref mr, .ref mb, .int sx, .int sy])), (mx, .inl (cA, 12, .inl fx)), (my, .inl (cA, 12, .inl fy)), (mr, .inl (cA, 8101, .inl fr)), (mb, .inl (cA, 5, .inl fb))] H := hP
  have hD : va_D A [(m0, .inr (2, [.int (nI 0), .int (nI k), .int (nI (tw_P k)), .int (nI (tw_D k)), .int (nI (tw_I k)), .ref mx, .ref my, .ref mr, .ref mb, .int sx, .int sy])), (mx, .inl (cA, 12, .inl fx)), (my, .inl (cA, 12, .inl fy)), (mr, .inl (cA, 8101, .inl fr)), (mb, .inl (cA, 5, .inl fb))] := hD
  refine lv_aload_n hx hb dX2_both_32 rfl (lv_at hl 0 rfl) ?_
  refine va_get (D := D) (ci := 2) (v := .int (nI 0)) (C := RX2) (T := TX2) (N := 11) hx hb ht inX2 hown hK hP 0 rfl rfl 0 (by decide) (ht _ kf_X2_30) (fun _ h9 => h9) rfl dX2_both_33 ?_
  refine nv_if_le (tgt := 41) hx hb dX2_both_36 (by decide) (by decide) (fun _ => ?_) (fun c8 => absurd c8 (by decide))
  refine lv_aload_n hx hb dX2_both_41 rfl (lv_at hl 0 rfl) ?_
  refine lv_lload_n hx hb dX2_both_42 rfl (lv_at hl 2 rfl) ?_
  refine lv_aload_n hx hb dX2_both_43 rfl (lv_at hl 0 rfl) ?_
  refine va_get (D := D) (ci := 2) (v := .ref mx) (C := RX2) (T := TX2) (N := 11) hx hb ht inX2 hown hK hP 0 rfl rfl 5 (by decide) (ht _ kf_X2_13) (fun _ h9 => h9) rfl dX2_both_44 ?_
  refine lv_iload hx hb dX2_both_47 (lv_at hl 3 rfl) ?_
  refine nv_iald (A := fun _ => True) (H0 := s.heap) hx hb hK hP 1 0 rfl rfl hj2 (by decide) dX2_both_49 ?_
  rw [(hR _ hj2).2.1]
  refine lv_aload_n hx hb dX2_both_50 rfl (lv_at hl 0 rfl) ?_
  refine va_get (D := D) (ci := 2) (v := .ref my) (C := RX2) (T := TX2) (N := 11) hx hb ht inX2 hown hK hP 0 rfl rfl 6 (by decide) (ht _ kf_X2_17) (fun _ h9 => h9) rfl dX2_both_51 ?_
  refine lv_iload hx hb dX2_both_54 (lv_at hl 3 rfl) ?_
  refine nv_iald (A := fun _ => True) (H0 := s.heap) hx hb hK hP 2 0 rfl rfl hj2 (by decide) dX2_both_56 ?_
  rw [(hR _ hj2).2.2]
  have hPc := hP.sub (ws' := [(m0, .inr (2, [.int (nI 0), .int (nI k), .int (nI (tw_P k)), .int (nI (tw_D k)), .int (nI (tw_I k)), .ref mx, .ref my, .ref mr, .ref mb, .int sx, .int sy]))]) [0] rfl
  have hDc := hD.sub (ws' := [(m0, .inr (2, [.int (nI 0), .int (nI k), .int (nI (tw_P k)), .int (nI (tw_D k)), .int (nI (tw_I k)), .ref mx, .ref my, .ref mr, .ref mb, .int sx, .int sy]))]) [0] (by decide) rfl
  have hFc := va_free (wc := [(m0, .inr (2, [.int (nI 0), .int (nI k), .int (nI (tw_P k)), .int (nI (tw_D k)), .int (nI (tw_I k)), .ref mx, .ref my, .ref mr, .ref mb, .int sx, .int sy]))]) hD hS hA [0] rfl
  refine va_callv (va_runV (As := [.long z, .int (nI ((R j2).1)), .int (nI ((R j2).2))]) (rest := []) ⟨hx, hb, hml, hown, ht⟩ (c_X2_often l D hk5 o2 z H.size) (cwV 3 ht (tb_V kl_X2_91 ki_X2_often ks_X2_often kn_X2 kc_X2_often) rfl rfl rfl ⟨rfl, kd_X2_often⟩ ⟨Nat.le_of_ble_eq_true rfl, Nat.le_of_ble_eq_true rfl⟩) (wd_preV _ hPc (hK.sub (tys' := []) [] rfl) hDc (va_recv (ci := 2) (q0 := 0) hK hP rfl rfl)) rfl rfl hl.1 rfl (lv_room (Nat.le_of_ble_eq_true rfl)) dX2_both_57 ⟨Nat.le_of_ble_eq_true rfl, Nat.le_of_ble_eq_true rfl⟩) hS (fun q _ h => hFc q h) hFc (fun u9 t9 H1 locs ht9 hvm9 hw9 hB9 hz9 hk9 hS => ?_)
  obtain ⟨hP1, hK1, hD1⟩ := hB9
  rw [ht9] at hP1
  obtain ⟨hP, hD⟩ := va_join (wr := [(mx, .inl (cA, 12, .inl fx)), (my, .inl (cA, 12, .inl fy)), (mr, .inl (cA, 8101, .inl fr)), (mb, .inl (cA, 5, .inl fb))]) (w1 := [(m0, .inr (2, [.int (nI 0), .int (nI k), .int (nI (tw_P k)), .int (nI (tw_D k)), .int (nI (tw_I k)), .ref mx, .ref my, .ref mr, .ref mb, .int (nI (tw_mu (tw_P k) (tw_D k) (z.toInt % (tw_N k : Int)).toNat (R j2)).1), .int (nI (tw_mu (tw_P k) (tw_D k) (z.toInt % (tw_N k : Int)).toNat (R j2)).2)]))]) hP hD [0] [1, 2, 3, 4] rfl rfl (by decide) (by decide) hk9 hFc hP1 hD1
  have hP := hP.sub (ws' := [(m0, .inr (2, [.int (nI 0), .int (nI k), .int (nI (tw_P k)), .int (nI (tw_D k)), .int (nI (tw_I k)), .ref mx, .ref my, .ref mr, .ref mb, .int (nI (tw_mu (tw_P k) (tw_D k) (z.toInt % (tw_N k : Int)).toNat (R j2)).1), .int (nI (tw_mu (tw_P k) (tw_D k) (z.toInt % (tw_N k : Int)).toNat (R j2)).2)])), (mx, .inl (cA, 12, .inl fx)), (my, .inl (cA, 12, .inl fy)), (mr, .inl (cA, 8101, .inl fr)), (mb, .inl (cA, 5, .inl fb))]) [4, 0, 1, 2, 3] rfl
  have hD := hD.sub (ws' := [(m0, .inr (2, [.int (nI 0), .int (nI k), .int (nI (tw_P k)), .int (nI (tw_D k)), .int (nI (tw_I k)), .ref mx, .ref my, .ref mr, .ref mb, .int (nI (tw_mu (tw_P k) (tw_D k) (z.toInt % (tw_N k : Int)).toNat (R j2)).1), .int (nI (tw_mu (tw_P k) (tw_D k) (z.toInt % (tw_N k : Int)).toNat (R j2)).2)])), (mx, .inl (cA, 12, .inl fx)), (my, .inl (cA, 12, .inl fy)), (mr, .inl (cA, 8101, .inl fr)), (mb, .inl (cA, 5, .inl fb))]) [4, 0, 1, 2, 3] (by decide) rfl
  generalize H1 = H at hP hS hz9 ⊢
  refine lv_aload_n hx hb dX2_both_60 rfl (lv_at hl 0 rfl) ?_
  refine va_get (D := D) (ci := 2) (v := .int (nI ((tw_mu (tw_P k) (tw_D k) (z.toInt % (tw_N k : Int)).toNat (R j2)).1))) (C := RX2) (T := TX2) (N := 11) hx hb ht inX2 hown hK hP 0 rfl rfl 9 (by decide) (ht _ kf_X2_59) (fun _ h9 => h9) rfl dX2_both_61 ?_
  refine lv_istore hx hb dX2_both_64 hl (by decide) rfl (fun ls hl => ?_)
  have hl : lv_has ls 10 [(8, .int (nI ((tw_mu (tw_P k) (tw_D k) (z.toInt % (tw_N k : Int)).toNat (R j2)).1))), (0, .ref m0), (1, .int (nI j)), (2, .long z), (4, .int (nI j2)), (5, .long z2), (7, .int (nI j3))] := hl
  refine lv_aload_n hx hb dX2_both_66 rfl (lv_at hl 1 rfl) ?_
  refine va_get (D := D) (ci := 2) (v := .int (nI ((tw_mu (tw_P k) (tw_D k) (z.toInt % (tw_N k : Int)).toNat (R j2)).2))) (C := RX2) (T := TX2) (N := 11) hx hb ht inX2 hown hK hP 0 rfl rfl 10 (by decide) (ht _ kf_X2_56) (fun _ h9 => h9) rfl dX2_both_67 ?_
  refine lv_istore hx hb dX2_both_70 hl (by decide) rfl (fun ls hl => ?_)
  have hl : lv_has ls 10 [(9, .int (nI ((tw_mu (tw_P k) (tw_D k) (z.toInt % (tw_N k : Int)).toNat (R j2)).2))), (8, .int (nI ((tw_mu (tw_P k) (tw_D k) (z.toInt % (tw_N k : Int)).toNat (R j2)).1))), (0, .ref m0), (1, .int (nI j)), (2, .long z), (4, .int (nI j2)), (5, .long z2), (7, .int (nI j3))] := hl
  refine lv_aload_n hx hb dX2_both_72 rfl (lv_at hl 2 rfl) ?_
  refine lv_lload hx hb dX2_both_73 (lv_at hl 6 rfl) ?_
  refine lv_aload_n hx hb dX2_both_75 rfl (lv_at hl 2 rfl) ?_
  refine va_get (D := D) (ci := 2) (v := .ref mx) (C := RX2) (T := TX2) (N := 11) hx hb ht inX2 hown hK hP 0 rfl rfl 5 (by decide) (ht _ kf_X2_13) (fun _ h9 => h9) rfl dX2_both_76 ?_
  refine lv_iload hx hb dX2_both_79 (lv_at hl 7 rfl) ?_
  refine nv_iald (A := fun _ => True) (H0 := s.heap) hx hb hK hP 1 0 rfl rfl hj3 (by decide) dX2_both_81 ?_
  rw [(hR _ hj3).2.1]
  refine lv_aload_n hx hb dX2_both_82 rfl (lv_at hl 2 rfl) ?_
  refine va_get (D := D) (ci := 2) (v := .ref my) (C := RX2) (T := TX2) (N := 11) hx hb ht inX2 hown hK hP 0 rfl rfl 6 (by decide) (ht _ kf_X2_17) (fun _ h9 => h9) rfl dX2_both_83 ?_
  refine lv_iload hx hb dX2_both_86 (lv_at hl 7 rfl) ?_
  refine nv_iald (A := fun _ => True) (H0 := s.heap) hx hb hK hP 2 0 rfl rfl hj3 (by decide) dX2_both_88 ?_
  rw [(hR _ hj3).2.2]
  have hPc := hP.sub (ws' := [(m0, .inr (2, [.int (nI 0), .int (nI k), .int (nI (tw_P k)), .int (nI (tw_D k)), .int (nI (tw_I k)), .ref mx, .ref my, .ref mr, .ref mb, .int (nI (tw_mu (tw_P k) (tw_D k) (z.toInt % (tw_N k : Int)).toNat (R j2)).1), .int (nI (tw_mu (tw_P k) (tw_D k) (z.toInt % (tw_N k : Int)).toNat (R j2)).2)]))]) [0] rfl
  have hDc := hD.sub (ws' := [(m0, .inr (2, [.int (nI 0), .int (nI k), .int (nI (tw_P k)), .int (nI (tw_D k)), .int (nI (tw_I k)), .ref mx, .ref my, .ref mr, .ref mb, .int (nI (tw_mu (tw_P k) (tw_D k) (z.toInt % (tw_N k : Int)).toNat (R j2)).1), .int (nI (tw_mu (tw_P k) (tw_D k) (z.toInt % (tw_N k : Int)).toNat (R j2)).2)]))]) [0] (by decide) rfl
  have hFc := va_free (wc := [(m0, .inr (2, [.int (nI 0), .int (nI k), .int (nI (tw_P k)), .int (nI (tw_D k)), .int (nI (tw_I k)), .ref mx, .ref my, .ref mr, .ref mb, .int (nI (tw_mu (tw_P k) (tw_D k) (z.toInt % (tw_N k : Int)).toNat (R j2)).1), .int (nI (tw_mu (tw_P k) (tw_D k) (z.toInt % (tw_N k : Int)).toNat (R j2)).2)]))]) hD hS hA [0] rfl
  refine va_callv (va_runV (As := [.long z2, .int (nI ((R j3).1)), .int (nI ((R j3).2))]) (rest := []) ⟨hx, hb, hml, hown, ht⟩ (c_X2_often l D hk5 o3 z2 H.size) (cwV 3 ht (tb_V kl_X2_91 ki_X2_often ks_X2_often kn_X2 kc_X2_often) rfl rfl rfl ⟨rfl, kd_X2_often⟩ ⟨Nat.le_of_ble_eq_true rfl, Nat.le_of_ble_eq_true rfl⟩) (wd_preV _ hPc (hK.sub (tys' := []) [] rfl) hDc (va_recv (ci := 2) (q0 := 0) hK hP rfl rfl)) rfl rfl hl.1 rfl (lv_room (Nat.le_of_ble_eq_true rfl)) dX2_both_89 ⟨Nat.le_of_ble_eq_true rfl, Nat.le_of_ble_eq_true rfl⟩) hS (fun q _ h => hFc q h) hFc (fun v9 t9 H1 locs ht9 hvm9 hw9 hB9 hz9 hk9 hS => ?_)
  obtain ⟨hP1, hK1, hD1⟩ := hB9
  rw [ht9] at hP1
  obtain ⟨hP, hD⟩ := va_join (wr := [(mx, .inl (cA, 12, .inl fx)), (my, .inl (cA, 12, .inl fy)), (mr, .inl (cA, 8101, .inl fr)), (mb, .inl (cA, 5, .inl fb))]) (w1 := [(m0, .inr (2, [.int (nI 0), .int (nI k), .int (nI (tw_P k)), .int (nI (tw_D k)), .int (nI (tw_I k)), .ref mx, .ref my, .ref mr, .ref mb, .int (nI (tw_mu (tw_P k) (tw_D k) (z2.toInt % (tw_N k : Int)).toNat (R j3)).1), .int (nI (tw_mu (tw_P k) (tw_D k) (z2.toInt % (tw_N k : Int)).toNat (R j3)).2)]))]) hP hD [0] [1, 2, 3, 4] rfl rfl (by decide) (by decide) hk9 hFc hP1 hD1
  have hP := hP.sub (ws' := [(m0, .inr (2, [.int (nI 0), .int (nI k), .int (nI (tw_P k)), .int (nI (tw_D k)), .int (nI (tw_I k)), .ref mx, .ref my, .ref mr, .ref mb, .int (nI (tw_mu (tw_P k) (tw_D k) (z2.toInt % (tw_N k : Int)).toNat (R j3)).1), .int (nI (tw_mu (tw_P k) (tw_D k) (z2.toInt % (tw_N k : Int)).toNat (R j3)).2)])), (mx, .inl (cA, 12, .inl fx)), (my, .inl (cA, 12, .inl fy)), (mr, .inl (cA, 8101, .inl fr)), (mb, .inl (cA, 5, .inl fb))]) [4, 0, 1, 2, 3] rfl
  have hD := hD.sub (ws' := [(m0, .inr (2, [.int (nI 0), .int (nI k), .int (nI (tw_P k)), .int (nI (tw_D k)), .int (nI (tw_I k)), .ref mx, .ref my, .ref mr, .ref mb, .int (nI (tw_mu (tw_P k) (tw_D k) (z2.toInt % (tw_N k : Int)).toNat (R j3)).1), .int (nI (tw_mu (tw_P k) (tw_D k) (z2.toInt % (tw_N k : Int)).toNat (R j3)).2)])), (mx, .inl (cA, 12, .inl fx)), (my, .inl (cA, 12, .inl fy)), (mr, .inl (cA, 8101, .inl fr)), (mb, .inl (cA, 5, .inl fb))]) [4, 0, 1, 2, 3] (by decide) rfl
  generalize H1 = H at hP hS hz9 ⊢
  refine lv_aload_n hx hb dX2_both_92 rfl (lv_at hl 2 rfl) ?_
  refine lv_iload hx hb dX2_both_93 (lv_at hl 1 rfl) ?_
  refine lv_iload hx hb dX2_both_95 (lv_at hl 0 rfl) ?_
  refine lv_aload_n hx hb dX2_both_97 rfl (lv_at hl 2 rfl) ?_
  refine va_get (D := D) (ci := 2) (v := .int (nI ((tw_mu (tw_P k) (tw_D k) (z2.toInt % (tw_N k : Int)).toNat (R j3)).1))) (C := RX2) (T := TX2) (N := 11) hx hb ht inX2 hown hK hP 0 rfl rfl 9 (by decide) (ht _ kf_X2_59) (fun _ h9 => h9) rfl dX2_both_98 ?_
  refine lv_aload_n hx hb dX2_both_101 rfl (lv_at hl 2 rfl) ?_
  refine va_get (D := D) (ci := 2) (v := .int (nI ((tw_mu (tw_P k) (tw_D k) (z2.toInt % (tw_N k : Int)).toNat (R j3)).2))) (C := RX2) (T := TX2) (N := 11) hx hb ht inX2 hown hK hP 0 rfl rfl 10 (by decide) (ht _ kf_X2_56) (fun _ h9 => h9) rfl dX2_both_102 ?_
  have hPc := hP.sub (ws' := [(m0, .inr (2, [.int (nI 0), .int (nI k), .int (nI (tw_P k)), .int (nI (tw_D k)), .int (nI (tw_I k)), .ref mx, .ref my, .ref mr, .ref mb, .int (nI (tw_mu (tw_P k) (tw_D k) (z2.toInt % (tw_N k : Int)).toNat (R j3)).1), .int (nI (tw_mu (tw_P k) (tw_D k) (z2.toInt % (tw_N k : Int)).toNat (R j3)).2)]))]) [0] rfl
  have hDc := hD.sub (ws' := [(m0, .inr (2, [.int (nI 0), .int (nI k), .int (nI (tw_P k)), .int (nI (tw_D k)), .int (nI (tw_I k)), .ref mx, .ref my, .ref mr, .ref mb, .int (nI (tw_mu (tw_P k) (tw_D k) (z2.toInt % (tw_N k : Int)).toNat (R j3)).1), .int (nI (tw_mu (tw_P k) (tw_D k) (z2.toInt % (tw_N k : Int)).toNat (R j3)).2)]))]) [0] (by decide) rfl
  have hFc := va_free (wc := [(m0, .inr (2, [.int (nI 0), .int (nI k), .int (nI (tw_P k)), .int (nI (tw_D k)), .int (nI (tw_I k)), .ref mx, .ref my, .ref mr, .ref mb, .int (nI (tw_mu (tw_P k) (tw_D k) (z2.toInt % (tw_N k : Int)).toNat (R j3)).1), .int (nI (tw_mu (tw_P k) (tw_D k) (z2.toInt % (tw_N k : Int)).toNat (R j3)).2)]))]) hD hS hA [0] rfl
  refine va_callv (va_runV (As := [.int (nI ((tw_mu (tw_P k) (tw_D k) (z.toInt % (tw_N k : Int)).toNat (R j2)).1)), .int (nI ((tw_mu (tw_P k) (tw_D k) (z.toInt % (tw_N k : Int)).toNat (R j2)).2)), .int (nI ((tw_mu (tw_P k) (tw_D k) (z2.toInt % (tw_N k : Int)).toNat (R j3)).1)), .int (nI ((tw_mu (tw_P k) (tw_D k) (z2.toInt % (tw_N k : Int)).toNat (R j3)).2))]) (rest := []) ⟨hx, hb, hml, hown, ht⟩ (c_X2_sum l D hk5 (x := (tw_mu (tw_P k) (tw_D k) (z.toInt % (tw_N k : Int)).toNat (R j2)).1) (y := (tw_mu (tw_P k) (tw_D k) (z.toInt % (tw_N k : Int)).toNat (R j2)).2) (x2 := (tw_mu (tw_P k) (tw_D k) (z2.toInt % (tw_N k : Int)).toNat (R j3)).1) (y2 := (tw_mu (tw_P k) (tw_D k) (z2.toInt % (tw_N k : Int)).toNat (R j3)).2) (om).1 (om).2.1 (om2).1 (om2).2.1 H.size) (cwV 4 ht (tb_V kl_X2_62 ki_X2_sum ks_X2_sum kn_X2 kc_X2_sum) rfl rfl rfl ⟨rfl, kd_X2_sum⟩ ⟨Nat.le_of_ble_eq_true rfl, Nat.le_of_ble_eq_true rfl⟩) (wd_preV _ hPc (hK.sub (tys' := []) [] rfl) hDc (va_recv (ci := 2) (q0 := 0) hK hP rfl rfl)) rfl rfl hl.1 rfl (lv_room (Nat.le_of_ble_eq_true rfl)) dX2_both_105 ⟨Nat.le_of_ble_eq_true rfl, Nat.le_of_ble_eq_true rfl⟩) hS (fun q _ h => hFc q h) hFc (fun x9 t9 H1 locs ht9 hvm9 hw9 hB9 hz9 hk9 hS => ?_)
  obtain ⟨hP1, hK1, hD1⟩ := hB9
  rw [ht9] at hP1
  obtain ⟨hP, hD⟩ := va_join (wr := [(mx, .inl (cA, 12, .inl fx)), (my, .inl (cA, 12, .inl fy)), (mr, .inl (cA, 8101, .inl fr)), (mb, .inl (cA, 5, .inl fb))]) (w1 := [(m0, .inr (2, [.int (nI 0), .int (nI k), .int (nI (tw_P k)), .int (nI (tw_D k)), .int (nI (tw_I k)), .ref mx, .ref my, .ref mr, .ref mb, .int (nI (tw_add (tw_P k) (tw_D k) (tw_mu (tw_P k) (tw_D k) (z.toInt % (tw_N k : Int)).toNat (R j2)) (tw_mu (tw_P k) (tw_D k) (z2.toInt % (tw_N k : Int)).toNat (R j3))).1), .int (nI (tw_add (tw_P k) (tw_D k) (tw_mu (tw_P k) (tw_D k) (z.toInt % (tw_N k : Int)).toNat (R j2)) (tw_mu (tw_P k) (tw_D k) (z2.toInt % (tw_N k : Int)).toNat (R j3))).2)]))]) hP hD [0] [1, 2, 3, 4] rfl rfl (by decide) (by decide) hk9 hFc hP1 hD1
  have hP := hP.sub (ws' := [(m0, .inr (2, [.int (nI 0), .int (nI k), .int (nI (tw_P k)), .int (nI (tw_D k)), .int (nI (tw_I k)), .ref mx, .ref my, .ref mr, .ref mb, .int (nI (tw_add (tw_P k) (tw_D k) (tw_mu (tw_P k) (tw_D k) (z.toInt % (tw_N k : Int)).toNat (R j2)) (tw_mu (tw_P k) (tw_D k) (z2.toInt % (tw_N k : Int)).toNat (R j3))).1), .int (nI (tw_add (tw_P k) (tw_D k) (tw_mu (tw_P k) (tw_D k) (z.toInt % (tw_N k : Int)).toNat (R j2)) (tw_mu (tw_P k) (tw_D k) (z2.toInt % (tw_N k : Int)).toNat (R j3))).2)])), (mx, .inl (cA, 12, .inl fx)), (my, .inl (cA, 12, .inl fy)), (mr, .inl (cA, 8101, .inl fr)), (mb, .inl (cA, 5, .inl fb))]) [4, 0, 1, 2, 3] rfl
  have hD := hD.sub (ws' := [(m0, .inr (2, [.int (nI 0), .int (nI k), .int (nI (tw_P k)), .int (nI (tw_D k)), .int (nI (tw_I k)), .ref mx, .ref my, .ref mr, .ref mb, .int (nI (tw_add (tw_P k) (tw_D k) (tw_mu (tw_P k) (tw_D k) (z.toInt % (tw_N k : Int)).toNat (R j2)) (tw_mu (tw_P k) (tw_D k) (z2.toInt % (tw_N k : Int)).toNat (R j3))).1), .int (nI (tw_add (tw_P k) (tw_D k) (tw_mu (tw_P k) (tw_D k) (z.toInt % (tw_N k : Int)).toNat (R j2)) (tw_mu (tw_P k) (tw_D k) (z2.toInt % (tw_N k : Int)).toNat (R j3))).2)])), (mx, .inl (cA, 12, .inl fx)), (my, .inl (cA, 12, .inl fy)), (mr, .inl (cA, 8101, .inl fr)), (mb, .inl (cA, 5, .inl fb))]) [4, 0, 1, 2, 3] (by decide) rfl
  generalize H1 = H at hP hS hz9 ⊢
  refine lv_aload_n hx hb dX2_both_108 rfl (lv_at hl 2 rfl) ?_
  refine lv_iload_n hx hb dX2_both_109 rfl (lv_at hl 3 rfl) ?_
  have hPc := hP.sub (ws' := [(m0, .inr (2, [.int (nI 0), .int (nI k), .int (nI (tw_P k)), .int (nI (tw_D k)), .int (nI (tw_I k)), .ref mx, .ref my, .ref mr, .ref mb, .int (nI (tw_add (tw_P k) (tw_D k) (tw_mu (tw_P k) (tw_D k) (z.toInt % (tw_N k : Int)).toNat (R j2)) (tw_mu (tw_P k) (tw_D k) (z2.toInt % (tw_N k : Int)).toNat (R j3))).1), .int (nI (tw_add (tw_P k) (tw_D k) (tw_mu (tw_P k) (tw_D k) (z.toInt % (tw_N k : Int)).toNat (R j2)) (tw_mu (tw_P k) (tw_D k) (z2.toInt % (tw_N k : Int)).toNat (R j3))).2)])), (mx, .inl (cA, 12, .inl fx)), (my, .inl (cA, 12, .inl fy))]) [0, 1, 2] rfl
  have hDc := hD.sub (ws' := [(m0, .inr (2, [.int (nI 0), .int (nI k), .int (nI (tw_P k)), .int (nI (tw_D k)), .int (nI (tw_I k)), .ref mx, .ref my, .ref mr, .ref mb, .int (nI (tw_add (tw_P k) (tw_D k) (tw_mu (tw_P k) (tw_D k) (z.toInt % (tw_N k : Int)).toNat (R j2)) (tw_mu (tw_P k) (tw_D k) (z2.toInt % (tw_N k : Int)).toNat (R j3))).1), .int (nI (tw_add (tw_P k) (tw_D k) (tw_mu (tw_P k) (tw_D k) (z.toInt % (tw_N k : Int)).toNat (R j2)) (tw_mu (tw_P k) (tw_D k) (z2.toInt % (tw_N k : Int)).toNat (R j3))).2)])), (mx, .inl (cA, 12, .inl fx)), (my, .inl (cA, 12, .inl fy))]) [0, 1, 2] (by decide) rfl
  have hFc := va_free (wc := [(m0, .inr (2, [.int (nI 0), .int (nI k), .int (nI (tw_P k)), .int (nI (tw_D k)), .int (nI (tw_I k)), .ref mx, .ref my, .ref mr, .ref mb, .int (nI (tw_add (tw_P k) (tw_D k) (tw_mu (tw_P k) (tw_D k) (z.toInt % (tw_N k : Int)).toNat (R j2)) (tw_mu (tw_P k) (tw_D k) (z2.toInt % (tw_N k : Int)).toNat (R j3))).1), .int (nI (tw_add (tw_P k) (tw_D k) (tw_mu (tw_P k) (tw_D k) (z.toInt % (tw_N k : Int)).toNat (R j2)) (tw_mu (tw_P k) (tw_D k) (z2.toInt % (tw_N k : Int)).toNat (R j3))).2)])), (mx, .inl (cA, 12, .inl fx)), (my, .inl (cA, 12, .inl fy))]) hD hS hA [0, 1, 2] rfl
  refine va_calli (va_runV (As := [.int (nI j)]) (rest := []) ⟨hx, hb, hml, hown, ht⟩ (c_X2_keep l D hj (p9 := tw_add (tw_P k) (tw_D k) (tw_mu (tw_P k) (tw_D k) (z.toInt % (tw_N k : Int)).toNat (R j2)) (tw_mu (tw_P k) (tw_D k) (z2.toInt % (tw_N k : Int)).toNat (R j3))) (tw_on1 hP2 (tw_clo hK0 om om2)) (tw_on2 hP2 (tw_clo hK0 om om2)) H.size) (cwV 1 ht (tb_V kl_X2_88 ki_X2_keep ks_X2_keep kn_X2 kc_X2_keep) rfl rfl rfl ⟨rfl, kd_X2_keep⟩ ⟨Nat.le_of_ble_eq_true rfl, Nat.le_of_ble_eq_true rfl⟩) (wd_preV _ hPc hK hDc (va_recv (ci := 2) (q0 := 0) hK hP rfl rfl)) rfl rfl hl.1 rfl (lv_room (Nat.le_of_ble_eq_true rfl)) dX2_both_110 ⟨Nat.le_of_ble_eq_true rfl, Nat.le_of_ble_eq_true rfl⟩) hS (fun q _ h => hFc q h) hFc (fun r9 k9 t9 H1 locs ht9 hvm9 hw9 hB9 hz9 hk9 hS => ?_)
  obtain ⟨hP1, hK1, hD1⟩ := hB9
  rw [ht9] at hP1
  obtain ⟨hP, hD⟩ := va_join (wr := [(mr, .inl (cA, 8101, .inl fr)), (mb, .inl (cA, 5, .inl fb))]) (w1 := [(m0, .inr (2, [.int (nI 0), .int (nI k), .int (nI (tw_P k)), .int (nI (tw_D k)), .int (nI (tw_I k)), .ref mx, .ref my, .ref mr, .ref mb, .int (nI (tw_add (tw_P k) (tw_D k) (tw_mu (tw_P k) (tw_D k) (z.toInt % (tw_N k : Int)).toNat (R j2)) (tw_mu (tw_P k) (tw_D k) (z2.toInt % (tw_N k : Int)).toNat (R j3))).1), .int (nI (tw_add (tw_P k) (tw_D k) (tw_mu (tw_P k) (tw_D k) (z.toInt % (tw_N k : Int)).toNat (R j2)) (tw_mu (tw_P k) (tw_D k) (z2.toInt % (tw_N k : Int)).toNat (R j3))).2)])), (mx, .inl (cA, 12, .inl (upd fx j (nI (tw_add (tw_P k) (tw_D k) (tw_mu (tw_P k) (tw_D k) (z.toInt % (tw_N k : Int)).toNat (R j2)) (tw_mu (tw_P k) (tw_D k) (z2.toInt % (tw_N k : Int)).toNat (R j3))).1)))), (my, .inl (cA, 12, .inl (upd fy j (nI (tw_add (tw_P k) (tw_D k) (tw_mu (tw_P k) (tw_D k) (z.toInt % (tw_N k : Int)).toNat (R j2)) (tw_mu (tw_P k) (tw_D k) (z2.toInt % (tw_N k : Int)).toNat (R j3))).2))))]) hP hD [0, 1, 2] [3, 4] rfl rfl (by decide) (by decide) hk9 hFc hP1 hD1
  have hP := hP.sub (ws' := [(m0, .inr (2, [.int (nI 0), .int (nI k), .int (nI (tw_P k)), .int (nI (tw_D k)), .int (nI (tw_I k)), .ref mx, .ref my, .ref mr, .ref mb, .int (nI (tw_add (tw_P k) (tw_D k) (tw_mu (tw_P k) (tw_D k) (z.toInt % (tw_N k : Int)).toNat (R j2)) (tw_mu (tw_P k) (tw_D k) (z2.toInt % (tw_N k : Int)).toNat (R j3))).1), .int (nI (tw_add (tw_P k) (tw_D k) (tw_mu (tw_P k) (tw_D k) (z.toInt % (tw_N k : Int)).toNat (R j2)) (tw_mu (tw_P k) (tw_D k) (z2.toInt % (tw_N k : Int)).toNat (R j3))).2)])), (mx, .inl (cA, 12, .inl (upd fx j (nI (tw_add (tw_P k) (tw_D k) (tw_mu (tw_P k) (tw_D k) (z.toInt % (tw_N k : Int)).toNat (R j2)) (tw_mu (tw_P k) (tw_D k) (z2.toInt % (tw_N k : Int)).toNat (R j3))).1)))), (my, .inl (cA, 12, .inl (upd fy j (nI (tw_add (tw_P k) (tw_D k) (tw_mu (tw_P k) (tw_D k) (z.toInt % (tw_N k : Int)).toNat (R j2)) (tw_mu (tw_P k) (tw_D k) (z2.toInt % (tw_N k : Int)).toNat (R j3))).2)))), (mr, .inl (cA, 8101, .inl fr)), (mb, .inl (cA, 5, .inl fb))]) [2, 3, 4, 0, 1] rfl
  have hD := hD.sub (ws' := [(m0, .inr (2, [.int (nI 0), .int (nI k), .int (nI (tw_P k)), .int (nI (tw_D k)), .int (nI (tw_I k)), .ref mx, .ref my, .ref mr, .ref mb, .int (nI (tw_add (tw_P k) (tw_D k) (tw_mu (tw_P k) (tw_D k) (z.toInt % (tw_N k : Int)).toNat (R j2)) (tw_mu (tw_P k) (tw_D k) (z2.toInt % (tw_N k : Int)).toNat (R j3))).1), .int (nI (tw_add (tw_P k) (tw_D k) (tw_mu (tw_P k) (tw_D k) (z.toInt % (tw_N k : Int)).toNat (R j2)) (tw_mu (tw_P k) (tw_D k) (z2.toInt % (tw_N k : Int)).toNat (R j3))).2)])), (mx, .inl (cA, 12, .inl (upd fx j (nI (tw_add (tw_P k) (tw_D k) (tw_mu (tw_P k) (tw_D k) (z.toInt % (tw_N k : Int)).toNat (R j2)) (tw_mu (tw_P k) (tw_D k) (z2.toInt % (tw_N k : Int)).toNat (R j3))).1)))), (my, .inl (cA, 12, .inl (upd fy j (nI (tw_add (tw_P k) (tw_D k) (tw_mu (tw_P k) (tw_D k) (z.toInt % (tw_N k : Int)).toNat (R j2)) (tw_mu (tw_P k) (tw_D k) (z2.toInt % (tw_N k : Int)).toNat (R j3))).2)))), (mr, .inl (cA, 8101, .inl fr)), (mb, .inl (cA, 5, .inl fb))]) [2, 3, 4, 0, 1] (by decide) rfl
  generalize H1 = H at hP hS hz9 ⊢
  exact W.iret hx hb hr (fun t ht9 hW => ⟨⟨_, (), rfl, hw9, by rw [ht9]; exact hP, va_K.moved hW.alike hK, hD⟩, hS.F ht9⟩) hS.2.2 dX2_both_113
set_option maxHeartbeats 4000000 in
set_option maxRecDepth 100000 in
theorem c_X2_count (l : Launch) (D : va_G) {k : Nat} (hk5 : k < 5) {m0 mx my mr mb : Nat} {th sx sy : Int32} {cA : ClassId} {fx fy fr fb : Nat → Int32} {R : Nat → Nat × Nat} (hfr : ∀ j, j < tw_P k → fr j = tw_rv (tw_P k) j) (hR : ∀ j, j < 12 → tw_on (tw_P k) (tw_D k) (R j) ∧ fx j = nI (R j).1 ∧ fy j = nI (R j).2) {w : Nat} (hw : w < 5) (sz : Nat) : Met l yX2_count wX2_count ({ frames := 0, cells := 0, slots := 0, locals := 0 }) (va_Pc [.ref m0, .int (nI w)] (wd_pre D [(cA, .int)] [(m0, .inr (2, [.int th, .int (nI k), .int (nI (tw_P k)), .int (nI (tw_D k)), .int (nI (tw_I k)), .ref mx, .ref my, .ref mr, .ref mb, .int sx, .int sy])), (mx, .inl (cA, 12, .inl fx)), (my, .inl (cA, 12, .inl fy)), (mr, .inl (cA, 8101, .inl fr)), (mb, .inl (cA, 5, .inl fb))] sz)) (va_Qi (fun (r : Int32) (u : Unit) => r = nI (tw_ct k R w)) (fun (u : Unit) t => wd_at D [(cA, .int)] (va_A [(m0, .inr (2, [.int th, .int (nI k), .int (nI (tw_P k)), .int (nI (tw_D k)), .int (nI (tw_I k)), .ref mx, .ref my, .ref mr, .ref mb, .int sx, .int sy])), (mx, .inl (cA, 12, .inl fx)), (my, .inl (cA, 12, .inl fy)), (mr, .inl (cA, 8101, .inl fr)), (mb, .inl (cA, 5, .inl fb))] sz) [(m0, .inr (2, [.int (nI 0), .int (nI k), .int (nI (tw_P k)), .int (nI (tw_D k)), .int (nI (tw_I k)), .ref mx, .ref my, .ref mr, .ref mb, .int sx, .int sy])), (mx, .inl (cA, 12, .inl fx)), (my, .inl (cA, 12, .inl fy)), (mr, .inl (cA, 8101, .inl fr)), (mb, .inl (cA, 5, .inl fb))] t) (va_A [(m0, .inr (2, [.int th, .int (nI k), .int (nI (tw_P k)), .int (nI (tw_D k)), .int (nI (tw_I k)), .ref mx, .ref my, .ref mr, .ref mb, .int sx, .int sy])), (mx, .inl (cA, 12, .inl fx)), (my, .inl (cA, 12, .inl fy)), (mr, .inl (cA, 8101, .inl fr)), (mb, .inl (cA, 5, .inl fb))] sz)) 0 0 (va_A [(m0, .inr (2, [.int th, .int (nI k), .int (nI (tw_P k)), .int (nI (tw_D k)), .int (nI (tw_I k)), .ref mx, .ref my, .ref mr, .ref mb, .int sx, .int sy])), (mx, .inl (cA, 12, .inl fx)), (my, .inl (cA, 12, .inl fy)), (mr, .inl (cA, 8101, .inl fr)), (mb, .inl (cA, 5, .inl fb))] sz) := by
  refine Met.ofW (cc := cX2_count) (maxL := 4) (ret := (some .int)) (by decide) rfl ?_
  intro p e s m args below meth c s₁ B hml hv
  obtain ⟨rfl, hsz, hP, hK, hD0⟩ := hv
  have hx := B.exec
  have hb := B.bytes
  have hr := B.returns
  have hts := atoms_spec (ws := wX2_count) B.pre
  have ht : ∀ w ∈ tb_all, w.before _ s = true := fun w h => hts w (List.mem_cons_of_mem _ h)
  have hown : s.vm.findClass RX2 = some m.cls := findClass_of_methodNamed B.named
  have hlocks := B.notSynchronized
  have hin : meth.name = "count" := (name_of_methodNamed B.named B.method).1
  subst hsz
  have hD := hD0.self (sz := s.heap.size)
  generalize hAe : va_A [(m0, .inr (2, [.int th, .int (nI k), .int (nI (tw_P k)), .int (nI (tw_D k)), .int (nI (tw_I k)), .ref mx, .ref my, .ref mr, .ref mb, .int sx, .int sy])), (mx, .inl (cA, 12, .inl fx)), (my, .inl (cA, 12, .inl fy)), (mr, .inl (cA, 8101, .inl fr)), (mb, .inl (cA, 5, .inl fb))] s.heap.size = A at hD ⊢
  have hA : ∀ q : Nat, s.heap.size ≤ q → A q := fun q h => by rw [← hAe]; exact Or.inr h
  have hS : va_S A s.heap s.heap [] := va_S.rf
  have hl := lv_entry ([.ref m0, .int (nI w)]) (n := 4) (Nat.le_of_ble_eq_true rfl)
  rw [lg_entry_eq]
  generalize (lg_sl ([.ref m0, .int (nI w)]) ++ List.replicate (4 - (lg_sl ([.ref m0, .int (nI w)])).length) Slot.unset).toArray = ls at hl ⊢
  have hl : lv_has ls 4 [(0, .ref m0), (1, .int (nI w))] := hl
  obtain ⟨hP0, hP2, hD2, hI2, hDP⟩ := tw_kb hk5
  have hK0 := tw_kK k hk5
  have hP8 : tw_P k ≤ 8192 := by omega
  have hN := tw_kN k hk5
  have zk : k ≤ 4 := by omega
  refine lv_aload_n hx hb dX2_count_0 rfl (lv_at hl 0 rfl) ?_
  refine lv_iconst (v := (nI 0)) hx hb dX2_count_1 (by decide) ?_
  refine va_put (D := D) (ci := 2) (v := .int (nI 0)) (ty := .int) (C := RX2) (T := TX2) (N := 11) hx hb ht inX2 tyX2 tyX2_ok nmX2 hown hK hP hD hS 0 rfl rfl 0 (by decide) (ht _ kf_X2_30) (fun _ h9 => h9) rfl (by decide +kernel) rfl rfl (Nat.le_of_ble_eq_true rfl) dX2_count_2 (fun H locs hP hD hS => ?_)
  have hP : va_P D vwCl [(m0, .inr (2, [.int (nI 0), .int (nI k), .int (nI (tw_P k)), .int (nI (tw_D k)), .int (nI (tw_I k)), .ref mx, .ref my, .ref mr, .ref mb, .int sx, .int sy])), (mx, .inl (cA, 12, .inl fx)), (my, .inl (cA, 12, .inl fy)), (mr, .inl (cA, 8101, .inl fr)), (mb, .inl (cA, 5, .inl fb))] H := hP
  have hD : va_D A [(m0, .inr (2, [.int (nI 0), .int (nI k), .int (nI (tw_P k)), .int (nI (tw_D k)), .int (nI (tw_I k)), .ref mx, .ref my, .ref mr, .ref mb, .int sx, .int sy])), (mx, .inl (cA, 12, .inl fx)), (my, .inl (cA, 12, .inl fy)), (mr, .inl (cA, 8101, .inl fr)), (mb, .inl (cA, 5, .inl fb))] := hD
  refine lv_iload_n hx hb dX2_count_5 rfl (lv_at hl 1 rfl) ?_
  have hw5 : w = 0 ∨ w = 1 ∨ w = 2 ∨ w = 3 ∨ w = 4 := by omega
  rcases hw5 with rfl | rfl | rfl | rfl | rfl
  · refine lv_tableIn (tgt := 40) (off := 34) hx hb dX2_count_6 (by decide) (by decide) (by decide) (by decide) ?_
    refine lv_aload_n hx hb dX2_count_40 rfl (lv_at hl 0 rfl) ?_
    refine va_get (D := D) (ci := 2) (v := .int (nI k)) (C := RX2) (T := TX2) (N := 11) hx hb ht inX2 hown hK hP 0 rfl rfl 1 (by decide) (ht _ kf_X2_33) (fun _ h9 => h9) rfl dX2_count_41 ?_
    exact W.iret hx hb hr (fun t ht9 hW => ⟨⟨_, (), rfl, rfl, by rw [ht9]; exact hP, va_K.moved hW.alike hK, hD⟩, hS.F ht9⟩) hS.2.2 dX2_count_44
  · refine lv_tableIn (tgt := 45) (off := 39) hx hb dX2_count_6 (by decide) (by decide) (by decide) (by decide) ?_
    refine lv_aload_n hx hb dX2_count_45 rfl (lv_at hl 0 rfl) ?_
    refine va_get (D := D) (ci := 2) (v := .int (nI (tw_P k))) (C := RX2) (T := TX2) (N := 11) hx hb ht inX2 hown hK hP 0 rfl rfl 2 (by decide) (ht _ kf_X2_7) (fun _ h9 => h9) rfl dX2_count_46 ?_
    exact W.iret hx hb hr (fun t ht9 hW => ⟨⟨_, (), rfl, rfl, by rw [ht9]; exact hP, va_K.moved hW.alike hK, hD⟩, hS.F ht9⟩) hS.2.2 dX2_count_49
  · refine lv_tableIn (tgt := 50) (off := 44) hx hb dX2_count_6 (by decide) (by decide) (by decide) (by decide) ?_
    refine lv_aload_n hx hb dX2_count_50 rfl (lv_at hl 0 rfl) ?_
    refine va_get (D := D) (ci := 2) (v := .int (nI (tw_D k))) (C := RX2) (T := TX2) (N := 11) hx hb ht inX2 hown hK hP 0 rfl rfl 3 (by decide) (ht _ kf_X2_36) (fun _ h9 => h9) rfl dX2_count_51 ?_
    exact W.iret hx hb hr (fun t ht9 hW => ⟨⟨_, (), rfl, rfl, by rw [ht9]; exact hP, va_K.moved hW.alike hK, hD⟩, hS.F ht9⟩) hS.2.2 dX2_count_54
  · refine lv_tableIn (tgt := 55) (off := 49) hx hb dX2_count_6 (by decide) (by decide) (by decide) (by decide) ?_
    refine lv_aload_n hx hb dX2_count_55 rfl (lv_at hl 0 rfl) ?_
    refine va_get (D := D) (ci := 2) (v := .int (nI (tw_I k))) (C := RX2) (T := TX2) (N := 11) hx hb ht inX2 hown hK hP 0 rfl rfl 4 (by decide) (ht _ kf_X2_39) (fun _ h9 => h9) rfl dX2_count_56 ?_
    exact W.iret hx hb hr (fun t ht9 hW => ⟨⟨_, (), rfl, rfl, by rw [ht9]; exact hP, va_K.moved hW.alike hK, hD⟩, hS.F ht9⟩) hS.2.2 dX2_count_59
  · refine lv_tableIn (tgt := 60) (off := 54) hx hb dX2_count_6 (by decide) (by decide) (by decide) (by decide) ?_
    refine lv_iconst (v := (nI 0)) hx hb dX2_count_60 (by decide) ?_
    refine lv_istore_n hx hb dX2_count_61 rfl hl (by decide) rfl (fun ls hl => ?_)
    have hl : lv_has ls 4 [(2, .int (nI 0)), (0, .ref m0), (1, .int (nI 4))] := hl
    refine lv_iconst (v := (nI 0)) hx hb dX2_count_62 (by decide) ?_
    refine lv_istore_n hx hb dX2_count_63 rfl hl (by decide) rfl (fun ls hl => ?_)
    have hl : lv_has ls 4 [(3, .int (nI 0)), (2, .int (nI 0)), (0, .ref m0), (1, .int (nI 4))] := hl
    have loop : ∀ (f9 i : Nat) (ls : Array Slot), 12 - i < f9 → i ≤ 12 → lv_has ls 4 [(3, .int (nI i)), (2, .int (nI (tw_sum (fun j => if R j = (0, 1) then 0 else 1) i))), (0, .ref m0)] → W p l e (headSpec wX2_count ({ frames := 0, cells := 0, slots := 0, locals := 0 })).room s m ([.ref m0, .int (nI 4)]).toArray below meth c H locs 0 0 (MQ below (va_Qi (fun (r : Int32) (u : Unit) => r = nI (tw_ct k R 4)) (fun (u : Unit) t => wd_at D [(cA, .int)] (A) [(m0, .inr (2, [.int (nI 0), .int (nI k), .int (nI (tw_P k)), .int (nI (tw_D k)), .int (nI (tw_I k)), .ref mx, .ref my, .ref mr, .ref mb, .int sx, .int sy])), (mx, .inl (cA, 12, .inl fx)), (my, .inl (cA, 12, .inl fy)), (mr, .inl (cA, 8101, .inl fr)), (mb, .inl (cA, 5, .inl fb))] t) A) ([.ref m0, .int (nI 4)]).toArray s 0 0 A) (F0 m 64 ls []) := by
      intro f9
      induction f9 with
      | zero => intro i ls h1; exact absurd h1 (Nat.not_lt_zero _)
      | succ f9 ih =>
        intro i ls h1 h2 hl
        have zs : tw_sum (fun j => if R j = (0, 1) then 0 else 1) i ≤ 12 := Nat.le_trans (tw_useb R i) h2
        refine lv_iload_n hx hb dX2_count_64 rfl (lv_at hl 0 rfl) ?_
        refine lv_bipush (v := (nI 12)) hx hb dX2_count_65 (by decide) ?_
        refine nv_icmp_ge (tgt := 98) hx hb dX2_count_67 (by decide) (nv_le (b := 12) h2 (by decide)) (nv_le (b := 12) (Nat.le_refl 12) (by decide)) (fun c67 => ?_) (fun c67 => ?_)
        · have e8 : i = 12 := Nat.le_antisymm h2 c67
          subst e8
          refine lv_iload_n hx hb dX2_count_98 rfl (lv_at hl 1 rfl) ?_
          exact W.iret hx hb hr (fun t ht9 hW => ⟨⟨_, (), rfl, rfl, by rw [ht9]; exact hP, va_K.moved hW.alike hK, hD⟩, hS.F ht9⟩) hS.2.2 dX2_count_99
        · refine lv_aload_n hx hb dX2_count_70 rfl (lv_at hl 2 rfl) ?_
          refine va_get (D := D) (ci := 2) (v := .ref mx) (C := RX2) (T := TX2) (N := 11) hx hb ht inX2 hown hK hP 0 rfl rfl 5 (by decide) (ht _ kf_X2_13) (fun _ h9 => h9) rfl dX2_count_71 ?_
          refine lv_iload_n hx hb dX2_count_74 rfl (lv_at hl 0 rfl) ?_
          refine nv_iald (A := fun _ => True) (H0 := s.heap) hx hb hK hP 1 0 rfl rfl c67 (by decide) dX2_count_75 ?_
          rw [(hR _ c67).2.1]
          refine nv_if_ne (tgt := 89) hx hb dX2_count_76 (by decide) (nv_le (b := 8100) (tw_on1 hP2 (hR _ c67).1) (by decide)) (fun c76 => ?_) (fun c76 => ?_)
          · refine lv_iinc hx hb dX2_count_89 hl (k := 1) rfl nv_inc (by decide) rfl (fun ls hl => ?_)
            have hl : lv_has ls 4 [(2, .int (nI ((tw_sum (fun j => if R j = (0, 1) then 0 else 1) i) + 1))), (3, .int (nI i)), (0, .ref m0)] := hl
            refine lv_iinc hx hb dX2_count_92 hl (k := 1) rfl nv_inc (by decide) rfl (fun ls hl => ?_)
            have hl : lv_has ls 4 [(3, .int (nI (i + 1))), (2, .int (nI ((tw_sum (fun j => if R j = (0, 1) then 0 else 1) i) + 1))), (0, .ref m0)] := hl
            refine lv_goto (tgt := 64) hx hb dX2_count_95 (by decide) ?_
            refine ih (i + 1) ls (by omega) (by omega) ?_
            have e7 : tw_sum (fun j => if R j = (0, 1) then 0 else 1) (i + 1) = tw_sum (fun j => if R j = (0, 1) then 0 else 1) i + 1 := by show _ + (if R i = (0, 1) then 0 else 1) = _; rw [if_neg (fun z => by rw [z] at c76; exact absurd c76 (by decide))]
            rw [e7]
            exact lv_sub hl [0, 1, 2] rfl
          · refine lv_aload_n hx hb dX2_count_79 rfl (lv_at hl 2 rfl) ?_
            refine va_get (D := D) (ci := 2) (v := .ref my) (C := RX2) (T := TX2) (N := 11) hx hb ht inX2 hown hK hP 0 rfl rfl 6 (by decide) (ht _ kf_X2_17) (fun _ h9 => h9) rfl dX2_count_80 ?_
            refine lv_iload_n hx hb dX2_count_83 rfl (lv_at hl 0 rfl) ?_
            refine nv_iald (A := fun _ => True) (H0 := s.heap) hx hb hK hP 2 0 rfl rfl c67 (by decide) dX2_count_84 ?_
            rw [(hR _ c67).2.2]
            refine lv_iconst (v := (nI 1)) hx hb dX2_count_85 (by decide) ?_
            refine nv_icmp_eq (tgt := 92) hx hb dX2_count_86 (by decide) (nv_le (b := 8100) (tw_on2 hP2 (hR _ c67).1) (by decide)) (nv_le (b := 1) (Nat.le_refl 1) (by decide)) (fun c86 => ?_) (fun c86 => ?_)
            · refine lv_iinc hx hb dX2_count_92 hl (k := 0) rfl nv_inc (by decide) rfl (fun ls hl => ?_)
              have hl : lv_has ls 4 [(3, .int (nI (i + 1))), (2, .int (nI (tw_sum (fun j => if R j = (0, 1) then 0 else 1) i))), (0, .ref m0)] := hl
              refine lv_goto (tgt := 64) hx hb dX2_count_95 (by decide) ?_
              refine ih (i + 1) ls (by omega) (by omega) ?_
              have e7 : tw_sum (fun j => if R j = (0, 1) then 0 else 1) (i + 1) = tw_sum (fun j => if R j = (0, 1) then 0 else 1) i + 0 := by show _ + (if R i = (0, 1) then 0 else 1) = _; rw [if_pos (Prod.ext c76 c86)]
              rw [e7]
              exact lv_sub hl [0, 1, 2] rfl
            · refine lv_iinc hx hb dX2_count_89 hl (k := 1) rfl nv_inc (by decide) rfl (fun ls hl => ?_)
              have hl : lv_has ls 4 [(2, .int (nI ((tw_sum (fun j => if R j = (0, 1) then 0 else 1) i) + 1))), (3, .int (nI i)), (0, .ref m0)] := hl
              refine lv_iinc hx hb dX2_count_92 hl (k := 1) rfl nv_inc (by decide) rfl (fun ls hl => ?_)
              have hl : lv_has ls 4 [(3, .int (nI (i + 1))), (2, .int (nI ((tw_sum (fun j => if R j = (0, 1) then 0 else 1) i) + 1))), (0, .ref m0)] := hl
              refine lv_goto (tgt := 64) hx hb dX2_count_95 (by decide) ?_
              refine ih (i + 1) ls (by omega) (by omega) ?_
              have e7 : tw_sum (fun j => if R j = (0, 1) then 0 else 1) (i + 1) = tw_sum (fun j => if R j = (0, 1) then 0 else 1) i + 1 := by show _ + (if R i = (0, 1) then 0 else 1) = _; rw [if_neg (fun z => c86 (by rw [z]))]
              rw [e7]
              exact lv_sub hl [0, 1, 2] rfl
    exact loop 13 0 ls (by omega) (Nat.zero_le _) (lv_sub hl [0, 1, 2] rfl)
set_option maxHeartbeats 4000000 in
set_option maxRecDepth 100000 in
theorem c_X2_countM (l : Launch) (D : va_G) {k : Nat} (hk5 : k < 5) {m0 mx my mr mb : Nat} {th sx sy : Int32} {cA : ClassId} {fx fy fr fb : Nat → Int32} {R : Nat → Nat × Nat} (hfr : ∀ j, j < tw_P k → fr j = tw_rv (tw_P k) j) (hR : ∀ j, j < 12 → tw_on (tw_P k) (tw_D k) (R j) ∧ fx j = nI (R j).1 ∧ fy j = nI (R j).2) {z : Int32} (hz : z.toInt < 0 ∨ 4 < z.toInt) (sz : Nat) : Met l yX2_count wX2_count ({ frames := 0, cells := 0, slots := 0, locals := 0 }) (va_Pc [.ref m0, .int z] (wd_pre D [(cA, .int)] [(m0, .inr (2, [.int th, .int (nI k), .int (nI (tw_P k)), .int (nI (tw_D k)), .int (nI (tw_I k)), .ref mx, .ref my, .ref mr, .ref mb, .int sx, .int sy])), (mx, .inl (cA, 12, .inl fx)), (my, .inl (cA, 12, .inl fy)), (mr, .inl (cA, 8101, .inl fr)), (mb, .inl (cA, 5, .inl fb))] sz)) (va_Qi (fun (r : Int32) (u : Unit) => r = -1) (fun (u : Unit) t => wd_at D [(cA, .int)] (va_A [(m0, .inr (2, [.int th, .int (nI k), .int (nI (tw_P k)), .int (nI (tw_D k)), .int (nI (tw_I k)), .ref mx, .ref my, .ref mr, .ref mb, .int sx, .int sy])), (mx, .inl (cA, 12, .inl fx)), (my, .inl (cA, 12, .inl fy)), (mr, .inl (cA, 8101, .inl fr)), (mb, .inl (cA, 5, .inl fb))] sz) [(m0, .inr (2, [.int (nI 0), .int (nI k), .int (nI (tw_P k)), .int (nI (tw_D k)), .int (nI (tw_I k)), .ref mx, .ref my, .ref mr, .ref mb, .int sx, .int sy])), (mx, .inl (cA, 12, .inl fx)), (my, .inl (cA, 12, .inl fy)), (mr, .inl (cA, 8101, .inl fr)), (mb, .inl (cA, 5, .inl fb))] t) (va_A [(m0, .inr (2, [.int th, .int (nI k), .int (nI (tw_P k)), .int (nI (tw_D k)), .int (nI (tw_I k)), .ref mx, .ref my, .ref mr, .ref mb, .int sx, .int sy])), (mx, .inl (cA, 12, .inl fx)), (my, .inl (cA, 12, .inl fy)), (mr, .inl (cA, 8101, .inl fr)), (mb, .inl (cA, 5, .inl fb))] sz)) 0 0 (va_A [(m0, .inr (2, [.int th, .int (nI k), .int (nI (tw_P k)), .int (nI (tw_D k)), .int (nI (tw_I k)), .ref mx, .ref my, .ref mr, .ref mb, .int sx, .int sy])), (mx, .inl (cA, 12, .inl fx)), (my, .inl (cA, 12, .inl fy)), (mr, .inl (cA, 8101, .inl fr)), (mb, .inl (cA, 5, .inl fb))] sz) := by
  refine Met.ofW (cc := cX2_count) (maxL := 4) (ret := (some .int)) (by decide) rfl ?_
  intro p e s m args below meth c s₁ B hml hv
  obtain ⟨rfl, hsz, hP, hK, hD0⟩ := hv
  have hx := B.exec
  have hb := B.bytes
  have hr := B.returns
  have hts := atoms_spec (ws := wX2_count) B.pre
  have ht : ∀ w ∈ tb_all, w.before _ s = true := fun w h => hts w (List.mem_cons_of_mem _ h)
  have hown : s.vm.findClass RX2 = some m.cls := findClass_of_methodNamed B.named
  have hlocks := B.notSynchronized
  have hin : meth.name = "count" := (name_of_methodNamed B.named B.method).1
  subst hsz
  have hD := hD0.self (sz := s.heap.size)
  generalize hAe : va_A [(m0, .inr (2, [.int th, .int (nI k), .int (nI (tw_P k)), .int (nI (tw_D k)), .int (nI (tw_I k)), .ref mx, .ref my, .ref mr, .ref mb, .int sx, .int sy])), (mx, .inl (cA, 12, .inl fx)), (my, .inl (cA, 12, .inl fy)), (mr, .inl (cA, 8101, .inl fr)), (mb, .inl (cA, 5, .inl fb))] s.heap.size = A at hD ⊢
  have hA : ∀ q : Nat, s.heap.size ≤ q → A q := fun q h => by rw [← hAe]; exact Or.inr h
  have hS : va_S A s.heap s.heap [] := va_S.rf
  have hl := lv_entry ([.ref m0, .int z]) (n := 4) (Nat.le_of_ble_eq_true rfl)
  rw [lg_entry_eq]
  generalize (lg_sl ([.ref m0, .int z]) ++ List.replicate (4 - (lg_sl ([.ref m0, .int z])).length) Slot.unset).toArray = ls at hl ⊢
  have hl : lv_has ls 4 [(0, .ref m0), (1, .int z)] := hl
  obtain ⟨hP0, hP2, hD2, hI2, hDP⟩ := tw_kb hk5
  have hK0 := tw_kK k hk5
  have hP8 : tw_P k ≤ 8192 := by omega
  have hN := tw_kN k hk5
  have zk : k ≤ 4 := by omega
  refine lv_aload_n hx hb dX2_count_0 rfl (lv_at hl 0 rfl) ?_
  refine lv_iconst (v := (nI 0)) hx hb dX2_count_1 (by decide) ?_
  refine va_put (D := D) (ci := 2) (v := .int (nI 0)) (ty := .int) (C := RX2) (T := TX2) (N := 11) hx hb ht inX2 tyX2 tyX2_ok nmX2 hown hK hP hD hS 0 rfl rfl 0 (by decide) (ht _ kf_X2_30) (fun _ h9 => h9) rfl (by decide +kernel) rfl rfl (Nat.le_of_ble_eq_true rfl) dX2_count_2 (fun H locs hP hD hS => ?_)
  have hP : va_P D vwCl [(m0, .inr (2, [.int (nI 0), .int (nI k), .int (nI (tw_P k)), .int (nI (tw_D k)), .int (nI (tw_I k)), .ref mx, .ref my, .ref mr, .ref mb, .int sx, .int sy])), (mx, .inl (cA, 12, .inl fx)), (my, .inl (cA, 12, .inl fy)), (mr, .inl (cA, 8101, .inl fr)), (mb, .inl (cA, 5, .inl fb))] H := hP
  have hD : va_D A [(m0, .inr (2, [.int (nI 0), .int (nI k), .int (nI (tw_P k)), .int (nI (tw_D k)), .int (nI (tw_I k)), .ref mx, .ref my, .ref mr, .ref mb, .int sx, .int sy])), (mx, .inl (cA, 12, .inl fx)), (my, .inl (cA, 12, .inl fy)), (mr, .inl (cA, 8101, .inl fr)), (mb, .inl (cA, 5, .inl fb))] := hD
  refine lv_iload_n hx hb dX2_count_5 rfl (lv_at hl 1 rfl) ?_
  refine lv_tableOut (tgt := 100) hx hb dX2_count_6 hz (by decide) ?_
  refine lv_iconst (v := (-1)) hx hb dX2_count_100 (by decide) ?_
  exact W.iret hx hb hr (fun t ht9 hW => ⟨⟨_, (), rfl, rfl, by rw [ht9]; exact hP, va_K.moved hW.alike hK, hD⟩, hS.F ht9⟩) hS.2.2 dX2_count_101
