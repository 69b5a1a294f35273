/-! what the model refuses -/
def md_bad (z : Int32) : Prop := z < 0 ∨ nI 11 < z
def md_nb (z : Int32) : Prop := z < 0 ∨ nI 1073741824 < z
theorem md_lo {z : Int32} {P : Nat} (h1 : ¬ z < 0) (h2 : ¬ nI P ≤ z) (hP : P < 2 ^ 31) : ∃ x, x < P ∧ z = nI x := by
  rw [Int32.lt_iff_toInt_lt] at h1
  rw [Int32.le_iff_toInt_le, nI_toInt hP] at h2
  have e0 : (0 : Int32).toInt = 0 := by decide
  rw [e0] at h1
  refine ⟨z.toInt.toNat, by omega, ?_⟩
  apply Int32.toInt_inj.mp
  rw [nI_toInt (by omega)]
  omega
theorem md_good {z : Int32} (h : ¬ md_bad z) : ∃ j, j < 12 ∧ z = nI j := by
  refine md_lo (fun q => h (Or.inl q)) (fun q => h (Or.inr ?_)) (by decide)
  rw [Int32.le_iff_toInt_le] at q
  rw [Int32.lt_iff_toInt_lt]
  have e1 : (nI 11).toInt = 11 := by decide
  have e2 : (nI 12).toInt = 12 := by decide
  omega
theorem md_gb {j : Nat} (h : j < 12) : ¬ md_bad (nI j) := by
  intro q
  have e0 : (0 : Int32).toInt = 0 := by decide
  have e1 : (nI 11).toInt = 11 := by decide
  rcases q with q | q
  · rw [Int32.lt_iff_toInt_lt, nI_toInt (by omega)] at q
    omega
  · rw [Int32.lt_iff_toInt_lt, nI_toInt (n := j) (by omega)] at q
    omega
theorem md_gn {z : Int32} (h : ¬ md_nb z) : ∃ j, j ≤ 1073741824 ∧ z = nI j := by
  obtain ⟨x, h1, h2⟩ := md_lo (z := z) (P := 1073741825) (fun q => h (Or.inl q)) (fun q => h (Or.inr (by
    rw [Int32.le_iff_toInt_le] at q
    rw [Int32.lt_iff_toInt_lt]
    have e1 : (nI 1073741824).toInt = 1073741824 := by decide
    have e2 : (nI 1073741825).toInt = 1073741825 := by decide
    omega))) (by decide)
  exact ⟨x, by omega, h2⟩
theorem md_nle {z : Int32} (h1 : ¬ z < 0) (h2 : z ≤ nI 1073741824) : ¬ md_nb z := by
  intro q
  rcases q with q | q
  · exact h1 q
  · rw [Int32.lt_iff_toInt_lt] at q
    rw [Int32.le_iff_toInt_le] at h2
    omega
set_option maxHeartbeats 4000000 in
set_option maxRecDepth 100000 in
theorem c_X2_packedR (l : Launch) (D : va_G) {k : Nat} (hk5 : k < 5) {m0 mx my mr mb : Nat} {th sx sy : Int32} {cA : ClassId} {fx fy fr fb : Nat → Int32} {z1 : Int32} (hz : md_bad z1) (sz : Nat) : Met l yX2_packed wX2_packed ({ frames := 1, cells := 0, slots := 0, locals := 20 }) (va_Pc [.ref m0, .int z1] (wd_pre D [(cA, .int)] [(m0, .inr (2, [.int th, .int (nI k), .int (nI (tw_P k)), .int (nI (tw_D k)), .int (nI (tw_I k)), .ref mx, .ref my, .ref mr, .ref mb, .int sx, .int sy])), (mx, .inl (cA, 12, .inl fx)), (my, .inl (cA, 12, .inl fy)), (mr, .inl (cA, 8101, .inl fr)), (mb, .inl (cA, 5, .inl fb))] sz)) (va_Qi (fun (r : Int32) (u : Unit) => r = 0) (fun (u : Unit) t => wd_at D [(cA, .int)] (va_A [(m0, .inr (2, [.int th, .int (nI k), .int (nI (tw_P k)), .int (nI (tw_D k)), .int (nI (tw_I k)), .ref mx, .ref my, .ref mr, .ref mb, .int sx, .int sy])), (mx, .inl (cA, 12, .inl fx)), (my, .inl (cA, 12, .inl fy)), (mr, .inl (cA, 8101, .inl fr)), (mb, .inl (cA, 5, .inl fb))] sz) [(m0, .inr (2, [.int (nI 1), .int (nI k), .int (nI (tw_P k)), .int (nI (tw_D k)), .int (nI (tw_I k)), .ref mx, .ref my, .ref mr, .ref mb, .int sx, .int sy])), (mx, .inl (cA, 12, .inl fx)), (my, .inl (cA, 12, .inl fy)), (mr, .inl (cA, 8101, .inl fr)), (mb, .inl (cA, 5, .inl fb))] t) (va_A [(m0, .inr (2, [.int th, .int (nI k), .int (nI (tw_P k)), .int (nI (tw_D k)), .int (nI (tw_I k)), .ref mx, .ref my, .ref mr, .ref mb, .int sx, .int sy])), (mx, .inl (cA, 12, .inl fx)), (my, .inl (cA, 12, .inl fy)), (mr, .inl (cA, 8101, .inl fr)), (mb, .inl (cA, 5, .inl fb))] sz)) 0 0 (va_A [(m0, .inr (2, [.int th, .int (nI k), .int (nI (tw_P k)), .int (nI (tw_D k)), .int (nI (tw_I k)), .ref mx, .ref my, .ref mr, .ref mb, .int sx, .int sy])), (mx, .inl (cA, 12, .inl fx)), (my, .inl (cA, 12, .inl fy)), (mr, .inl (cA, 8101, .inl fr)), (mb, .inl (cA, 5, .inl fb))] sz) := by
  refine Met.ofW (cc := cX2_packed) (maxL := 2) (ret := (some .int)) (by decide) rfl ?_
  intro p e s m args below meth c s₁ B hml hv
  obtain ⟨rfl, hsz, hP, hK, hD0⟩ := hv
  have hx := B.exec
  have hb := B.bytes
  have hr := B.returns
  have hts := atoms_spec (ws := wX2_packed) B.pre
  have ht : ∀ w ∈ tb_all, w.before _ s = true := fun w h => hts w (List.mem_cons_of_mem _ h)
  have hown : s.vm.findClass RX2 = some m.cls := findClass_of_methodNamed B.named
  have hlocks := B.notSynchronized
  have hin : meth.name = "packed" := (name_of_methodNamed B.named B.method).1
  subst hsz
  have hD := hD0.self (sz := s.heap.size)
  generalize hAe : va_A [(m0, .inr (2, [.int th, .int (nI k), .int (nI (tw_P k)), .int (nI (tw_D k)), .int (nI (tw_I k)), .ref mx, .ref my, .ref mr, .ref mb, .int sx, .int sy])), (mx, .inl (cA, 12, .inl fx)), (my, .inl (cA, 12, .inl fy)), (mr, .inl (cA, 8101, .inl fr)), (mb, .inl (cA, 5, .inl fb))] s.heap.size = A at hD ⊢
  have hA : ∀ q : Nat, s.heap.size ≤ q → A q := fun q h => by rw [← hAe]; exact Or.inr h
  have hS : va_S A s.heap s.heap [] := va_S.rf
  have hl := lv_entry ([.ref m0, .int z1]) (n := 2) (Nat.le_of_ble_eq_true rfl)
  rw [lg_entry_eq]
  generalize (lg_sl ([.ref m0, .int z1]) ++ List.replicate (2 - (lg_sl ([.ref m0, .int z1])).length) Slot.unset).toArray = ls at hl ⊢
  have hl : lv_has ls 2 [(0, .ref m0), (1, .int z1)] := hl
  obtain ⟨hP0, hP2, hD2, hI2, hDP⟩ := tw_kb hk5
  have hK0 := tw_kK k hk5
  have hP8 : tw_P k ≤ 8192 := by omega
  have hN := tw_kN k hk5
  have zk : k ≤ 4 := by omega
  refine lv_aload_n hx hb dX2_packed_0 rfl (lv_at hl 0 rfl) ?_
  refine lv_iload_n hx hb dX2_packed_1 rfl (lv_at hl 1 rfl) ?_
  by_cases b1 : md_bad z1
  · refine vp_callSi (W.runS (As := [.int z1]) (rest := [.ref m0]) ⟨hx, hb, hml, hown, ht⟩ (c_X2_noneM l b1) (va_cwS 1 ht (tb_S kl_X2_76 kt_X2_none kn_X2 kc_X2_none) rfl rfl rfl kd_X2_none ⟨Nat.le_of_ble_eq_true rfl, Nat.le_of_ble_eq_true rfl⟩) (st_pre _) rfl rfl hl.1 rfl (lv_room (Nat.le_of_ble_eq_true rfl)) dX2_packed_2 ⟨Nat.zero_le _, Nat.zero_le _⟩) (fun r hr9 => ?_)
    subst hr9
    refine lv_if_eq (tgt := 12) hx hb dX2_packed_5 (by decide) (fun c9 => absurd c9 (by decide)) (fun _ => ?_)
    refine lv_iconst (v := (nI 1)) hx hb dX2_packed_8 (by decide) ?_
    refine lv_goto (tgt := 13) hx hb dX2_packed_9 (by decide) ?_
    refine va_put (D := D) (ci := 2) (v := .int (nI 1)) (ty := .int) (C := RX2) (T := TX2) (N := 11) hx hb ht inX2 tyX2 tyX2_ok nmX2 hown hK hP hD hS 0 rfl rfl 0 (by decide) (ht _ kf_X2_30) (fun _ h9 => h9) rfl (by decide +kernel) rfl rfl (Nat.le_of_ble_eq_true rfl) dX2_packed_13 (fun H locs hP hD hS => ?_)
    have hP : va_P D vwCl [(m0, .inr (2, [.int (nI 1), .int (nI k), .int (nI (tw_P k)), .int (nI (tw_D k)), .int (nI (tw_I k)), .ref mx, .ref my, .ref mr, .ref mb, .int sx, .int sy])), (mx, .inl (cA, 12, .inl fx)), (my, .inl (cA, 12, .inl fy)), (mr, .inl (cA, 8101, .inl fr)), (mb, .inl (cA, 5, .inl fb))] H := hP
    have hD : va_D A [(m0, .inr (2, [.int (nI 1), .int (nI k), .int (nI (tw_P k)), .int (nI (tw_D k)), .int (nI (tw_I k)), .ref mx, .ref my, .ref mr, .ref mb, .int sx, .int sy])), (mx, .inl (cA, 12, .inl fx)), (my, .inl (cA, 12, .inl fy)), (mr, .inl (cA, 8101, .inl fr)), (mb, .inl (cA, 5, .inl fb))] := hD
    refine lv_aload_n hx hb dX2_packed_16 rfl (lv_at hl 0 rfl) ?_
    refine va_get (D := D) (ci := 2) (v := .int (nI 1)) (C := RX2) (T := TX2) (N := 11) hx hb ht inX2 hown hK hP 0 rfl rfl 0 (by decide) (ht _ kf_X2_30) (fun _ h9 => h9) rfl dX2_packed_17 ?_
    refine nv_if_le (tgt := 27) hx hb dX2_packed_20 (by decide) (by decide) (fun c8 => absurd c8 (by decide)) (fun _ => ?_)
    refine lv_iconst (v := (nI 0)) hx hb dX2_packed_23 (by decide) ?_
    refine lv_goto (tgt := 42) hx hb dX2_packed_24 (by decide) ?_
    exact W.iret hx hb hr (fun t ht9 hW => ⟨⟨_, (), rfl, rfl, by rw [ht9]; exact hP, va_K.moved hW.alike hK, hD⟩, hS.F ht9⟩) hS.2.2 dX2_packed_42
  · obtain ⟨n1, hn1, rfl⟩ := md_good b1
    contradiction
set_option maxHeartbeats 4000000 in
set_option maxRecDepth 100000 in
theorem c_X2_getR (l : Launch) (D : va_G) {k : Nat} (hk5 : k < 5) {m0 mx my mr mb : Nat} {th sx sy : Int32} {cA : ClassId} {fx fy fr fb : Nat → Int32} {z1 y1 : Int32} (hz : md_bad z1) (sz : Nat) : Met l yX2_get wX2_get ({ frames := 1, cells := 0, slots := 0, locals := 20 }) (va_Pc [.ref m0, .int z1, .int y1] (wd_pre D [(cA, .int)] [(m0, .inr (2, [.int th, .int (nI k), .int (nI (tw_P k)), .int (nI (tw_D k)), .int (nI (tw_I k)), .ref mx, .ref my, .ref mr, .ref mb, .int sx, .int sy])), (mx, .inl (cA, 12, .inl fx)), (my, .inl (cA, 12, .inl fy)), (mr, .inl (cA, 8101, .inl fr)), (mb, .inl (cA, 5, .inl fb))] sz)) (va_Qi (fun (r : Int32) (u : Unit) => r = 0) (fun (u : Unit) t => wd_at D [(cA, .int)] (va_A [(m0, .inr (2, [.int th, .int (nI k), .int (nI (tw_P k)), .int (nI (tw_D k)), .int (nI (tw_I k)), .ref mx, .ref my, .ref mr, .ref mb, .int sx, .int sy])), (mx, .inl (cA, 12, .inl fx)), (my, .inl (cA, 12, .inl fy)), (mr, .inl (cA, 8101, .inl fr)), (mb, .inl (cA, 5, .inl fb))] sz) [(m0, .inr (2, [.int (nI 1), .int (nI k), .int (nI (tw_P k)), .int (nI (tw_D k)), .int (nI (tw_I k)), .ref mx, .ref my, .ref mr, .ref mb, .int sx, .int sy])), (mx, .inl (cA, 12, .inl fx)), (my, .inl (cA, 12, .inl fy)), (mr, .inl (cA, 8101, .inl fr)), (mb, .inl (cA, 5, .inl fb))] t) (va_A [(m0, .inr (2, [.int th, .int (nI k), .int (nI (tw_P k)), .int (nI (tw_D k)), .int (nI (tw_I k)), .ref mx, .ref my, .ref mr, .ref mb, .int sx, .int sy])), (mx, .inl (cA, 12, .inl fx)), (my, .inl (cA, 12, .inl fy)), (mr, .inl (cA, 8101, .inl fr)), (mb, .inl (cA, 5, .inl fb))] sz)) 0 0 (va_A [(m0, .inr (2, [.int th, .int (nI k), .int (nI (tw_P k)), .int (nI (tw_D k)), .int (nI (tw_I k)), .ref mx, .ref my, .ref mr, .ref mb, .int sx, .int sy])), (mx, .inl (cA, 12, .inl fx)), (my, .inl (cA, 12, .inl fy)), (mr, .inl (cA, 8101, .inl fr)), (mb, .inl (cA, 5, .inl fb))] sz) := by
  refine Met.ofW (cc := cX2_get) (maxL := 3) (ret := (some .int)) (by decide) rfl ?_
  intro p e s m args below meth c s₁ B hml hv
  obtain ⟨rfl, hsz, hP, hK, hD0⟩ := hv
  have hx := B.exec
  have hb := B.bytes
  have hr := B.returns
  have hts := atoms_spec (ws := wX2_get) B.pre
  have ht : ∀ w ∈ tb_all, w.before _ s = true := fun w h => hts w (List.mem_cons_of_mem _ h)
  have hown : s.vm.findClass RX2 = some m.cls := findClass_of_methodNamed B.named
  have hlocks := B.notSynchronized
  have hin : meth.name = "get" := (name_of_methodNamed B.named B.method).1
  subst hsz
  have hD := hD0.self (sz := s.heap.size)
  generalize hAe : va_A [(m0, .inr (2, [.int th, .int (nI k), .int (nI (tw_P k)), .int (nI (tw_D k)), .int (nI (tw_I k)), .ref mx, .ref my, .ref mr, .ref mb, .int sx, .int sy])), (mx, .inl (cA, 12, .inl fx)), (my, .inl (cA, 12, .inl fy)), (mr, .inl (cA, 8101, .inl fr)), (mb, .inl (cA, 5, .inl fb))] s.heap.size = A at hD ⊢
  have hA : ∀ q : Nat, s.heap.size ≤ q → A q := fun q h => by rw [← hAe]; exact Or.inr h
  have hS : va_S A s.heap s.heap [] := va_S.rf
  have hl := lv_entry ([.ref m0, .int z1, .int y1]) (n := 3) (Nat.le_of_ble_eq_true rfl)
  rw [lg_entry_eq]
  generalize (lg_sl ([.ref m0, .int z1, .int y1]) ++ List.replicate (3 - (lg_sl ([.ref m0, .int z1, .int y1])).length) Slot.unset).toArray = ls at hl ⊢
  have hl : lv_has ls 3 [(0, .ref m0), (1, .int z1), (2, .int y1)] := hl
  obtain ⟨hP0, hP2, hD2, hI2, hDP⟩ := tw_kb hk5
  have hK0 := tw_kK k hk5
  have hP8 : tw_P k ≤ 8192 := by omega
  have hN := tw_kN k hk5
  have zk : k ≤ 4 := by omega
  refine lv_aload_n hx hb dX2_get_0 rfl (lv_at hl 0 rfl) ?_
  refine lv_iload_n hx hb dX2_get_1 rfl (lv_at hl 1 rfl) ?_
  by_cases b1 : md_bad z1
  · refine vp_callSi (W.runS (As := [.int z1]) (rest := [.ref m0]) ⟨hx, hb, hml, hown, ht⟩ (c_X2_noneM l b1) (va_cwS 1 ht (tb_S kl_X2_76 kt_X2_none kn_X2 kc_X2_none) rfl rfl rfl kd_X2_none ⟨Nat.le_of_ble_eq_true rfl, Nat.le_of_ble_eq_true rfl⟩) (st_pre _) rfl rfl hl.1 rfl (lv_room (Nat.le_of_ble_eq_true rfl)) dX2_get_2 ⟨Nat.zero_le _, Nat.zero_le _⟩) (fun r hr9 => ?_)
    subst hr9
    refine lv_if_eq (tgt := 12) hx hb dX2_get_5 (by decide) (fun c9 => absurd c9 (by decide)) (fun _ => ?_)
    refine lv_iconst (v := (nI 1)) hx hb dX2_get_8 (by decide) ?_
    refine lv_goto (tgt := 13) hx hb dX2_get_9 (by decide) ?_
    refine va_put (D := D) (ci := 2) (v := .int (nI 1)) (ty := .int) (C := RX2) (T := TX2) (N := 11) hx hb ht inX2 tyX2 tyX2_ok nmX2 hown hK hP hD hS 0 rfl rfl 0 (by decide) (ht _ kf_X2_30) (fun _ h9 => h9) rfl (by decide +kernel) rfl rfl (Nat.le_of_ble_eq_true rfl) dX2_get_13 (fun H locs hP hD hS => ?_)
    have hP : va_P D vwCl [(m0, .inr (2, [.int (nI 1), .int (nI k), .int (nI (tw_P k)), .int (nI (tw_D k)), .int (nI (tw_I k)), .ref mx, .ref my, .ref mr, .ref mb, .int sx, .int sy])), (mx, .inl (cA, 12, .inl fx)), (my, .inl (cA, 12, .inl fy)), (mr, .inl (cA, 8101, .inl fr)), (mb, .inl (cA, 5, .inl fb))] H := hP
    have hD : va_D A [(m0, .inr (2, [.int (nI 1), .int (nI k), .int (nI (tw_P k)), .int (nI (tw_D k)), .int (nI (tw_I k)), .ref mx, .ref my, .ref mr, .ref mb, .int sx, .int sy])), (mx, .inl (cA, 12, .inl fx)), (my, .inl (cA, 12, .inl fy)), (mr, .inl (cA, 8101, .inl fr)), (mb, .inl (cA, 5, .inl fb))] := hD
    refine lv_aload_n hx hb dX2_get_16 rfl (lv_at hl 0 rfl) ?_
    refine va_get (D := D) (ci := 2) (v := .int (nI 1)) (C := RX2) (T := TX2) (N := 11) hx hb ht inX2 hown hK hP 0 rfl rfl 0 (by decide) (ht _ kf_X2_30) (fun _ h9 => h9) rfl dX2_get_17 ?_
    refine nv_if_le (tgt := 27) hx hb dX2_get_20 (by decide) (by decide) (fun c8 => absurd c8 (by decide)) (fun _ => ?_)
    refine lv_iconst (v := (nI 0)) hx hb dX2_get_23 (by decide) ?_
    refine lv_goto (tgt := 46) hx hb dX2_get_24 (by decide) ?_
    exact W.iret hx hb hr (fun t ht9 hW => ⟨⟨_, (), rfl, rfl, by rw [ht9]; exact hP, va_K.moved hW.alike hK, hD⟩, hS.F ht9⟩) hS.2.2 dX2_get_46
  · obtain ⟨n1, hn1, rfl⟩ := md_good b1
    contradiction
set_option maxHeartbeats 4000000 in
set_option maxRecDepth 100000 in
theorem c_X2_orderR (l : Launch) (D : va_G) {k : Nat} (hk5 : k < 5) {m0 mx my mr mb : Nat} {th sx sy : Int32} {cA : ClassId} {fx fy fr fb : Nat → Int32} {z1 : Int32} (hz : md_bad z1) (sz : Nat) : Met l yX2_order wX2_order ({ frames := 1, cells := 0, slots := 0, locals := 20 }) (va_Pc [.ref m0, .int z1] (wd_pre D [(cA, .int)] [(m0, .inr (2, [.int th, .int (nI k), .int (nI (tw_P k)), .int (nI (tw_D k)), .int (nI (tw_I k)), .ref mx, .ref my, .ref mr, .ref mb, .int sx, .int sy])), (mx, .inl (cA, 12, .inl fx)), (my, .inl (cA, 12, .inl fy)), (mr, .inl (cA, 8101, .inl fr)), (mb, .inl (cA, 5, .inl fb))] sz)) (va_Qi (fun (r : Int32) (u : Unit) => r = 0) (fun (u : Unit) t => wd_at D [(cA, .int)] (va_A [(m0, .inr (2, [.int th, .int (nI k), .int (nI (tw_P k)), .int (nI (tw_D k)), .int (nI (tw_I k)), .ref mx, .ref my, .ref mr, .ref mb, .int sx, .int sy])), (mx, .inl (cA, 12, .inl fx)), (my, .inl (cA, 12, .inl fy)), (mr, .inl (cA, 8101, .inl fr)), (mb, .inl (cA, 5, .inl fb))] sz) [(m0, .inr (2, [.int (nI 1), .int (nI k), .int (nI (tw_P k)), .int (nI (tw_D k)), .int (nI (tw_I k)), .ref mx, .ref my, .ref mr, .ref mb, .int sx, .int sy])), (mx, .inl (cA, 12, .inl fx)), (my, .inl (cA, 12, .inl fy)), (mr, .inl (cA, 8101, .inl fr)), (mb, .inl (cA, 5, .inl fb))] t) (va_A [(m0, .inr (2, [.int th, .int (nI k), .int (nI (tw_P k)), .int (nI (tw_D k)), .int (nI (tw_I k)), .ref mx, .ref my, .ref mr, .ref mb, .int sx, .int sy])), (mx, .inl (cA, 12, .inl fx)), (my, .inl (cA, 12, .inl fy)), (mr, .inl (cA, 8101, .inl fr)), (mb, .inl (cA, 5, .inl fb))] sz)) 0 0 (va_A [(m0, .inr (2, [.int th, .int (nI k), .int (nI (tw_P k)), .int (nI (tw_D k)), .int (nI (tw_I k)), .ref mx, .ref my, .ref mr, .ref mb, .int sx, .int sy])), (mx, .inl (cA, 12, .inl fx)), (my, .inl (cA, 12, .inl fy)), (mr, .inl (cA, 8101, .inl fr)), (mb, .inl (cA, 5, .inl fb))] sz) := by
  refine Met.ofW (cc := cX2_order) (maxL := 2) (ret := (some .int)) (by decide) rfl ?_
  intro p e s m args below meth c s₁ B hml hv
  obtain ⟨rfl, hsz, hP, hK, hD0⟩ := hv
  have hx := B.exec
  have hb := B.bytes
  have hr := B.returns
  have hts := atoms_spec (ws := wX2_order) B.pre
  have ht : ∀ w ∈ tb_all, w.before _ s = true := fun w h => hts w (List.mem_cons_of_mem _ h)
  have hown : s.vm.findClass RX2 = some m.cls := findClass_of_methodNamed B.named
  have hlocks := B.notSynchronized
  have hin : meth.name = "order" := (name_of_methodNamed B.named B.method).1
  subst hsz
  have hD := hD0.self (sz := s.heap.size)
  generalize hAe : va_A [(m0, .inr (2, [.int th, .int (nI k), .int (nI (tw_P k)), .int (nI (tw_D k)), .int (nI (tw_I k)), .ref mx, .ref my, .ref mr, .ref mb, .int sx, .int sy])), (mx, .inl (cA, 12, .inl fx)), (my, .inl (cA, 12, .inl fy)), (mr, .inl (cA, 8101, .inl fr)), (mb, .inl (cA, 5, .inl fb))] s.heap.size = A at hD ⊢
  have hA : ∀ q : Nat, s.heap.size ≤ q → A q := fun q h => by rw [← hAe]; exact Or.inr h
  have hS : va_S A s.heap s.heap [] := va_S.rf
  have hl := lv_entry ([.ref m0, .int z1]) (n := 2) (Nat.le_of_ble_eq_true rfl)
  rw [lg_entry_eq]
  generalize (lg_sl ([.ref m0, .int z1]) ++ List.replicate (2 - (lg_sl ([.ref m0, .int z1])).length) Slot.unset).toArray = ls at hl ⊢
  have hl : lv_has ls 2 [(0, .ref m0), (1, .int z1)] := hl
  obtain ⟨hP0, hP2, hD2, hI2, hDP⟩ := tw_kb hk5
  have hK0 := tw_kK k hk5
  have hP8 : tw_P k ≤ 8192 := by omega
  have hN := tw_kN k hk5
  have zk : k ≤ 4 := by omega
  refine lv_aload_n hx hb dX2_order_0 rfl (lv_at hl 0 rfl) ?_
  refine lv_iload_n hx hb dX2_order_1 rfl (lv_at hl 1 rfl) ?_
  by_cases b1 : md_bad z1
  · refine vp_callSi (W.runS (As := [.int z1]) (rest := [.ref m0]) ⟨hx, hb, hml, hown, ht⟩ (c_X2_noneM l b1) (va_cwS 1 ht (tb_S kl_X2_76 kt_X2_none kn_X2 kc_X2_none) rfl rfl rfl kd_X2_none ⟨Nat.le_of_ble_eq_true rfl, Nat.le_of_ble_eq_true rfl⟩) (st_pre _) rfl rfl hl.1 rfl (lv_room (Nat.le_of_ble_eq_true rfl)) dX2_order_2 ⟨Nat.zero_le _, Nat.zero_le _⟩) (fun r hr9 => ?_)
    subst hr9
    refine lv_if_eq (tgt := 12) hx hb dX2_order_5 (by decide) (fun c9 => absurd c9 (by decide)) (fun _ => ?_)
    refine lv_iconst (v := (nI 1)) hx hb dX2_order_8 (by decide) ?_
    refine lv_goto (tgt := 13) hx hb dX2_order_9 (by decide) ?_
    refine va_put (D := D) (ci := 2) (v := .int (nI 1)) (ty := .int) (C := RX2) (T := TX2) (N := 11) hx hb ht inX2 tyX2 tyX2_ok nmX2 hown hK hP hD hS 0 rfl rfl 0 (by decide) (ht _ kf_X2_30) (fun _ h9 => h9) rfl (by decide +kernel) rfl rfl (Nat.le_of_ble_eq_true rfl) dX2_order_13 (fun H locs hP hD hS => ?_)
    have hP : va_P D vwCl [(m0, .inr (2, [.int (nI 1), .int (nI k), .int (nI (tw_P k)), .int (nI (tw_D k)), .int (nI (tw_I k)), .ref mx, .ref my, .ref mr, .ref mb, .int sx, .int sy])), (mx, .inl (cA, 12, .inl fx)), (my, .inl (cA, 12, .inl fy)), (mr, .inl (cA, 8101, .inl fr)), (mb, .inl (cA, 5, .inl fb))] H := hP
    have hD : va_D A [(m0, .inr (2, [.int (nI 1), .int (nI k), .int (nI (tw_P k)), .int (nI (tw_D k)), .int (nI (tw_I k)), .ref mx, .ref my, .ref mr, .ref mb, .int sx, .int sy])), (mx, .inl (cA, 12, .inl fx)), (my, .inl (cA, 12, .inl fy)), (mr, .inl (cA, 8101, .inl fr)), (mb, .inl (cA, 5, .inl fb))] := hD
    refine lv_aload_n hx hb dX2_order_16 rfl (lv_at hl 0 rfl) ?_
    refine va_get (D := D) (ci := 2) (v := .int (nI 1)) (C := RX2) (T := TX2) (N := 11) hx hb ht inX2 hown hK hP 0 rfl rfl 0 (by decide) (ht _ kf_X2_30) (fun _ h9 => h9) rfl dX2_order_17 ?_
    refine nv_if_le (tgt := 27) hx hb dX2_order_20 (by decide) (by decide) (fun c8 => absurd c8 (by decide)) (fun _ => ?_)
    refine lv_iconst (v := (nI 0)) hx hb dX2_order_23 (by decide) ?_
    refine lv_goto (tgt := 43) hx hb dX2_order_24 (by decide) ?_
    exact W.iret hx hb hr (fun t ht9 hW => ⟨⟨_, (), rfl, rfl, by rw [ht9]; exact hP, va_K.moved hW.alike hK, hD⟩, hS.F ht9⟩) hS.2.2 dX2_order_43
  · obtain ⟨n1, hn1, rfl⟩ := md_good b1
    contradiction
set_option maxHeartbeats 4000000 in
set_option maxRecDepth 100000 in
theorem c_X2_putR (l : Launch) (D : va_G) {k : Nat} (hk5 : k < 5) {m0 mx my mr mb : Nat} {th sx sy : Int32} {cA : ClassId} {fx fy fr fb : Nat → Int32} {z1 y1 y2 : Int32} (hz : md_bad z1) (sz : Nat) : Met l yX2_put wX2_put ({ frames := 1, cells := 0, slots := 0, locals := 20 }) (va_Pc [.ref m0, .int z1, .int y1, .int y2] (wd_pre D [(cA, .int)] [(m0, .inr (2, [.int th, .int (nI k), .int (nI (tw_P k)), .int (nI (tw_D k)), .int (nI (tw_I k)), .ref mx, .ref my, .ref mr, .ref mb, .int sx, .int sy])), (mx, .inl (cA, 12, .inl fx)), (my, .inl (cA, 12, .inl fy)), (mr, .inl (cA, 8101, .inl fr)), (mb, .inl (cA, 5, .inl fb))] sz)) (va_Qv (fun (u : Unit) => u = ()) (fun (u : Unit) t => wd_at D [(cA, .int)] (va_A [(m0, .inr (2, [.int th, .int (nI k), .int (nI (tw_P k)), .int (nI (tw_D k)), .int (nI (tw_I k)), .ref mx, .ref my, .ref mr, .ref mb, .int sx, .int sy])), (mx, .inl (cA, 12, .inl fx)), (my, .inl (cA, 12, .inl fy)), (mr, .inl (cA, 8101, .inl fr)), (mb, .inl (cA, 5, .inl fb))] sz) [(m0, .inr (2, [.int (nI 1), .int (nI k), .int (nI (tw_P k)), .int (nI (tw_D k)), .int (nI (tw_I k)), .ref mx, .ref my, .ref mr, .ref mb, .int sx, .int sy])), (mx, .inl (cA, 12, .inl fx)), (my, .inl (cA, 12, .inl fy)), (mr, .inl (cA, 8101, .inl fr)), (mb, .inl (cA, 5, .inl fb))] t) (va_A [(m0, .inr (2, [.int th, .int (nI k), .int (nI (tw_P k)), .int (nI (tw_D k)), .int (nI (tw_I k)), .ref mx, .ref my, .ref mr, .ref mb, .int sx, .int sy])), (mx, .inl (cA, 12, .inl fx)), (my, .inl (cA, 12, .inl fy)), (mr, .inl (cA, 8101, .inl fr)), (mb, .inl (cA, 5, .inl fb))] sz)) 0 0 (va_A [(m0, .inr (2, [.int th, .int (nI k), .int (nI (tw_P k)), .int (nI (tw_D k)), .int (nI (tw_I k)), .ref mx, .ref my, .ref mr, .ref mb, .int sx, .int sy])), (mx, .inl (cA, 12, .inl fx)), (my, .inl (cA, 12, .inl fy)), (mr, .inl (cA, 8101, .inl fr)), (mb, .inl (cA, 5, .inl fb))] sz) := by
  refine Met.ofW (cc := cX2_put) (maxL := 4) (ret := none) (by decide) rfl ?_
  intro p e s m args below meth c s₁ B hml hv
  obtain ⟨rfl, hsz, hP, hK, hD0⟩ := hv
  have hx := B.exec
  have hb := B.bytes
  have hr := B.returns
  have hts := atoms_spec (ws := wX2_put) B.pre
  have ht : ∀ w ∈ tb_all, w.before _ s = true := fun w h => hts w (List.mem_cons_of_mem _ h)
  have hown : s.vm.findClass RX2 = some m.cls := findClass_of_methodNamed B.named
  have hlocks := B.notSynchronized
  have hin : meth.name = "put" := (name_of_methodNamed B.named B.method).1
  subst hsz
  have hD := hD0.self (sz := s.heap.size)
  generalize hAe : va_A [(m0, .inr (2, [.int th, .int (nI k), .int (nI (tw_P k)), .int (nI (tw_D k)), .int (nI (tw_I k)), .ref mx, .ref my, .ref mr, .ref mb, .int sx, .int sy])), (mx, .inl (cA, 12, .inl fx)), (my, .inl (cA, 12, .inl fy)), (mr, .inl (cA, 8101, .inl fr)), (mb, .inl (cA, 5, .inl fb))] s.heap.size = A at hD ⊢
  have hA : ∀ q : Nat, s.heap.size ≤ q → A q := fun q h => by rw [← hAe]; exact Or.inr h
  have hS : va_S A s.heap s.heap [] := va_S.rf
  have hl := lv_entry ([.ref m0, .int z1, .int y1, .int y2]) (n := 4) (Nat.le_of_ble_eq_true rfl)
  rw [lg_entry_eq]
  generalize (lg_sl ([.ref m0, .int z1, .int y1, .int y2]) ++ List.replicate (4 - (lg_sl ([.ref m0, .int z1, .int y1, .int y2])).length) Slot.unset).toArray = ls at hl ⊢
  have hl : lv_has ls 4 [(0, .ref m0), (1, .int z1), (2, .int y1), (3, .int y2)] := hl
  obtain ⟨hP0, hP2, hD2, hI2, hDP⟩ := tw_kb hk5
  have hK0 := tw_kK k hk5
  have hP8 : tw_P k ≤ 8192 := by omega
  have hN := tw_kN k hk5
  have zk : k ≤ 4 := by omega
  refine lv_aload_n hx hb dX2_put_0 rfl (lv_at hl 0 rfl) ?_
  refine lv_iload_n hx hb dX2_put_1 rfl (lv_at hl 1 rfl) ?_
  by_cases b1 : md_bad z1
  · refine vp_callSi (W.runS (As := [.int z1]) (rest := [.ref m0]) ⟨hx, hb, hml, hown, ht⟩ (c_X2_noneM l b1) (va_cwS 1 ht (tb_S kl_X2_76 kt_X2_none kn_X2 kc_X2_none) rfl rfl rfl kd_X2_none ⟨Nat.le_of_ble_eq_true rfl, Nat.le_of_ble_eq_true rfl⟩) (st_pre _) rfl rfl hl.1 rfl (lv_room (Nat.le_of_ble_eq_true rfl)) dX2_put_2 ⟨Nat.zero_le _, Nat.zero_le _⟩) (fun r hr9 => ?_)
    subst hr9
    refine lv_if_eq (tgt := 12) hx hb dX2_put_5 (by decide) (fun c9 => absurd c9 (by decide)) (fun _ => ?_)
    refine lv_iconst (v := (nI 1)) hx hb dX2_put_8 (by decide) ?_
    refine lv_goto (tgt := 50) hx hb dX2_put_9 (by decide) ?_
    refine va_put (D := D) (ci := 2) (v := .int (nI 1)) (ty := .int) (C := RX2) (T := TX2) (N := 11) hx hb ht inX2 tyX2 tyX2_ok nmX2 hown hK hP hD hS 0 rfl rfl 0 (by decide) (ht _ kf_X2_30) (fun _ h9 => h9) rfl (by decide +kernel) rfl rfl (Nat.le_of_ble_eq_true rfl) dX2_put_50 (fun H locs hP hD hS => ?_)
    have hP : va_P D vwCl [(m0, .inr (2, [.int (nI 1), .int (nI k), .int (nI (tw_P k)), .int (nI (tw_D k)), .int (nI (tw_I k)), .ref mx, .ref my, .ref mr, .ref mb, .int sx, .int sy])), (mx, .inl (cA, 12, .inl fx)), (my, .inl (cA, 12, .inl fy)), (mr, .inl (cA, 8101, .inl fr)), (mb, .inl (cA, 5, .inl fb))] H := hP
    have hD : va_D A [(m0, .inr (2, [.int (nI 1), .int (nI k), .int (nI (tw_P k)), .int (nI (tw_D k)), .int (nI (tw_I k)), .ref mx, .ref my, .ref mr, .ref mb, .int sx, .int sy])), (mx, .inl (cA, 12, .inl fx)), (my, .inl (cA, 12, .inl fy)), (mr, .inl (cA, 8101, .inl fr)), (mb, .inl (cA, 5, .inl fb))] := hD
    refine lv_aload_n hx hb dX2_put_53 rfl (lv_at hl 0 rfl) ?_
    refine va_get (D := D) (ci := 2) (v := .int (nI 1)) (C := RX2) (T := TX2) (N := 11) hx hb ht inX2 hown hK hP 0 rfl rfl 0 (by decide) (ht _ kf_X2_30) (fun _ h9 => h9) rfl dX2_put_54 ?_
    refine nv_if_le (tgt := 61) hx hb dX2_put_57 (by decide) (by decide) (fun c8 => absurd c8 (by decide)) (fun _ => ?_)
    exact W.vret hx hb hr (fun t ht9 hW => ⟨⟨(), rfl, rfl, by rw [ht9]; exact hP, va_K.moved hW.alike hK, hD⟩, hS.F ht9⟩) hS.2.2 dX2_put_60
  · obtain ⟨n1, hn1, rfl⟩ := md_good b1
    contradiction
set_option maxHeartbeats 4000000 in
set_option maxRecDepth 100000 in
theorem c_X2_unpackR (l : Launch) (D : va_G) {k : Nat} (hk5 : k < 5) {m0 mx my mr mb : Nat} {th sx sy : Int32} {cA : ClassId} {fx fy fr fb : Nat → Int32} {z1 y1 : Int32} (hz : md_bad z1) (sz : Nat) : Met l yX2_unpack wX2_unpack ({ frames := 1, cells := 0, slots := 0, locals := 20 }) (va_Pc [.ref m0, .int z1, .int y1] (wd_pre D [(cA, .int)] [(m0, .inr (2, [.int th, .int (nI k), .int (nI (tw_P k)), .int (nI (tw_D k)), .int (nI (tw_I k)), .ref mx, .ref my, .ref mr, .ref mb, .int sx, .int sy])), (mx, .inl (cA, 12, .inl fx)), (my, .inl (cA, 12, .inl fy)), (mr, .inl (cA, 8101, .inl fr)), (mb, .inl (cA, 5, .inl fb))] sz)) (va_Qv (fun (u : Unit) => u = ()) (fun (u : Unit) t => wd_at D [(cA, .int)] (va_A [(m0, .inr (2, [.int th, .int (nI k), .int (nI (tw_P k)), .int (nI (tw_D k)), .int (nI (tw_I k)), .ref mx, .ref my, .ref mr, .ref mb, .int sx, .int sy])), (mx, .inl (cA, 12, .inl fx)), (my, .inl (cA, 12, .inl fy)), (mr, .inl (cA, 8101, .inl fr)), (mb, .inl (cA, 5, .inl fb))] sz) [(m0, .inr (2, [.int (nI 1), .int (nI k), .int (nI (tw_P k)), .int (nI (tw_D k)), .int (nI (tw_I k)), .ref mx, .ref my, .ref mr, .ref mb, .int sx, .int sy])), (mx, .inl (cA, 12, .inl fx)), (my, .inl (cA, 12, .inl fy)), (mr, .inl (cA, 8101, .inl fr)), (mb, .inl (cA, 5, .inl fb))] t) (va_A [(m0, .inr (2, [.int th, .int (nI k), .int (nI (tw_P k)), .int (nI (tw_D k)), .int (nI (tw_I k)), .ref mx, .ref my, .ref mr, .ref mb, .int sx, .int sy])), (mx, .inl (cA, 12, .inl fx)), (my, .inl (cA, 12, .inl fy)), (mr, .inl (cA, 8101, .inl fr)), (mb, .inl (cA, 5, .inl fb))] sz)) 0 0 (va_A [(m0, .inr (2, [.int th, .int (nI k), .int (nI (tw_P k)), .int (nI (tw_D k)), .int (nI (tw_I k)), .ref mx, .ref my, .ref mr, .ref mb, .int sx, .int sy])), (mx, .inl (cA, 12, .inl fx)), (my, .inl (cA, 12, .inl fy)), (mr, .inl (cA, 8101, .inl fr)), (mb, .inl (cA, 5, .inl fb))] sz) := by
  refine Met.ofW (cc := cX2_unpack) (maxL := 3) (ret := none) (by decide) rfl ?_
  intro p e s m args below meth c s₁ B hml hv
  obtain ⟨rfl, hsz, hP, hK, hD0⟩ := hv
  have hx := B.exec
  have hb := B.bytes
  have hr := B.returns
  have hts := atoms_spec (ws := wX2_unpack) B.pre
  have ht : ∀ w ∈ tb_all, w.before _ s = true := fun w h => hts w (List.mem_cons_of_mem _ h)
  have hown : s.vm.findClass RX2 = some m.cls := findClass_of_methodNamed B.named
  have hlocks := B.notSynchronized
  have hin : meth.name = "unpack" := (name_of_methodNamed B.named B.method).1
  subst hsz
  have hD := hD0.self (sz := s.heap.size)
  generalize hAe : va_A [(m0, .inr (2, [.int th, .int (nI k), .int (nI (tw_P k)), .int (nI (tw_D k)), .int (nI (tw_I k)), .ref mx, .ref my, .ref mr, .ref mb, .int sx, .int sy])), (mx, .inl (cA, 12, .inl fx)), (my, .inl (cA, 12, .inl fy)), (mr, .inl (cA, 8101, .inl fr)), (mb, .inl (cA, 5, .inl fb))] s.heap.size = A at hD ⊢
  have hA : ∀ q : Nat, s.heap.size ≤ q → A q := fun q h => by rw [← hAe]; exact Or.inr h
  have hS : va_S A s.heap s.heap [] := va_S.rf
  have hl := lv_entry ([.ref m0, .int z1, .int y1]) (n := 3) (Nat.le_of_ble_eq_true rfl)
  rw [lg_entry_eq]
  generalize (lg_sl ([.ref m0, .int z1, .int y1]) ++ List.replicate (3 - (lg_sl ([.ref m0, .int z1, .int y1])).length) Slot.unset).toArray = ls at hl ⊢
  have hl : lv_has ls 3 [(0, .ref m0), (1, .int z1), (2, .int y1)] := hl
  obtain ⟨hP0, hP2, hD2, hI2, hDP⟩ := tw_kb hk5
  have hK0 := tw_kK k hk5
  have hP8 : tw_P k ≤ 8192 := by omega
  have hN := tw_kN k hk5
  have zk : k ≤ 4 := by omega
  refine lv_aload_n hx hb dX2_unpack_0 rfl (lv_at hl 0 rfl) ?_
  refine lv_iload_n hx hb dX2_unpack_1 rfl (lv_at hl 1 rfl) ?_
  by_cases b1 : md_bad z1
  · refine vp_callSi (W.runS (As := [.int z1]) (rest := [.ref m0]) ⟨hx, hb, hml, hown, ht⟩ (c_X2_noneM l b1) (va_cwS 1 ht (tb_S kl_X2_76 kt_X2_none kn_X2 kc_X2_none) rfl rfl rfl kd_X2_none ⟨Nat.le_of_ble_eq_true rfl, Nat.le_of_ble_eq_true rfl⟩) (st_pre _) rfl rfl hl.1 rfl (lv_room (Nat.le_of_ble_eq_true rfl)) dX2_unpack_2 ⟨Nat.zero_le _, Nat.zero_le _⟩) (fun r hr9 => ?_)
    subst hr9
    refine lv_if_eq (tgt := 12) hx hb dX2_unpack_5 (by decide) (fun c9 => absurd c9 (by decide)) (fun _ => ?_)
    refine lv_iconst (v := (nI 1)) hx hb dX2_unpack_8 (by decide) ?_
    refine lv_goto (tgt := 26) hx hb dX2_unpack_9 (by decide) ?_
    refine va_put (D := D) (ci := 2) (v := .int (nI 1)) (ty := .int) (C := RX2) (T := TX2) (N := 11) hx hb ht inX2 tyX2 tyX2_ok nmX2 hown hK hP hD hS 0 rfl rfl 0 (by decide) (ht _ kf_X2_30) (fun _ h9 => h9) rfl (by decide +kernel) rfl rfl (Nat.le_of_ble_eq_true rfl) dX2_unpack_26 (fun H locs hP hD hS => ?_)
    have hP : va_P D vwCl [(m0, .inr (2, [.int (nI 1), .int (nI k), .int (nI (tw_P k)), .int (nI (tw_D k)), .int (nI (tw_I k)), .ref mx, .ref my, .ref mr, .ref mb, .int sx, .int sy])), (mx, .inl (cA, 12, .inl fx)), (my, .inl (cA, 12, .inl fy)), (mr, .inl (cA, 8101, .inl fr)), (mb, .inl (cA, 5, .inl fb))] H := hP
    have hD : va_D A [(m0, .inr (2, [.int (nI 1), .int (nI k), .int (nI (tw_P k)), .int (nI (tw_D k)), .int (nI (tw_I k)), .ref mx, .ref my, .ref mr, .ref mb, .int sx, .int sy])), (mx, .inl (cA, 12, .inl fx)), (my, .inl (cA, 12, .inl fy)), (mr, .inl (cA, 8101, .inl fr)), (mb, .inl (cA, 5, .inl fb))] := hD
    refine lv_aload_n hx hb dX2_unpack_29 rfl (lv_at hl 0 rfl) ?_
    refine va_get (D := D) (ci := 2) (v := .int (nI 1)) (C := RX2) (T := TX2) (N := 11) hx hb ht inX2 hown hK hP 0 rfl rfl 0 (by decide) (ht _ kf_X2_30) (fun _ h9 => h9) rfl dX2_unpack_30 ?_
    refine nv_if_le (tgt := 37) hx hb dX2_unpack_33 (by decide) (by decide) (fun c8 => absurd c8 (by decide)) (fun _ => ?_)
    exact W.vret hx hb hr (fun t ht9 hW => ⟨⟨(), rfl, rfl, by rw [ht9]; exact hP, va_K.moved hW.alike hK, hD⟩, hS.F ht9⟩) hS.2.2 dX2_unpack_36
  · obtain ⟨n1, hn1, rfl⟩ := md_good b1
    contradiction
set_option maxHeartbeats 4000000 in
set_option maxRecDepth 100000 in
theorem c_X2_joinR (l : Launch) (D : va_G) {k : Nat} (hk5 : k < 5) {m0 mx my mr mb : Nat} {th sx sy : Int32} {cA : ClassId} {fx fy fr fb : Nat → Int32} {z1 z2 z3 y1 : Int32} (hz : md_bad z1 ∨ md_bad z2 ∨ md_bad z3) (sz : Nat) : Met l yX2_join wX2_join ({ frames := 1, cells := 0, slots := 0, locals := 20 }) (va_Pc [.ref m0, .int z1, .int z2, .int z3, .int y1] (wd_pre D [(cA, .int)] [(m0, .inr (2, [.int th, .int (nI k), .int (nI (tw_P k)), .int (nI (tw_D k)), .int (nI (tw_I k)), .ref mx, .ref my, .ref mr, .ref mb, .int sx, .int sy])), (mx, .inl (cA, 12, .inl fx)), (my, .inl (cA, 12, .inl fy)), (mr, .inl (cA, 8101, .inl fr)), (mb, .inl (cA, 5, .inl fb))] sz)) (va_Qi (fun (r : Int32) (u : Unit) => r = 0) (fun (u : Unit) t => wd_at D [(cA, .int)] (va_A [(m0, .inr (2, [.int th, .int (nI k), .int (nI (tw_P k)), .int (nI (tw_D k)), .int (nI (tw_I k)), .ref mx, .ref my, .ref mr, .ref mb, .int sx, .int sy])), (mx, .inl (cA, 12, .inl fx)), (my, .inl (cA, 12, .inl fy)), (mr, .inl (cA, 8101, .inl fr)), (mb, .inl (cA, 5, .inl fb))] sz) [(m0, .inr (2, [.int (nI 1), .int (nI k), .int (nI (tw_P k)), .int (nI (tw_D k)), .int (nI (tw_I k)), .ref mx, .ref my, .ref mr, .ref mb, .int sx, .int sy])), (mx, .inl (cA, 12, .inl fx)), (my, .inl (cA, 12, .inl fy)), (mr, .inl (cA, 8101, .inl fr)), (mb, .inl (cA, 5, .inl fb))] t) (va_A [(m0, .inr (2, [.int th, .int (nI k), .int (nI (tw_P k)), .int (nI (tw_D k)), .int (nI (tw_I k)), .ref mx, .ref my, .ref mr, .ref mb, .int sx, .int sy])), (mx, .inl (cA, 12, .inl fx)), (my, .inl (cA, 12, .inl fy)), (mr, .inl (cA, 8101, .inl fr)), (mb, .inl (cA, 5, .inl fb))] sz)) 0 0 (va_A [(m0, .inr (2, [.int th, .int (nI k), .int (nI (tw_P k)), .int (nI (tw_D k)), .int (nI (tw_I k)), .ref mx, .ref my, .ref mr, .ref mb, .int sx, .int sy])), (mx, .inl (cA, 12, .inl fx)), (my, .inl (cA, 12, .inl fy)), (mr, .inl (cA, 8101, .inl fr)), (mb, .inl (cA, 5, .inl fb))] sz) := by
  refine Met.ofW (cc := cX2_join) (maxL := 5) (ret := (some .int)) (by decide) rfl ?_
  intro p e s m args below meth c s₁ B hml hv
  obtain ⟨rfl, hsz, hP, hK, hD0⟩ := hv
  have hx := B.exec
  have hb := B.bytes
  have hr := B.returns
  have hts := atoms_spec (ws := wX2_join) B.pre
  have ht : ∀ w ∈ tb_all, w.before _ s = true := fun w h => hts w (List.mem_cons_of_mem _ h)
  have hown : s.vm.findClass RX2 = some m.cls := findClass_of_methodNamed B.named
  have hlocks := B.notSynchronized
  have hin : meth.name = "join" := (name_of_methodNamed B.named B.method).1
  subst hsz
  have hD := hD0.self (sz := s.heap.size)
  generalize hAe : va_A [(m0, .inr (2, [.int th, .int (nI k), .int (nI (tw_P k)), .int (nI (tw_D k)), .int (nI (tw_I k)), .ref mx, .ref my, .ref mr, .ref mb, .int sx, .int sy])), (mx, .inl (cA, 12, .inl fx)), (my, .inl (cA, 12, .inl fy)), (mr, .inl (cA, 8101, .inl fr)), (mb, .inl (cA, 5, .inl fb))] s.heap.size = A at hD ⊢
  have hA : ∀ q : Nat, s.heap.size ≤ q → A q := fun q h => by rw [← hAe]; exact Or.inr h
  have hS : va_S A s.heap s.heap [] := va_S.rf
  have hl := lv_entry ([.ref m0, .int z1, .int z2, .int z3, .int y1]) (n := 5) (Nat.le_of_ble_eq_true rfl)
  rw [lg_entry_eq]
  generalize (lg_sl ([.ref m0, .int z1, .int z2, .int z3, .int y1]) ++ List.replicate (5 - (lg_sl ([.ref m0, .int z1, .int z2, .int z3, .int y1])).length) Slot.unset).toArray = ls at hl ⊢
  have hl : lv_has ls 5 [(0, .ref m0), (1, .int z1), (2, .int z2), (3, .int z3), (4, .int y1)] := hl
  obtain ⟨hP0, hP2, hD2, hI2, hDP⟩ := tw_kb hk5
  have hK0 := tw_kK k hk5
  have hP8 : tw_P k ≤ 8192 := by omega
  have hN := tw_kN k hk5
  have zk : k ≤ 4 := by omega
  refine lv_aload_n hx hb dX2_join_0 rfl (lv_at hl 0 rfl) ?_
  refine lv_iload_n hx hb dX2_join_1 rfl (lv_at hl 1 rfl) ?_
  by_cases b1 : md_bad z1
  · refine vp_callSi (W.runS (As := [.int z1]) (rest := [.ref m0]) ⟨hx, hb, hml, hown, ht⟩ (c_X2_noneM l b1) (va_cwS 1 ht (tb_S kl_X2_76 kt_X2_none kn_X2 kc_X2_none) rfl rfl rfl kd_X2_none ⟨Nat.le_of_ble_eq_true rfl, Nat.le_of_ble_eq_true rfl⟩) (st_pre _) rfl rfl hl.1 rfl (lv_room (Nat.le_of_ble_eq_true rfl)) dX2_join_2 ⟨Nat.zero_le _, Nat.zero_le _⟩) (fun r hr9 => ?_)
    subst hr9
    refine lv_if_ne (tgt := 22) hx hb dX2_join_5 (by decide) (fun _ => ?_) (fun c9 => absurd c9 (by decide))
    refine lv_iconst (v := (nI 1)) hx hb dX2_join_22 (by decide) ?_
    refine lv_goto (tgt := 27) hx hb dX2_join_23 (by decide) ?_
    refine va_put (D := D) (ci := 2) (v := .int (nI 1)) (ty := .int) (C := RX2) (T := TX2) (N := 11) hx hb ht inX2 tyX2 tyX2_ok nmX2 hown hK hP hD hS 0 rfl rfl 0 (by decide) (ht _ kf_X2_30) (fun _ h9 => h9) rfl (by decide +kernel) rfl rfl (Nat.le_of_ble_eq_true rfl) dX2_join_27 (fun H locs hP hD hS => ?_)
    have hP : va_P D vwCl [(m0, .inr (2, [.int (nI 1), .int (nI k), .int (nI (tw_P k)), .int (nI (tw_D k)), .int (nI (tw_I k)), .ref mx, .ref my, .ref mr, .ref mb, .int sx, .int sy])), (mx, .inl (cA, 12, .inl fx)), (my, .inl (cA, 12, .inl fy)), (mr, .inl (cA, 8101, .inl fr)), (mb, .inl (cA, 5, .inl fb))] H := hP
    have hD : va_D A [(m0, .inr (2, [.int (nI 1), .int (nI k), .int (nI (tw_P k)), .int (nI (tw_D k)), .int (nI (tw_I k)), .ref mx, .ref my, .ref mr, .ref mb, .int sx, .int sy])), (mx, .inl (cA, 12, .inl fx)), (my, .inl (cA, 12, .inl fy)), (mr, .inl (cA, 8101, .inl fr)), (mb, .inl (cA, 5, .inl fb))] := hD
    refine lv_aload_n hx hb dX2_join_30 rfl (lv_at hl 0 rfl) ?_
    refine va_get (D := D) (ci := 2) (v := .int (nI 1)) (C := RX2) (T := TX2) (N := 11) hx hb ht inX2 hown hK hP 0 rfl rfl 0 (by decide) (ht _ kf_X2_30) (fun _ h9 => h9) rfl dX2_join_31 ?_
    refine nv_if_le (tgt := 39) hx hb dX2_join_34 (by decide) (by decide) (fun c8 => absurd c8 (by decide)) (fun _ => ?_)
    refine lv_iconst (v := (nI 0)) hx hb dX2_join_37 (by decide) ?_
    exact W.iret hx hb hr (fun t ht9 hW => ⟨⟨_, (), rfl, rfl, by rw [ht9]; exact hP, va_K.moved hW.alike hK, hD⟩, hS.F ht9⟩) hS.2.2 dX2_join_38
  · obtain ⟨n1, hn1, rfl⟩ := md_good b1
    refine vp_callSi (W.runS (As := [.int (nI n1)]) (rest := [.ref m0]) ⟨hx, hb, hml, hown, ht⟩ (c_X2_none l hn1) (va_cwS 1 ht (tb_S kl_X2_76 kt_X2_none kn_X2 kc_X2_none) rfl rfl rfl kd_X2_none ⟨Nat.le_of_ble_eq_true rfl, Nat.le_of_ble_eq_true rfl⟩) (st_pre _) rfl rfl hl.1 rfl (lv_room (Nat.le_of_ble_eq_true rfl)) dX2_join_2 ⟨Nat.zero_le _, Nat.zero_le _⟩) (fun r hr9 => ?_)
    subst hr9
    refine lv_if_ne (tgt := 22) hx hb dX2_join_5 (by decide) (fun c9 => absurd rfl c9) (fun _ => ?_)
    refine lv_iload_n hx hb dX2_join_8 rfl (lv_at hl 2 rfl) ?_
    by_cases b2 : md_bad z2
    · refine vp_callSi (W.runS (As := [.int z2]) (rest := [.ref m0]) ⟨hx, hb, hml, hown, ht⟩ (c_X2_noneM l b2) (va_cwS 1 ht (tb_S kl_X2_76 kt_X2_none kn_X2 kc_X2_none) rfl rfl rfl kd_X2_none ⟨Nat.le_of_ble_eq_true rfl, Nat.le_of_ble_eq_true rfl⟩) (st_pre _) rfl rfl hl.1 rfl (lv_room (Nat.le_of_ble_eq_true rfl)) dX2_join_9 ⟨Nat.zero_le _, Nat.zero_le _⟩) (fun r hr9 => ?_)
      subst hr9
      refine lv_if_ne (tgt := 22) hx hb dX2_join_12 (by decide) (fun _ => ?_) (fun c9 => absurd c9 (by decide))
      refine lv_iconst (v := (nI 1)) hx hb dX2_join_22 (by decide) ?_
      refine lv_goto (tgt := 27) hx hb dX2_join_23 (by decide) ?_
      refine va_put (D := D) (ci := 2) (v := .int (nI 1)) (ty := .int) (C := RX2) (T := TX2) (N := 11) hx hb ht inX2 tyX2 tyX2_ok nmX2 hown hK hP hD hS 0 rfl rfl 0 (by decide) (ht _ kf_X2_30) (fun _ h9 => h9) rfl (by decide +kernel) rfl rfl (Nat.le_of_ble_eq_true rfl) dX2_join_27 (fun H locs hP hD hS => ?_)
      have hP : va_P D vwCl [(m0, .inr (2, [.int (nI 1), .int (nI k), .int (nI (tw_P k)), .int (nI (tw_D k)), .int (nI (tw_I k)), .ref mx, .ref my, .ref mr, .ref mb, .int sx, .int sy])), (mx, .inl (cA, 12, .inl fx)), (my, .inl (cA, 12, .inl fy)), (mr, .inl (cA, 8101, .inl fr)), (mb, .inl (cA, 5, .inl fb))] H := hP
      have hD : va_D A [(m0, .inr (2, [.int (nI 1), .int (nI k), .int (nI (tw_P k)), .int (nI (tw_D k)), .int (nI (tw_I k)), .ref mx, .ref my, .ref mr, .ref mb, .int sx, .int sy])), (mx, .inl (cA, 12, .inl fx)), (my, .inl (cA, 12, .inl fy)), (mr, .inl (cA, 8101, .inl fr)), (mb, .inl (cA, 5, .inl fb))] := hD
      refine lv_aload_n hx hb dX2_join_30 rfl (lv_at hl 0 rfl) ?_
      refine va_get (D := D) (ci := 2) (v := .int (nI 1)) (C := RX2) (T := TX2) (N := 11) hx hb ht inX2 hown hK hP 0 rfl rfl 0 (by decide) (ht _ kf_X2_30) (fun _ h9 => h9) rfl dX2_join_31 ?_
      refine nv_if_le (tgt := 39) hx hb dX2_join_34 (by decide) (by decide) (fun c8 => absurd c8 (by decide)) (fun _ => ?_)
      refine lv_iconst (v := (nI 0)) hx hb dX2_join_37 (by decide) ?_
      exact W.iret hx hb hr (fun t ht9 hW => ⟨⟨_, (), rfl, rfl, by rw [ht9]; exact hP, va_K.moved hW.alike hK, hD⟩, hS.F ht9⟩) hS.2.2 dX2_join_38
    · obtain ⟨n2, hn2, rfl⟩ := md_good b2
      refine vp_callSi (W.runS (As := [.int (nI n2)]) (rest := [.ref m0]) ⟨hx, hb, hml, hown, ht⟩ (c_X2_none l hn2) (va_cwS 1 ht (tb_S kl_X2_76 kt_X2_none kn_X2 kc_X2_none) rfl rfl rfl kd_X2_none ⟨Nat.le_of_ble_eq_true rfl, Nat.le_of_ble_eq_true rfl⟩) (st_pre _) rfl rfl hl.1 rfl (lv_room (Nat.le_of_ble_eq_true rfl)) dX2_join_9 ⟨Nat.zero_le _, Nat.zero_le _⟩) (fun r hr9 => ?_)
      subst hr9
      refine lv_if_ne (tgt := 22) hx hb dX2_join_12 (by decide) (fun c9 => absurd rfl c9) (fun _ => ?_)
      refine lv_iload_n hx hb dX2_join_15 rfl (lv_at hl 3 rfl) ?_
      by_cases b3 : md_bad z3
      · refine vp_callSi (W.runS (As := [.int z3]) (rest := [.ref m0]) ⟨hx, hb, hml, hown, ht⟩ (c_X2_noneM l b3) (va_cwS 1 ht (tb_S kl_X2_76 kt_X2_none kn_X2 kc_X2_none) rfl rfl rfl kd_X2_none ⟨Nat.le_of_ble_eq_true rfl, Nat.le_of_ble_eq_true rfl⟩) (st_pre _) rfl rfl hl.1 rfl (lv_room (Nat.le_of_ble_eq_true rfl)) dX2_join_16 ⟨Nat.zero_le _, Nat.zero_le _⟩) (fun r hr9 => ?_)
        subst hr9
        refine lv_if_eq (tgt := 26) hx hb dX2_join_19 (by decide) (fun c9 => absurd c9 (by decide)) (fun _ => ?_)
        refine lv_iconst (v := (nI 1)) hx hb dX2_join_22 (by decide) ?_
        refine lv_goto (tgt := 27) hx hb dX2_join_23 (by decide) ?_
        refine va_put (D := D) (ci := 2) (v := .int (nI 1)) (ty := .int) (C := RX2) (T := TX2) (N := 11) hx hb ht inX2 tyX2 tyX2_ok nmX2 hown hK hP hD hS 0 rfl rfl 0 (by decide) (ht _ kf_X2_30) (fun _ h9 => h9) rfl (by decide +kernel) rfl rfl (Nat.le_of_ble_eq_true rfl) dX2_join_27 (fun H locs hP hD hS => ?_)
        have hP : va_P D vwCl [(m0, .inr (2, [.int (nI 1), .int (nI k), .int (nI (tw_P k)), .int (nI (tw_D k)), .int (nI (tw_I k)), .ref mx, .ref my, .ref mr, .ref mb, .int sx, .int sy])), (mx, .inl (cA, 12, .inl fx)), (my, .inl (cA, 12, .inl fy)), (mr, .inl (cA, 8101, .inl fr)), (mb, .inl (cA, 5, .inl fb))] H := hP
        have hD : va_D A [(m0, .inr (2, [.int (nI 1), .int (nI k), .int (nI (tw_P k)), .int (nI (tw_D k)), .int (nI (tw_I k)), .ref mx, .ref my, .ref mr, .ref mb, .int sx, .int sy])), (mx, .inl (cA, 12, .inl fx)), (my, .inl (cA, 12, .inl fy)), (mr, .inl (cA, 8101, .inl fr)), (mb, .inl (cA, 5, .inl fb))] := hD
        refine lv_aload_n hx hb dX2_join_30 rfl (lv_at hl 0 rfl) ?_
        refine va_get (D := D) (ci := 2) (v := .int (nI 1)) (C := RX2) (T := TX2) (N := 11) hx hb ht inX2 hown hK hP 0 rfl rfl 0 (by decide) (ht _ kf_X2_30) (fun _ h9 => h9) rfl dX2_join_31 ?_
        refine nv_if_le (tgt := 39) hx hb dX2_join_34 (by decide) (by decide) (fun c8 => absurd c8 (by decide)) (fun _ => ?_)
        refine lv_iconst (v := (nI 0)) hx hb dX2_join_37 (by decide) ?_
        exact W.iret hx hb hr (fun t ht9 hW => ⟨⟨_, (), rfl, rfl, by rw [ht9]; exact hP, va_K.moved hW.alike hK, hD⟩, hS.F ht9⟩) hS.2.2 dX2_join_38
      · obtain ⟨n3, hn3, rfl⟩ := md_good b3
        rcases hz with q1 | q2 | q3 <;> contradiction
set_option maxHeartbeats 4000000 in
set_option maxRecDepth 100000 in
theorem c_X2_times2R (l : Launch) (D : va_G) {k : Nat} (hk5 : k < 5) {m0 mx my mr mb : Nat} {th sx sy : Int32} {cA : ClassId} {fx fy fr fb : Nat → Int32} {z1 z2 : Int32} {l1 : Int64} (hz : md_bad z1 ∨ md_bad z2) (sz : Nat) : Met l yX2_times2 wX2_times2 ({ frames := 1, cells := 0, slots := 0, locals := 20 }) (va_Pc [.ref m0, .int z1, .long l1, .int z2] (wd_pre D [(cA, .int)] [(m0, .inr (2, [.int th, .int (nI k), .int (nI (tw_P k)), .int (nI (tw_D k)), .int (nI (tw_I k)), .ref mx, .ref my, .ref mr, .ref mb, .int sx, .int sy])), (mx, .inl (cA, 12, .inl fx)), (my, .inl (cA, 12, .inl fy)), (mr, .inl (cA, 8101, .inl fr)), (mb, .inl (cA, 5, .inl fb))] sz)) (va_Qi (fun (r : Int32) (u : Unit) => r = 0) (fun (u : Unit) t => wd_at D [(cA, .int)] (va_A [(m0, .inr (2, [.int th, .int (nI k), .int (nI (tw_P k)), .int (nI (tw_D k)), .int (nI (tw_I k)), .ref mx, .ref my, .ref mr, .ref mb, .int sx, .int sy])), (mx, .inl (cA, 12, .inl fx)), (my, .inl (cA, 12, .inl fy)), (mr, .inl (cA, 8101, .inl fr)), (mb, .inl (cA, 5, .inl fb))] sz) [(m0, .inr (2, [.int (nI 1), .int (nI k), .int (nI (tw_P k)), .int (nI (tw_D k)), .int (nI (tw_I k)), .ref mx, .ref my, .ref mr, .ref mb, .int sx, .int sy])), (mx, .inl (cA, 12, .inl fx)), (my, .inl (cA, 12, .inl fy)), (mr, .inl (cA, 8101, .inl fr)), (mb, .inl (cA, 5, .inl fb))] t) (va_A [(m0, .inr (2, [.int th, .int (nI k), .int (nI (tw_P k)), .int (nI (tw_D k)), .int (nI (tw_I k)), .ref mx, .ref my, .ref mr, .ref mb, .int sx, .int sy])), (mx, .inl (cA, 12, .inl fx)), (my, .inl (cA, 12, .inl fy)), (mr, .inl (cA, 8101, .inl fr)), (mb, .inl (cA, 5, .inl fb))] sz)) 0 0 (va_A [(m0, .inr (2, [.int th, .int (nI k), .int (nI (tw_P k)), .int (nI (tw_D k)), .int (nI (tw_I k)), .ref mx, .ref my, .ref mr, .ref mb, .int sx, .int sy])), (mx, .inl (cA, 12, .inl fx)), (my, .inl (cA, 12, .inl fy)), (mr, .inl (cA, 8101, .inl fr)), (mb, .inl (cA, 5, .inl fb))] sz) := by
  refine Met.ofW (cc := cX2_times2) (maxL := 5) (ret := (some .int)) (by decide) rfl ?_
  intro p e s m args below meth c s₁ B hml hv
  obtain ⟨rfl, hsz, hP, hK, hD0⟩ := hv
  have hx := B.exec
  have hb := B.bytes
  have hr := B.returns
  have hts := atoms_spec (ws := wX2_times2) B.pre
  have ht : ∀ w ∈ tb_all, w.before _ s = true := fun w h => hts w (List.mem_cons_of_mem _ h)
  have hown : s.vm.findClass RX2 = some m.cls := findClass_of_methodNamed B.named
  have hlocks := B.notSynchronized
  have hin : meth.name = "times" := (name_of_methodNamed B.named B.method).1
  subst hsz
  have hD := hD0.self (sz := s.heap.size)
  generalize hAe : va_A [(m0, .inr (2, [.int th, .int (nI k), .int (nI (tw_P k)), .int (nI (tw_D k)), .int (nI (tw_I k)), .ref mx, .ref my, .ref mr, .ref mb, .int sx, .int sy])), (mx, .inl (cA, 12, .inl fx)), (my, .inl (cA, 12, .inl fy)), (mr, .inl (cA, 8101, .inl fr)), (mb, .inl (cA, 5, .inl fb))] s.heap.size = A at hD ⊢
  have hA : ∀ q : Nat, s.heap.size ≤ q → A q := fun q h => by rw [← hAe]; exact Or.inr h
  have hS : va_S A s.heap s.heap [] := va_S.rf
  have hl := lv_entry ([.ref m0, .int z1, .long l1, .int z2]) (n := 5) (Nat.le_of_ble_eq_true rfl)
  rw [lg_entry_eq]
  generalize (lg_sl ([.ref m0, .int z1, .long l1, .int z2]) ++ List.replicate (5 - (lg_sl ([.ref m0, .int z1, .long l1, .int z2])).length) Slot.unset).toArray = ls at hl ⊢
  have hl : lv_has ls 5 [(0, .ref m0), (1, .int z1), (2, .long l1), (4, .int z2)] := hl
  obtain ⟨hP0, hP2, hD2, hI2, hDP⟩ := tw_kb hk5
  have hK0 := tw_kK k hk5
  have hP8 : tw_P k ≤ 8192 := by omega
  have hN := tw_kN k hk5
  have zk : k ≤ 4 := by omega
  refine lv_aload_n hx hb dX2_times2_0 rfl (lv_at hl 0 rfl) ?_
  refine lv_iload_n hx hb dX2_times2_1 rfl (lv_at hl 1 rfl) ?_
  by_cases b1 : md_bad z1
  · refine vp_callSi (W.runS (As := [.int z1]) (rest := [.ref m0]) ⟨hx, hb, hml, hown, ht⟩ (c_X2_noneM l b1) (va_cwS 1 ht (tb_S kl_X2_76 kt_X2_none kn_X2 kc_X2_none) rfl rfl rfl kd_X2_none ⟨Nat.le_of_ble_eq_true rfl, Nat.le_of_ble_eq_true rfl⟩) (st_pre _) rfl rfl hl.1 rfl (lv_room (Nat.le_of_ble_eq_true rfl)) dX2_times2_2 ⟨Nat.zero_le _, Nat.zero_le _⟩) (fun r hr9 => ?_)
    subst hr9
    refine lv_if_ne (tgt := 16) hx hb dX2_times2_5 (by decide) (fun _ => ?_) (fun c9 => absurd c9 (by decide))
    refine lv_iconst (v := (nI 1)) hx hb dX2_times2_16 (by decide) ?_
    refine lv_goto (tgt := 21) hx hb dX2_times2_17 (by decide) ?_
    refine va_put (D := D) (ci := 2) (v := .int (nI 1)) (ty := .int) (C := RX2) (T := TX2) (N := 11) hx hb ht inX2 tyX2 tyX2_ok nmX2 hown hK hP hD hS 0 rfl rfl 0 (by decide) (ht _ kf_X2_30) (fun _ h9 => h9) rfl (by decide +kernel) rfl rfl (Nat.le_of_ble_eq_true rfl) dX2_times2_21 (fun H locs hP hD hS => ?_)
    have hP : va_P D vwCl [(m0, .inr (2, [.int (nI 1), .int (nI k), .int (nI (tw_P k)), .int (nI (tw_D k)), .int (nI (tw_I k)), .ref mx, .ref my, .ref mr, .ref mb, .int sx, .int sy])), (mx, .inl (cA, 12, .inl fx)), (my, .inl (cA, 12, .inl fy)), (mr, .inl (cA, 8101, .inl fr)), (mb, .inl (cA, 5, .inl fb))] H := hP
    have hD : va_D A [(m0, .inr (2, [.int (nI 1), .int (nI k), .int (nI (tw_P k)), .int (nI (tw_D k)), .int (nI (tw_I k)), .ref mx, .ref my, .ref mr, .ref mb, .int sx, .int sy])), (mx, .inl (cA, 12, .inl fx)), (my, .inl (cA, 12, .inl fy)), (mr, .inl (cA, 8101, .inl fr)), (mb, .inl (cA, 5, .inl fb))] := hD
    refine lv_aload_n hx hb dX2_times2_24 rfl (lv_at hl 0 rfl) ?_
    refine va_get (D := D) (ci := 2) (v := .int (nI 1)) (C := RX2) (T := TX2) (N := 11) hx hb ht inX2 hown hK hP 0 rfl rfl 0 (by decide) (ht _ kf_X2_30) (fun _ h9 => h9) rfl dX2_times2_25 ?_
    refine nv_if_le (tgt := 33) hx hb dX2_times2_28 (by decide) (by decide) (fun c8 => absurd c8 (by decide)) (fun _ => ?_)
    refine lv_iconst (v := (nI 0)) hx hb dX2_times2_31 (by decide) ?_
    exact W.iret hx hb hr (fun t ht9 hW => ⟨⟨_, (), rfl, rfl, by rw [ht9]; exact hP, va_K.moved hW.alike hK, hD⟩, hS.F ht9⟩) hS.2.2 dX2_times2_32
  · obtain ⟨n1, hn1, rfl⟩ := md_good b1
    refine vp_callSi (W.runS (As := [.int (nI n1)]) (rest := [.ref m0]) ⟨hx, hb, hml, hown, ht⟩ (c_X2_none l hn1) (va_cwS 1 ht (tb_S kl_X2_76 kt_X2_none kn_X2 kc_X2_none) rfl rfl rfl kd_X2_none ⟨Nat.le_of_ble_eq_true rfl, Nat.le_of_ble_eq_true rfl⟩) (st_pre _) rfl rfl hl.1 rfl (lv_room (Nat.le_of_ble_eq_true rfl)) dX2_times2_2 ⟨Nat.zero_le _, Nat.zero_le _⟩) (fun r hr9 => ?_)
    subst hr9
    refine lv_if_ne (tgt := 16) hx hb dX2_times2_5 (by decide) (fun c9 => absurd rfl c9) (fun _ => ?_)
    refine lv_iload hx hb dX2_times2_8 (lv_at hl 3 rfl) ?_
    by_cases b2 : md_bad z2
    · refine vp_callSi (W.runS (As := [.int z2]) (rest := [.ref m0]) ⟨hx, hb, hml, hown, ht⟩ (c_X2_noneM l b2) (va_cwS 1 ht (tb_S kl_X2_76 kt_X2_none kn_X2 kc_X2_none) rfl rfl rfl kd_X2_none ⟨Nat.le_of_ble_eq_true rfl, Nat.le_of_ble_eq_true rfl⟩) (st_pre _) rfl rfl hl.1 rfl (lv_room (Nat.le_of_ble_eq_true rfl)) dX2_times2_10 ⟨Nat.zero_le _, Nat.zero_le _⟩) (fun r hr9 => ?_)
      subst hr9
      refine lv_if_eq (tgt := 20) hx hb dX2_times2_13 (by decide) (fun c9 => absurd c9 (by decide)) (fun _ => ?_)
      refine lv_iconst (v := (nI 1)) hx hb dX2_times2_16 (by decide) ?_
      refine lv_goto (tgt := 21) hx hb dX2_times2_17 (by decide) ?_
      refine va_put (D := D) (ci := 2) (v := .int (nI 1)) (ty := .int) (C := RX2) (T := TX2) (N := 11) hx hb ht inX2 tyX2 tyX2_ok nmX2 hown hK hP hD hS 0 rfl rfl 0 (by decide) (ht _ kf_X2_30) (fun _ h9 => h9) rfl (by decide +kernel) rfl rfl (Nat.le_of_ble_eq_true rfl) dX2_times2_21 (fun H locs hP hD hS => ?_)
      have hP : va_P D vwCl [(m0, .inr (2, [.int (nI 1), .int (nI k), .int (nI (tw_P k)), .int (nI (tw_D k)), .int (nI (tw_I k)), .ref mx, .ref my, .ref mr, .ref mb, .int sx, .int sy])), (mx, .inl (cA, 12, .inl fx)), (my, .inl (cA, 12, .inl fy)), (mr, .inl (cA, 8101, .inl fr)), (mb, .inl (cA, 5, .inl fb))] H := hP
      have hD : va_D A [(m0, .inr (2, [.int (nI 1), .int (nI k), .int (nI (tw_P k)), .int (nI (tw_D k)), .int (nI (tw_I k)), .ref mx, .ref my, .ref mr, .ref mb, .int sx, .int sy])), (mx, .inl (cA, 12, .inl fx)), (my, .inl (cA, 12, .inl fy)), (mr, .inl (cA, 8101, .inl fr)), (mb, .inl (cA, 5, .inl fb))] := hD
      refine lv_aload_n hx hb dX2_times2_24 rfl (lv_at hl 0 rfl) ?_
      refine va_get (D := D) (ci := 2) (v := .int (nI 1)) (C := RX2) (T := TX2) (N := 11) hx hb ht inX2 hown hK hP 0 rfl rfl 0 (by decide) (ht _ kf_X2_30) (fun _ h9 => h9) rfl dX2_times2_25 ?_
      refine nv_if_le (tgt := 33) hx hb dX2_times2_28 (by decide) (by decide) (fun c8 => absurd c8 (by decide)) (fun _ => ?_)
      refine lv_iconst (v := (nI 0)) hx hb dX2_times2_31 (by decide) ?_
      exact W.iret hx hb hr (fun t ht9 hW => ⟨⟨_, (), rfl, rfl, by rw [ht9]; exact hP, va_K.moved hW.alike hK, hD⟩, hS.F ht9⟩) hS.2.2 dX2_times2_32
    · obtain ⟨n2, hn2, rfl⟩ := md_good b2
      rcases hz with q1 | q2 <;> contradiction
set_option maxHeartbeats 4000000 in
set_option maxRecDepth 100000 in
theorem c_X2_bothR (l : Launch) (D : va_G) {k : Nat} (hk5 : k < 5) {m0 mx my mr mb : Nat} {th sx sy : Int32} {cA : ClassId} {fx fy fr fb : Nat → Int32} {z1 z2 z3 : Int32} {l1 : Int64} {l2 : Int64} (hz : md_bad z1 ∨ md_bad z2 ∨ md_bad z3) (sz : Nat) : Met l yX2_both wX2_both ({ frames := 1, cells := 0, slots := 0, locals := 20 }) (va_Pc [.ref m0, .int z1, .long l1, .int z2, .long l2, .int z3] (wd_pre D [(cA, .int)] [(m0, .inr (2, [.int th, .int (nI k), .int (nI (tw_P k)), .int (nI (tw_D k)), .int (nI (tw_I k)), .ref mx, .ref my, .ref mr, .ref mb, .int sx, .int sy])), (mx, .inl (cA, 12, .inl fx)), (my, .inl (cA, 12, .inl fy)), (mr, .inl (cA, 8101, .inl fr)), (mb, .inl (cA, 5, .inl fb))] sz)) (va_Qi (fun (r : Int32) (u : Unit) => r = 0) (fun (u : Unit) t => wd_at D [(cA, .int)] (va_A [(m0, .inr (2, [.int th, .int (nI k), .int (nI (tw_P k)), .int (nI (tw_D k)), .int (nI (tw_I k)), .ref mx, .ref my, .ref mr, .ref mb, .int sx, .int sy])), (mx, .inl (cA, 12, .inl fx)), (my, .inl (cA, 12, .inl fy)), (mr, .inl (cA, 8101, .inl fr)), (mb, .inl (cA, 5, .inl fb))] sz) [(m0, .inr (2, [.int (nI 1), .int (nI k), .int (nI (tw_P k)), .int (nI (tw_D k)), .int (nI (tw_I k)), .ref mx, .ref my, .ref mr, .ref mb, .int sx, .int sy])), (mx, .inl (cA, 12, .inl fx)), (my, .inl (cA, 12, .inl fy)), (mr, .inl (cA, 8101, .inl fr)), (mb, .inl (cA, 5, .inl fb))] t) (va_A [(m0, .inr (2, [.int th, .int (nI k), .int (nI (tw_P k)), .int (nI (tw_D k)), .int (nI (tw_I k)), .ref mx, .ref my, .ref mr, .ref mb, .int sx, .int sy])), (mx, .inl (cA, 12, .inl fx)), (my, .inl (cA, 12, .inl fy)), (mr, .inl (cA, 8101, .inl fr)), (mb, .inl (cA, 5, .inl fb))] sz)) 0 0 (va_A [(m0, .inr (2, [.int th, .int (nI k), .int (nI (tw_P k)), .int (nI (tw_D k)), .int (nI (tw_I k)), .ref mx, .ref my, .ref mr, .ref mb, .int sx, .int sy])), (mx, .inl (cA, 12, .inl fx)), (my, .inl (cA, 12, .inl fy)), (mr, .inl (cA, 8101, .inl fr)), (mb, .inl (cA, 5, .inl fb))] sz) := by
  refine Met.ofW (cc := cX2_both) (maxL := 10) (ret := (some .int)) (by decide) rfl ?_
  intro p e s m args below meth c s₁ B hml hv
  obtain ⟨rfl, hsz, hP, hK, hD0⟩ := hv
  have hx := B.exec
  have hb := B.bytes
  have hr := B.returns
  have hts := atoms_spec (ws := wX2_both) B.pre
  have ht : ∀ w ∈ tb_all, w.before _ s = true := fun w h => hts w (List.mem_cons_of_mem _ h)
  have hown : s.vm.findClass RX2 = some m.cls := findClass_of_methodNamed B.named
  have hlocks := B.notSynchronized
  have hin : meth.name = "both" := (name_of_methodNamed B.named B.method).1
  subst hsz
  have hD := hD0.self (sz := s.heap.size)
  generalize hAe : va_A [(m0, .inr (2, [.int th, .int (nI k), .int (nI (tw_P k)), .int (nI (tw_D k)), .int (nI (tw_I k)), .ref mx, .ref my, .ref mr, .ref mb, .int sx, .int sy])), (mx, .inl (cA, 12, .inl fx)), (my, .inl (cA, 12, .inl fy)), (mr, .inl (cA, 8101, .inl fr)), (mb, .inl (cA, 5, .inl fb))] s.heap.size = A at hD ⊢
  have hA : ∀ q : Nat, s.heap.size ≤ q → A q := fun q h => by rw [← hAe]; exact Or.inr h
  have hS : va_S A s.heap s.heap [] := va_S.rf
  have hl := lv_entry ([.ref m0, .int z1, .long l1, .int z2, .long l2, .int z3]) (n := 10) (Nat.le_of_ble_eq_true rfl)
  rw [lg_entry_eq]
  generalize (lg_sl ([.ref m0, .int z1, .long l1, .int z2, .long l2, .int z3]) ++ List.replicate (10 - (lg_sl ([.ref m0, .int z1, .long l1, .int z2, .long l2, .int z3])).length) Slot.unset).toArray = ls at hl ⊢
  have hl : lv_has ls 10 [(0, .ref m0), (1, .int z1), (2, .long l1), (4, .int z2), (5, .long l2), (7, .int z3)] := hl
  obtain ⟨hP0, hP2, hD2, hI2, hDP⟩ := tw_kb hk5
  have hK0 := tw_kK k hk5
  have hP8 : tw_P k ≤ 8192 := by omega
  have hN := tw_kN k hk5
  have zk : k ≤ 4 := by omega
  refine lv_aload_n hx hb dX2_both_0 rfl (lv_at hl 0 rfl) ?_
  refine lv_iload_n hx hb dX2_both_1 rfl (lv_at hl 1 rfl) ?_
  by_cases b1 : md_bad z1
  · refine vp_callSi (W.runS (As := [.int z1]) (rest := [.ref m0]) ⟨hx, hb, hml, hown, ht⟩ (c_X2_noneM l b1) (va_cwS 1 ht (tb_S kl_X2_76 kt_X2_none kn_X2 kc_X2_none) rfl rfl rfl kd_X2_none ⟨Nat.le_of_ble_eq_true rfl, Nat.le_of_ble_eq_true rfl⟩) (st_pre _) rfl rfl hl.1 rfl (lv_room (Nat.le_of_ble_eq_true rfl)) dX2_both_2 ⟨Nat.zero_le _, Nat.zero_le _⟩) (fun r hr9 => ?_)
    subst hr9
    refine lv_if_ne (tgt := 24) hx hb dX2_both_5 (by decide) (fun _ => ?_) (fun c9 => absurd c9 (by decide))
    refine lv_iconst (v := (nI 1)) hx hb dX2_both_24 (by decide) ?_
    refine lv_goto (tgt := 29) hx hb dX2_both_25 (by decide) ?_
    refine va_put (D := D) (ci := 2) (v := .int (nI 1)) (ty := .int) (C := RX2) (T := TX2) (N := 11) hx hb ht inX2 tyX2 tyX2_ok nmX2 hown hK hP hD hS 0 rfl rfl 0 (by decide) (ht _ kf_X2_30) (fun _ h9 => h9) rfl (by decide +kernel) rfl rfl (Nat.le_of_ble_eq_true rfl) dX2_both_29 (fun H locs hP hD hS => ?_)
    have hP : va_P D vwCl [(m0, .inr (2, [.int (nI 1), .int (nI k), .int (nI (tw_P k)), .int (nI (tw_D k)), .int (nI (tw_I k)), .ref mx, .ref my, .ref mr, .ref mb, .int sx, .int sy])), (mx, .inl (cA, 12, .inl fx)), (my, .inl (cA, 12, .inl fy)), (mr, .inl (cA, 8101, .inl fr)), (mb, .inl (cA, 5, .inl fb))] H := hP
    have hD : va_D A [(m0, .inr (2, [.int (nI 1), .int (nI k), .int (nI (tw_P k)), .int (nI (tw_D k)), .int (nI (tw_I k)), .ref mx, .ref my, .ref mr, .ref mb, .int sx, .int sy])), (mx, .inl (cA, 12, .inl fx)), (my, .inl (cA, 12, .inl fy)), (mr, .inl (cA, 8101, .inl fr)), (mb, .inl (cA, 5, .inl fb))] := hD
    refine lv_aload_n hx hb dX2_both_32 rfl (lv_at hl 0 rfl) ?_
    refine va_get (D := D) (ci := 2) (v := .int (nI 1)) (C := RX2) (T := TX2) (N := 11) hx hb ht inX2 hown hK hP 0 rfl rfl 0 (by decide) (ht _ kf_X2_30) (fun _ h9 => h9) rfl dX2_both_33 ?_
    refine nv_if_le (tgt := 41) hx hb dX2_both_36 (by decide) (by decide) (fun c8 => absurd c8 (by decide)) (fun _ => ?_)
    refine lv_iconst (v := (nI 0)) hx hb dX2_both_39 (by decide) ?_
    exact W.iret hx hb hr (fun t ht9 hW => ⟨⟨_, (), rfl, rfl, by rw [ht9]; exact hP, va_K.moved hW.alike hK, hD⟩, hS.F ht9⟩) hS.2.2 dX2_both_40
  · obtain ⟨n1, hn1, rfl⟩ := md_good b1
    refine vp_callSi (W.runS (As := [.int (nI n1)]) (rest := [.ref m0]) ⟨hx, hb, hml, hown, ht⟩ (c_X2_none l hn1) (va_cwS 1 ht (tb_S kl_X2_76 kt_X2_none kn_X2 kc_X2_none) rfl rfl rfl kd_X2_none ⟨Nat.le_of_ble_eq_true rfl, Nat.le_of_ble_eq_true rfl⟩) (st_pre _) rfl rfl hl.1 rfl (lv_room (Nat.le_of_ble_eq_true rfl)) dX2_both_2 ⟨Nat.zero_le _, Nat.zero_le _⟩) (fun r hr9 => ?_)
    subst hr9
    refine lv_if_ne (tgt := 24) hx hb dX2_both_5 (by decide) (fun c9 => absurd rfl c9) (fun _ => ?_)
    refine lv_iload hx hb dX2_both_8 (lv_at hl 3 rfl) ?_
    by_cases b2 : md_bad z2
    · refine vp_callSi (W.runS (As := [.int z2]) (rest := [.ref m0]) ⟨hx, hb, hml, hown, ht⟩ (c_X2_noneM l b2) (va_cwS 1 ht (tb_S kl_X2_76 kt_X2_none kn_X2 kc_X2_none) rfl rfl rfl kd_X2_none ⟨Nat.le_of_ble_eq_true rfl, Nat.le_of_ble_eq_true rfl⟩) (st_pre _) rfl rfl hl.1 rfl (lv_room (Nat.le_of_ble_eq_true rfl)) dX2_both_10 ⟨Nat.zero_le _, Nat.zero_le _⟩) (fun r hr9 => ?_)
      subst hr9
      refine lv_if_ne (tgt := 24) hx hb dX2_both_13 (by decide) (fun _ => ?_) (fun c9 => absurd c9 (by decide))
      refine lv_iconst (v := (nI 1)) hx hb dX2_both_24 (by decide) ?_
      refine lv_goto (tgt := 29) hx hb dX2_both_25 (by decide) ?_
      refine va_put (D := D) (ci := 2) (v := .int (nI 1)) (ty := .int) (C := RX2) (T := TX2) (N := 11) hx hb ht inX2 tyX2 tyX2_ok nmX2 hown hK hP hD hS 0 rfl rfl 0 (by decide) (ht _ kf_X2_30) (fun _ h9 => h9) rfl (by decide +kernel) rfl rfl (Nat.le_of_ble_eq_true rfl) dX2_both_29 (fun H locs hP hD hS => ?_)
      have hP : va_P D vwCl [(m0, .inr (2, [.int (nI 1), .int (nI k), .int (nI (tw_P k)), .int (nI (tw_D k)), .int (nI (tw_I k)), .ref mx, .ref my, .ref mr, .ref mb, .int sx, .int sy])), (mx, .inl (cA, 12, .inl fx)), (my, .inl (cA, 12, .inl fy)), (mr, .inl (cA, 8101, .inl fr)), (mb, .inl (cA, 5, .inl fb))] H := hP
      have hD : va_D A [(m0, .inr (2, [.int (nI 1), .int (nI k), .int (nI (tw_P k)), .int (nI (tw_D k)), .int (nI (tw_I k)), .ref mx, .ref my, .ref mr, .ref mb, .int sx, .int sy])), (mx, .inl (cA, 12, .inl fx)), (my, .inl (cA, 12, .inl fy)), (mr, .inl (cA, 8101, .inl fr)), (mb, .inl (cA, 5, .inl fb))] := hD
      refine lv_aload_n hx hb dX2_both_32 rfl (lv_at hl 0 rfl) ?_
      refine va_get (D := D) (ci := 2) (v := .int (nI 1)) (C := RX2) (T := TX2) (N := 11) hx hb ht inX2 hown hK hP 0 rfl rfl 0 (by decide) (ht _ kf_X2_30) (fun _ h9 => h9) rfl dX2_both_33 ?_
      refine nv_if_le (tgt := 41) hx hb dX2_both_36 (by decide) (by decide) (fun c8 => absurd c8 (by decide)) (fun _ => ?_)
      refine lv_iconst (v := (nI 0)) hx hb dX2_both_39 (by decide) ?_
      exact W.iret hx hb hr (fun t ht9 hW => ⟨⟨_, (), rfl, rfl, by rw [ht9]; exact hP, va_K.moved hW.alike hK, hD⟩, hS.F ht9⟩) hS.2.2 dX2_both_40
    · obtain ⟨n2, hn2, rfl⟩ := md_good b2
      refine vp_callSi (W.runS (As := [.int (nI n2)]) (rest := [.ref m0]) ⟨hx, hb, hml, hown, ht⟩ (c_X2_none l hn2) (va_cwS 1 ht (tb_S kl_X2_76 kt_X2_none kn_X2 kc_X2_none) rfl rfl rfl kd_X2_none ⟨Nat.le_of_ble_eq_true rfl, Nat.le_of_ble_eq_true rfl⟩) (st_pre _) rfl rfl hl.1 rfl (lv_room (Nat.le_of_ble_eq_true rfl)) dX2_both_10 ⟨Nat.zero_le _, Nat.zero_le _⟩) (fun r hr9 => ?_)
      subst hr9
      refine lv_if_ne (tgt := 24) hx hb dX2_both_13 (by decide) (fun c9 => absurd rfl c9) (fun _ => ?_)
      refine lv_iload hx hb dX2_both_16 (lv_at hl 5 rfl) ?_
      by_cases b3 : md_bad z3
      · refine vp_callSi (W.runS (As := [.int z3]) (rest := [.ref m0]) ⟨hx, hb, hml, hown, ht⟩ (c_X2_noneM l b3) (va_cwS 1 ht (tb_S kl_X2_76 kt_X2_none kn_X2 kc_X2_none) rfl rfl rfl kd_X2_none ⟨Nat.le_of_ble_eq_true rfl, Nat.le_of_ble_eq_true rfl⟩) (st_pre _) rfl rfl hl.1 rfl (lv_room (Nat.le_of_ble_eq_true rfl)) dX2_both_18 ⟨Nat.zero_le _, Nat.zero_le _⟩) (fun r hr9 => ?_)
        subst hr9
        refine lv_if_eq (tgt := 28) hx hb dX2_both_21 (by decide) (fun c9 => absurd c9 (by decide)) (fun _ => ?_)
        refine lv_iconst (v := (nI 1)) hx hb dX2_both_24 (by decide) ?_
        refine lv_goto (tgt := 29) hx hb dX2_both_25 (by decide) ?_
        refine va_put (D := D) (ci := 2) (v := .int (nI 1)) (ty := .int) (C := RX2) (T := TX2) (N := 11) hx hb ht inX2 tyX2 tyX2_ok nmX2 hown hK hP hD hS 0 rfl rfl 0 (by decide) (ht _ kf_X2_30) (fun _ h9 => h9) rfl (by decide +kernel) rfl rfl (Nat.le_of_ble_eq_true rfl) dX2_both_29 (fun H locs hP hD hS => ?_)
        have hP : va_P D vwCl [(m0, .inr (2, [.int (nI 1), .int (nI k), .int (nI (tw_P k)), .int (nI (tw_D k)), .int (nI (tw_I k)), .ref mx, .ref my, .ref mr, .ref mb, .int sx, .int sy])), (mx, .inl (cA, 12, .inl fx)), (my, .inl (cA, 12, .inl fy)), (mr, .inl (cA, 8101, .inl fr)), (mb, .inl (cA, 5, .inl fb))] H := hP
        have hD : va_D A [(m0, .inr (2, [.int (nI 1), .int (nI k), .int (nI (tw_P k)), .int (nI (tw_D k)), .int (nI (tw_I k)), .ref mx, .ref my, .ref mr, .ref mb, .int sx, .int sy])), (mx, .inl (cA, 12, .inl fx)), (my, .inl (cA, 12, .inl fy)), (mr, .inl (cA, 8101, .inl fr)), (mb, .inl (cA, 5, .inl fb))] := hD
        refine lv_aload_n hx hb dX2_both_32 rfl (lv_at hl 0 rfl) ?_
        refine va_get (D := D) (ci := 2) (v := .int (nI 1)) (C := RX2) (T := TX2) (N := 11) hx hb ht inX2 hown hK hP 0 rfl rfl 0 (by decide) (ht _ kf_X2_30) (fun _ h9 => h9) rfl dX2_both_33 ?_
        refine nv_if_le (tgt := 41) hx hb dX2_both_36 (by decide) (by decide) (fun c8 => absurd c8 (by decide)) (fun _ => ?_)
        refine lv_iconst (v := (nI 0)) hx hb dX2_both_39 (by decide) ?_
        exact W.iret hx hb hr (fun t ht9 hW => ⟨⟨_, (), rfl, rfl, by rw [ht9]; exact hP, va_K.moved hW.alike hK, hD⟩, hS.F ht9⟩) hS.2.2 dX2_both_40
      · obtain ⟨n3, hn3, rfl⟩ := md_good b3
        rcases hz with q1 | q2 | q3 <;> contradiction
set_option maxHeartbeats 4000000 in
set_option maxRecDepth 100000 in
theorem c_X2_logR (l : Launch) (D : va_G) {k : Nat} (hk5 : k < 5) {m0 mx my mr mb : Nat} {th sx sy : Int32} {cA : ClassId} {fx fy fr fb : Nat → Int32} {z1 z2 : Int32} (hz : md_bad z1 ∨ md_bad z2) (sz : Nat) : Met l yX2_log wX2_log ({ frames := 1, cells := 0, slots := 0, locals := 20 }) (va_Pc [.ref m0, .int z1, .int z2] (wd_pre D [(cA, .int)] [(m0, .inr (2, [.int th, .int (nI k), .int (nI (tw_P k)), .int (nI (tw_D k)), .int (nI (tw_I k)), .ref mx, .ref my, .ref mr, .ref mb, .int sx, .int sy])), (mx, .inl (cA, 12, .inl fx)), (my, .inl (cA, 12, .inl fy)), (mr, .inl (cA, 8101, .inl fr)), (mb, .inl (cA, 5, .inl fb))] sz)) (va_Qi (fun (r : Int32) (u : Unit) => r = 0) (fun (u : Unit) t => wd_at D [(cA, .int)] (va_A [(m0, .inr (2, [.int th, .int (nI k), .int (nI (tw_P k)), .int (nI (tw_D k)), .int (nI (tw_I k)), .ref mx, .ref my, .ref mr, .ref mb, .int sx, .int sy])), (mx, .inl (cA, 12, .inl fx)), (my, .inl (cA, 12, .inl fy)), (mr, .inl (cA, 8101, .inl fr)), (mb, .inl (cA, 5, .inl fb))] sz) [(m0, .inr (2, [.int (nI 1), .int (nI k), .int (nI (tw_P k)), .int (nI (tw_D k)), .int (nI (tw_I k)), .ref mx, .ref my, .ref mr, .ref mb, .int sx, .int sy])), (mx, .inl (cA, 12, .inl fx)), (my, .inl (cA, 12, .inl fy)), (mr, .inl (cA, 8101, .inl fr)), (mb, .inl (cA, 5, .inl fb))] t) (va_A [(m0, .inr (2, [.int th, .int (nI k), .int (nI (tw_P k)), .int (nI (tw_D k)), .int (nI (tw_I k)), .ref mx, .ref my, .ref mr, .ref mb, .int sx, .int sy])), (mx, .inl (cA, 12, .inl fx)), (my, .inl (cA, 12, .inl fy)), (mr, .inl (cA, 8101, .inl fr)), (mb, .inl (cA, 5, .inl fb))] sz)) 0 0 (va_A [(m0, .inr (2, [.int th, .int (nI k), .int (nI (tw_P k)), .int (nI (tw_D k)), .int (nI (tw_I k)), .ref mx, .ref my, .ref mr, .ref mb, .int sx, .int sy])), (mx, .inl (cA, 12, .inl fx)), (my, .inl (cA, 12, .inl fy)), (mr, .inl (cA, 8101, .inl fr)), (mb, .inl (cA, 5, .inl fb))] sz) := by
  refine Met.ofW (cc := cX2_log) (maxL := 6) (ret := (some .int)) (by decide) rfl ?_
  intro p e s m args below meth c s₁ B hml hv
  obtain ⟨rfl, hsz, hP, hK, hD0⟩ := hv
  have hx := B.exec
  have hb := B.bytes
  have hr := B.returns
  have hts := atoms_spec (ws := wX2_log) B.pre
  have ht : ∀ w ∈ tb_all, w.before _ s = true := fun w h => hts w (List.mem_cons_of_mem _ h)
  have hown : s.vm.findClass RX2 = some m.cls := findClass_of_methodNamed B.named
  have hlocks := B.notSynchronized
  have hin : meth.name = "log" := (name_of_methodNamed B.named B.method).1
  subst hsz
  have hD := hD0.self (sz := s.heap.size)
  generalize hAe : va_A [(m0, .inr (2, [.int th, .int (nI k), .int (nI (tw_P k)), .int (nI (tw_D k)), .int (nI (tw_I k)), .ref mx, .ref my, .ref mr, .ref mb, .int sx, .int sy])), (mx, .inl (cA, 12, .inl fx)), (my, .inl (cA, 12, .inl fy)), (mr, .inl (cA, 8101, .inl fr)), (mb, .inl (cA, 5, .inl fb))] s.heap.size = A at hD ⊢
  have hA : ∀ q : Nat, s.heap.size ≤ q → A q := fun q h => by rw [← hAe]; exact Or.inr h
  have hS : va_S A s.heap s.heap [] := va_S.rf
  have hl := lv_entry ([.ref m0, .int z1, .int z2]) (n := 6) (Nat.le_of_ble_eq_true rfl)
  rw [lg_entry_eq]
  generalize (lg_sl ([.ref m0, .int z1, .int z2]) ++ List.replicate (6 - (lg_sl ([.ref m0, .int z1, .int z2])).length) Slot.unset).toArray = ls at hl ⊢
  have hl : lv_has ls 6 [(0, .ref m0), (1, .int z1), (2, .int z2)] := hl
  obtain ⟨hP0, hP2, hD2, hI2, hDP⟩ := tw_kb hk5
  have hK0 := tw_kK k hk5
  have hP8 : tw_P k ≤ 8192 := by omega
  have hN := tw_kN k hk5
  have zk : k ≤ 4 := by omega
  refine lv_aload_n hx hb dX2_log_0 rfl (lv_at hl 0 rfl) ?_
  refine lv_iload_n hx hb dX2_log_1 rfl (lv_at hl 1 rfl) ?_
  by_cases b1 : md_bad z1
  · refine vp_callSi (W.runS (As := [.int z1]) (rest := [.ref m0]) ⟨hx, hb, hml, hown, ht⟩ (c_X2_noneM l b1) (va_cwS 1 ht (tb_S kl_X2_76 kt_X2_none kn_X2 kc_X2_none) rfl rfl rfl kd_X2_none ⟨Nat.le_of_ble_eq_true rfl, Nat.le_of_ble_eq_true rfl⟩) (st_pre _) rfl rfl hl.1 rfl (lv_room (Nat.le_of_ble_eq_true rfl)) dX2_log_2 ⟨Nat.zero_le _, Nat.zero_le _⟩) (fun r hr9 => ?_)
    subst hr9
    refine lv_if_ne (tgt := 15) hx hb dX2_log_5 (by decide) (fun _ => ?_) (fun c9 => absurd c9 (by decide))
    refine lv_iconst (v := (nI 1)) hx hb dX2_log_15 (by decide) ?_
    refine lv_goto (tgt := 20) hx hb dX2_log_16 (by decide) ?_
    refine va_put (D := D) (ci := 2) (v := .int (nI 1)) (ty := .int) (C := RX2) (T := TX2) (N := 11) hx hb ht inX2 tyX2 tyX2_ok nmX2 hown hK hP hD hS 0 rfl rfl 0 (by decide) (ht _ kf_X2_30) (fun _ h9 => h9) rfl (by decide +kernel) rfl rfl (Nat.le_of_ble_eq_true rfl) dX2_log_20 (fun H locs hP hD hS => ?_)
    have hP : va_P D vwCl [(m0, .inr (2, [.int (nI 1), .int (nI k), .int (nI (tw_P k)), .int (nI (tw_D k)), .int (nI (tw_I k)), .ref mx, .ref my, .ref mr, .ref mb, .int sx, .int sy])), (mx, .inl (cA, 12, .inl fx)), (my, .inl (cA, 12, .inl fy)), (mr, .inl (cA, 8101, .inl fr)), (mb, .inl (cA, 5, .inl fb))] H := hP
    have hD : va_D A [(m0, .inr (2, [.int (nI 1), .int (nI k), .int (nI (tw_P k)), .int (nI (tw_D k)), .int (nI (tw_I k)), .ref mx, .ref my, .ref mr, .ref mb, .int sx, .int sy])), (mx, .inl (cA, 12, .inl fx)), (my, .inl (cA, 12, .inl fy)), (mr, .inl (cA, 8101, .inl fr)), (mb, .inl (cA, 5, .inl fb))] := hD
    refine lv_aload_n hx hb dX2_log_23 rfl (lv_at hl 0 rfl) ?_
    refine va_get (D := D) (ci := 2) (v := .int (nI 1)) (C := RX2) (T := TX2) (N := 11) hx hb ht inX2 hown hK hP 0 rfl rfl 0 (by decide) (ht _ kf_X2_30) (fun _ h9 => h9) rfl dX2_log_24 ?_
    refine nv_if_le (tgt := 32) hx hb dX2_log_27 (by decide) (by decide) (fun c8 => absurd c8 (by decide)) (fun _ => ?_)
    refine lv_iconst (v := (nI 0)) hx hb dX2_log_30 (by decide) ?_
    exact W.iret hx hb hr (fun t ht9 hW => ⟨⟨_, (), rfl, rfl, by rw [ht9]; exact hP, va_K.moved hW.alike hK, hD⟩, hS.F ht9⟩) hS.2.2 dX2_log_31
  · obtain ⟨n1, hn1, rfl⟩ := md_good b1
    refine vp_callSi (W.runS (As := [.int (nI n1)]) (rest := [.ref m0]) ⟨hx, hb, hml, hown, ht⟩ (c_X2_none l hn1) (va_cwS 1 ht (tb_S kl_X2_76 kt_X2_none kn_X2 kc_X2_none) rfl rfl rfl kd_X2_none ⟨Nat.le_of_ble_eq_true rfl, Nat.le_of_ble_eq_true rfl⟩) (st_pre _) rfl rfl hl.1 rfl (lv_room (Nat.le_of_ble_eq_true rfl)) dX2_log_2 ⟨Nat.zero_le _, Nat.zero_le _⟩) (fun r hr9 => ?_)
    subst hr9
    refine lv_if_ne (tgt := 15) hx hb dX2_log_5 (by decide) (fun c9 => absurd rfl c9) (fun _ => ?_)
    refine lv_iload_n hx hb dX2_log_8 rfl (lv_at hl 2 rfl) ?_
    by_cases b2 : md_bad z2
    · refine vp_callSi (W.runS (As := [.int z2]) (rest := [.ref m0]) ⟨hx, hb, hml, hown, ht⟩ (c_X2_noneM l b2) (va_cwS 1 ht (tb_S kl_X2_76 kt_X2_none kn_X2 kc_X2_none) rfl rfl rfl kd_X2_none ⟨Nat.le_of_ble_eq_true rfl, Nat.le_of_ble_eq_true rfl⟩) (st_pre _) rfl rfl hl.1 rfl (lv_room (Nat.le_of_ble_eq_true rfl)) dX2_log_9 ⟨Nat.zero_le _, Nat.zero_le _⟩) (fun r hr9 => ?_)
      subst hr9
      refine lv_if_eq (tgt := 19) hx hb dX2_log_12 (by decide) (fun c9 => absurd c9 (by decide)) (fun _ => ?_)
      refine lv_iconst (v := (nI 1)) hx hb dX2_log_15 (by decide) ?_
      refine lv_goto (tgt := 20) hx hb dX2_log_16 (by decide) ?_
      refine va_put (D := D) (ci := 2) (v := .int (nI 1)) (ty := .int) (C := RX2) (T := TX2) (N := 11) hx hb ht inX2 tyX2 tyX2_ok nmX2 hown hK hP hD hS 0 rfl rfl 0 (by decide) (ht _ kf_X2_30) (fun _ h9 => h9) rfl (by decide +kernel) rfl rfl (Nat.le_of_ble_eq_true rfl) dX2_log_20 (fun H locs hP hD hS => ?_)
      have hP : va_P D vwCl [(m0, .inr (2, [.int (nI 1), .int (nI k), .int (nI (tw_P k)), .int (nI (tw_D k)), .int (nI (tw_I k)), .ref mx, .ref my, .ref mr, .ref mb, .int sx, .int sy])), (mx, .inl (cA, 12, .inl fx)), (my, .inl (cA, 12, .inl fy)), (mr, .inl (cA, 8101, .inl fr)), (mb, .inl (cA, 5, .inl fb))] H := hP
      have hD : va_D A [(m0, .inr (2, [.int (nI 1), .int (nI k), .int (nI (tw_P k)), .int (nI (tw_D k)), .int (nI (tw_I k)), .ref mx, .ref my, .ref mr, .ref mb, .int sx, .int sy])), (mx, .inl (cA, 12, .inl fx)), (my, .inl (cA, 12, .inl fy)), (mr, .inl (cA, 8101, .inl fr)), (mb, .inl (cA, 5, .inl fb))] := hD
      refine lv_aload_n hx hb dX2_log_23 rfl (lv_at hl 0 rfl) ?_
      refine va_get (D := D) (ci := 2) (v := .int (nI 1)) (C := RX2) (T := TX2) (N := 11) hx hb ht inX2 hown hK hP 0 rfl rfl 0 (by decide) (ht _ kf_X2_30) (fun _ h9 => h9) rfl dX2_log_24 ?_
      refine nv_if_le (tgt := 32) hx hb dX2_log_27 (by decide) (by decide) (fun c8 => absurd c8 (by decide)) (fun _ => ?_)
      refine lv_iconst (v := (nI 0)) hx hb dX2_log_30 (by decide) ?_
      exact W.iret hx hb hr (fun t ht9 hW => ⟨⟨_, (), rfl, rfl, by rw [ht9]; exact hP, va_K.moved hW.alike hK, hD⟩, hS.F ht9⟩) hS.2.2 dX2_log_31
    · obtain ⟨n2, hn2, rfl⟩ := md_good b2
      rcases hz with q1 | q2 <;> contradiction
set_option maxHeartbeats 4000000 in
set_option maxRecDepth 100000 in
theorem c_X2_halfR (l : Launch) (D : va_G) {k : Nat} (hk5 : k < 5) {m0 mx my mr mb : Nat} {th sx sy : Int32} {cA : ClassId} {fx fy fr fb : Nat → Int32} {z1 z2 : Int32} (hz : md_bad z1 ∨ md_bad z2) (sz : Nat) : Met l yX2_half wX2_half ({ frames := 1, cells := 0, slots := 0, locals := 20 }) (va_Pc [.ref m0, .int z1, .int z2] (wd_pre D [(cA, .int)] [(m0, .inr (2, [.int th, .int (nI k), .int (nI (tw_P k)), .int (nI (tw_D k)), .int (nI (tw_I k)), .ref mx, .ref my, .ref mr, .ref mb, .int sx, .int sy])), (mx, .inl (cA, 12, .inl fx)), (my, .inl (cA, 12, .inl fy)), (mr, .inl (cA, 8101, .inl fr)), (mb, .inl (cA, 5, .inl fb))] sz)) (va_Qi (fun (r : Int32) (u : Unit) => r = 0) (fun (u : Unit) t => wd_at D [(cA, .int)] (va_A [(m0, .inr (2, [.int th, .int (nI k), .int (nI (tw_P k)), .int (nI (tw_D k)), .int (nI (tw_I k)), .ref mx, .ref my, .ref mr, .ref mb, .int sx, .int sy])), (mx, .inl (cA, 12, .inl fx)), (my, .inl (cA, 12, .inl fy)), (mr, .inl (cA, 8101, .inl fr)), (mb, .inl (cA, 5, .inl fb))] sz) [(m0, .inr (2, [.int (nI 1), .int (nI k), .int (nI (tw_P k)), .int (nI (tw_D k)), .int (nI (tw_I k)), .ref mx, .ref my, .ref mr, .ref mb, .int sx, .int sy])), (mx, .inl (cA, 12, .inl fx)), (my, .inl (cA, 12, .inl fy)), (mr, .inl (cA, 8101, .inl fr)), (mb, .inl (cA, 5, .inl fb))] t) (va_A [(m0, .inr (2, [.int th, .int (nI k), .int (nI (tw_P k)), .int (nI (tw_D k)), .int (nI (tw_I k)), .ref mx, .ref my, .ref mr, .ref mb, .int sx, .int sy])), (mx, .inl (cA, 12, .inl fx)), (my, .inl (cA, 12, .inl fy)), (mr, .inl (cA, 8101, .inl fr)), (mb, .inl (cA, 5, .inl fb))] sz)) 0 0 (va_A [(m0, .inr (2, [.int th, .int (nI k), .int (nI (tw_P k)), .int (nI (tw_D k)), .int (nI (tw_I k)), .ref mx, .ref my, .ref mr, .ref mb, .int sx, .int sy])), (mx, .inl (cA, 12, .inl fx)), (my, .inl (cA, 12, .inl fy)), (mr, .inl (cA, 8101, .inl fr)), (mb, .inl (cA, 5, .inl fb))] sz) := by
  refine Met.ofW (cc := cX2_half) (maxL := 7) (ret := (some .int)) (by decide) rfl ?_
  intro p e s m args below meth c s₁ B hml hv
  obtain ⟨rfl, hsz, hP, hK, hD0⟩ := hv
  have hx := B.exec
  have hb := B.bytes
  have hr := B.returns
  have hts := atoms_spec (ws := wX2_half) B.pre
  have ht : ∀ w ∈ tb_all, w.before _ s = true := fun w h => hts w (List.mem_cons_of_mem _ h)
  have hown : s.vm.findClass RX2 = some m.cls := findClass_of_methodNamed B.named
  have hlocks := B.notSynchronized
  have hin : meth.name = "half" := (name_of_methodNamed B.named B.method).1
  subst hsz
  have hD := hD0.self (sz := s.heap.size)
  generalize hAe : va_A [(m0, .inr (2, [.int th, .int (nI k), .int (nI (tw_P k)), .int (nI (tw_D k)), .int (nI (tw_I k)), .ref mx, .ref my, .ref mr, .ref mb, .int sx, .int sy])), (mx, .inl (cA, 12, .inl fx)), (my, .inl (cA, 12, .inl fy)), (mr, .inl (cA, 8101, .inl fr)), (mb, .inl (cA, 5, .inl fb))] s.heap.size = A at hD ⊢
  have hA : ∀ q : Nat, s.heap.size ≤ q → A q := fun q h => by rw [← hAe]; exact Or.inr h
  have hS : va_S A s.heap s.heap [] := va_S.rf
  have hl := lv_entry ([.ref m0, .int z1, .int z2]) (n := 7) (Nat.le_of_ble_eq_true rfl)
  rw [lg_entry_eq]
  generalize (lg_sl ([.ref m0, .int z1, .int z2]) ++ List.replicate (7 - (lg_sl ([.ref m0, .int z1, .int z2])).length) Slot.unset).toArray = ls at hl ⊢
  have hl : lv_has ls 7 [(0, .ref m0), (1, .int z1), (2, .int z2)] := hl
  obtain ⟨hP0, hP2, hD2, hI2, hDP⟩ := tw_kb hk5
  have hK0 := tw_kK k hk5
  have hP8 : tw_P k ≤ 8192 := by omega
  have hN := tw_kN k hk5
  have zk : k ≤ 4 := by omega
  refine lv_aload_n hx hb dX2_half_0 rfl (lv_at hl 0 rfl) ?_
  refine lv_iload_n hx hb dX2_half_1 rfl (lv_at hl 1 rfl) ?_
  by_cases b1 : md_bad z1
  · refine vp_callSi (W.runS (As := [.int z1]) (rest := [.ref m0]) ⟨hx, hb, hml, hown, ht⟩ (c_X2_noneM l b1) (va_cwS 1 ht (tb_S kl_X2_76 kt_X2_none kn_X2 kc_X2_none) rfl rfl rfl kd_X2_none ⟨Nat.le_of_ble_eq_true rfl, Nat.le_of_ble_eq_true rfl⟩) (st_pre _) rfl rfl hl.1 rfl (lv_room (Nat.le_of_ble_eq_true rfl)) dX2_half_2 ⟨Nat.zero_le _, Nat.zero_le _⟩) (fun r hr9 => ?_)
    subst hr9
    refine lv_if_ne (tgt := 15) hx hb dX2_half_5 (by decide) (fun _ => ?_) (fun c9 => absurd c9 (by decide))
    refine lv_iconst (v := (nI 1)) hx hb dX2_half_15 (by decide) ?_
    refine lv_goto (tgt := 20) hx hb dX2_half_16 (by decide) ?_
    refine va_put (D := D) (ci := 2) (v := .int (nI 1)) (ty := .int) (C := RX2) (T := TX2) (N := 11) hx hb ht inX2 tyX2 tyX2_ok nmX2 hown hK hP hD hS 0 rfl rfl 0 (by decide) (ht _ kf_X2_30) (fun _ h9 => h9) rfl (by decide +kernel) rfl rfl (Nat.le_of_ble_eq_true rfl) dX2_half_20 (fun H locs hP hD hS => ?_)
    have hP : va_P D vwCl [(m0, .inr (2, [.int (nI 1), .int (nI k), .int (nI (tw_P k)), .int (nI (tw_D k)), .int (nI (tw_I k)), .ref mx, .ref my, .ref mr, .ref mb, .int sx, .int sy])), (mx, .inl (cA, 12, .inl fx)), (my, .inl (cA, 12, .inl fy)), (mr, .inl (cA, 8101, .inl fr)), (mb, .inl (cA, 5, .inl fb))] H := hP
    have hD : va_D A [(m0, .inr (2, [.int (nI 1), .int (nI k), .int (nI (tw_P k)), .int (nI (tw_D k)), .int (nI (tw_I k)), .ref mx, .ref my, .ref mr, .ref mb, .int sx, .int sy])), (mx, .inl (cA, 12, .inl fx)), (my, .inl (cA, 12, .inl fy)), (mr, .inl (cA, 8101, .inl fr)), (mb, .inl (cA, 5, .inl fb))] := hD
    refine lv_aload_n hx hb dX2_half_23 rfl (lv_at hl 0 rfl) ?_
    refine va_get (D := D) (ci := 2) (v := .int (nI 1)) (C := RX2) (T := TX2) (N := 11) hx hb ht inX2 hown hK hP 0 rfl rfl 0 (by decide) (ht _ kf_X2_30) (fun _ h9 => h9) rfl dX2_half_24 ?_
    refine nv_if_le (tgt := 32) hx hb dX2_half_27 (by decide) (by decide) (fun c8 => absurd c8 (by decide)) (fun _ => ?_)
    refine lv_iconst (v := (nI 0)) hx hb dX2_half_30 (by decide) ?_
    exact W.iret hx hb hr (fun t ht9 hW => ⟨⟨_, (), rfl, rfl, by rw [ht9]; exact hP, va_K.moved hW.alike hK, hD⟩, hS.F ht9⟩) hS.2.2 dX2_half_31
  · obtain ⟨n1, hn1, rfl⟩ := md_good b1
    refine vp_callSi (W.runS (As := [.int (nI n1)]) (rest := [.ref m0]) ⟨hx, hb, hml, hown, ht⟩ (c_X2_none l hn1) (va_cwS 1 ht (tb_S kl_X2_76 kt_X2_none kn_X2 kc_X2_none) rfl rfl rfl kd_X2_none ⟨Nat.le_of_ble_eq_true rfl, Nat.le_of_ble_eq_true rfl⟩) (st_pre _) rfl rfl hl.1 rfl (lv_room (Nat.le_of_ble_eq_true rfl)) dX2_half_2 ⟨Nat.zero_le _, Nat.zero_le _⟩) (fun r hr9 => ?_)
    subst hr9
    refine lv_if_ne (tgt := 15) hx hb dX2_half_5 (by decide) (fun c9 => absurd rfl c9) (fun _ => ?_)
    refine lv_iload_n hx hb dX2_half_8 rfl (lv_at hl 2 rfl) ?_
    by_cases b2 : md_bad z2
    · refine vp_callSi (W.runS (As := [.int z2]) (rest := [.ref m0]) ⟨hx, hb, hml, hown, ht⟩ (c_X2_noneM l b2) (va_cwS 1 ht (tb_S kl_X2_76 kt_X2_none kn_X2 kc_X2_none) rfl rfl rfl kd_X2_none ⟨Nat.le_of_ble_eq_true rfl, Nat.le_of_ble_eq_true rfl⟩) (st_pre _) rfl rfl hl.1 rfl (lv_room (Nat.le_of_ble_eq_true rfl)) dX2_half_9 ⟨Nat.zero_le _, Nat.zero_le _⟩) (fun r hr9 => ?_)
      subst hr9
      refine lv_if_eq (tgt := 19) hx hb dX2_half_12 (by decide) (fun c9 => absurd c9 (by decide)) (fun _ => ?_)
      refine lv_iconst (v := (nI 1)) hx hb dX2_half_15 (by decide) ?_
      refine lv_goto (tgt := 20) hx hb dX2_half_16 (by decide) ?_
      refine va_put (D := D) (ci := 2) (v := .int (nI 1)) (ty := .int) (C := RX2) (T := TX2) (N := 11) hx hb ht inX2 tyX2 tyX2_ok nmX2 hown hK hP hD hS 0 rfl rfl 0 (by decide) (ht _ kf_X2_30) (fun _ h9 => h9) rfl (by decide +kernel) rfl rfl (Nat.le_of_ble_eq_true rfl) dX2_half_20 (fun H locs hP hD hS => ?_)
      have hP : va_P D vwCl [(m0, .inr (2, [.int (nI 1), .int (nI k), .int (nI (tw_P k)), .int (nI (tw_D k)), .int (nI (tw_I k)), .ref mx, .ref my, .ref mr, .ref mb, .int sx, .int sy])), (mx, .inl (cA, 12, .inl fx)), (my, .inl (cA, 12, .inl fy)), (mr, .inl (cA, 8101, .inl fr)), (mb, .inl (cA, 5, .inl fb))] H := hP
      have hD : va_D A [(m0, .inr (2, [.int (nI 1), .int (nI k), .int (nI (tw_P k)), .int (nI (tw_D k)), .int (nI (tw_I k)), .ref mx, .ref my, .ref mr, .ref mb, .int sx, .int sy])), (mx, .inl (cA, 12, .inl fx)), (my, .inl (cA, 12, .inl fy)), (mr, .inl (cA, 8101, .inl fr)), (mb, .inl (cA, 5, .inl fb))] := hD
      refine lv_aload_n hx hb dX2_half_23 rfl (lv_at hl 0 rfl) ?_
      refine va_get (D := D) (ci := 2) (v := .int (nI 1)) (C := RX2) (T := TX2) (N := 11) hx hb ht inX2 hown hK hP 0 rfl rfl 0 (by decide) (ht _ kf_X2_30) (fun _ h9 => h9) rfl dX2_half_24 ?_
      refine nv_if_le (tgt := 32) hx hb dX2_half_27 (by decide) (by decide) (fun c8 => absurd c8 (by decide)) (fun _ => ?_)
      refine lv_iconst (v := (nI 0)) hx hb dX2_half_30 (by decide) ?_
      exact W.iret hx hb hr (fun t ht9 hW => ⟨⟨_, (), rfl, rfl, by rw [ht9]; exact hP, va_K.moved hW.alike hK, hD⟩, hS.F ht9⟩) hS.2.2 dX2_half_31
    · obtain ⟨n2, hn2, rfl⟩ := md_good b2
      rcases hz with q1 | q2 <;> contradiction
set_option maxHeartbeats 4000000 in
set_option maxRecDepth 100000 in
theorem c_X2_signR (l : Launch) (D : va_G) {k : Nat} (hk5 : k < 5) {m0 mx my mr mb : Nat} {th sx sy : Int32} {cA : ClassId} {fx fy fr fb : Nat → Int32} {z1 y1 y2 : Int32} (hz : md_bad z1) (sz : Nat) : Met l yX2_sign wX2_sign ({ frames := 1, cells := 0, slots := 0, locals := 20 }) (va_Pc [.ref m0, .int z1, .int y1, .int y2] (wd_pre D [(cA, .int)] [(m0, .inr (2, [.int th, .int (nI k), .int (nI (tw_P k)), .int (nI (tw_D k)), .int (nI (tw_I k)), .ref mx, .ref my, .ref mr, .ref mb, .int sx, .int sy])), (mx, .inl (cA, 12, .inl fx)), (my, .inl (cA, 12, .inl fy)), (mr, .inl (cA, 8101, .inl fr)), (mb, .inl (cA, 5, .inl fb))] sz)) (va_Ql (fun (r : Int64) (u : Unit) => r = lN 0) (fun (u : Unit) t => wd_at D [(cA, .int)] (va_A [(m0, .inr (2, [.int th, .int (nI k), .int (nI (tw_P k)), .int (nI (tw_D k)), .int (nI (tw_I k)), .ref mx, .ref my, .ref mr, .ref mb, .int sx, .int sy])), (mx, .inl (cA, 12, .inl fx)), (my, .inl (cA, 12, .inl fy)), (mr, .inl (cA, 8101, .inl fr)), (mb, .inl (cA, 5, .inl fb))] sz) [(m0, .inr (2, [.int (nI 1), .int (nI k), .int (nI (tw_P k)), .int (nI (tw_D k)), .int (nI (tw_I k)), .ref mx, .ref my, .ref mr, .ref mb, .int sx, .int sy])), (mx, .inl (cA, 12, .inl fx)), (my, .inl (cA, 12, .inl fy)), (mr, .inl (cA, 8101, .inl fr)), (mb, .inl (cA, 5, .inl fb))] t) (va_A [(m0, .inr (2, [.int th, .int (nI k), .int (nI (tw_P k)), .int (nI (tw_D k)), .int (nI (tw_I k)), .ref mx, .ref my, .ref mr, .ref mb, .int sx, .int sy])), (mx, .inl (cA, 12, .inl fx)), (my, .inl (cA, 12, .inl fy)), (mr, .inl (cA, 8101, .inl fr)), (mb, .inl (cA, 5, .inl fb))] sz)) 0 0 (va_A [(m0, .inr (2, [.int th, .int (nI k), .int (nI (tw_P k)), .int (nI (tw_D k)), .int (nI (tw_I k)), .ref mx, .ref my, .ref mr, .ref mb, .int sx, .int sy])), (mx, .inl (cA, 12, .inl fx)), (my, .inl (cA, 12, .inl fy)), (mr, .inl (cA, 8101, .inl fr)), (mb, .inl (cA, 5, .inl fb))] sz) := by
  refine Met.ofW (cc := cX2_sign) (maxL := 10) (ret := (some .long)) (by decide) rfl ?_
  intro p e s m args below meth c s₁ B hml hv
  obtain ⟨rfl, hsz, hP, hK, hD0⟩ := hv
  have hx := B.exec
  have hb := B.bytes
  have hr := B.returns
  have hts := atoms_spec (ws := wX2_sign) B.pre
  have ht : ∀ w ∈ tb_all, w.before _ s = true := fun w h => hts w (List.mem_cons_of_mem _ h)
  have hown : s.vm.findClass RX2 = some m.cls := findClass_of_methodNamed B.named
  have hlocks := B.notSynchronized
  have hin : meth.name = "sign" := (name_of_methodNamed B.named B.method).1
  subst hsz
  have hD := hD0.self (sz := s.heap.size)
  generalize hAe : va_A [(m0, .inr (2, [.int th, .int (nI k), .int (nI (tw_P k)), .int (nI (tw_D k)), .int (nI (tw_I k)), .ref mx, .ref my, .ref mr, .ref mb, .int sx, .int sy])), (mx, .inl (cA, 12, .inl fx)), (my, .inl (cA, 12, .inl fy)), (mr, .inl (cA, 8101, .inl fr)), (mb, .inl (cA, 5, .inl fb))] s.heap.size = A at hD ⊢
  have hA : ∀ q : Nat, s.heap.size ≤ q → A q := fun q h => by rw [← hAe]; exact Or.inr h
  have hS : va_S A s.heap s.heap [] := va_S.rf
  have hl := lv_entry ([.ref m0, .int z1, .int y1, .int y2]) (n := 10) (Nat.le_of_ble_eq_true rfl)
  rw [lg_entry_eq]
  generalize (lg_sl ([.ref m0, .int z1, .int y1, .int y2]) ++ List.replicate (10 - (lg_sl ([.ref m0, .int z1, .int y1, .int y2])).length) Slot.unset).toArray = ls at hl ⊢
  have hl : lv_has ls 10 [(0, .ref m0), (1, .int z1), (2, .int y1), (3, .int y2)] := hl
  obtain ⟨hP0, hP2, hD2, hI2, hDP⟩ := tw_kb hk5
  have hK0 := tw_kK k hk5
  have hP8 : tw_P k ≤ 8192 := by omega
  have hN := tw_kN k hk5
  have zk : k ≤ 4 := by omega
  refine lv_aload_n hx hb dX2_sign_0 rfl (lv_at hl 0 rfl) ?_
  refine lv_iload_n hx hb dX2_sign_1 rfl (lv_at hl 1 rfl) ?_
  by_cases b1 : md_bad z1
  · refine vp_callSi (W.runS (As := [.int z1]) (rest := [.ref m0]) ⟨hx, hb, hml, hown, ht⟩ (c_X2_noneM l b1) (va_cwS 1 ht (tb_S kl_X2_76 kt_X2_none kn_X2 kc_X2_none) rfl rfl rfl kd_X2_none ⟨Nat.le_of_ble_eq_true rfl, Nat.le_of_ble_eq_true rfl⟩) (st_pre _) rfl rfl hl.1 rfl (lv_room (Nat.le_of_ble_eq_true rfl)) dX2_sign_2 ⟨Nat.zero_le _, Nat.zero_le _⟩) (fun r hr9 => ?_)
    subst hr9
    refine lv_if_eq (tgt := 12) hx hb dX2_sign_5 (by decide) (fun c9 => absurd c9 (by decide)) (fun _ => ?_)
    refine lv_iconst (v := (nI 1)) hx hb dX2_sign_8 (by decide) ?_
    refine lv_goto (tgt := 60) hx hb dX2_sign_9 (by decide) ?_
    refine va_put (D := D) (ci := 2) (v := .int (nI 1)) (ty := .int) (C := RX2) (T := TX2) (N := 11) hx hb ht inX2 tyX2 tyX2_ok nmX2 hown hK hP hD hS 0 rfl rfl 0 (by decide) (ht _ kf_X2_30) (fun _ h9 => h9) rfl (by decide +kernel) rfl rfl (Nat.le_of_ble_eq_true rfl) dX2_sign_60 (fun H locs hP hD hS => ?_)
    have hP : va_P D vwCl [(m0, .inr (2, [.int (nI 1), .int (nI k), .int (nI (tw_P k)), .int (nI (tw_D k)), .int (nI (tw_I k)), .ref mx, .ref my, .ref mr, .ref mb, .int sx, .int sy])), (mx, .inl (cA, 12, .inl fx)), (my, .inl (cA, 12, .inl fy)), (mr, .inl (cA, 8101, .inl fr)), (mb, .inl (cA, 5, .inl fb))] H := hP
    have hD : va_D A [(m0, .inr (2, [.int (nI 1), .int (nI k), .int (nI (tw_P k)), .int (nI (tw_D k)), .int (nI (tw_I k)), .ref mx, .ref my, .ref mr, .ref mb, .int sx, .int sy])), (mx, .inl (cA, 12, .inl fx)), (my, .inl (cA, 12, .inl fy)), (mr, .inl (cA, 8101, .inl fr)), (mb, .inl (cA, 5, .inl fb))] := hD
    refine lv_aload_n hx hb dX2_sign_63 rfl (lv_at hl 0 rfl) ?_
    refine va_get (D := D) (ci := 2) (v := .int (nI 1)) (C := RX2) (T := TX2) (N := 11) hx hb ht inX2 hown hK hP 0 rfl rfl 0 (by decide) (ht _ kf_X2_30) (fun _ h9 => h9) rfl dX2_sign_64 ?_
    refine nv_if_le (tgt := 72) hx hb dX2_sign_67 (by decide) (by decide) (fun c8 => absurd c8 (by decide)) (fun _ => ?_)
    refine lv_lconst (v := lN 0) hx hb dX2_sign_70 (by decide) ?_
    exact W.lret hx hb hr (fun t ht9 hW => ⟨⟨_, (), rfl, rfl, by rw [ht9]; exact hP, va_K.moved hW.alike hK, hD⟩, hS.F ht9⟩) hS.2.2 dX2_sign_71
  · obtain ⟨n1, hn1, rfl⟩ := md_good b1
    contradiction
set_option maxHeartbeats 4000000 in
set_option maxRecDepth 100000 in
theorem c_X2_verifyR (l : Launch) (D : va_G) {k : Nat} (hk5 : k < 5) {m0 mx my mr mb : Nat} {th sx sy : Int32} {cA : ClassId} {fx fy fr fb : Nat → Int32} {z1 z2 y1 : Int32} {l1 : Int64} (hz : md_bad z1 ∨ md_bad z2) (sz : Nat) : Met l yX2_verify wX2_verify ({ frames := 1, cells := 0, slots := 0, locals := 20 }) (va_Pc [.ref m0, .int z1, .int z2, .int y1, .long l1] (wd_pre D [(cA, .int)] [(m0, .inr (2, [.int th, .int (nI k), .int (nI (tw_P k)), .int (nI (tw_D k)), .int (nI (tw_I k)), .ref mx, .ref my, .ref mr, .ref mb, .int sx, .int sy])), (mx, .inl (cA, 12, .inl fx)), (my, .inl (cA, 12, .inl fy)), (mr, .inl (cA, 8101, .inl fr)), (mb, .inl (cA, 5, .inl fb))] sz)) (va_Qi (fun (r : Int32) (u : Unit) => r = 0) (fun (u : Unit) t => wd_at D [(cA, .int)] (va_A [(m0, .inr (2, [.int th, .int (nI k), .int (nI (tw_P k)), .int (nI (tw_D k)), .int (nI (tw_I k)), .ref mx, .ref my, .ref mr, .ref mb, .int sx, .int sy])), (mx, .inl (cA, 12, .inl fx)), (my, .inl (cA, 12, .inl fy)), (mr, .inl (cA, 8101, .inl fr)), (mb, .inl (cA, 5, .inl fb))] sz) [(m0, .inr (2, [.int (nI 1), .int (nI k), .int (nI (tw_P k)), .int (nI (tw_D k)), .int (nI (tw_I k)), .ref mx, .ref my, .ref mr, .ref mb, .int sx, .int sy])), (mx, .inl (cA, 12, .inl fx)), (my, .inl (cA, 12, .inl fy)), (mr, .inl (cA, 8101, .inl fr)), (mb, .inl (cA, 5, .inl fb))] t) (va_A [(m0, .inr (2, [.int th, .int (nI k), .int (nI (tw_P k)), .int (nI (tw_D k)), .int (nI (tw_I k)), .ref mx, .ref my, .ref mr, .ref mb, .int sx, .int sy])), (mx, .inl (cA, 12, .inl fx)), (my, .inl (cA, 12, .inl fy)), (mr, .inl (cA, 8101, .inl fr)), (mb, .inl (cA, 5, .inl fb))] sz)) 0 0 (va_A [(m0, .inr (2, [.int th, .int (nI k), .int (nI (tw_P k)), .int (nI (tw_D k)), .int (nI (tw_I k)), .ref mx, .ref my, .ref mr, .ref mb, .int sx, .int sy])), (mx, .inl (cA, 12, .inl fx)), (my, .inl (cA, 12, .inl fy)), (mr, .inl (cA, 8101, .inl fr)), (mb, .inl (cA, 5, .inl fb))] sz) := by
  refine Met.ofW (cc := cX2_verify) (maxL := 9) (ret := (some .boolean)) (by decide) rfl ?_
  intro p e s m args below meth c s₁ B hml hv
  obtain ⟨rfl, hsz, hP, hK, hD0⟩ := hv
  have hx := B.exec
  have hb := B.bytes
  have hr := B.returns
  have hts := atoms_spec (ws := wX2_verify) B.pre
  have ht : ∀ w ∈ tb_all, w.before _ s = true := fun w h => hts w (List.mem_cons_of_mem _ h)
  have hown : s.vm.findClass RX2 = some m.cls := findClass_of_methodNamed B.named
  have hlocks := B.notSynchronized
  have hin : meth.name = "verify" := (name_of_methodNamed B.named B.method).1
  subst hsz
  have hD := hD0.self (sz := s.heap.size)
  generalize hAe : va_A [(m0, .inr (2, [.int th, .int (nI k), .int (nI (tw_P k)), .int (nI (tw_D k)), .int (nI (tw_I k)), .ref mx, .ref my, .ref mr, .ref mb, .int sx, .int sy])), (mx, .inl (cA, 12, .inl fx)), (my, .inl (cA, 12, .inl fy)), (mr, .inl (cA, 8101, .inl fr)), (mb, .inl (cA, 5, .inl fb))] s.heap.size = A at hD ⊢
  have hA : ∀ q : Nat, s.heap.size ≤ q → A q := fun q h => by rw [← hAe]; exact Or.inr h
  have hS : va_S A s.heap s.heap [] := va_S.rf
  have hl := lv_entry ([.ref m0, .int z1, .int z2, .int y1, .long l1]) (n := 9) (Nat.le_of_ble_eq_true rfl)
  rw [lg_entry_eq]
  generalize (lg_sl ([.ref m0, .int z1, .int z2, .int y1, .long l1]) ++ List.replicate (9 - (lg_sl ([.ref m0, .int z1, .int z2, .int y1, .long l1])).length) Slot.unset).toArray = ls at hl ⊢
  have hl : lv_has ls 9 [(0, .ref m0), (1, .int z1), (2, .int z2), (3, .int y1), (4, .long l1)] := hl
  obtain ⟨hP0, hP2, hD2, hI2, hDP⟩ := tw_kb hk5
  have hK0 := tw_kK k hk5
  have hP8 : tw_P k ≤ 8192 := by omega
  have hN := tw_kN k hk5
  have zk : k ≤ 4 := by omega
  refine lv_aload_n hx hb dX2_verify_0 rfl (lv_at hl 0 rfl) ?_
  refine lv_iload_n hx hb dX2_verify_1 rfl (lv_at hl 1 rfl) ?_
  by_cases b1 : md_bad z1
  · refine vp_callSi (W.runS (As := [.int z1]) (rest := [.ref m0]) ⟨hx, hb, hml, hown, ht⟩ (c_X2_noneM l b1) (va_cwS 1 ht (tb_S kl_X2_76 kt_X2_none kn_X2 kc_X2_none) rfl rfl rfl kd_X2_none ⟨Nat.le_of_ble_eq_true rfl, Nat.le_of_ble_eq_true rfl⟩) (st_pre _) rfl rfl hl.1 rfl (lv_room (Nat.le_of_ble_eq_true rfl)) dX2_verify_2 ⟨Nat.zero_le _, Nat.zero_le _⟩) (fun r hr9 => ?_)
    subst hr9
    refine lv_if_ne (tgt := 15) hx hb dX2_verify_5 (by decide) (fun _ => ?_) (fun c9 => absurd c9 (by decide))
    refine lv_iconst (v := (nI 1)) hx hb dX2_verify_15 (by decide) ?_
    refine lv_goto (tgt := 34) hx hb dX2_verify_16 (by decide) ?_
    refine va_put (D := D) (ci := 2) (v := .int (nI 1)) (ty := .int) (C := RX2) (T := TX2) (N := 11) hx hb ht inX2 tyX2 tyX2_ok nmX2 hown hK hP hD hS 0 rfl rfl 0 (by decide) (ht _ kf_X2_30) (fun _ h9 => h9) rfl (by decide +kernel) rfl rfl (Nat.le_of_ble_eq_true rfl) dX2_verify_34 (fun H locs hP hD hS => ?_)
    have hP : va_P D vwCl [(m0, .inr (2, [.int (nI 1), .int (nI k), .int (nI (tw_P k)), .int (nI (tw_D k)), .int (nI (tw_I k)), .ref mx, .ref my, .ref mr, .ref mb, .int sx, .int sy])), (mx, .inl (cA, 12, .inl fx)), (my, .inl (cA, 12, .inl fy)), (mr, .inl (cA, 8101, .inl fr)), (mb, .inl (cA, 5, .inl fb))] H := hP
    have hD : va_D A [(m0, .inr (2, [.int (nI 1), .int (nI k), .int (nI (tw_P k)), .int (nI (tw_D k)), .int (nI (tw_I k)), .ref mx, .ref my, .ref mr, .ref mb, .int sx, .int sy])), (mx, .inl (cA, 12, .inl fx)), (my, .inl (cA, 12, .inl fy)), (mr, .inl (cA, 8101, .inl fr)), (mb, .inl (cA, 5, .inl fb))] := hD
    refine lv_aload_n hx hb dX2_verify_37 rfl (lv_at hl 0 rfl) ?_
    refine va_get (D := D) (ci := 2) (v := .int (nI 1)) (C := RX2) (T := TX2) (N := 11) hx hb ht inX2 hown hK hP 0 rfl rfl 0 (by decide) (ht _ kf_X2_30) (fun _ h9 => h9) rfl dX2_verify_38 ?_
    refine nv_if_gt (tgt := 60) hx hb dX2_verify_41 (by decide) (by decide) (fun _ => ?_) (fun c8 => absurd c8 (by decide))
    refine lv_iconst (v := (nI 0)) hx hb dX2_verify_60 (by decide) ?_
    exact W.zret hx hb hr rfl (fun t ht9 hW => ⟨⟨_, (), rfl, rfl, by rw [ht9]; exact hP, va_K.moved hW.alike hK, hD⟩, hS.F ht9⟩) hS.2.2 dX2_verify_61
  · obtain ⟨n1, hn1, rfl⟩ := md_good b1
    refine vp_callSi (W.runS (As := [.int (nI n1)]) (rest := [.ref m0]) ⟨hx, hb, hml, hown, ht⟩ (c_X2_none l hn1) (va_cwS 1 ht (tb_S kl_X2_76 kt_X2_none kn_X2 kc_X2_none) rfl rfl rfl kd_X2_none ⟨Nat.le_of_ble_eq_true rfl, Nat.le_of_ble_eq_true rfl⟩) (st_pre _) rfl rfl hl.1 rfl (lv_room (Nat.le_of_ble_eq_true rfl)) dX2_verify_2 ⟨Nat.zero_le _, Nat.zero_le _⟩) (fun r hr9 => ?_)
    subst hr9
    refine lv_if_ne (tgt := 15) hx hb dX2_verify_5 (by decide) (fun c9 => absurd rfl c9) (fun _ => ?_)
    refine lv_iload_n hx hb dX2_verify_8 rfl (lv_at hl 2 rfl) ?_
    by_cases b2 : md_bad z2
    · refine vp_callSi (W.runS (As := [.int z2]) (rest := [.ref m0]) ⟨hx, hb, hml, hown, ht⟩ (c_X2_noneM l b2) (va_cwS 1 ht (tb_S kl_X2_76 kt_X2_none kn_X2 kc_X2_none) rfl rfl rfl kd_X2_none ⟨Nat.le_of_ble_eq_true rfl, Nat.le_of_ble_eq_true rfl⟩) (st_pre _) rfl rfl hl.1 rfl (lv_room (Nat.le_of_ble_eq_true rfl)) dX2_verify_9 ⟨Nat.zero_le _, Nat.zero_le _⟩) (fun r hr9 => ?_)
      subst hr9
      refine lv_if_eq (tgt := 19) hx hb dX2_verify_12 (by decide) (fun c9 => absurd c9 (by decide)) (fun _ => ?_)
      refine lv_iconst (v := (nI 1)) hx hb dX2_verify_15 (by decide) ?_
      refine lv_goto (tgt := 34) hx hb dX2_verify_16 (by decide) ?_
      refine va_put (D := D) (ci := 2) (v := .int (nI 1)) (ty := .int) (C := RX2) (T := TX2) (N := 11) hx hb ht inX2 tyX2 tyX2_ok nmX2 hown hK hP hD hS 0 rfl rfl 0 (by decide) (ht _ kf_X2_30) (fun _ h9 => h9) rfl (by decide +kernel) rfl rfl (Nat.le_of_ble_eq_true rfl) dX2_verify_34 (fun H locs hP hD hS => ?_)
      have hP : va_P D vwCl [(m0, .inr (2, [.int (nI 1), .int (nI k), .int (nI (tw_P k)), .int (nI (tw_D k)), .int (nI (tw_I k)), .ref mx, .ref my, .ref mr, .ref mb, .int sx, .int sy])), (mx, .inl (cA, 12, .inl fx)), (my, .inl (cA, 12, .inl fy)), (mr, .inl (cA, 8101, .inl fr)), (mb, .inl (cA, 5, .inl fb))] H := hP
      have hD : va_D A [(m0, .inr (2, [.int (nI 1), .int (nI k), .int (nI (tw_P k)), .int (nI (tw_D k)), .int (nI (tw_I k)), .ref mx, .ref my, .ref mr, .ref mb, .int sx, .int sy])), (mx, .inl (cA, 12, .inl fx)), (my, .inl (cA, 12, .inl fy)), (mr, .inl (cA, 8101, .inl fr)), (mb, .inl (cA, 5, .inl fb))] := hD
      refine lv_aload_n hx hb dX2_verify_37 rfl (lv_at hl 0 rfl) ?_
      refine va_get (D := D) (ci := 2) (v := .int (nI 1)) (C := RX2) (T := TX2) (N := 11) hx hb ht inX2 hown hK hP 0 rfl rfl 0 (by decide) (ht _ kf_X2_30) (fun _ h9 => h9) rfl dX2_verify_38 ?_
      refine nv_if_gt (tgt := 60) hx hb dX2_verify_41 (by decide) (by decide) (fun _ => ?_) (fun c8 => absurd c8 (by decide))
      refine lv_iconst (v := (nI 0)) hx hb dX2_verify_60 (by decide) ?_
      exact W.zret hx hb hr rfl (fun t ht9 hW => ⟨⟨_, (), rfl, rfl, by rw [ht9]; exact hP, va_K.moved hW.alike hK, hD⟩, hS.F ht9⟩) hS.2.2 dX2_verify_61
    · obtain ⟨n2, hn2, rfl⟩ := md_good b2
      rcases hz with q1 | q2 <;> contradiction
set_option maxHeartbeats 4000000 in
set_option maxRecDepth 100000 in
theorem c_X2_putN (l : Launch) (D : va_G) {k : Nat} (hk5 : k < 5) {m0 mx my mr mb : Nat} {th sx sy : Int32} {cA : ClassId} {fx fy fr fb : Nat → Int32} {j : Nat} (hj : j < 12) {y1 y2 : Int32} (hz : ∀ x y, y1 = nI x → y2 = nI y → ¬ tw_on (tw_P k) (tw_D k) (x, y)) (sz : Nat) : Met l yX2_put wX2_put ({ frames := 3, cells := 0, slots := 0, locals := 69 }) (va_Pc [.ref m0, .int (nI j), .int y1, .int y2] (wd_pre D [(cA, .int)] [(m0, .inr (2, [.int th, .int (nI k), .int (nI (tw_P k)), .int (nI (tw_D k)), .int (nI (tw_I k)), .ref mx, .ref my, .ref mr, .ref mb, .int sx, .int sy])), (mx, .inl (cA, 12, .inl fx)), (my, .inl (cA, 12, .inl fy)), (mr, .inl (cA, 8101, .inl fr)), (mb, .inl (cA, 5, .inl fb))] sz)) (va_Qv (fun (u : Unit) => u = ()) (fun (u : Unit) t => wd_at D [(cA, .int)] (va_A [(m0, .inr (2, [.int th, .int (nI k), .int (nI (tw_P k)), .int (nI (tw_D k)), .int (nI (tw_I k)), .ref mx, .ref my, .ref mr, .ref mb, .int sx, .int sy])), (mx, .inl (cA, 12, .inl fx)), (my, .inl (cA, 12, .inl fy)), (mr, .inl (cA, 8101, .inl fr)), (mb, .inl (cA, 5, .inl fb))] sz) [(m0, .inr (2, [.int (nI 2), .int (nI k), .int (nI (tw_P k)), .int (nI (tw_D k)), .int (nI (tw_I k)), .ref mx, .ref my, .ref mr, .ref mb, .int sx, .int sy])), (mx, .inl (cA, 12, .inl fx)), (my, .inl (cA, 12, .inl fy)), (mr, .inl (cA, 8101, .inl fr)), (mb, .inl (cA, 5, .inl fb))] t) (va_A [(m0, .inr (2, [.int th, .int (nI k), .int (nI (tw_P k)), .int (nI (tw_D k)), .int (nI (tw_I k)), .ref mx, .ref my, .ref mr, .ref mb, .int sx, .int sy])), (mx, .inl (cA, 12, .inl fx)), (my, .inl (cA, 12, .inl fy)), (mr, .inl (cA, 8101, .inl fr)), (mb, .inl (cA, 5, .inl fb))] sz)) 0 0 (va_A [(m0, .inr (2, [.int th, .int (nI k), .int (nI (tw_P k)), .int (nI (tw_D k)), .int (nI (tw_I k)), .ref mx, .ref my, .ref mr, .ref mb, .int sx, .int sy])), (mx, .inl (cA, 12, .inl fx)), (my, .inl (cA, 12, .inl fy)), (mr, .inl (cA, 8101, .inl fr)), (mb, .inl (cA, 5, .inl fb))] sz) := by
  refine Met.ofW (cc := cX2_put) (maxL := 4) (ret := none) (by decide) rfl ?_
  intro p e s m args below meth c s₁ B hml hv
  obtain ⟨rfl, hsz, hP, hK, hD0⟩ := hv
  have hx := B.exec
  have hb := B.bytes
  have hr := B.returns
  have hts := atoms_spec (ws := wX2_put) B.pre
  have ht : ∀ w ∈ tb_all, w.before _ s = true := fun w h => hts w (List.mem_cons_of_mem _ h)
  have hown : s.vm.findClass RX2 = some m.cls := findClass_of_methodNamed B.named
  have hlocks := B.notSynchronized
  have hin : meth.name = "put" := (name_of_methodNamed B.named B.method).1
  subst hsz
  have hD := hD0.self (sz := s.heap.size)
  generalize hAe : va_A [(m0, .inr (2, [.int th, .int (nI k), .int (nI (tw_P k)), .int (nI (tw_D k)), .int (nI (tw_I k)), .ref mx, .ref my, .ref mr, .ref mb, .int sx, .int sy])), (mx, .inl (cA, 12, .inl fx)), (my, .inl (cA, 12, .inl fy)), (mr, .inl (cA, 8101, .inl fr)), (mb, .inl (cA, 5, .inl fb))] s.heap.size = A at hD ⊢
  have hA : ∀ q : Nat, s.heap.size ≤ q → A q := fun q h => by rw [← hAe]; exact Or.inr h
  have hS : va_S A s.heap s.heap [] := va_S.rf
  have hl := lv_entry ([.ref m0, .int (nI j), .int y1, .int y2]) (n := 4) (Nat.le_of_ble_eq_true rfl)
  rw [lg_entry_eq]
  generalize (lg_sl ([.ref m0, .int (nI j), .int y1, .int y2]) ++ List.replicate (4 - (lg_sl ([.ref m0, .int (nI j), .int y1, .int y2])).length) Slot.unset).toArray = ls at hl ⊢
  have hl : lv_has ls 4 [(0, .ref m0), (1, .int (nI j)), (2, .int y1), (3, .int y2)] := hl
  obtain ⟨hP0, hP2, hD2, hI2, hDP⟩ := tw_kb hk5
  have hK0 := tw_kK k hk5
  have hP8 : tw_P k ≤ 8192 := by omega
  have hN := tw_kN k hk5
  have zk : k ≤ 4 := by omega
  refine lv_aload_n hx hb dX2_put_0 rfl (lv_at hl 0 rfl) ?_
  refine lv_iload_n hx hb dX2_put_1 rfl (lv_at hl 1 rfl) ?_
  refine vp_callSi (W.runS (As := [.int (nI j)]) (rest := [.ref m0]) ⟨hx, hb, hml, hown, ht⟩ (c_X2_none l hj) (va_cwS 1 ht (tb_S kl_X2_76 kt_X2_none kn_X2 kc_X2_none) rfl rfl rfl kd_X2_none ⟨Nat.le_of_ble_eq_true rfl, Nat.le_of_ble_eq_true rfl⟩) (st_pre _) rfl rfl hl.1 rfl (lv_room (Nat.le_of_ble_eq_true rfl)) dX2_put_2 ⟨Nat.zero_le _, Nat.zero_le _⟩) (fun r hr9 => ?_)
  subst hr9
  refine lv_if_eq (tgt := 12) hx hb dX2_put_5 (by decide) (fun _ => ?_) (fun c9 => absurd rfl c9)
  have bad2 : W p l e (headSpec wX2_put ({ frames := 3, cells := 0, slots := 0, locals := 69 })).room s m ([.ref m0, .int (nI j), .int y1, .int y2]).toArray below meth c s.heap [] 0 0 (MQ below (va_Qv (fun (u : Unit) => u = ()) (fun (u : Unit) t => wd_at D [(cA, .int)] (A) [(m0, .inr (2, [.int (nI 2), .int (nI k), .int (nI (tw_P k)), .int (nI (tw_D k)), .int (nI (tw_I k)), .ref mx, .ref my, .ref mr, .ref mb, .int sx, .int sy])), (mx, .inl (cA, 12, .inl fx)), (my, .inl (cA, 12, .inl fy)), (mr, .inl (cA, 8101, .inl fr)), (mb, .inl (cA, 5, .inl fb))] t) A) ([.ref m0, .int (nI j), .int y1, .int y2]).toArray s 0 0 A) (F0 m 45 ls [.ref m0]) := by
    refine lv_iconst (v := (nI 2)) hx hb dX2_put_45 (by decide) ?_
    refine lv_goto (tgt := 50) hx hb dX2_put_46 (by decide) ?_
    refine va_put (D := D) (ci := 2) (v := .int (nI 2)) (ty := .int) (C := RX2) (T := TX2) (N := 11) hx hb ht inX2 tyX2 tyX2_ok nmX2 hown hK hP hD hS 0 rfl rfl 0 (by decide) (ht _ kf_X2_30) (fun _ h9 => h9) rfl (by decide +kernel) rfl rfl (Nat.le_of_ble_eq_true rfl) dX2_put_50 (fun H locs hP hD hS => ?_)
    have hP : va_P D vwCl [(m0, .inr (2, [.int (nI 2), .int (nI k), .int (nI (tw_P k)), .int (nI (tw_D k)), .int (nI (tw_I k)), .ref mx, .ref my, .ref mr, .ref mb, .int sx, .int sy])), (mx, .inl (cA, 12, .inl fx)), (my, .inl (cA, 12, .inl fy)), (mr, .inl (cA, 8101, .inl fr)), (mb, .inl (cA, 5, .inl fb))] H := hP
    have hD : va_D A [(m0, .inr (2, [.int (nI 2), .int (nI k), .int (nI (tw_P k)), .int (nI (tw_D k)), .int (nI (tw_I k)), .ref mx, .ref my, .ref mr, .ref mb, .int sx, .int sy])), (mx, .inl (cA, 12, .inl fx)), (my, .inl (cA, 12, .inl fy)), (mr, .inl (cA, 8101, .inl fr)), (mb, .inl (cA, 5, .inl fb))] := hD
    refine lv_aload_n hx hb dX2_put_53 rfl (lv_at hl 0 rfl) ?_
    refine va_get (D := D) (ci := 2) (v := .int (nI 2)) (C := RX2) (T := TX2) (N := 11) hx hb ht inX2 hown hK hP 0 rfl rfl 0 (by decide) (ht _ kf_X2_30) (fun _ h9 => h9) rfl dX2_put_54 ?_
    refine nv_if_le (tgt := 61) hx hb dX2_put_57 (by decide) (by decide) (fun c8 => absurd c8 (by decide)) (fun _ => ?_)
    exact W.vret hx hb hr (fun t ht9 hW => ⟨⟨(), rfl, rfl, by rw [ht9]; exact hP, va_K.moved hW.alike hK, hD⟩, hS.F ht9⟩) hS.2.2 dX2_put_60
  refine lv_iload_n hx hb dX2_put_12 rfl (lv_at hl 2 rfl) ?_
  refine lv_if_lt (tgt := 45) hx hb dX2_put_13 (by decide) (fun _ => bad2) (fun c1 => ?_)
  refine lv_iload_n hx hb dX2_put_16 rfl (lv_at hl 2 rfl) ?_
  refine lv_aload_n hx hb dX2_put_17 rfl (lv_at hl 0 rfl) ?_
  refine va_get (D := D) (ci := 2) (v := .int (nI (tw_P k))) (C := RX2) (T := TX2) (N := 11) hx hb ht inX2 hown hK hP 0 rfl rfl 2 (by decide) (ht _ kf_X2_7) (fun _ h9 => h9) rfl dX2_put_18 ?_
  refine lv_icmp_ge (tgt := 45) hx hb dX2_put_21 (by decide) (fun _ => bad2) (fun c2 => ?_)
  refine lv_iload_n hx hb dX2_put_24 rfl (lv_at hl 3 rfl) ?_
  refine lv_if_lt (tgt := 45) hx hb dX2_put_25 (by decide) (fun _ => bad2) (fun c3 => ?_)
  refine lv_iload_n hx hb dX2_put_28 rfl (lv_at hl 3 rfl) ?_
  refine lv_aload_n hx hb dX2_put_29 rfl (lv_at hl 0 rfl) ?_
  refine va_get (D := D) (ci := 2) (v := .int (nI (tw_P k))) (C := RX2) (T := TX2) (N := 11) hx hb ht inX2 hown hK hP 0 rfl rfl 2 (by decide) (ht _ kf_X2_7) (fun _ h9 => h9) rfl dX2_put_30 ?_
  refine lv_icmp_ge (tgt := 45) hx hb dX2_put_33 (by decide) (fun _ => bad2) (fun c4 => ?_)
  clear bad2
  obtain ⟨x, hx9, rfl⟩ := md_lo c1 c2 (by omega)
  obtain ⟨y, hy9, rfl⟩ := md_lo c3 c4 (by omega)
  refine lv_aload_n hx hb dX2_put_36 rfl (lv_at hl 0 rfl) ?_
  refine lv_iload_n hx hb dX2_put_37 rfl (lv_at hl 2 rfl) ?_
  refine lv_iload_n hx hb dX2_put_38 rfl (lv_at hl 3 rfl) ?_
  refine vp_callSi (W.runV (As := [.int (nI x), .int (nI y)]) (rest := [.ref m0]) ⟨hx, hb, hml, hown, ht⟩ (c_X2_isPoint l D hk5 hx9 hy9) (cwV 2 ht (tb_V kl_X2_80 ki_X2_isPoint ks_X2_isPoint kn_X2 kc_X2_isPoint) rfl rfl rfl ⟨rfl, kd_X2_isPoint⟩ ⟨Nat.le_of_ble_eq_true rfl, Nat.le_of_ble_eq_true rfl⟩) (ro_preV _ (hP.sub (ws' := [(m0, .inr (2, [.int th, .int (nI k), .int (nI (tw_P k)), .int (nI (tw_D k)), .int (nI (tw_I k)), .ref mx, .ref my, .ref mr, .ref mb, .int sx, .int sy]))]) [0] rfl) (hK.sub (tys' := []) [] rfl) (va_recv (ci := 2) (q0 := 0) hK hP rfl rfl)) rfl rfl hl.1 rfl (lv_room (Nat.le_of_ble_eq_true rfl)) dX2_put_39 ⟨Nat.zero_le _, Nat.zero_le _⟩) (fun r hr9 => ?_)
  subst hr9
  rw [if_neg (fun q => hz x y rfl rfl ⟨hx9, hy9, q⟩)]
  refine lv_if_ne (tgt := 49) hx hb dX2_put_42 (by decide) (fun c9 => absurd rfl c9) (fun _ => ?_)
  refine lv_iconst (v := (nI 2)) hx hb dX2_put_45 (by decide) ?_
  refine lv_goto (tgt := 50) hx hb dX2_put_46 (by decide) ?_
  refine va_put (D := D) (ci := 2) (v := .int (nI 2)) (ty := .int) (C := RX2) (T := TX2) (N := 11) hx hb ht inX2 tyX2 tyX2_ok nmX2 hown hK hP hD hS 0 rfl rfl 0 (by decide) (ht _ kf_X2_30) (fun _ h9 => h9) rfl (by decide +kernel) rfl rfl (Nat.le_of_ble_eq_true rfl) dX2_put_50 (fun H locs hP hD hS => ?_)
  have hP : va_P D vwCl [(m0, .inr (2, [.int (nI 2), .int (nI k), .int (nI (tw_P k)), .int (nI (tw_D k)), .int (nI (tw_I k)), .ref mx, .ref my, .ref mr, .ref mb, .int sx, .int sy])), (mx, .inl (cA, 12, .inl fx)), (my, .inl (cA, 12, .inl fy)), (mr, .inl (cA, 8101, .inl fr)), (mb, .inl (cA, 5, .inl fb))] H := hP
  have hD : va_D A [(m0, .inr (2, [.int (nI 2), .int (nI k), .int (nI (tw_P k)), .int (nI (tw_D k)), .int (nI (tw_I k)), .ref mx, .ref my, .ref mr, .ref mb, .int sx, .int sy])), (mx, .inl (cA, 12, .inl fx)), (my, .inl (cA, 12, .inl fy)), (mr, .inl (cA, 8101, .inl fr)), (mb, .inl (cA, 5, .inl fb))] := hD
  refine lv_aload_n hx hb dX2_put_53 rfl (lv_at hl 0 rfl) ?_
  refine va_get (D := D) (ci := 2) (v := .int (nI 2)) (C := RX2) (T := TX2) (N := 11) hx hb ht inX2 hown hK hP 0 rfl rfl 0 (by decide) (ht _ kf_X2_30) (fun _ h9 => h9) rfl dX2_put_54 ?_
  refine nv_if_le (tgt := 61) hx hb dX2_put_57 (by decide) (by decide) (fun c8 => absurd c8 (by decide)) (fun _ => ?_)
  exact W.vret hx hb hr (fun t ht9 hW => ⟨⟨(), rfl, rfl, by rw [ht9]; exact hP, va_K.moved hW.alike hK, hD⟩, hS.F ht9⟩) hS.2.2 dX2_put_60
set_option maxHeartbeats 4000000 in
set_option maxRecDepth 100000 in
theorem c_X2_unpackN (l : Launch) (D : va_G) {k : Nat} (hk5 : k < 5) {m0 mx my mr mb : Nat} {th sx sy : Int32} {cA : ClassId} {fx fy fr fb : Nat → Int32} {R : Nat → Nat × Nat} (hfr : ∀ j, j < tw_P k → fr j = tw_rv (tw_P k) j) (hR : ∀ j, j < 12 → tw_on (tw_P k) (tw_D k) (R j) ∧ fx j = nI (R j).1 ∧ fy j = nI (R j).2) {j : Nat} (hj : j < 12) {y1 : Int32} (hz : y1 < 0 ∨ ∃ m9, m9 < 2 ^ 31 ∧ y1 = nI m9 ∧ tw_rd (tw_P k) (tw_D k) m9 = none) (sz : Nat) : Met l yX2_unpack wX2_unpack ({ frames := 3, cells := 0, slots := 0, locals := 72 }) (va_Pc [.ref m0, .int (nI j), .int y1] (wd_pre D [(cA, .int)] [(m0, .inr (2, [.int th, .int (nI k), .int (nI (tw_P k)), .int (nI (tw_D k)), .int (nI (tw_I k)), .ref mx, .ref my, .ref mr, .ref mb, .int sx, .int sy])), (mx, .inl (cA, 12, .inl fx)), (my, .inl (cA, 12, .inl fy)), (mr, .inl (cA, 8101, .inl fr)), (mb, .inl (cA, 5, .inl fb))] sz)) (va_Qv (fun (u : Unit) => u = ()) (fun (u : Unit) t => wd_at D [(cA, .int)] (va_A [(m0, .inr (2, [.int th, .int (nI k), .int (nI (tw_P k)), .int (nI (tw_D k)), .int (nI (tw_I k)), .ref mx, .ref my, .ref mr, .ref mb, .int sx, .int sy])), (mx, .inl (cA, 12, .inl fx)), (my, .inl (cA, 12, .inl fy)), (mr, .inl (cA, 8101, .inl fr)), (mb, .inl (cA, 5, .inl fb))] sz) [(m0, .inr (2, [.int (nI 2), .int (nI k), .int (nI (tw_P k)), .int (nI (tw_D k)), .int (nI (tw_I k)), .ref mx, .ref my, .ref mr, .ref mb, .int sx, .int sy])), (mx, .inl (cA, 12, .inl fx)), (my, .inl (cA, 12, .inl fy)), (mr, .inl (cA, 8101, .inl fr)), (mb, .inl (cA, 5, .inl fb))] t) (va_A [(m0, .inr (2, [.int th, .int (nI k), .int (nI (tw_P k)), .int (nI (tw_D k)), .int (nI (tw_I k)), .ref mx, .ref my, .ref mr, .ref mb, .int sx, .int sy])), (mx, .inl (cA, 12, .inl fx)), (my, .inl (cA, 12, .inl fy)), (mr, .inl (cA, 8101, .inl fr)), (mb, .inl (cA, 5, .inl fb))] sz)) 0 0 (va_A [(m0, .inr (2, [.int th, .int (nI k), .int (nI (tw_P k)), .int (nI (tw_D k)), .int (nI (tw_I k)), .ref mx, .ref my, .ref mr, .ref mb, .int sx, .int sy])), (mx, .inl (cA, 12, .inl fx)), (my, .inl (cA, 12, .inl fy)), (mr, .inl (cA, 8101, .inl fr)), (mb, .inl (cA, 5, .inl fb))] sz) := by
  refine Met.ofW (cc := cX2_unpack) (maxL := 3) (ret := none) (by decide) rfl ?_
  intro p e s m args below meth c s₁ B hml hv
  obtain ⟨rfl, hsz, hP, hK, hD0⟩ := hv
  have hx := B.exec
  have hb := B.bytes
  have hr := B.returns
  have hts := atoms_spec (ws := wX2_unpack) B.pre
  have ht : ∀ w ∈ tb_all, w.before _ s = true := fun w h => hts w (List.mem_cons_of_mem _ h)
  have hown : s.vm.findClass RX2 = some m.cls := findClass_of_methodNamed B.named
  have hlocks := B.notSynchronized
  have hin : meth.name = "unpack" := (name_of_methodNamed B.named B.method).1
  subst hsz
  have hD := hD0.self (sz := s.heap.size)
  generalize hAe : va_A [(m0, .inr (2, [.int th, .int (nI k), .int (nI (tw_P k)), .int (nI (tw_D k)), .int (nI (tw_I k)), .ref mx, .ref my, .ref mr, .ref mb, .int sx, .int sy])), (mx, .inl (cA, 12, .inl fx)), (my, .inl (cA, 12, .inl fy)), (mr, .inl (cA, 8101, .inl fr)), (mb, .inl (cA, 5, .inl fb))] s.heap.size = A at hD ⊢
  have hA : ∀ q : Nat, s.heap.size ≤ q → A q := fun q h => by rw [← hAe]; exact Or.inr h
  have hS : va_S A s.heap s.heap [] := va_S.rf
  have hl := lv_entry ([.ref m0, .int (nI j), .int y1]) (n := 3) (Nat.le_of_ble_eq_true rfl)
  rw [lg_entry_eq]
  generalize (lg_sl ([.ref m0, .int (nI j), .int y1]) ++ List.replicate (3 - (lg_sl ([.ref m0, .int (nI j), .int y1])).length) Slot.unset).toArray = ls at hl ⊢
  have hl : lv_has ls 3 [(0, .ref m0), (1, .int (nI j)), (2, .int y1)] := hl
  obtain ⟨hP0, hP2, hD2, hI2, hDP⟩ := tw_kb hk5
  have hK0 := tw_kK k hk5
  have hP8 : tw_P k ≤ 8192 := by omega
  have hN := tw_kN k hk5
  have zk : k ≤ 4 := by omega
  refine lv_aload_n hx hb dX2_unpack_0 rfl (lv_at hl 0 rfl) ?_
  refine lv_iload_n hx hb dX2_unpack_1 rfl (lv_at hl 1 rfl) ?_
  refine vp_callSi (W.runS (As := [.int (nI j)]) (rest := [.ref m0]) ⟨hx, hb, hml, hown, ht⟩ (c_X2_none l hj) (va_cwS 1 ht (tb_S kl_X2_76 kt_X2_none kn_X2 kc_X2_none) rfl rfl rfl kd_X2_none ⟨Nat.le_of_ble_eq_true rfl, Nat.le_of_ble_eq_true rfl⟩) (st_pre _) rfl rfl hl.1 rfl (lv_room (Nat.le_of_ble_eq_true rfl)) dX2_unpack_2 ⟨Nat.zero_le _, Nat.zero_le _⟩) (fun r hr9 => ?_)
  subst hr9
  refine lv_if_eq (tgt := 12) hx hb dX2_unpack_5 (by decide) (fun _ => ?_) (fun c9 => absurd rfl c9)
  refine lv_aload_n hx hb dX2_unpack_12 rfl (lv_at hl 0 rfl) ?_
  refine lv_iload_n hx hb dX2_unpack_13 rfl (lv_at hl 2 rfl) ?_
  rcases hz with hz | ⟨m9, hm9, rfl, hz⟩
  · refine vp_callSi (W.runV (As := [.int y1]) (rest := [.ref m0]) ⟨hx, hb, hml, hown, ht⟩ (c_X2_xOfM l D hk5 hfr hz) (cwV 1 ht (tb_V kl_X2_84 ki_X2_xOf ks_X2_xOf kn_X2 kc_X2_xOf) rfl rfl rfl ⟨rfl, kd_X2_xOf⟩ ⟨Nat.le_of_ble_eq_true rfl, Nat.le_of_ble_eq_true rfl⟩) (ro_preV _ (hP.sub (ws' := [(m0, .inr (2, [.int th, .int (nI k), .int (nI (tw_P k)), .int (nI (tw_D k)), .int (nI (tw_I k)), .ref mx, .ref my, .ref mr, .ref mb, .int sx, .int sy])), (mr, .inl (cA, 8101, .inl fr))]) [0, 3] rfl) hK (va_recv (ci := 2) (q0 := 0) hK hP rfl rfl)) rfl rfl hl.1 rfl (lv_room (Nat.le_of_ble_eq_true rfl)) dX2_unpack_14 ⟨Nat.zero_le _, Nat.zero_le _⟩) (fun r hr9 => ?_)
    subst hr9
    refine lv_iconst (v := (-1)) hx hb dX2_unpack_17 (by decide) ?_
    refine lv_icmp_ne (tgt := 25) hx hb dX2_unpack_18 (by decide) (fun c9 => absurd rfl c9) (fun _ => ?_)
    refine lv_iconst (v := (nI 2)) hx hb dX2_unpack_21 (by decide) ?_
    refine lv_goto (tgt := 26) hx hb dX2_unpack_22 (by decide) ?_
    refine va_put (D := D) (ci := 2) (v := .int (nI 2)) (ty := .int) (C := RX2) (T := TX2) (N := 11) hx hb ht inX2 tyX2 tyX2_ok nmX2 hown hK hP hD hS 0 rfl rfl 0 (by decide) (ht _ kf_X2_30) (fun _ h9 => h9) rfl (by decide +kernel) rfl rfl (Nat.le_of_ble_eq_true rfl) dX2_unpack_26 (fun H locs hP hD hS => ?_)
    have hP : va_P D vwCl [(m0, .inr (2, [.int (nI 2), .int (nI k), .int (nI (tw_P k)), .int (nI (tw_D k)), .int (nI (tw_I k)), .ref mx, .ref my, .ref mr, .ref mb, .int sx, .int sy])), (mx, .inl (cA, 12, .inl fx)), (my, .inl (cA, 12, .inl fy)), (mr, .inl (cA, 8101, .inl fr)), (mb, .inl (cA, 5, .inl fb))] H := hP
    have hD : va_D A [(m0, .inr (2, [.int (nI 2), .int (nI k), .int (nI (tw_P k)), .int (nI (tw_D k)), .int (nI (tw_I k)), .ref mx, .ref my, .ref mr, .ref mb, .int sx, .int sy])), (mx, .inl (cA, 12, .inl fx)), (my, .inl (cA, 12, .inl fy)), (mr, .inl (cA, 8101, .inl fr)), (mb, .inl (cA, 5, .inl fb))] := hD
    refine lv_aload_n hx hb dX2_unpack_29 rfl (lv_at hl 0 rfl) ?_
    refine va_get (D := D) (ci := 2) (v := .int (nI 2)) (C := RX2) (T := TX2) (N := 11) hx hb ht inX2 hown hK hP 0 rfl rfl 0 (by decide) (ht _ kf_X2_30) (fun _ h9 => h9) rfl dX2_unpack_30 ?_
    refine nv_if_le (tgt := 37) hx hb dX2_unpack_33 (by decide) (by decide) (fun c8 => absurd c8 (by decide)) (fun _ => ?_)
    exact W.vret hx hb hr (fun t ht9 hW => ⟨⟨(), rfl, rfl, by rw [ht9]; exact hP, va_K.moved hW.alike hK, hD⟩, hS.F ht9⟩) hS.2.2 dX2_unpack_36
  · refine vp_callSi (W.runV (As := [.int (nI m9)]) (rest := [.ref m0]) ⟨hx, hb, hml, hown, ht⟩ (c_X2_xOf l D hk5 hfr hm9) (cwV 1 ht (tb_V kl_X2_84 ki_X2_xOf ks_X2_xOf kn_X2 kc_X2_xOf) rfl rfl rfl ⟨rfl, kd_X2_xOf⟩ ⟨Nat.le_of_ble_eq_true rfl, Nat.le_of_ble_eq_true rfl⟩) (ro_preV _ (hP.sub (ws' := [(m0, .inr (2, [.int th, .int (nI k), .int (nI (tw_P k)), .int (nI (tw_D k)), .int (nI (tw_I k)), .ref mx, .ref my, .ref mr, .ref mb, .int sx, .int sy])), (mr, .inl (cA, 8101, .inl fr))]) [0, 3] rfl) hK (va_recv (ci := 2) (q0 := 0) hK hP rfl rfl)) rfl rfl hl.1 rfl (lv_room (Nat.le_of_ble_eq_true rfl)) dX2_unpack_14 ⟨Nat.zero_le _, Nat.zero_le _⟩) (fun r hr9 => ?_)
    subst hr9
    rw [tw_xr_none hz]
    refine lv_iconst (v := (-1)) hx hb dX2_unpack_17 (by decide) ?_
    refine lv_icmp_ne (tgt := 25) hx hb dX2_unpack_18 (by decide) (fun c9 => absurd rfl c9) (fun _ => ?_)
    refine lv_iconst (v := (nI 2)) hx hb dX2_unpack_21 (by decide) ?_
    refine lv_goto (tgt := 26) hx hb dX2_unpack_22 (by decide) ?_
    refine va_put (D := D) (ci := 2) (v := .int (nI 2)) (ty := .int) (C := RX2) (T := TX2) (N := 11) hx hb ht inX2 tyX2 tyX2_ok nmX2 hown hK hP hD hS 0 rfl rfl 0 (by decide) (ht _ kf_X2_30) (fun _ h9 => h9) rfl (by decide +kernel) rfl rfl (Nat.le_of_ble_eq_true rfl) dX2_unpack_26 (fun H locs hP hD hS => ?_)
    have hP : va_P D vwCl [(m0, .inr (2, [.int (nI 2), .int (nI k), .int (nI (tw_P k)), .int (nI (tw_D k)), .int (nI (tw_I k)), .ref mx, .ref my, .ref mr, .ref mb, .int sx, .int sy])), (mx, .inl (cA, 12, .inl fx)), (my, .inl (cA, 12, .inl fy)), (mr, .inl (cA, 8101, .inl fr)), (mb, .inl (cA, 5, .inl fb))] H := hP
    have hD : va_D A [(m0, .inr (2, [.int (nI 2), .int (nI k), .int (nI (tw_P k)), .int (nI (tw_D k)), .int (nI (tw_I k)), .ref mx, .ref my, .ref mr, .ref mb, .int sx, .int sy])), (mx, .inl (cA, 12, .inl fx)), (my, .inl (cA, 12, .inl fy)), (mr, .inl (cA, 8101, .inl fr)), (mb, .inl (cA, 5, .inl fb))] := hD
    refine lv_aload_n hx hb dX2_unpack_29 rfl (lv_at hl 0 rfl) ?_
    refine va_get (D := D) (ci := 2) (v := .int (nI 2)) (C := RX2) (T := TX2) (N := 11) hx hb ht inX2 hown hK hP 0 rfl rfl 0 (by decide) (ht _ kf_X2_30) (fun _ h9 => h9) rfl dX2_unpack_30 ?_
    refine nv_if_le (tgt := 37) hx hb dX2_unpack_33 (by decide) (by decide) (fun c8 => absurd c8 (by decide)) (fun _ => ?_)
    exact W.vret hx hb hr (fun t ht9 hW => ⟨⟨(), rfl, rfl, by rw [ht9]; exact hP, va_K.moved hW.alike hK, hD⟩, hS.F ht9⟩) hS.2.2 dX2_unpack_36
set_option maxHeartbeats 4000000 in
set_option maxRecDepth 100000 in
theorem c_X2_signN (l : Launch) (D : va_G) {k : Nat} (hk5 : k < 5) {m0 mx my mr mb : Nat} {th sx sy : Int32} {cA : ClassId} {fx fy fr fb : Nat → Int32} {j : Nat} (hj : j < 12) {y1 y2 : Int32} (hz : md_nb y1 ∨ md_nb y2) (sz : Nat) : Met l yX2_sign wX2_sign ({ frames := 1, cells := 0, slots := 0, locals := 20 }) (va_Pc [.ref m0, .int (nI j), .int y1, .int y2] (wd_pre D [(cA, .int)] [(m0, .inr (2, [.int th, .int (nI k), .int (nI (tw_P k)), .int (nI (tw_D k)), .int (nI (tw_I k)), .ref mx, .ref my, .ref mr, .ref mb, .int sx, .int sy])), (mx, .inl (cA, 12, .inl fx)), (my, .inl (cA, 12, .inl fy)), (mr, .inl (cA, 8101, .inl fr)), (mb, .inl (cA, 5, .inl fb))] sz)) (va_Ql (fun (r : Int64) (u : Unit) => r = lN 0) (fun (u : Unit) t => wd_at D [(cA, .int)] (va_A [(m0, .inr (2, [.int th, .int (nI k), .int (nI (tw_P k)), .int (nI (tw_D k)), .int (nI (tw_I k)), .ref mx, .ref my, .ref mr, .ref mb, .int sx, .int sy])), (mx, .inl (cA, 12, .inl fx)), (my, .inl (cA, 12, .inl fy)), (mr, .inl (cA, 8101, .inl fr)), (mb, .inl (cA, 5, .inl fb))] sz) [(m0, .inr (2, [.int (nI 2), .int (nI k), .int (nI (tw_P k)), .int (nI (tw_D k)), .int (nI (tw_I k)), .ref mx, .ref my, .ref mr, .ref mb, .int sx, .int sy])), (mx, .inl (cA, 12, .inl fx)), (my, .inl (cA, 12, .inl fy)), (mr, .inl (cA, 8101, .inl fr)), (mb, .inl (cA, 5, .inl fb))] t) (va_A [(m0, .inr (2, [.int th, .int (nI k), .int (nI (tw_P k)), .int (nI (tw_D k)), .int (nI (tw_I k)), .ref mx, .ref my, .ref mr, .ref mb, .int sx, .int sy])), (mx, .inl (cA, 12, .inl fx)), (my, .inl (cA, 12, .inl fy)), (mr, .inl (cA, 8101, .inl fr)), (mb, .inl (cA, 5, .inl fb))] sz)) 0 0 (va_A [(m0, .inr (2, [.int th, .int (nI k), .int (nI (tw_P k)), .int (nI (tw_D k)), .int (nI (tw_I k)), .ref mx, .ref my, .ref mr, .ref mb, .int sx, .int sy])), (mx, .inl (cA, 12, .inl fx)), (my, .inl (cA, 12, .inl fy)), (mr, .inl (cA, 8101, .inl fr)), (mb, .inl (cA, 5, .inl fb))] sz) := by
  refine Met.ofW (cc := cX2_sign) (maxL := 10) (ret := (some .long)) (by decide) rfl ?_
  intro p e s m args below meth c s₁ B hml hv
  obtain ⟨rfl, hsz, hP, hK, hD0⟩ := hv
  have hx := B.exec
  have hb := B.bytes
  have hr := B.returns
  have hts := atoms_spec (ws := wX2_sign) B.pre
  have ht : ∀ w ∈ tb_all, w.before _ s = true := fun w h => hts w (List.mem_cons_of_mem _ h)
  have hown : s.vm.findClass RX2 = some m.cls := findClass_of_methodNamed B.named
  have hlocks := B.notSynchronized
  have hin : meth.name = "sign" := (name_of_methodNamed B.named B.method).1
  subst hsz
  have hD := hD0.self (sz := s.heap.size)
  generalize hAe : va_A [(m0, .inr (2, [.int th, .int (nI k), .int (nI (tw_P k)), .int (nI (tw_D k)), .int (nI (tw_I k)), .ref mx, .ref my, .ref mr, .ref mb, .int sx, .int sy])), (mx, .inl (cA, 12, .inl fx)), (my, .inl (cA, 12, .inl fy)), (mr, .inl (cA, 8101, .inl fr)), (mb, .inl (cA, 5, .inl fb))] s.heap.size = A at hD ⊢
  have hA : ∀ q : Nat, s.heap.size ≤ q → A q := fun q h => by rw [← hAe]; exact Or.inr h
  have hS : va_S A s.heap s.heap [] := va_S.rf
  have hl := lv_entry ([.ref m0, .int (nI j), .int y1, .int y2]) (n := 10) (Nat.le_of_ble_eq_true rfl)
  rw [lg_entry_eq]
  generalize (lg_sl ([.ref m0, .int (nI j), .int y1, .int y2]) ++ List.replicate (10 - (lg_sl ([.ref m0, .int (nI j), .int y1, .int y2])).length) Slot.unset).toArray = ls at hl ⊢
  have hl : lv_has ls 10 [(0, .ref m0), (1, .int (nI j)), (2, .int y1), (3, .int y2)] := hl
  obtain ⟨hP0, hP2, hD2, hI2, hDP⟩ := tw_kb hk5
  have hK0 := tw_kK k hk5
  have hP8 : tw_P k ≤ 8192 := by omega
  have hN := tw_kN k hk5
  have zk : k ≤ 4 := by omega
  refine lv_aload_n hx hb dX2_sign_0 rfl (lv_at hl 0 rfl) ?_
  refine lv_iload_n hx hb dX2_sign_1 rfl (lv_at hl 1 rfl) ?_
  refine vp_callSi (W.runS (As := [.int (nI j)]) (rest := [.ref m0]) ⟨hx, hb, hml, hown, ht⟩ (c_X2_none l hj) (va_cwS 1 ht (tb_S kl_X2_76 kt_X2_none kn_X2 kc_X2_none) rfl rfl rfl kd_X2_none ⟨Nat.le_of_ble_eq_true rfl, Nat.le_of_ble_eq_true rfl⟩) (st_pre _) rfl rfl hl.1 rfl (lv_room (Nat.le_of_ble_eq_true rfl)) dX2_sign_2 ⟨Nat.zero_le _, Nat.zero_le _⟩) (fun r hr9 => ?_)
  subst hr9
  refine lv_if_eq (tgt := 12) hx hb dX2_sign_5 (by decide) (fun _ => ?_) (fun c9 => absurd rfl c9)
  have bad2 : W p l e (headSpec wX2_sign ({ frames := 1, cells := 0, slots := 0, locals := 20 })).room s m ([.ref m0, .int (nI j), .int y1, .int y2]).toArray below meth c s.heap [] 0 0 (MQ below (va_Ql (fun (r : Int64) (u : Unit) => r = lN 0) (fun (u : Unit) t => wd_at D [(cA, .int)] (A) [(m0, .inr (2, [.int (nI 2), .int (nI k), .int (nI (tw_P k)), .int (nI (tw_D k)), .int (nI (tw_I k)), .ref mx, .ref my, .ref mr, .ref mb, .int sx, .int sy])), (mx, .inl (cA, 12, .inl fx)), (my, .inl (cA, 12, .inl fy)), (mr, .inl (cA, 8101, .inl fr)), (mb, .inl (cA, 5, .inl fb))] t) A) ([.ref m0, .int (nI j), .int y1, .int y2]).toArray s 0 0 A) (F0 m 32 ls [.ref m0]) := by
    refine lv_iconst (v := (nI 2)) hx hb dX2_sign_32 (by decide) ?_
    refine lv_goto (tgt := 60) hx hb dX2_sign_33 (by decide) ?_
    refine va_put (D := D) (ci := 2) (v := .int (nI 2)) (ty := .int) (C := RX2) (T := TX2) (N := 11) hx hb ht inX2 tyX2 tyX2_ok nmX2 hown hK hP hD hS 0 rfl rfl 0 (by decide) (ht _ kf_X2_30) (fun _ h9 => h9) rfl (by decide +kernel) rfl rfl (Nat.le_of_ble_eq_true rfl) dX2_sign_60 (fun H locs hP hD hS => ?_)
    have hP : va_P D vwCl [(m0, .inr (2, [.int (nI 2), .int (nI k), .int (nI (tw_P k)), .int (nI (tw_D k)), .int (nI (tw_I k)), .ref mx, .ref my, .ref mr, .ref mb, .int sx, .int sy])), (mx, .inl (cA, 12, .inl fx)), (my, .inl (cA, 12, .inl fy)), (mr, .inl (cA, 8101, .inl fr)), (mb, .inl (cA, 5, .inl fb))] H := hP
    have hD : va_D A [(m0, .inr (2, [.int (nI 2), .int (nI k), .int (nI (tw_P k)), .int (nI (tw_D k)), .int (nI (tw_I k)), .ref mx, .ref my, .ref mr, .ref mb, .int sx, .int sy])), (mx, .inl (cA, 12, .inl fx)), (my, .inl (cA, 12, .inl fy)), (mr, .inl (cA, 8101, .inl fr)), (mb, .inl (cA, 5, .inl fb))] := hD
    refine lv_aload_n hx hb dX2_sign_63 rfl (lv_at hl 0 rfl) ?_
    refine va_get (D := D) (ci := 2) (v := .int (nI 2)) (C := RX2) (T := TX2) (N := 11) hx hb ht inX2 hown hK hP 0 rfl rfl 0 (by decide) (ht _ kf_X2_30) (fun _ h9 => h9) rfl dX2_sign_64 ?_
    refine nv_if_le (tgt := 72) hx hb dX2_sign_67 (by decide) (by decide) (fun c8 => absurd c8 (by decide)) (fun _ => ?_)
    refine lv_lconst (v := lN 0) hx hb dX2_sign_70 (by decide) ?_
    exact W.lret hx hb hr (fun t ht9 hW => ⟨⟨_, (), rfl, rfl, by rw [ht9]; exact hP, va_K.moved hW.alike hK, hD⟩, hS.F ht9⟩) hS.2.2 dX2_sign_71
  refine lv_iload_n hx hb dX2_sign_12 rfl (lv_at hl 2 rfl) ?_
  refine lv_if_lt (tgt := 32) hx hb dX2_sign_13 (by decide) (fun _ => bad2) (fun c1 => ?_)
  refine lv_iload_n hx hb dX2_sign_16 rfl (lv_at hl 2 rfl) ?_
  refine lv_ldc (v := nI 1073741824) hx hb hown (ht _ kv_X2_106) dX2_sign_17 ?_
  refine lv_icmp_gt (tgt := 32) hx hb dX2_sign_19 (by decide) (fun _ => bad2) (fun c2 => ?_)
  refine lv_iload_n hx hb dX2_sign_22 rfl (lv_at hl 3 rfl) ?_
  refine lv_if_lt (tgt := 32) hx hb dX2_sign_23 (by decide) (fun _ => bad2) (fun c3 => ?_)
  refine lv_iload_n hx hb dX2_sign_26 rfl (lv_at hl 3 rfl) ?_
  refine lv_ldc (v := nI 1073741824) hx hb hown (ht _ kv_X2_106) dX2_sign_27 ?_
  refine lv_icmp_le (tgt := 36) hx hb dX2_sign_29 (by decide) (fun c4 => ?_) (fun _ => bad2)
  rcases hz with (q | q) | q
  · exact absurd q c1
  · exact absurd q c2
  · exact absurd q (md_nle c3 c4)
set_option maxHeartbeats 4000000 in
set_option maxRecDepth 100000 in
theorem c_X2_signZ (l : Launch) (D : va_G) {k : Nat} (hk5 : k < 5) {m0 mx my mr mb : Nat} {th sx sy : Int32} {cA : ClassId} {fx fy fr fb : Nat → Int32} {R : Nat → Nat × Nat} (hfr : ∀ j, j < tw_P k → fr j = tw_rv (tw_P k) j) (hR : ∀ j, j < 12 → tw_on (tw_P k) (tw_D k) (R j) ∧ fx j = nI (R j).1 ∧ fy j = nI (R j).2) {j key msg : Nat} (hj : j < 12) (hkey : key ≤ 1073741824) (hmsg : msg ≤ 1073741824) (hne : R j = (0, 1)) (sz : Nat) : Met l yX2_sign wX2_sign ({ frames := 1, cells := 0, slots := 0, locals := 20 }) (va_Pc [.ref m0, .int (nI j), .int (nI key), .int (nI msg)] (wd_pre D [(cA, .int)] [(m0, .inr (2, [.int th, .int (nI k), .int (nI (tw_P k)), .int (nI (tw_D k)), .int (nI (tw_I k)), .ref mx, .ref my, .ref mr, .ref mb, .int sx, .int sy])), (mx, .inl (cA, 12, .inl fx)), (my, .inl (cA, 12, .inl fy)), (mr, .inl (cA, 8101, .inl fr)), (mb, .inl (cA, 5, .inl fb))] sz)) (va_Ql (fun (r : Int64) (u : Unit) => r = lN 0) (fun (u : Unit) t => wd_at D [(cA, .int)] (va_A [(m0, .inr (2, [.int th, .int (nI k), .int (nI (tw_P k)), .int (nI (tw_D k)), .int (nI (tw_I k)), .ref mx, .ref my, .ref mr, .ref mb, .int sx, .int sy])), (mx, .inl (cA, 12, .inl fx)), (my, .inl (cA, 12, .inl fy)), (mr, .inl (cA, 8101, .inl fr)), (mb, .inl (cA, 5, .inl fb))] sz) [(m0, .inr (2, [.int (nI 3), .int (nI k), .int (nI (tw_P k)), .int (nI (tw_D k)), .int (nI (tw_I k)), .ref mx, .ref my, .ref mr, .ref mb, .int sx, .int sy])), (mx, .inl (cA, 12, .inl fx)), (my, .inl (cA, 12, .inl fy)), (mr, .inl (cA, 8101, .inl fr)), (mb, .inl (cA, 5, .inl fb))] t) (va_A [(m0, .inr (2, [.int th, .int (nI k), .int (nI (tw_P k)), .int (nI (tw_D k)), .int (nI (tw_I k)), .ref mx, .ref my, .ref mr, .ref mb, .int sx, .int sy])), (mx, .inl (cA, 12, .inl fx)), (my, .inl (cA, 12, .inl fy)), (mr, .inl (cA, 8101, .inl fr)), (mb, .inl (cA, 5, .inl fb))] sz)) 0 0 (va_A [(m0, .inr (2, [.int th, .int (nI k), .int (nI (tw_P k)), .int (nI (tw_D k)), .int (nI (tw_I k)), .ref mx, .ref my, .ref mr, .ref mb, .int sx, .int sy])), (mx, .inl (cA, 12, .inl fx)), (my, .inl (cA, 12, .inl fy)), (mr, .inl (cA, 8101, .inl fr)), (mb, .inl (cA, 5, .inl fb))] sz) := by
  refine Met.ofW (cc := cX2_sign) (maxL := 10) (ret := (some .long)) (by decide) rfl ?_
  intro p e s m args below meth c s₁ B hml hv
  obtain ⟨rfl, hsz, hP, hK, hD0⟩ := hv
  have hx := B.exec
  have hb := B.bytes
  have hr := B.returns
  have hts := atoms_spec (ws := wX2_sign) B.pre
  have ht : ∀ w ∈ tb_all, w.before _ s = true := fun w h => hts w (List.mem_cons_of_mem _ h)
  have hown : s.vm.findClass RX2 = some m.cls := findClass_of_methodNamed B.named
  have hlocks := B.notSynchronized
  have hin : meth.name = "sign" := (name_of_methodNamed B.named B.method).1
  subst hsz
  have hD := hD0.self (sz := s.heap.size)
  generalize hAe : va_A [(m0, .inr (2, [.int th, .int (nI k), .int (nI (tw_P k)), .int (nI (tw_D k)), .int (nI (tw_I k)), .ref mx, .ref my, .ref mr, .ref mb, .int sx, .int sy])), (mx, .inl (cA, 12, .inl fx)), (my, .inl (cA, 12, .inl fy)), (mr, .inl (cA, 8101, .inl fr)), (mb, .inl (cA, 5, .inl fb))] s.heap.size = A at hD ⊢
  have hA : ∀ q : Nat, s.heap.size ≤ q → A q := fun q h => by rw [← hAe]; exact Or.inr h
  have hS : va_S A s.heap s.heap [] := va_S.rf
  have hl := lv_entry ([.ref m0, .int (nI j), .int (nI key), .int (nI msg)]) (n := 10) (Nat.le_of_ble_eq_true rfl)
  rw [lg_entry_eq]
  generalize (lg_sl ([.ref m0, .int (nI j), .int (nI key), .int (nI msg)]) ++ List.replicate (10 - (lg_sl ([.ref m0, .int (nI j), .int (nI key), .int (nI msg)])).length) Slot.unset).toArray = ls at hl ⊢
  have hl : lv_has ls 10 [(0, .ref m0), (1, .int (nI j)), (2, .int (nI key)), (3, .int (nI msg))] := hl
  obtain ⟨hP0, hP2, hD2, hI2, hDP⟩ := tw_kb hk5
  have hK0 := tw_kK k hk5
  have hP8 : tw_P k ≤ 8192 := by omega
  have hN := tw_kN k hk5
  have zk : k ≤ 4 := by omega
  refine lv_aload_n hx hb dX2_sign_0 rfl (lv_at hl 0 rfl) ?_
  refine lv_iload_n hx hb dX2_sign_1 rfl (lv_at hl 1 rfl) ?_
  refine vp_callSi (W.runS (As := [.int (nI j)]) (rest := [.ref m0]) ⟨hx, hb, hml, hown, ht⟩ (c_X2_none l hj) (va_cwS 1 ht (tb_S kl_X2_76 kt_X2_none kn_X2 kc_X2_none) rfl rfl rfl kd_X2_none ⟨Nat.le_of_ble_eq_true rfl, Nat.le_of_ble_eq_true rfl⟩) (st_pre _) rfl rfl hl.1 rfl (lv_room (Nat.le_of_ble_eq_true rfl)) dX2_sign_2 ⟨Nat.zero_le _, Nat.zero_le _⟩) (fun r hr9 => ?_)
  subst hr9
  refine lv_if_eq (tgt := 12) hx hb dX2_sign_5 (by decide) (fun _ => ?_) (fun c9 => absurd rfl c9)
  refine lv_iload_n hx hb dX2_sign_12 rfl (lv_at hl 2 rfl) ?_
  refine nv_if_lt (tgt := 32) hx hb dX2_sign_13 (by decide) (nv_le (b := 1073741824) hkey (by decide)) ?_
  refine lv_iload_n hx hb dX2_sign_16 rfl (lv_at hl 2 rfl) ?_
  refine lv_ldc (v := nI 1073741824) hx hb hown (ht _ kv_X2_106) dX2_sign_17 ?_
  refine nv_icmp_gt (tgt := 32) hx hb dX2_sign_19 (by decide) (nv_le (b := 1073741824) hkey (by decide)) (nv_le (b := 1073741824) (Nat.le_refl 1073741824) (by decide)) (fun c19 => ?_) (fun c19 => ?_)
  · omega
  · refine lv_iload_n hx hb dX2_sign_22 rfl (lv_at hl 3 rfl) ?_
    refine nv_if_lt (tgt := 32) hx hb dX2_sign_23 (by decide) (nv_le (b := 1073741824) hmsg (by decide)) ?_
    refine lv_iload_n hx hb dX2_sign_26 rfl (lv_at hl 3 rfl) ?_
    refine lv_ldc (v := nI 1073741824) hx hb hown (ht _ kv_X2_106) dX2_sign_27 ?_
    refine nv_icmp_le (tgt := 36) hx hb dX2_sign_29 (by decide) (nv_le (b := 1073741824) hmsg (by decide)) (nv_le (b := 1073741824) (Nat.le_refl 1073741824) (by decide)) (fun c29 => ?_) (fun c29 => ?_)
    · refine lv_aload_n hx hb dX2_sign_36 rfl (lv_at hl 0 rfl) ?_
      refine va_get (D := D) (ci := 2) (v := .ref mx) (C := RX2) (T := TX2) (N := 11) hx hb ht inX2 hown hK hP 0 rfl rfl 5 (by decide) (ht _ kf_X2_13) (fun _ h9 => h9) rfl dX2_sign_37 ?_
      refine lv_iload_n hx hb dX2_sign_40 rfl (lv_at hl 1 rfl) ?_
      refine nv_iald (A := fun _ => True) (H0 := s.heap) hx hb hK hP 1 0 rfl rfl hj (by decide) dX2_sign_41 ?_
      rw [(hR _ hj).2.1]
      refine nv_if_ne (tgt := 59) hx hb dX2_sign_42 (by decide) (nv_le (b := 8100) (tw_on1 hP2 (hR _ hj).1) (by decide)) (fun c42 => ?_) (fun c42 => ?_)
      · rw [hne] at c42
        exact absurd c42 (by decide)
      · refine lv_aload_n hx hb dX2_sign_45 rfl (lv_at hl 0 rfl) ?_
        refine va_get (D := D) (ci := 2) (v := .ref my) (C := RX2) (T := TX2) (N := 11) hx hb ht inX2 hown hK hP 0 rfl rfl 6 (by decide) (ht _ kf_X2_17) (fun _ h9 => h9) rfl dX2_sign_46 ?_
        refine lv_iload_n hx hb dX2_sign_49 rfl (lv_at hl 1 rfl) ?_
        refine nv_iald (A := fun _ => True) (H0 := s.heap) hx hb hK hP 2 0 rfl rfl hj (by decide) dX2_sign_50 ?_
        rw [(hR _ hj).2.2]
        refine lv_iconst (v := (nI 1)) hx hb dX2_sign_51 (by decide) ?_
        refine nv_icmp_ne (tgt := 59) hx hb dX2_sign_52 (by decide) (nv_le (b := 8100) (tw_on2 hP2 (hR _ hj).1) (by decide)) (nv_le (b := 1) (Nat.le_refl 1) (by decide)) (fun c52 => ?_) (fun c52 => ?_)
        · exact absurd (by rw [hne]) c52
        · refine lv_iconst (v := (nI 3)) hx hb dX2_sign_55 (by decide) ?_
          refine lv_goto (tgt := 60) hx hb dX2_sign_56 (by decide) ?_
          refine va_put (D := D) (ci := 2) (v := .int (nI 3)) (ty := .int) (C := RX2) (T := TX2) (N := 11) hx hb ht inX2 tyX2 tyX2_ok nmX2 hown hK hP hD hS 0 rfl rfl 0 (by decide) (ht _ kf_X2_30) (fun _ h9 => h9) rfl (by decide +kernel) rfl rfl (Nat.le_of_ble_eq_true rfl) dX2_sign_60 (fun H locs hP hD hS => ?_)
          have hP : va_P D vwCl [(m0, .inr (2, [.int (nI 3), .int (nI k), .int (nI (tw_P k)), .int (nI (tw_D k)), .int (nI (tw_I k)), .ref mx, .ref my, .ref mr, .ref mb, .int sx, .int sy])), (mx, .inl (cA, 12, .inl fx)), (my, .inl (cA, 12, .inl fy)), (mr, .inl (cA, 8101, .inl fr)), (mb, .inl (cA, 5, .inl fb))] H := hP
          have hD : va_D A [(m0, .inr (2, [.int (nI 3), .int (nI k), .int (nI (tw_P k)), .int (nI (tw_D k)), .int (nI (tw_I k)), .ref mx, .ref my, .ref mr, .ref mb, .int sx, .int sy])), (mx, .inl (cA, 12, .inl fx)), (my, .inl (cA, 12, .inl fy)), (mr, .inl (cA, 8101, .inl fr)), (mb, .inl (cA, 5, .inl fb))] := hD
          refine lv_aload_n hx hb dX2_sign_63 rfl (lv_at hl 0 rfl) ?_
          refine va_get (D := D) (ci := 2) (v := .int (nI 3)) (C := RX2) (T := TX2) (N := 11) hx hb ht inX2 hown hK hP 0 rfl rfl 0 (by decide) (ht _ kf_X2_30) (fun _ h9 => h9) rfl dX2_sign_64 ?_
          refine nv_if_le (tgt := 72) hx hb dX2_sign_67 (by decide) (by decide) (fun c8 => absurd c8 (by decide)) (fun _ => ?_)
          refine lv_lconst (v := lN 0) hx hb dX2_sign_70 (by decide) ?_
          exact W.lret hx hb hr (fun t ht9 hW => ⟨⟨_, (), rfl, rfl, by rw [ht9]; exact hP, va_K.moved hW.alike hK, hD⟩, hS.F ht9⟩) hS.2.2 dX2_sign_71
    · omega
set_option maxHeartbeats 4000000 in
set_option maxRecDepth 100000 in
theorem c_X2_verifyN (l : Launch) (D : va_G) {k : Nat} (hk5 : k < 5) {m0 mx my mr mb : Nat} {th sx sy : Int32} {cA : ClassId} {fx fy fr fb : Nat → Int32} {j j2 : Nat} (hj : j < 12) (hj2 : j2 < 12) {y1 : Int32} {l1 : Int64} (hz : md_nb y1) (sz : Nat) : Met l yX2_verify wX2_verify ({ frames := 1, cells := 0, slots := 0, locals := 20 }) (va_Pc [.ref m0, .int (nI j), .int (nI j2), .int y1, .long l1] (wd_pre D [(cA, .int)] [(m0, .inr (2, [.int th, .int (nI k), .int (nI (tw_P k)), .int (nI (tw_D k)), .int (nI (tw_I k)), .ref mx, .ref my, .ref mr, .ref mb, .int sx, .int sy])), (mx, .inl (cA, 12, .inl fx)), (my, .inl (cA, 12, .inl fy)), (mr, .inl (cA, 8101, .inl fr)), (mb, .inl (cA, 5, .inl fb))] sz)) (va_Qi (fun (r : Int32) (u : Unit) => r = 0) (fun (u : Unit) t => wd_at D [(cA, .int)] (va_A [(m0, .inr (2, [.int th, .int (nI k), .int (nI (tw_P k)), .int (nI (tw_D k)), .int (nI (tw_I k)), .ref mx, .ref my, .ref mr, .ref mb, .int sx, .int sy])), (mx, .inl (cA, 12, .inl fx)), (my, .inl (cA, 12, .inl fy)), (mr, .inl (cA, 8101, .inl fr)), (mb, .inl (cA, 5, .inl fb))] sz) [(m0, .inr (2, [.int (nI 2), .int (nI k), .int (nI (tw_P k)), .int (nI (tw_D k)), .int (nI (tw_I k)), .ref mx, .ref my, .ref mr, .ref mb, .int sx, .int sy])), (mx, .inl (cA, 12, .inl fx)), (my, .inl (cA, 12, .inl fy)), (mr, .inl (cA, 8101, .inl fr)), (mb, .inl (cA, 5, .inl fb))] t) (va_A [(m0, .inr (2, [.int th, .int (nI k), .int (nI (tw_P k)), .int (nI (tw_D k)), .int (nI (tw_I k)), .ref mx, .ref my, .ref mr, .ref mb, .int sx, .int sy])), (mx, .inl (cA, 12, .inl fx)), (my, .inl (cA, 12, .inl fy)), (mr, .inl (cA, 8101, .inl fr)), (mb, .inl (cA, 5, .inl fb))] sz)) 0 0 (va_A [(m0, .inr (2, [.int th, .int (nI k), .int (nI (tw_P k)), .int (nI (tw_D k)), .int (nI (tw_I k)), .ref mx, .ref my, .ref mr, .ref mb, .int sx, .int sy])), (mx, .inl (cA, 12, .inl fx)), (my, .inl (cA, 12, .inl fy)), (mr, .inl (cA, 8101, .inl fr)), (mb, .inl (cA, 5, .inl fb))] sz) := by
  refine Met.ofW (cc := cX2_verify) (maxL := 9) (ret := (some .boolean)) (by decide) rfl ?_
  intro p e s m args below meth c s₁ B hml hv
  obtain ⟨rfl, hsz, hP, hK, hD0⟩ := hv
  have hx := B.exec
  have hb := B.bytes
  have hr := B.returns
  have hts := atoms_spec (ws := wX2_verify) B.pre
  have ht : ∀ w ∈ tb_all, w.before _ s = true := fun w h => hts w (List.mem_cons_of_mem _ h)
  have hown : s.vm.findClass RX2 = some m.cls := findClass_of_methodNamed B.named
  have hlocks := B.notSynchronized
  have hin : meth.name = "verify" := (name_of_methodNamed B.named B.method).1
  subst hsz
  have hD := hD0.self (sz := s.heap.size)
  generalize hAe : va_A [(m0, .inr (2, [.int th, .int (nI k), .int (nI (tw_P k)), .int (nI (tw_D k)), .int (nI (tw_I k)), .ref mx, .ref my, .ref mr, .ref mb, .int sx, .int sy])), (mx, .inl (cA, 12, .inl fx)), (my, .inl (cA, 12, .inl fy)), (mr, .inl (cA, 8101, .inl fr)), (mb, .inl (cA, 5, .inl fb))] s.heap.size = A at hD ⊢
  have hA : ∀ q : Nat, s.heap.size ≤ q → A q := fun q h => by rw [← hAe]; exact Or.inr h
  have hS : va_S A s.heap s.heap [] := va_S.rf
  have hl := lv_entry ([.ref m0, .int (nI j), .int (nI j2), .int y1, .long l1]) (n := 9) (Nat.le_of_ble_eq_true rfl)
  rw [lg_entry_eq]
  generalize (lg_sl ([.ref m0, .int (nI j), .int (nI j2), .int y1, .long l1]) ++ List.replicate (9 - (lg_sl ([.ref m0, .int (nI j), .int (nI j2), .int y1, .long l1])).length) Slot.unset).toArray = ls at hl ⊢
  have hl : lv_has ls 9 [(0, .ref m0), (1, .int (nI j)), (2, .int (nI j2)), (3, .int y1), (4, .long l1)] := hl
  obtain ⟨hP0, hP2, hD2, hI2, hDP⟩ := tw_kb hk5
  have hK0 := tw_kK k hk5
  have hP8 : tw_P k ≤ 8192 := by omega
  have hN := tw_kN k hk5
  have zk : k ≤ 4 := by omega
  refine lv_aload_n hx hb dX2_verify_0 rfl (lv_at hl 0 rfl) ?_
  refine lv_iload_n hx hb dX2_verify_1 rfl (lv_at hl 1 rfl) ?_
  refine vp_callSi (W.runS (As := [.int (nI j)]) (rest := [.ref m0]) ⟨hx, hb, hml, hown, ht⟩ (c_X2_none l hj) (va_cwS 1 ht (tb_S kl_X2_76 kt_X2_none kn_X2 kc_X2_none) rfl rfl rfl kd_X2_none ⟨Nat.le_of_ble_eq_true rfl, Nat.le_of_ble_eq_true rfl⟩) (st_pre _) rfl rfl hl.1 rfl (lv_room (Nat.le_of_ble_eq_true rfl)) dX2_verify_2 ⟨Nat.zero_le _, Nat.zero_le _⟩) (fun r hr9 => ?_)
  subst hr9
  refine lv_if_ne (tgt := 15) hx hb dX2_verify_5 (by decide) (fun c9 => absurd rfl c9) (fun _ => ?_)
  refine lv_iload_n hx hb dX2_verify_8 rfl (lv_at hl 2 rfl) ?_
  refine vp_callSi (W.runS (As := [.int (nI j2)]) (rest := [.ref m0]) ⟨hx, hb, hml, hown, ht⟩ (c_X2_none l hj2) (va_cwS 1 ht (tb_S kl_X2_76 kt_X2_none kn_X2 kc_X2_none) rfl rfl rfl kd_X2_none ⟨Nat.le_of_ble_eq_true rfl, Nat.le_of_ble_eq_true rfl⟩) (st_pre _) rfl rfl hl.1 rfl (lv_room (Nat.le_of_ble_eq_true rfl)) dX2_verify_9 ⟨Nat.zero_le _, Nat.zero_le _⟩) (fun r hr9 => ?_)
  subst hr9
  refine lv_if_eq (tgt := 19) hx hb dX2_verify_12 (by decide) (fun _ => ?_) (fun c9 => absurd rfl c9)
  have bad2 : W p l e (headSpec wX2_verify ({ frames := 1, cells := 0, slots := 0, locals := 20 })).room s m ([.ref m0, .int (nI j), .int (nI j2), .int y1, .long l1]).toArray below meth c s.heap [] 0 0 (MQ below (va_Qi (fun (r : Int32) (u : Unit) => r = 0) (fun (u : Unit) t => wd_at D [(cA, .int)] (A) [(m0, .inr (2, [.int (nI 2), .int (nI k), .int (nI (tw_P k)), .int (nI (tw_D k)), .int (nI (tw_I k)), .ref mx, .ref my, .ref mr, .ref mb, .int sx, .int sy])), (mx, .inl (cA, 12, .inl fx)), (my, .inl (cA, 12, .inl fy)), (mr, .inl (cA, 8101, .inl fr)), (mb, .inl (cA, 5, .inl fb))] t) A) ([.ref m0, .int (nI j), .int (nI j2), .int y1, .long l1]).toArray s 0 0 A) (F0 m 29 ls [.ref m0]) := by
    refine lv_iconst (v := (nI 2)) hx hb dX2_verify_29 (by decide) ?_
    refine lv_goto (tgt := 34) hx hb dX2_verify_30 (by decide) ?_
    refine va_put (D := D) (ci := 2) (v := .int (nI 2)) (ty := .int) (C := RX2) (T := TX2) (N := 11) hx hb ht inX2 tyX2 tyX2_ok nmX2 hown hK hP hD hS 0 rfl rfl 0 (by decide) (ht _ kf_X2_30) (fun _ h9 => h9) rfl (by decide +kernel) rfl rfl (Nat.le_of_ble_eq_true rfl) dX2_verify_34 (fun H locs hP hD hS => ?_)
    have hP : va_P D vwCl [(m0, .inr (2, [.int (nI 2), .int (nI k), .int (nI (tw_P k)), .int (nI (tw_D k)), .int (nI (tw_I k)), .ref mx, .ref my, .ref mr, .ref mb, .int sx, .int sy])), (mx, .inl (cA, 12, .inl fx)), (my, .inl (cA, 12, .inl fy)), (mr, .inl (cA, 8101, .inl fr)), (mb, .inl (cA, 5, .inl fb))] H := hP
    have hD : va_D A [(m0, .inr (2, [.int (nI 2), .int (nI k), .int (nI (tw_P k)), .int (nI (tw_D k)), .int (nI (tw_I k)), .ref mx, .ref my, .ref mr, .ref mb, .int sx, .int sy])), (mx, .inl (cA, 12, .inl fx)), (my, .inl (cA, 12, .inl fy)), (mr, .inl (cA, 8101, .inl fr)), (mb, .inl (cA, 5, .inl fb))] := hD
    refine lv_aload_n hx hb dX2_verify_37 rfl (lv_at hl 0 rfl) ?_
    refine va_get (D := D) (ci := 2) (v := .int (nI 2)) (C := RX2) (T := TX2) (N := 11) hx hb ht inX2 hown hK hP 0 rfl rfl 0 (by decide) (ht _ kf_X2_30) (fun _ h9 => h9) rfl dX2_verify_38 ?_
    refine nv_if_gt (tgt := 60) hx hb dX2_verify_41 (by decide) (by decide) (fun _ => ?_) (fun c8 => absurd c8 (by decide))
    refine lv_iconst (v := (nI 0)) hx hb dX2_verify_60 (by decide) ?_
    exact W.zret hx hb hr rfl (fun t ht9 hW => ⟨⟨_, (), rfl, rfl, by rw [ht9]; exact hP, va_K.moved hW.alike hK, hD⟩, hS.F ht9⟩) hS.2.2 dX2_verify_61
  refine lv_iload_n hx hb dX2_verify_19 rfl (lv_at hl 3 rfl) ?_
  refine lv_if_lt (tgt := 29) hx hb dX2_verify_20 (by decide) (fun _ => bad2) (fun c1 => ?_)
  refine lv_iload_n hx hb dX2_verify_23 rfl (lv_at hl 3 rfl) ?_
  refine lv_ldc (v := nI 1073741824) hx hb hown (ht _ kv_X2_106) dX2_verify_24 ?_
  refine lv_icmp_le (tgt := 33) hx hb dX2_verify_26 (by decide) (fun c4 => absurd hz (md_nle c1 c4)) (fun _ => bad2)
set_option maxHeartbeats 4000000 in
set_option maxRecDepth 100000 in
theorem c_X2_beginR (l : Launch) (D : va_G) {k : Nat} (hk5 : k < 5) {m0 mx my mr mb : Nat} {th sx sy : Int32} {cA : ClassId} {fx fy fr fb : Nat → Int32} {z1 : Int32} (hz : z1 < 0 ∨ nI 4 < z1) (sz : Nat) : Met l yX2_begin wX2_begin ({ frames := 0, cells := 0, slots := 0, locals := 0 }) (va_Pc [.ref m0, .int z1] (wd_pre D [(cA, .int)] [(m0, .inr (2, [.int th, .int (nI k), .int (nI (tw_P k)), .int (nI (tw_D k)), .int (nI (tw_I k)), .ref mx, .ref my, .ref mr, .ref mb, .int sx, .int sy])), (mx, .inl (cA, 12, .inl fx)), (my, .inl (cA, 12, .inl fy)), (mr, .inl (cA, 8101, .inl fr)), (mb, .inl (cA, 5, .inl fb))] sz)) (va_Qi (fun (r : Int32) (u : Unit) => r = 0) (fun (u : Unit) t => wd_at D [(cA, .int)] (va_A [(m0, .inr (2, [.int th, .int (nI k), .int (nI (tw_P k)), .int (nI (tw_D k)), .int (nI (tw_I k)), .ref mx, .ref my, .ref mr, .ref mb, .int sx, .int sy])), (mx, .inl (cA, 12, .inl fx)), (my, .inl (cA, 12, .inl fy)), (mr, .inl (cA, 8101, .inl fr)), (mb, .inl (cA, 5, .inl fb))] sz) [(m0, .inr (2, [.int (nI 1), .int (nI k), .int (nI (tw_P k)), .int (nI (tw_D k)), .int (nI (tw_I k)), .ref mx, .ref my, .ref mr, .ref mb, .int sx, .int sy])), (mx, .inl (cA, 12, .inl fx)), (my, .inl (cA, 12, .inl fy)), (mr, .inl (cA, 8101, .inl fr)), (mb, .inl (cA, 5, .inl fb))] t) (va_A [(m0, .inr (2, [.int th, .int (nI k), .int (nI (tw_P k)), .int (nI (tw_D k)), .int (nI (tw_I k)), .ref mx, .ref my, .ref mr, .ref mb, .int sx, .int sy])), (mx, .inl (cA, 12, .inl fx)), (my, .inl (cA, 12, .inl fy)), (mr, .inl (cA, 8101, .inl fr)), (mb, .inl (cA, 5, .inl fb))] sz)) 0 0 (va_A [(m0, .inr (2, [.int th, .int (nI k), .int (nI (tw_P k)), .int (nI (tw_D k)), .int (nI (tw_I k)), .ref mx, .ref my, .ref mr, .ref mb, .int sx, .int sy])), (mx, .inl (cA, 12, .inl fx)), (my, .inl (cA, 12, .inl fy)), (mr, .inl (cA, 8101, .inl fr)), (mb, .inl (cA, 5, .inl fb))] sz) := by
  refine Met.ofW (cc := cX2_begin) (maxL := 2) (ret := (some .int)) (by decide) rfl ?_
  intro p e s m args below meth c s₁ B hml hv
  obtain ⟨rfl, hsz, hP, hK, hD0⟩ := hv
  have hx := B.exec
  have hb := B.bytes
  have hr := B.returns
  have hts := atoms_spec (ws := wX2_begin) B.pre
  have ht : ∀ w ∈ tb_all, w.before _ s = true := fun w h => hts w (List.mem_cons_of_mem _ h)
  have hown : s.vm.findClass RX2 = some m.cls := findClass_of_methodNamed B.named
  have hlocks := B.notSynchronized
  have hin : meth.name = "begin" := (name_of_methodNamed B.named B.method).1
  subst hsz
  have hD := hD0.self (sz := s.heap.size)
  generalize hAe : va_A [(m0, .inr (2, [.int th, .int (nI k), .int (nI (tw_P k)), .int (nI (tw_D k)), .int (nI (tw_I k)), .ref mx, .ref my, .ref mr, .ref mb, .int sx, .int sy])), (mx, .inl (cA, 12, .inl fx)), (my, .inl (cA, 12, .inl fy)), (mr, .inl (cA, 8101, .inl fr)), (mb, .inl (cA, 5, .inl fb))] s.heap.size = A at hD ⊢
  have hA : ∀ q : Nat, s.heap.size ≤ q → A q := fun q h => by rw [← hAe]; exact Or.inr h
  have hS : va_S A s.heap s.heap [] := va_S.rf
  have hl := lv_entry ([.ref m0, .int z1]) (n := 2) (Nat.le_of_ble_eq_true rfl)
  rw [lg_entry_eq]
  generalize (lg_sl ([.ref m0, .int z1]) ++ List.replicate (2 - (lg_sl ([.ref m0, .int z1])).length) Slot.unset).toArray = ls at hl ⊢
  have hl : lv_has ls 2 [(0, .ref m0), (1, .int z1)] := hl
  obtain ⟨hP0, hP2, hD2, hI2, hDP⟩ := tw_kb hk5
  have hK0 := tw_kK k hk5
  have hP8 : tw_P k ≤ 8192 := by omega
  have hN := tw_kN k hk5
  have zk : k ≤ 4 := by omega
  have bad2 : W p l e (headSpec wX2_begin ({ frames := 0, cells := 0, slots := 0, locals := 0 })).room s m ([.ref m0, .int z1]).toArray below meth c s.heap [] 0 0 (MQ below (va_Qi (fun (r : Int32) (u : Unit) => r = 0) (fun (u : Unit) t => wd_at D [(cA, .int)] (A) [(m0, .inr (2, [.int (nI 1), .int (nI k), .int (nI (tw_P k)), .int (nI (tw_D k)), .int (nI (tw_I k)), .ref mx, .ref my, .ref mr, .ref mb, .int sx, .int sy])), (mx, .inl (cA, 12, .inl fx)), (my, .inl (cA, 12, .inl fy)), (mr, .inl (cA, 8101, .inl fr)), (mb, .inl (cA, 5, .inl fb))] t) A) ([.ref m0, .int z1]).toArray s 0 0 A) (F0 m 10 ls [.ref m0]) := by
    refine lv_iconst (v := (nI 1)) hx hb dX2_begin_10 (by decide) ?_
    refine lv_goto (tgt := 15) hx hb dX2_begin_11 (by decide) ?_
    refine va_put (D := D) (ci := 2) (v := .int (nI 1)) (ty := .int) (C := RX2) (T := TX2) (N := 11) hx hb ht inX2 tyX2 tyX2_ok nmX2 hown hK hP hD hS 0 rfl rfl 0 (by decide) (ht _ kf_X2_30) (fun _ h9 => h9) rfl (by decide +kernel) rfl rfl (Nat.le_of_ble_eq_true rfl) dX2_begin_15 (fun H locs hP hD hS => ?_)
    have hP : va_P D vwCl [(m0, .inr (2, [.int (nI 1), .int (nI k), .int (nI (tw_P k)), .int (nI (tw_D k)), .int (nI (tw_I k)), .ref mx, .ref my, .ref mr, .ref mb, .int sx, .int sy])), (mx, .inl (cA, 12, .inl fx)), (my, .inl (cA, 12, .inl fy)), (mr, .inl (cA, 8101, .inl fr)), (mb, .inl (cA, 5, .inl fb))] H := hP
    have hD : va_D A [(m0, .inr (2, [.int (nI 1), .int (nI k), .int (nI (tw_P k)), .int (nI (tw_D k)), .int (nI (tw_I k)), .ref mx, .ref my, .ref mr, .ref mb, .int sx, .int sy])), (mx, .inl (cA, 12, .inl fx)), (my, .inl (cA, 12, .inl fy)), (mr, .inl (cA, 8101, .inl fr)), (mb, .inl (cA, 5, .inl fb))] := hD
    refine lv_aload_n hx hb dX2_begin_18 rfl (lv_at hl 0 rfl) ?_
    refine va_get (D := D) (ci := 2) (v := .int (nI 1)) (C := RX2) (T := TX2) (N := 11) hx hb ht inX2 hown hK hP 0 rfl rfl 0 (by decide) (ht _ kf_X2_30) (fun _ h9 => h9) rfl dX2_begin_19 ?_
    refine nv_if_le (tgt := 27) hx hb dX2_begin_22 (by decide) (by decide) (fun c8 => absurd c8 (by decide)) (fun _ => ?_)
    refine lv_iconst (v := (nI 0)) hx hb dX2_begin_25 (by decide) ?_
    exact W.iret hx hb hr (fun t ht9 hW => ⟨⟨_, (), rfl, rfl, by rw [ht9]; exact hP, va_K.moved hW.alike hK, hD⟩, hS.F ht9⟩) hS.2.2 dX2_begin_26
  refine lv_aload_n hx hb dX2_begin_0 rfl (lv_at hl 0 rfl) ?_
  refine lv_iload_n hx hb dX2_begin_1 rfl (lv_at hl 1 rfl) ?_
  refine lv_if_lt (tgt := 10) hx hb dX2_begin_2 (by decide) (fun _ => bad2) (fun c1 => ?_)
  refine lv_iload_n hx hb dX2_begin_5 rfl (lv_at hl 1 rfl) ?_
  refine lv_iconst (v := (nI 4)) hx hb dX2_begin_6 (by decide) ?_
  refine lv_icmp_le (tgt := 14) hx hb dX2_begin_7 (by decide) (fun c4 => ?_) (fun _ => bad2)
  rcases hz with q | q
  · exact absurd q c1
  · rw [Int32.lt_iff_toInt_lt] at q; rw [Int32.le_iff_toInt_le] at c4; omega
set_option maxHeartbeats 4000000 in
set_option maxRecDepth 100000 in
theorem c_X2_thrown (l : Launch) (D : va_G) {k : Nat} (hk5 : k < 5) {m0 mx my mr mb : Nat} {th sx sy : Int32} : Met l yX2_thrown wX2_thrown ({ frames := 0, cells := 0, slots := 0, locals := 0 }) (va_Pc [.ref m0] (fun U => va_P D vwCl [(m0, .inr (2, [.int th, .int (nI k), .int (nI (tw_P k)), .int (nI (tw_D k)), .int (nI (tw_I k)), .ref mx, .ref my, .ref mr, .ref mb, .int sx, .int sy]))] U.heap ∧ va_K D vwCl [] U)) (vp_Si (fun r => r = th)) 0 0 (fun _ => False) := by
  refine Met.ofW (cc := cX2_thrown) (maxL := 1) (ret := (some .int)) (by decide) rfl ?_
  intro p e s m args below meth c s₁ B hml hv
  obtain ⟨rfl, hv⟩ := hv
  have hx := B.exec
  have hb := B.bytes
  have hr := B.returns
  have hts := atoms_spec (ws := wX2_thrown) B.pre
  have ht : ∀ w ∈ tb_all, w.before _ s = true := fun w h => hts w (List.mem_cons_of_mem _ h)
  have hown : s.vm.findClass RX2 = some m.cls := findClass_of_methodNamed B.named
  have hlocks := B.notSynchronized
  have hl := lv_entry ([.ref m0]) (n := 1) (Nat.le_of_ble_eq_true rfl)
  rw [lg_entry_eq]
  generalize (lg_sl ([.ref m0]) ++ List.replicate (1 - (lg_sl ([.ref m0])).length) Slot.unset).toArray = ls at hl ⊢
  have hl : lv_has ls 1 [(0, .ref m0)] := hl
  obtain ⟨hP, hK⟩ := hv
  refine lv_aload_n hx hb dX2_thrown_0 rfl (lv_at hl 0 rfl) ?_
  refine va_get (D := D) (ci := 2) (v := .int th) (C := RX2) (T := TX2) (N := 11) hx hb ht inX2 hown hK hP 0 rfl rfl 0 (by decide) (ht _ kf_X2_30) (fun _ h9 => h9) rfl dX2_thrown_1 ?_
  exact W.iret hx hb hr (fun t ht hW => ⟨_, rfl, rfl, ht⟩) (fun q h => nomatch h) dX2_thrown_4
