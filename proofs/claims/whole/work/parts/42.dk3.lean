/-! the desk: what writes -/
set_option maxHeartbeats 4000000 in
set_option maxRecDepth 100000 in
theorem c_X1_keep (l : Launch) (D : va_G) {k : Nat} {d0 dc dr h0 : Nat} {cA : ClassId} {rg : Nat → Int32} {j : Nat} (hj : j < 12) {p9 : Nat × Nat} (hp1 : p9.1 ≤ 8191) (hp2 : p9.2 ≤ 8191) (sz : Nat) : Met l yX1_keep wX1_keep ({ frames := 2, cells := 0, slots := 0, locals := 40 }) (va_Pc [.ref d0, .int (nI j), .int (nI (tw_en p9))] (wd_pre D [(cA, .int)] [(d0, .inr (1, [.ref dc, .ref dr, .int (nI k), .ref h0])), (dr, .inl (cA, 12, .inl rg))] sz)) (va_Qi (fun (r : Int32) (u : Nat → Int32) => r = nI (tw_pk p9) ∧ u = upd rg j (nI (tw_en p9))) (fun (u : Nat → Int32) t => wd_at D [(cA, .int)] (va_A [(d0, .inr (1, [.ref dc, .ref dr, .int (nI k), .ref h0])), (dr, .inl (cA, 12, .inl rg))] sz) [(d0, .inr (1, [.ref dc, .ref dr, .int (nI k), .ref h0])), (dr, .inl (cA, 12, .inl u))] t) (va_A [(d0, .inr (1, [.ref dc, .ref dr, .int (nI k), .ref h0])), (dr, .inl (cA, 12, .inl rg))] sz)) 0 0 (va_A [(d0, .inr (1, [.ref dc, .ref dr, .int (nI k), .ref h0])), (dr, .inl (cA, 12, .inl rg))] sz) := by
  refine Met.ofW (cc := cX1_keep) (maxL := 3) (ret := (some .int)) (by decide) rfl ?_
  intro p e s m args below meth c s₁ B hml hv
  obtain ⟨rfl, hsz, hP, hK, hD0⟩ := hv
  have hx := B.exec
  have hb := B.bytes
  have hr := B.returns
  have hts := atoms_spec (ws := wX1_keep) B.pre
  have ht : ∀ w ∈ tb_all, w.before _ s = true := fun w h => hts w (List.mem_cons_of_mem _ h)
  have hown : s.vm.findClass RX1 = some m.cls := findClass_of_methodNamed B.named
  have hlocks := B.notSynchronized
  have hin : meth.name = "keep" := (name_of_methodNamed B.named B.method).1
  subst hsz
  have hD := hD0.self (sz := s.heap.size)
  generalize hAe : va_A [(d0, .inr (1, [.ref dc, .ref dr, .int (nI k), .ref h0])), (dr, .inl (cA, 12, .inl rg))] s.heap.size = A at hD ⊢
  have hA : ∀ q : Nat, s.heap.size ≤ q → A q := fun q h => by rw [← hAe]; exact Or.inr h
  have hS : va_S A s.heap s.heap [] := va_S.rf
  have hl := lv_entry ([.ref d0, .int (nI j), .int (nI (tw_en p9))]) (n := 3) (Nat.le_of_ble_eq_true rfl)
  rw [lg_entry_eq]
  generalize (lg_sl ([.ref d0, .int (nI j), .int (nI (tw_en p9))]) ++ List.replicate (3 - (lg_sl ([.ref d0, .int (nI j), .int (nI (tw_en p9))])).length) Slot.unset).toArray = ls at hl ⊢
  have hl : lv_has ls 3 [(0, .ref d0), (1, .int (nI j)), (2, .int (nI (tw_en p9)))] := hl
  have zp : tw_en p9 ≤ 67108863 := by unfold tw_en; omega
  refine lv_aload_n hx hb dX1_keep_0 rfl (lv_at hl 0 rfl) ?_
  refine va_get (D := D) (ci := 1) (v := .ref dr) (C := RX1) (T := TX1) (N := 4) hx hb ht inX1 hown hK hP 0 rfl rfl 1 (by decide) (ht _ kf_X1_19) (fun _ h9 => h9) rfl dX1_keep_1 ?_
  refine lv_iload_n hx hb dX1_keep_4 rfl (lv_at hl 1 rfl) ?_
  refine lv_iload_n hx hb dX1_keep_5 rfl (lv_at hl 2 rfl) ?_
  refine nv_iast hx hb hK hP hD hS 1 0 rfl rfl hj (by decide) dX1_keep_6 (fun H locs hP hD hS => ?_)
  have hP : va_P D vwCl [(d0, .inr (1, [.ref dc, .ref dr, .int (nI k), .ref h0])), (dr, .inl (cA, 12, .inl (upd rg j (nI (tw_en p9)))))] H := hP
  have hD : va_D A [(d0, .inr (1, [.ref dc, .ref dr, .int (nI k), .ref h0])), (dr, .inl (cA, 12, .inl (upd rg j (nI (tw_en p9)))))] := hD
  refine lv_iload_n hx hb dX1_keep_7 rfl (lv_at hl 2 rfl) ?_
  refine vp_callSi (W.runS (As := [.int (nI (tw_en p9))]) (rest := []) ⟨hx, hb, hml, hown, ht⟩ (c_X0_compress l (x := p9.1) (y := p9.2) hp1 hp2) (va_cwS 1 ht (tb_S kl_X1_60 kt_X0_compress kn_X0 kc_X0_compress) rfl rfl rfl kd_X0_compress ⟨Nat.le_of_ble_eq_true rfl, Nat.le_of_ble_eq_true rfl⟩) (st_pre _) rfl rfl hl.1 rfl (lv_room (Nat.le_of_ble_eq_true rfl)) dX1_keep_8 ⟨Nat.zero_le _, Nat.zero_le _⟩) (fun r hr9 => ?_)
  subst hr9
  exact W.iret hx hb hr (fun t ht9 hW => ⟨⟨_, (upd rg j (nI (tw_en p9))), rfl, ⟨rfl, rfl⟩, by rw [ht9]; exact hP, va_K.moved hW.alike hK, hD⟩, hS.F ht9⟩) hS.2.2 dX1_keep_11
set_option maxHeartbeats 4000000 in
set_option maxRecDepth 100000 in
theorem c_X1_put (l : Launch) (D : va_G) {k : Nat} (hk5 : k < 5) {d0 dc dr h0 ai ar af ap ah ac : Nat} {cA : ClassId} {hk : Int32} {rg fi fr ff fp fh fn : Nat → Int32} {R : Nat → Nat × Nat} (hok : cv_ok k fi fr ff) (hrg : ∀ j, j < 12 → tw_on (tw_P k) (tw_D k) (R j) ∧ rg j = nI (tw_en (R j))) {j x y : Nat} (hj : j < 12) (hon : tw_on (tw_P k) (tw_D k) (x, y)) (sz : Nat) : Met l yX1_put wX1_put ({ frames := 2, cells := 0, slots := 0, locals := 40 }) (va_Pc [.ref d0, .int (nI j), .int (nI x), .int (nI y)] (wd_pre D [(cA, .int)] [(d0, .inr (1, [.ref dc, .ref dr, .int (nI k), .ref h0])), (dr, .inl (cA, 12, .inl rg)), (h0, .inr (0, [.int (nI (tw_P k)), .int (nI (tw_D k)), .int (nI (tw_I k)), .int (nI (tw_N k)), .ref ai, .ref ar, .ref af, .ref ap, .ref ah, .ref ac, .int (nI ((tw_fs k).length)), .int hk])), (ai, .inl (cA, tw_P k, .inl fi)), (ar, .inl (cA, tw_P k, .inl fr)), (af, .inl (cA, 14, .inl ff)), (ap, .inl (cA, 2 * tw_P k, .inl fp)), (ah, .inl (cA, 2 * tw_P k, .inl fh)), (ac, .inl (cA, 2 * tw_P k, .inl fn))] sz)) (va_Qv (fun (u : Nat → Int32) => u = upd rg j (nI (tw_en (x, y)))) (fun (u : Nat → Int32) t => wd_at D [(cA, .int)] (va_A [(d0, .inr (1, [.ref dc, .ref dr, .int (nI k), .ref h0])), (dr, .inl (cA, 12, .inl rg)), (h0, .inr (0, [.int (nI (tw_P k)), .int (nI (tw_D k)), .int (nI (tw_I k)), .int (nI (tw_N k)), .ref ai, .ref ar, .ref af, .ref ap, .ref ah, .ref ac, .int (nI ((tw_fs k).length)), .int hk])), (ai, .inl (cA, tw_P k, .inl fi)), (ar, .inl (cA, tw_P k, .inl fr)), (af, .inl (cA, 14, .inl ff)), (ap, .inl (cA, 2 * tw_P k, .inl fp)), (ah, .inl (cA, 2 * tw_P k, .inl fh)), (ac, .inl (cA, 2 * tw_P k, .inl fn))] sz) [(d0, .inr (1, [.ref dc, .ref dr, .int (nI k), .ref h0])), (dr, .inl (cA, 12, .inl u)), (h0, .inr (0, [.int (nI (tw_P k)), .int (nI (tw_D k)), .int (nI (tw_I k)), .int (nI (tw_N k)), .ref ai, .ref ar, .ref af, .ref ap, .ref ah, .ref ac, .int (nI ((tw_fs k).length)), .int hk])), (ai, .inl (cA, tw_P k, .inl fi)), (ar, .inl (cA, tw_P k, .inl fr)), (af, .inl (cA, 14, .inl ff)), (ap, .inl (cA, 2 * tw_P k, .inl fp)), (ah, .inl (cA, 2 * tw_P k, .inl fh)), (ac, .inl (cA, 2 * tw_P k, .inl fn))] t) (va_A [(d0, .inr (1, [.ref dc, .ref dr, .int (nI k), .ref h0])), (dr, .inl (cA, 12, .inl rg)), (h0, .inr (0, [.int (nI (tw_P k)), .int (nI (tw_D k)), .int (nI (tw_I k)), .int (nI (tw_N k)), .ref ai, .ref ar, .ref af, .ref ap, .ref ah, .ref ac, .int (nI ((tw_fs k).length)), .int hk])), (ai, .inl (cA, tw_P k, .inl fi)), (ar, .inl (cA, tw_P k, .inl fr)), (af, .inl (cA, 14, .inl ff)), (ap, .inl (cA, 2 * tw_P k, .inl fp)), (ah, .inl (cA, 2 * tw_P k, .inl fh)), (ac, .inl (cA, 2 * tw_P k, .inl fn))] sz)) 0 0 (va_A [(d0, .inr (1, [.ref dc, .ref dr, .int (nI k), .ref h0])), (dr, .inl (cA, 12, .inl rg)), (h0, .inr (0, [.int (nI (tw_P k)), .int (nI (tw_D k)), .int (nI (tw_I k)), .int (nI (tw_N k)), .ref ai, .ref ar, .ref af, .ref ap, .ref ah, .ref ac, .int (nI ((tw_fs k).length)), .int hk])), (ai, .inl (cA, tw_P k, .inl fi)), (ar, .inl (cA, tw_P k, .inl fr)), (af, .inl (cA, 14, .inl ff)), (ap, .inl (cA, 2 * tw_P k, .inl fp)), (ah, .inl (cA, 2 * tw_P k, .inl fh)), (ac, .inl (cA, 2 * tw_P k, .inl fn))] sz) := by
  refine Met.ofW (cc := cX1_put) (maxL := 4) (ret := none) (by decide) rfl ?_
  intro p e s m args below meth c s₁ B hml hv
  obtain ⟨rfl, hsz, hP, hK, hD0⟩ := hv
  have hx := B.exec
  have hb := B.bytes
  have hr := B.returns
  have hts := atoms_spec (ws := wX1_put) B.pre
  have ht : ∀ w ∈ tb_all, w.before _ s = true := fun w h => hts w (List.mem_cons_of_mem _ h)
  have hown : s.vm.findClass RX1 = some m.cls := findClass_of_methodNamed B.named
  have hlocks := B.notSynchronized
  have hin : meth.name = "put" := (name_of_methodNamed B.named B.method).1
  subst hsz
  have hD := hD0.self (sz := s.heap.size)
  generalize hAe : va_A [(d0, .inr (1, [.ref dc, .ref dr, .int (nI k), .ref h0])), (dr, .inl (cA, 12, .inl rg)), (h0, .inr (0, [.int (nI (tw_P k)), .int (nI (tw_D k)), .int (nI (tw_I k)), .int (nI (tw_N k)), .ref ai, .ref ar, .ref af, .ref ap, .ref ah, .ref ac, .int (nI ((tw_fs k).length)), .int hk])), (ai, .inl (cA, tw_P k, .inl fi)), (ar, .inl (cA, tw_P k, .inl fr)), (af, .inl (cA, 14, .inl ff)), (ap, .inl (cA, 2 * tw_P k, .inl fp)), (ah, .inl (cA, 2 * tw_P k, .inl fh)), (ac, .inl (cA, 2 * tw_P k, .inl fn))] s.heap.size = A at hD ⊢
  have hA : ∀ q : Nat, s.heap.size ≤ q → A q := fun q h => by rw [← hAe]; exact Or.inr h
  have hS : va_S A s.heap s.heap [] := va_S.rf
  have hl := lv_entry ([.ref d0, .int (nI j), .int (nI x), .int (nI y)]) (n := 4) (Nat.le_of_ble_eq_true rfl)
  rw [lg_entry_eq]
  generalize (lg_sl ([.ref d0, .int (nI j), .int (nI x), .int (nI y)]) ++ List.replicate (4 - (lg_sl ([.ref d0, .int (nI j), .int (nI x), .int (nI y)])).length) Slot.unset).toArray = ls at hl ⊢
  have hl : lv_has ls 4 [(0, .ref d0), (1, .int (nI j)), (2, .int (nI x)), (3, .int (nI y))] := hl
  obtain ⟨hP0, hP2, hD2, hI2, hDP⟩ := tw_kb hk5
  have hK0 := tw_kK k hk5
  have hP8 : tw_P k ≤ 8192 := by omega
  have hN := tw_kN k hk5
  have zk : k ≤ 4 := by omega
  obtain ⟨hfi, hfr, hff⟩ := hok
  have hx1 : x < tw_P k := hon.1
  have hy1 : y < tw_P k := hon.2.1
  have zx : x ≤ 8100 := by omega
  have zy : y ≤ 8100 := by omega
  refine lv_iload_n hx hb dX1_put_0 rfl (lv_at hl 1 rfl) ?_
  refine va_csv (W.runS (As := [.int (nI j)]) (rest := []) ⟨hx, hb, hml, hown, ht⟩ (c_X1_needRegister l hj) (va_cwS 1 ht (tb_S kl_X1_41 kt_X1_needRegister kn_X1 kc_X1_needRegister) rfl rfl rfl kd_X1_needRegister ⟨Nat.le_of_ble_eq_true rfl, Nat.le_of_ble_eq_true rfl⟩) (st_pre _) rfl rfl hl.1 rfl (lv_room (Nat.le_of_ble_eq_true rfl)) dX1_put_1 ⟨Nat.zero_le _, Nat.zero_le _⟩) (fun _ => ?_)
  refine lv_aload_n hx hb dX1_put_4 rfl (lv_at hl 0 rfl) ?_
  refine va_get (D := D) (ci := 1) (v := .ref h0) (C := RX1) (T := TX1) (N := 4) hx hb ht inX1 hown hK hP 0 rfl rfl 3 (by decide) (ht _ kf_X1_33) (fun _ h9 => h9) rfl dX1_put_5 ?_
  refine lv_iload_n hx hb dX1_put_8 rfl (lv_at hl 2 rfl) ?_
  refine lv_iload_n hx hb dX1_put_9 rfl (lv_at hl 3 rfl) ?_
  refine vp_callSi (W.runV (As := [.int (nI x), .int (nI y)]) (rest := []) ⟨hx, hb, hml, hown, ht⟩ (c_X0_holds l D hk5 hx1 hy1) (cwV 2 ht (tb_V kl_X1_44 ki_X0_holds ks_X0_holds kn_X0 kc_X0_holds) rfl rfl rfl ⟨rfl, kd_X0_holds⟩ ⟨Nat.le_of_ble_eq_true rfl, Nat.le_of_ble_eq_true rfl⟩) (cv_preH (hP.sub (ws' := [(h0, .inr (0, [.int (nI (tw_P k)), .int (nI (tw_D k)), .int (nI (tw_I k)), .int (nI (tw_N k)), .ref ai, .ref ar, .ref af, .ref ap, .ref ah, .ref ac, .int (nI ((tw_fs k).length)), .int hk])), (ai, .inl (cA, tw_P k, .inl fi)), (ar, .inl (cA, tw_P k, .inl fr)), (af, .inl (cA, 14, .inl ff)), (ap, .inl (cA, 2 * tw_P k, .inl fp)), (ah, .inl (cA, 2 * tw_P k, .inl fh)), (ac, .inl (cA, 2 * tw_P k, .inl fn))]) [2, 3, 4, 5, 6, 7, 8] rfl) hK hfi hfr _) rfl rfl hl.1 rfl (lv_room (Nat.le_of_ble_eq_true rfl)) dX1_put_10 ⟨Nat.zero_le _, Nat.zero_le _⟩) (fun r hr9 => ?_)
  subst hr9
  rw [if_pos hon.2.2]
  refine lv_if_ne (tgt := 26) hx hb dX1_put_13 (by decide) (fun _ => ?_) (fun c9 => absurd c9 (by decide))
  refine lv_aload_n hx hb dX1_put_26 rfl (lv_at hl 0 rfl) ?_
  refine va_get (D := D) (ci := 1) (v := .ref dr) (C := RX1) (T := TX1) (N := 4) hx hb ht inX1 hown hK hP 0 rfl rfl 1 (by decide) (ht _ kf_X1_19) (fun _ h9 => h9) rfl dX1_put_27 ?_
  refine lv_iload_n hx hb dX1_put_30 rfl (lv_at hl 1 rfl) ?_
  refine lv_iload_n hx hb dX1_put_31 rfl (lv_at hl 2 rfl) ?_
  refine lv_iload_n hx hb dX1_put_32 rfl (lv_at hl 3 rfl) ?_
  refine vp_callSi (W.runS (As := [.int (nI x), .int (nI y)]) (rest := [.int (nI j), .ref dr]) ⟨hx, hb, hml, hown, ht⟩ (c_X0_point l (x := x) (y := y) (by omega) (by omega)) (va_cwS 2 ht (tb_S kl_X1_50 kt_X0_point kn_X0 kc_X0_point) rfl rfl rfl kd_X0_point ⟨Nat.le_of_ble_eq_true rfl, Nat.le_of_ble_eq_true rfl⟩) (st_pre _) rfl rfl hl.1 rfl (lv_room (Nat.le_of_ble_eq_true rfl)) dX1_put_33 ⟨Nat.zero_le _, Nat.zero_le _⟩) (fun r hr9 => ?_)
  subst hr9
  refine nv_iast hx hb hK hP hD hS 1 0 rfl rfl hj (by decide) dX1_put_36 (fun H locs hP hD hS => ?_)
  have hP : va_P D vwCl [(d0, .inr (1, [.ref dc, .ref dr, .int (nI k), .ref h0])), (dr, .inl (cA, 12, .inl (upd rg j (nI (x * 8192 + y))))), (h0, .inr (0, [.int (nI (tw_P k)), .int (nI (tw_D k)), .int (nI (tw_I k)), .int (nI (tw_N k)), .ref ai, .ref ar, .ref af, .ref ap, .ref ah, .ref ac, .int (nI ((tw_fs k).length)), .int hk])), (ai, .inl (cA, tw_P k, .inl fi)), (ar, .inl (cA, tw_P k, .inl fr)), (af, .inl (cA, 14, .inl ff)), (ap, .inl (cA, 2 * tw_P k, .inl fp)), (ah, .inl (cA, 2 * tw_P k, .inl fh)), (ac, .inl (cA, 2 * tw_P k, .inl fn))] H := hP
  have hD : va_D A [(d0, .inr (1, [.ref dc, .ref dr, .int (nI k), .ref h0])), (dr, .inl (cA, 12, .inl (upd rg j (nI (x * 8192 + y))))), (h0, .inr (0, [.int (nI (tw_P k)), .int (nI (tw_D k)), .int (nI (tw_I k)), .int (nI (tw_N k)), .ref ai, .ref ar, .ref af, .ref ap, .ref ah, .ref ac, .int (nI ((tw_fs k).length)), .int hk])), (ai, .inl (cA, tw_P k, .inl fi)), (ar, .inl (cA, tw_P k, .inl fr)), (af, .inl (cA, 14, .inl ff)), (ap, .inl (cA, 2 * tw_P k, .inl fp)), (ah, .inl (cA, 2 * tw_P k, .inl fh)), (ac, .inl (cA, 2 * tw_P k, .inl fn))] := hD
  exact W.vret hx hb hr (fun t ht9 hW => ⟨⟨(upd rg j (nI (x * 8192 + y))), rfl, rfl, by rw [ht9]; exact hP, va_K.moved hW.alike hK, hD⟩, hS.F ht9⟩) hS.2.2 dX1_put_37
set_option maxHeartbeats 4000000 in
set_option maxRecDepth 100000 in
theorem c_X1_unpack (l : Launch) (D : va_G) {k : Nat} (hk5 : k < 5) {d0 dc dr h0 ai ar af ap ah ac : Nat} {cA : ClassId} {hk : Int32} {rg fi fr ff fp fh fn : Nat → Int32} {R : Nat → Nat × Nat} (hok : cv_ok k fi fr ff) (hrg : ∀ j, j < 12 → tw_on (tw_P k) (tw_D k) (R j) ∧ rg j = nI (tw_en (R j))) {j m9 : Nat} (hj : j < 12) (hm9 : m9 < 2 ^ 31) {p9 : Nat × Nat} (hp9 : tw_rd (tw_P k) (tw_D k) m9 = some p9) (sz : Nat) : Met l yX1_unpack wX1_unpack ({ frames := 2, cells := 0, slots := 0, locals := 48 }) (va_Pc [.ref d0, .int (nI j), .int (nI m9)] (wd_pre D [(cA, .int)] [(d0, .inr (1, [.ref dc, .ref dr, .int (nI k), .ref h0])), (dr, .inl (cA, 12, .inl rg)), (h0, .inr (0, [.int (nI (tw_P k)), .int (nI (tw_D k)), .int (nI (tw_I k)), .int (nI (tw_N k)), .ref ai, .ref ar, .ref af, .ref ap, .ref ah, .ref ac, .int (nI ((tw_fs k).length)), .int hk])), (ai, .inl (cA, tw_P k, .inl fi)), (ar, .inl (cA, tw_P k, .inl fr)), (af, .inl (cA, 14, .inl ff)), (ap, .inl (cA, 2 * tw_P k, .inl fp)), (ah, .inl (cA, 2 * tw_P k, .inl fh)), (ac, .inl (cA, 2 * tw_P k, .inl fn))] sz)) (va_Qv (fun (u : Nat → Int32) => u = upd rg j (nI (tw_en p9))) (fun (u : Nat → Int32) t => wd_at D [(cA, .int)] (va_A [(d0, .inr (1, [.ref dc, .ref dr, .int (nI k), .ref h0])), (dr, .inl (cA, 12, .inl rg)), (h0, .inr (0, [.int (nI (tw_P k)), .int (nI (tw_D k)), .int (nI (tw_I k)), .int (nI (tw_N k)), .ref ai, .ref ar, .ref af, .ref ap, .ref ah, .ref ac, .int (nI ((tw_fs k).length)), .int hk])), (ai, .inl (cA, tw_P k, .inl fi)), (ar, .inl (cA, tw_P k, .inl fr)), (af, .inl (cA, 14, .inl ff)), (ap, .inl (cA, 2 * tw_P k, .inl fp)), (ah, .inl (cA, 2 * tw_P k, .inl fh)), (ac, .inl (cA, 2 * tw_P k, .inl fn))] sz) [(d0, .inr (1, [.ref dc, .ref dr, .int (nI k), .ref h0])), (dr, .inl (cA, 12, .inl u)), (h0, .inr (0, [.int (nI (tw_P k)), .int (nI (tw_D k)), .int (nI (tw_I k)), .int (nI (tw_N k)), .ref ai, .ref ar, .ref af, .ref ap, .ref ah, .ref ac, .int (nI ((tw_fs k).length)), .int hk])), (ai, .inl (cA, tw_P k, .inl fi)), (ar, .inl (cA, tw_P k, .inl fr)), (af, .inl (cA, 14, .inl ff)), (ap, .inl (cA, 2 * tw_P k, .inl fp)), (ah, .inl (cA, 2 * tw_P k, .inl fh)), (ac, .inl (cA, 2 * tw_P k, .inl fn))] t) (va_A [(d0, .inr (1, [.ref dc, .ref dr, .int (nI k), .ref h0])), (dr, .inl (cA, 12, .inl rg)), (h0, .inr (0, [.int (nI (tw_P k)), .int (nI (tw_D k)), .int (nI (tw_I k)), .int (nI (tw_N k)), .ref ai, .ref ar, .ref af, .ref ap, .ref ah, .ref ac, .int (nI ((tw_fs k).length)), .int hk])), (ai, .inl (cA, tw_P k, .inl fi)), (ar, .inl (cA, tw_P k, .inl fr)), (af, .inl (cA, 14, .inl ff)), (ap, .inl (cA, 2 * tw_P k, .inl fp)), (ah, .inl (cA, 2 * tw_P k, .inl fh)), (ac, .inl (cA, 2 * tw_P k, .inl fn))] sz)) 0 0 (va_A [(d0, .inr (1, [.ref dc, .ref dr, .int (nI k), .ref h0])), (dr, .inl (cA, 12, .inl rg)), (h0, .inr (0, [.int (nI (tw_P k)), .int (nI (tw_D k)), .int (nI (tw_I k)), .int (nI (tw_N k)), .ref ai, .ref ar, .ref af, .ref ap, .ref ah, .ref ac, .int (nI ((tw_fs k).length)), .int hk])), (ai, .inl (cA, tw_P k, .inl fi)), (ar, .inl (cA, tw_P k, .inl fr)), (af, .inl (cA, 14, .inl ff)), (ap, .inl (cA, 2 * tw_P k, .inl fp)), (ah, .inl (cA, 2 * tw_P k, .inl fh)), (ac, .inl (cA, 2 * tw_P k, .inl fn))] sz) := by
  refine Met.ofW (cc := cX1_unpack) (maxL := 4) (ret := none) (by decide) rfl ?_
  intro p e s m args below meth c s₁ B hml hv
  obtain ⟨rfl, hsz, hP, hK, hD0⟩ := hv
  have hx := B.exec
  have hb := B.bytes
  have hr := B.returns
  have hts := atoms_spec (ws := wX1_unpack) B.pre
  have ht : ∀ w ∈ tb_all, w.before _ s = true := fun w h => hts w (List.mem_cons_of_mem _ h)
  have hown : s.vm.findClass RX1 = some m.cls := findClass_of_methodNamed B.named
  have hlocks := B.notSynchronized
  have hin : meth.name = "unpack" := (name_of_methodNamed B.named B.method).1
  subst hsz
  have hD := hD0.self (sz := s.heap.size)
  generalize hAe : va_A [(d0, .inr (1, [.ref dc, .ref dr, .int (nI k), .ref h0])), (dr, .inl (cA, 12, .inl rg)), (h0, .inr (0, [.int (nI (tw_P k)), .int (nI (tw_D k)), .int (nI (tw_I k)), .int (nI (tw_N k)), .ref ai, .ref ar, .ref af, .ref ap, .ref ah, .ref ac, .int (nI ((tw_fs k).length)), .int hk])), (ai, .inl (cA, tw_P k, .inl fi)), (ar, .inl (cA, tw_P k, .inl fr)), (af, .inl (cA, 14, .inl ff)), (ap, .inl (cA, 2 * tw_P k, .inl fp)), (ah, .inl (cA, 2 * tw_P k, .inl fh)), (ac, .inl (cA, 2 * tw_P k, .inl fn))] s.heap.size = A at hD ⊢
  have hA : ∀ q : Nat, s.heap.size ≤ q → A q := fun q h => by rw [← hAe]; exact Or.inr h
  have hS : va_S A s.heap s.heap [] := va_S.rf
  have hl := lv_entry ([.ref d0, .int (nI j), .int (nI m9)]) (n := 4) (Nat.le_of_ble_eq_true rfl)
  rw [lg_entry_eq]
  generalize (lg_sl ([.ref d0, .int (nI j), .int (nI m9)]) ++ List.replicate (4 - (lg_sl ([.ref d0, .int (nI j), .int (nI m9)])).length) Slot.unset).toArray = ls at hl ⊢
  have hl : lv_has ls 4 [(0, .ref d0), (1, .int (nI j)), (2, .int (nI m9))] := hl
  obtain ⟨hP0, hP2, hD2, hI2, hDP⟩ := tw_kb hk5
  have hK0 := tw_kK k hk5
  have hP8 : tw_P k ≤ 8192 := by omega
  have hN := tw_kN k hk5
  have zk : k ≤ 4 := by omega
  obtain ⟨hfi, hfr, hff⟩ := hok
  have zm : m9 ≤ 2147483647 := Nat.le_of_lt_succ hm9
  have hon := (tw_rd_some hK0 hp9).1
  have zp := tw_en_le hP2 hon
  refine lv_iload_n hx hb dX1_unpack_0 rfl (lv_at hl 1 rfl) ?_
  refine va_csv (W.runS (As := [.int (nI j)]) (rest := []) ⟨hx, hb, hml, hown, ht⟩ (c_X1_needRegister l hj) (va_cwS 1 ht (tb_S kl_X1_41 kt_X1_needRegister kn_X1 kc_X1_needRegister) rfl rfl rfl kd_X1_needRegister ⟨Nat.le_of_ble_eq_true rfl, Nat.le_of_ble_eq_true rfl⟩) (st_pre _) rfl rfl hl.1 rfl (lv_room (Nat.le_of_ble_eq_true rfl)) dX1_unpack_1 ⟨Nat.zero_le _, Nat.zero_le _⟩) (fun _ => ?_)
  refine lv_aload_n hx hb dX1_unpack_4 rfl (lv_at hl 0 rfl) ?_
  refine va_get (D := D) (ci := 1) (v := .ref h0) (C := RX1) (T := TX1) (N := 4) hx hb ht inX1 hown hK hP 0 rfl rfl 3 (by decide) (ht _ kf_X1_33) (fun _ h9 => h9) rfl dX1_unpack_5 ?_
  refine lv_iload_n hx hb dX1_unpack_8 rfl (lv_at hl 2 rfl) ?_
  refine vp_callSi (W.runV (As := [.int (nI m9)]) (rest := []) ⟨hx, hb, hml, hown, ht⟩ (c_X0_read l D hk5 hm9) (cwV 1 ht (tb_V kl_X1_54 ki_X0_read ks_X0_read kn_X0 kc_X0_read) rfl rfl rfl ⟨rfl, kd_X0_read⟩ ⟨Nat.le_of_ble_eq_true rfl, Nat.le_of_ble_eq_true rfl⟩) (cv_preH (hP.sub (ws' := [(h0, .inr (0, [.int (nI (tw_P k)), .int (nI (tw_D k)), .int (nI (tw_I k)), .int (nI (tw_N k)), .ref ai, .ref ar, .ref af, .ref ap, .ref ah, .ref ac, .int (nI ((tw_fs k).length)), .int hk])), (ai, .inl (cA, tw_P k, .inl fi)), (ar, .inl (cA, tw_P k, .inl fr)), (af, .inl (cA, 14, .inl ff)), (ap, .inl (cA, 2 * tw_P k, .inl fp)), (ah, .inl (cA, 2 * tw_P k, .inl fh)), (ac, .inl (cA, 2 * tw_P k, .inl fn))]) [2, 3, 4, 5, 6, 7, 8] rfl) hK hfi hfr _) rfl rfl hl.1 rfl (lv_room (Nat.le_of_ble_eq_true rfl)) dX1_unpack_9 ⟨Nat.zero_le _, Nat.zero_le _⟩) (fun r hr9 => ?_)
  subst hr9
  rw [tw_rr_some hp9]
  refine lv_istore_n hx hb dX1_unpack_12 rfl hl (by decide) rfl (fun ls hl => ?_)
  have hl : lv_has ls 4 [(3, .int (nI (tw_en p9))), (0, .ref d0), (1, .int (nI j)), (2, .int (nI m9))] := hl
  refine lv_iload_n hx hb dX1_unpack_13 rfl (lv_at hl 0 rfl) ?_
  refine lv_iconst (v := (-1)) hx hb dX1_unpack_14 (by decide) ?_
  refine lv_icmp_ne (tgt := 28) hx hb dX1_unpack_15 (by decide) (fun _ => ?_) (fun c9 => absurd c9 (nv_m1 (by omega)))
  refine lv_aload_n hx hb dX1_unpack_28 rfl (lv_at hl 1 rfl) ?_
  refine va_get (D := D) (ci := 1) (v := .ref dr) (C := RX1) (T := TX1) (N := 4) hx hb ht inX1 hown hK hP 0 rfl rfl 1 (by decide) (ht _ kf_X1_19) (fun _ h9 => h9) rfl dX1_unpack_29 ?_
  refine lv_iload_n hx hb dX1_unpack_32 rfl (lv_at hl 2 rfl) ?_
  refine lv_iload_n hx hb dX1_unpack_33 rfl (lv_at hl 0 rfl) ?_
  refine nv_iast hx hb hK hP hD hS 1 0 rfl rfl hj (by decide) dX1_unpack_34 (fun H locs hP hD hS => ?_)
  have hP : va_P D vwCl [(d0, .inr (1, [.ref dc, .ref dr, .int (nI k), .ref h0])), (dr, .inl (cA, 12, .inl (upd rg j (nI (tw_en p9))))), (h0, .inr (0, [.int (nI (tw_P k)), .int (nI (tw_D k)), .int (nI (tw_I k)), .int (nI (tw_N k)), .ref ai, .ref ar, .ref af, .ref ap, .ref ah, .ref ac, .int (nI ((tw_fs k).length)), .int hk])), (ai, .inl (cA, tw_P k, .inl fi)), (ar, .inl (cA, tw_P k, .inl fr)), (af, .inl (cA, 14, .inl ff)), (ap, .inl (cA, 2 * tw_P k, .inl fp)), (ah, .inl (cA, 2 * tw_P k, .inl fh)), (ac, .inl (cA, 2 * tw_P k, .inl fn))] H := hP
  have hD : va_D A [(d0, .inr (1, [.ref dc, .ref dr, .int (nI k), .ref h0])), (dr, .inl (cA, 12, .inl (upd rg j (nI (tw_en p9))))), (h0, .inr (0, [.int (nI (tw_P k)), .int (nI (tw_D k)), .int (nI (tw_I k)), .int (nI (tw_N k)), .ref ai, .ref ar, .ref af, .ref ap, .ref ah, .ref ac, .int (nI ((tw_fs k).length)), .int hk])), (ai, .inl (cA, tw_P k, .inl fi)), (ar, .inl (cA, tw_P k, .inl fr)), (af, .inl (cA, 14, .inl ff)), (ap, .inl (cA, 2 * tw_P k, .inl fp)), (ah, .inl (cA, 2 * tw_P k, .inl fh)), (ac, .inl (cA, 2 * tw_P k, .inl fn))] := hD
  exact W.vret hx hb hr (fun t ht9 hW => ⟨⟨(upd rg j (nI (tw_en p9))), rfl, rfl, by rw [ht9]; exact hP, va_K.moved hW.alike hK, hD⟩, hS.F ht9⟩) hS.2.2 dX1_unpack_35
set_option maxHeartbeats 4000000 in
set_option maxRecDepth 100000 in
theorem c_X1_join (l : Launch) (D : va_G) {k : Nat} (hk5 : k < 5) {d0 dc dr h0 ai ar af ap ah ac : Nat} {cA : ClassId} {hk : Int32} {rg fi fr ff fp fh fn : Nat → Int32} {R : Nat → Nat × Nat} (hok : cv_ok k fi fr ff) (hrg : ∀ j, j < 12 → tw_on (tw_P k) (tw_D k) (R j) ∧ rg j = nI (tw_en (R j))) {j j2 j3 b : Nat} (hj : j < 12) (hj2 : j2 < 12) (hj3 : j3 < 12) (hb1 : b ≤ 1) (sz : Nat) : Met l yX1_join wX1_join ({ frames := 3, cells := 0, slots := 0, locals := 62 }) (va_Pc [.ref d0, .int (nI j), .int (nI j2), .int (nI j3), .int (nI b)] (wd_pre D [(cA, .int)] [(d0, .inr (1, [.ref dc, .ref dr, .int (nI k), .ref h0])), (dr, .inl (cA, 12, .inl rg)), (h0, .inr (0, [.int (nI (tw_P k)), .int (nI (tw_D k)), .int (nI (tw_I k)), .int (nI (tw_N k)), .ref ai, .ref ar, .ref af, .ref ap, .ref ah, .ref ac, .int (nI ((tw_fs k).length)), .int hk])), (ai, .inl (cA, tw_P k, .inl fi)), (ar, .inl (cA, tw_P k, .inl fr)), (af, .inl (cA, 14, .inl ff)), (ap, .inl (cA, 2 * tw_P k, .inl fp)), (ah, .inl (cA, 2 * tw_P k, .inl fh)), (ac, .inl (cA, 2 * tw_P k, .inl fn))] sz)) (va_Qi (fun (r : Int32) (u : Nat → Int32) => r = nI (tw_pk (tw_add (tw_P k) (tw_D k) (R j2) (if b = 0 then R j3 else tw_ng (tw_P k) (R j3)))) ∧ u = upd rg j (nI (tw_en (tw_add (tw_P k) (tw_D k) (R j2) (if b = 0 then R j3 else tw_ng (tw_P k) (R j3)))))) (fun (u : Nat → Int32) t => wd_at D [(cA, .int)] (va_A [(d0, .inr (1, [.ref dc, .ref dr, .int (nI k), .ref h0])), (dr, .inl (cA, 12, .inl rg)), (h0, .inr (0, [.int (nI (tw_P k)), .int (nI (tw_D k)), .int (nI (tw_I k)), .int (nI (tw_N k)), .ref ai, .ref ar, .ref af, .ref ap, .ref ah, .ref ac, .int (nI ((tw_fs k).length)), .int hk])), (ai, .inl (cA, tw_P k, .inl fi)), (ar, .inl (cA, tw_P k, .inl fr)), (af, .inl (cA, 14, .inl ff)), (ap, .inl (cA, 2 * tw_P k, .inl fp)), (ah, .inl (cA, 2 * tw_P k, .inl fh)), (ac, .inl (cA, 2 * tw_P k, .inl fn))] sz) [(d0, .inr (1, [.ref dc, .ref dr, .int (nI k), .ref h0])), (dr, .inl (cA, 12, .inl u)), (h0, .inr (0, [.int (nI (tw_P k)), .int (nI (tw_D k)), .int (nI (tw_I k)), .int (nI (tw_N k)), .ref ai, .ref ar, .ref af, .ref ap, .ref ah, .ref ac, .int (nI ((tw_fs k).length)), .int hk])), (ai, .inl (cA, tw_P k, .inl fi)), (ar, .inl (cA, tw_P k, .inl fr)), (af, .inl (cA, 14, .inl ff)), (ap, .inl (cA, 2 * tw_P k, .inl fp)), (ah, .inl (cA, 2 * tw_P k, .inl fh)), (ac, .inl (cA, 2 * tw_P k, .inl fn))] t) (va_A [(d0, .inr (1, [.ref dc, .ref dr, .int (nI k), .ref h0])), (dr, .inl (cA, 12, .inl rg)), (h0, .inr (0, [.int (nI (tw_P k)), .int (nI (tw_D k)), .int (nI (tw_I k)), .int (nI (tw_N k)), .ref ai, .ref ar, .ref af, .ref ap, .ref ah, .ref ac, .int (nI ((tw_fs k).length)), .int hk])), (ai, .inl (cA, tw_P k, .inl fi)), (ar, .inl (cA, tw_P k, .inl fr)), (af, .inl (cA, 14, .inl ff)), (ap, .inl (cA, 2 * tw_P k, .inl fp)), (ah, .inl (cA, 2 * tw_P k, .inl fh)), (ac, .inl (cA, 2 * tw_P k, .inl fn))] sz)) 0 0 (va_A [(d0, .inr (1, [.ref dc, .ref dr, .int (nI k), .ref h0])), (dr, .inl (cA, 12, .inl rg)), (h0, .inr (0, [.int (nI (tw_P k)), .int (nI (tw_D k)), .int (nI (tw_I k)), .int (nI (tw_N k)), .ref ai, .ref ar, .ref af, .ref ap, .ref ah, .ref ac, .int (nI ((tw_fs k).length)), .int hk])), (ai, .inl (cA, tw_P k, .inl fi)), (ar, .inl (cA, tw_P k, .inl fr)), (af, .inl (cA, 14, .inl ff)), (ap, .inl (cA, 2 * tw_P k, .inl fp)), (ah, .inl (cA, 2 * tw_P k, .inl fh)), (ac, .inl (cA, 2 * tw_P k, .inl fn))] sz) := by
  refine Met.ofW (cc := cX1_join) (maxL := 6) (ret := (some .int)) (by decide) rfl ?_
  intro p e s m args below meth c s₁ B hml hv
  obtain ⟨rfl, hsz, hP, hK, hD0⟩ := hv
  have hx := B.exec
  have hb := B.bytes
  have hr := B.returns
  have hts := atoms_spec (ws := wX1_join) B.pre
  have ht : ∀ w ∈ tb_all, w.before _ s = true := fun w h => hts w (List.mem_cons_of_mem _ h)
  have hown : s.vm.findClass RX1 = some m.cls := findClass_of_methodNamed B.named
  have hlocks := B.notSynchronized
  have hin : meth.name = "join" := (name_of_methodNamed B.named B.method).1
  subst hsz
  have hD := hD0.self (sz := s.heap.size)
  generalize hAe : va_A [(d0, .inr (1, [.ref dc, .ref dr, .int (nI k), .ref h0])), (dr, .inl (cA, 12, .inl rg)), (h0, .inr (0, [.int (nI (tw_P k)), .int (nI (tw_D k)), .int (nI (tw_I k)), .int (nI (tw_N k)), .ref ai, .ref ar, .ref af, .ref ap, .ref ah, .ref ac, .int (nI ((tw_fs k).length)), .int hk])), (ai, .inl (cA, tw_P k, .inl fi)), (ar, .inl (cA, tw_P k, .inl fr)), (af, .inl (cA, 14, .inl ff)), (ap, .inl (cA, 2 * tw_P k, .inl fp)), (ah, .inl (cA, 2 * tw_P k, .inl fh)), (ac, .inl (cA, 2 * tw_P k, .inl fn))] s.heap.size = A at hD ⊢
  have hA : ∀ q : Nat, s.heap.size ≤ q → A q := fun q h => by rw [← hAe]; exact Or.inr h
  have hS : va_S A s.heap s.heap [] := va_S.rf
  have hl := lv_entry ([.ref d0, .int (nI j), .int (nI j2), .int (nI j3), .int (nI b)]) (n := 6) (Nat.le_of_ble_eq_true rfl)
  rw [lg_entry_eq]
  generalize (lg_sl ([.ref d0, .int (nI j), .int (nI j2), .int (nI j3), .int (nI b)]) ++ List.replicate (6 - (lg_sl ([.ref d0, .int (nI j), .int (nI j2), .int (nI j3), .int (nI b)])).length) Slot.unset).toArray = ls at hl ⊢
  have hl : lv_has ls 6 [(0, .ref d0), (1, .int (nI j)), (2, .int (nI j2)), (3, .int (nI j3)), (4, .int (nI b))] := hl
  obtain ⟨hP0, hP2, hD2, hI2, hDP⟩ := tw_kb hk5
  have hK0 := tw_kK k hk5
  have hP8 : tw_P k ≤ 8192 := by omega
  have hN := tw_kN k hk5
  have zk : k ≤ 4 := by omega
  obtain ⟨hfi, hfr, hff⟩ := hok
  have o2 := (hrg j2 hj2).1
  have o3 := (hrg j3 hj3).1
  have o3n := (tw_neg hK0 o3).1
  refine lv_iload_n hx hb dX1_join_0 rfl (lv_at hl 1 rfl) ?_
  refine va_csv (W.runS (As := [.int (nI j)]) (rest := []) ⟨hx, hb, hml, hown, ht⟩ (c_X1_needRegister l hj) (va_cwS 1 ht (tb_S kl_X1_41 kt_X1_needRegister kn_X1 kc_X1_needRegister) rfl rfl rfl kd_X1_needRegister ⟨Nat.le_of_ble_eq_true rfl, Nat.le_of_ble_eq_true rfl⟩) (st_pre _) rfl rfl hl.1 rfl (lv_room (Nat.le_of_ble_eq_true rfl)) dX1_join_1 ⟨Nat.zero_le _, Nat.zero_le _⟩) (fun _ => ?_)
  refine lv_iload_n hx hb dX1_join_4 rfl (lv_at hl 2 rfl) ?_
  refine va_csv (W.runS (As := [.int (nI j2)]) (rest := []) ⟨hx, hb, hml, hown, ht⟩ (c_X1_needRegister l hj2) (va_cwS 1 ht (tb_S kl_X1_41 kt_X1_needRegister kn_X1 kc_X1_needRegister) rfl rfl rfl kd_X1_needRegister ⟨Nat.le_of_ble_eq_true rfl, Nat.le_of_ble_eq_true rfl⟩) (st_pre _) rfl rfl hl.1 rfl (lv_room (Nat.le_of_ble_eq_true rfl)) dX1_join_5 ⟨Nat.zero_le _, Nat.zero_le _⟩) (fun _ => ?_)
  refine lv_iload_n hx hb dX1_join_8 rfl (lv_at hl 3 rfl) ?_
  refine va_csv (W.runS (As := [.int (nI j3)]) (rest := []) ⟨hx, hb, hml, hown, ht⟩ (c_X1_needRegister l hj3) (va_cwS 1 ht (tb_S kl_X1_41 kt_X1_needRegister kn_X1 kc_X1_needRegister) rfl rfl rfl kd_X1_needRegister ⟨Nat.le_of_ble_eq_true rfl, Nat.le_of_ble_eq_true rfl⟩) (st_pre _) rfl rfl hl.1 rfl (lv_room (Nat.le_of_ble_eq_true rfl)) dX1_join_9 ⟨Nat.zero_le _, Nat.zero_le _⟩) (fun _ => ?_)
  refine lv_iload hx hb dX1_join_12 (lv_at hl 4 rfl) ?_
  refine nv_if_eq (tgt := 33) hx hb dX1_join_14 (by decide) (nv_le (b := 1) hb1 (by decide)) (fun c14 => ?_) (fun c14 => ?_)
  · have e5 : (if b = 0 then R j3 else tw_ng (tw_P k) (R j3)) = R j3 := if_pos c14
    rw [e5]
    refine lv_aload_n hx hb dX1_join_33 rfl (lv_at hl 0 rfl) ?_
    refine va_get (D := D) (ci := 1) (v := .ref dr) (C := RX1) (T := TX1) (N := 4) hx hb ht inX1 hown hK hP 0 rfl rfl 1 (by decide) (ht _ kf_X1_19) (fun _ h9 => h9) rfl dX1_join_34 ?_
    refine lv_iload_n hx hb dX1_join_37 rfl (lv_at hl 3 rfl) ?_
    refine nv_iald (A := fun _ => True) (H0 := s.heap) hx hb hK hP 1 0 rfl rfl hj3 (by decide) dX1_join_38 ?_
    rw [(hrg _ hj3).2]
    refine lv_istore hx hb dX1_join_39 hl (by decide) rfl (fun ls hl => ?_)
    have hl : lv_has ls 6 [(5, .int (nI (tw_en (R j3)))), (0, .ref d0), (1, .int (nI j)), (2, .int (nI j2)), (3, .int (nI j3)), (4, .int (nI b))] := hl
    refine lv_aload_n hx hb dX1_join_41 rfl (lv_at hl 1 rfl) ?_
    refine lv_iload_n hx hb dX1_join_42 rfl (lv_at hl 2 rfl) ?_
    refine lv_aload_n hx hb dX1_join_43 rfl (lv_at hl 1 rfl) ?_
    refine va_get (D := D) (ci := 1) (v := .ref h0) (C := RX1) (T := TX1) (N := 4) hx hb ht inX1 hown hK hP 0 rfl rfl 3 (by decide) (ht _ kf_X1_33) (fun _ h9 => h9) rfl dX1_join_44 ?_
    refine lv_aload_n hx hb dX1_join_47 rfl (lv_at hl 1 rfl) ?_
    refine va_get (D := D) (ci := 1) (v := .ref dr) (C := RX1) (T := TX1) (N := 4) hx hb ht inX1 hown hK hP 0 rfl rfl 1 (by decide) (ht _ kf_X1_19) (fun _ h9 => h9) rfl dX1_join_48 ?_
    refine lv_iload_n hx hb dX1_join_51 rfl (lv_at hl 3 rfl) ?_
    refine nv_iald (A := fun _ => True) (H0 := s.heap) hx hb hK hP 1 0 rfl rfl hj2 (by decide) dX1_join_52 ?_
    rw [(hrg _ hj2).2]
    refine lv_iload hx hb dX1_join_53 (lv_at hl 0 rfl) ?_
    refine vp_callSi (W.runV (As := [.int (nI (tw_en (R j2))), .int (nI (tw_en (R j3)))]) (rest := [.int (nI j), .ref d0]) ⟨hx, hb, hml, hown, ht⟩ (c_X0_sum l D hk5 (x := (R j2).1) (y := (R j2).2) (u := (R j3).1) (v := (R j3).2) o2.1 o2.2.1 (o3).1 (o3).2.1) (cwV 2 ht (tb_V kl_X1_72 ki_X0_sum ks_X0_sum kn_X0 kc_X0_sum) rfl rfl rfl ⟨rfl, kd_X0_sum⟩ ⟨Nat.le_of_ble_eq_true rfl, Nat.le_of_ble_eq_true rfl⟩) (cv_preH (hP.sub (ws' := [(h0, .inr (0, [.int (nI (tw_P k)), .int (nI (tw_D k)), .int (nI (tw_I k)), .int (nI (tw_N k)), .ref ai, .ref ar, .ref af, .ref ap, .ref ah, .ref ac, .int (nI ((tw_fs k).length)), .int hk])), (ai, .inl (cA, tw_P k, .inl fi)), (ar, .inl (cA, tw_P k, .inl fr)), (af, .inl (cA, 14, .inl ff)), (ap, .inl (cA, 2 * tw_P k, .inl fp)), (ah, .inl (cA, 2 * tw_P k, .inl fh)), (ac, .inl (cA, 2 * tw_P k, .inl fn))]) [2, 3, 4, 5, 6, 7, 8] rfl) hK hfi hfr _) rfl rfl hl.1 rfl (lv_room (Nat.le_of_ble_eq_true rfl)) dX1_join_55 ⟨Nat.zero_le _, Nat.zero_le _⟩) (fun r hr9 => ?_)
    subst hr9
    have hPc := hP.sub (ws' := [(d0, .inr (1, [.ref dc, .ref dr, .int (nI k), .ref h0])), (dr, .inl (cA, 12, .inl rg))]) [0, 1] rfl
    have hDc := hD.sub (ws' := [(d0, .inr (1, [.ref dc, .ref dr, .int (nI k), .ref h0])), (dr, .inl (cA, 12, .inl rg))]) [0, 1] (by decide) rfl
    have hFc := va_free (wc := [(d0, .inr (1, [.ref dc, .ref dr, .int (nI k), .ref h0])), (dr, .inl (cA, 12, .inl rg))]) hD hS hA [0, 1] rfl
    refine va_calli (va_runV (As := [.int (nI j), .int (nI (tw_en (tw_add (tw_P k) (tw_D k) (R j2) (R j3))))]) (rest := []) ⟨hx, hb, hml, hown, ht⟩ (c_X1_keep l D hj (p9 := tw_add (tw_P k) (tw_D k) (R j2) (R j3)) (by have := ((tw_clo hK0 o2 o3)).1; omega) (by have := ((tw_clo hK0 o2 o3)).2.1; omega) s.heap.size) (cwV 2 ht (tb_V kl_X1_75 ki_X1_keep ks_X1_keep kn_X1 kc_X1_keep) rfl rfl rfl ⟨rfl, kd_X1_keep⟩ ⟨Nat.le_of_ble_eq_true rfl, Nat.le_of_ble_eq_true rfl⟩) (wd_preV _ hPc hK hDc (va_recv (ci := 1) (q0 := 0) hK hP rfl rfl)) rfl rfl hl.1 rfl (lv_room (Nat.le_of_ble_eq_true rfl)) dX1_join_58 ⟨Nat.le_of_ble_eq_true rfl, Nat.le_of_ble_eq_true rfl⟩) hS (fun q _ h => hFc q h) hFc (fun r9 u9 t9 H1 locs ht9 hvm9 hw9 hB9 hz9 hk9 hS => ?_)
    obtain ⟨hP1, hK1, hD1⟩ := hB9
    rw [ht9] at hP1
    obtain ⟨hP, hD⟩ := va_join (wr := [(h0, .inr (0, [.int (nI (tw_P k)), .int (nI (tw_D k)), .int (nI (tw_I k)), .int (nI (tw_N k)), .ref ai, .ref ar, .ref af, .ref ap, .ref ah, .ref ac, .int (nI ((tw_fs k).length)), .int hk])), (ai, .inl (cA, tw_P k, .inl fi)), (ar, .inl (cA, tw_P k, .inl fr)), (af, .inl (cA, 14, .inl ff)), (ap, .inl (cA, 2 * tw_P k, .inl fp)), (ah, .inl (cA, 2 * tw_P k, .inl fh)), (ac, .inl (cA, 2 * tw_P k, .inl fn))]) (w1 := [(d0, .inr (1, [.ref dc, .ref dr, .int (nI k), .ref h0])), (dr, .inl (cA, 12, .inl u9))]) hP hD [0, 1] [2, 3, 4, 5, 6, 7, 8] rfl rfl (by decide) (by decide) hk9 hFc hP1 hD1
    have hP := hP.sub (ws' := [(d0, .inr (1, [.ref dc, .ref dr, .int (nI k), .ref h0])), (dr, .inl (cA, 12, .inl u9)), (h0, .inr (0, [.int (nI (tw_P k)), .int (nI (tw_D k)), .int (nI (tw_I k)), .int (nI (tw_N k)), .ref ai, .ref ar, .ref af, .ref ap, .ref ah, .ref ac, .int (nI ((tw_fs k).length)), .int hk])), (ai, .inl (cA, tw_P k, .inl fi)), (ar, .inl (cA, tw_P k, .inl fr)), (af, .inl (cA, 14, .inl ff)), (ap, .inl (cA, 2 * tw_P k, .inl fp)), (ah, .inl (cA, 2 * tw_P k, .inl fh)), (ac, .inl (cA, 2 * tw_P k, .inl fn))]) [7, 8, 0, 1, 2, 3, 4, 5, 6] rfl
    have hD := hD.sub (ws' := [(d0, .inr (1, [.ref dc, .ref dr, .int (nI k), .ref h0])), (dr, .inl (cA, 12, .inl u9)), (h0, .inr (0, [.int (nI (tw_P k)), .int (nI (tw_D k)), .int (nI (tw_I k)), .int (nI (tw_N k)), .ref ai, .ref ar, .ref af, .ref ap, .ref ah, .ref ac, .int (nI ((tw_fs k).length)), .int hk])), (ai, .inl (cA, tw_P k, .inl fi)), (ar, .inl (cA, tw_P k, .inl fr)), (af, .inl (cA, 14, .inl ff)), (ap, .inl (cA, 2 * tw_P k, .inl fp)), (ah, .inl (cA, 2 * tw_P k, .inl fh)), (ac, .inl (cA, 2 * tw_P k, .inl fn))]) [7, 8, 0, 1, 2, 3, 4, 5, 6] (by decide) rfl
    generalize H1 = H at hP hS hz9 ⊢
    exact W.iret hx hb hr (fun t ht9 hW => ⟨⟨_, u9, rfl, hw9, by rw [ht9]; exact hP, va_K.moved hW.alike hK, hD⟩, hS.F ht9⟩) hS.2.2 dX1_join_61
  · have e5 : (if b = 0 then R j3 else tw_ng (tw_P k) (R j3)) = tw_ng (tw_P k) (R j3) := if_neg (by omega)
    rw [e5]
    refine lv_aload_n hx hb dX1_join_17 rfl (lv_at hl 0 rfl) ?_
    refine va_get (D := D) (ci := 1) (v := .ref h0) (C := RX1) (T := TX1) (N := 4) hx hb ht inX1 hown hK hP 0 rfl rfl 3 (by decide) (ht _ kf_X1_33) (fun _ h9 => h9) rfl dX1_join_18 ?_
    refine lv_aload_n hx hb dX1_join_21 rfl (lv_at hl 0 rfl) ?_
    refine va_get (D := D) (ci := 1) (v := .ref dr) (C := RX1) (T := TX1) (N := 4) hx hb ht inX1 hown hK hP 0 rfl rfl 1 (by decide) (ht _ kf_X1_19) (fun _ h9 => h9) rfl dX1_join_22 ?_
    refine lv_iload_n hx hb dX1_join_25 rfl (lv_at hl 3 rfl) ?_
    refine nv_iald (A := fun _ => True) (H0 := s.heap) hx hb hK hP 1 0 rfl rfl hj3 (by decide) dX1_join_26 ?_
    rw [(hrg _ hj3).2]
    refine vp_callSi (W.runV (As := [.int (nI (tw_en (R j3)))]) (rest := []) ⟨hx, hb, hml, hown, ht⟩ (c_X0_other l D hk5 (x := (R j3).1) (y := (R j3).2) o3.1 o3.2.1) (cwV 1 ht (tb_V kl_X1_69 ki_X0_other ks_X0_other kn_X0 kc_X0_other) rfl rfl rfl ⟨rfl, kd_X0_other⟩ ⟨Nat.le_of_ble_eq_true rfl, Nat.le_of_ble_eq_true rfl⟩) (cv_preH (hP.sub (ws' := [(h0, .inr (0, [.int (nI (tw_P k)), .int (nI (tw_D k)), .int (nI (tw_I k)), .int (nI (tw_N k)), .ref ai, .ref ar, .ref af, .ref ap, .ref ah, .ref ac, .int (nI ((tw_fs k).length)), .int hk])), (ai, .inl (cA, tw_P k, .inl fi)), (ar, .inl (cA, tw_P k, .inl fr)), (af, .inl (cA, 14, .inl ff)), (ap, .inl (cA, 2 * tw_P k, .inl fp)), (ah, .inl (cA, 2 * tw_P k, .inl fh)), (ac, .inl (cA, 2 * tw_P k, .inl fn))]) [2, 3, 4, 5, 6, 7, 8] rfl) hK hfi hfr _) rfl rfl hl.1 rfl (lv_room (Nat.le_of_ble_eq_true rfl)) dX1_join_27 ⟨Nat.zero_le _, Nat.zero_le _⟩) (fun r hr9 => ?_)
    subst hr9
    refine lv_goto (tgt := 39) hx hb dX1_join_30 (by decide) ?_
    refine lv_istore hx hb dX1_join_39 hl (by decide) rfl (fun ls hl => ?_)
    have hl : lv_has ls 6 [(5, .int (nI (tw_en (tw_ng (tw_P k) (R j3))))), (0, .ref d0), (1, .int (nI j)), (2, .int (nI j2)), (3, .int (nI j3)), (4, .int (nI b))] := hl
    refine lv_aload_n hx hb dX1_join_41 rfl (lv_at hl 1 rfl) ?_
    refine lv_iload_n hx hb dX1_join_42 rfl (lv_at hl 2 rfl) ?_
    refine lv_aload_n hx hb dX1_join_43 rfl (lv_at hl 1 rfl) ?_
    refine va_get (D := D) (ci := 1) (v := .ref h0) (C := RX1) (T := TX1) (N := 4) hx hb ht inX1 hown hK hP 0 rfl rfl 3 (by decide) (ht _ kf_X1_33) (fun _ h9 => h9) rfl dX1_join_44 ?_
    refine lv_aload_n hx hb dX1_join_47 rfl (lv_at hl 1 rfl) ?_
    refine va_get (D := D) (ci := 1) (v := .ref dr) (C := RX1) (T := TX1) (N := 4) hx hb ht inX1 hown hK hP 0 rfl rfl 1 (by decide) (ht _ kf_X1_19) (fun _ h9 => h9) rfl dX1_join_48 ?_
    refine lv_iload_n hx hb dX1_join_51 rfl (lv_at hl 3 rfl) ?_
    refine nv_iald (A := fun _ => True) (H0 := s.heap) hx hb hK hP 1 0 rfl rfl hj2 (by decide) dX1_join_52 ?_
    rw [(hrg _ hj2).2]
    refine lv_iload hx hb dX1_join_53 (lv_at hl 0 rfl) ?_
    refine vp_callSi (W.runV (As := [.int (nI (tw_en (R j2))), .int (nI (tw_en (tw_ng (tw_P k) (R j3))))]) (rest := [.int (nI j), .ref d0]) ⟨hx, hb, hml, hown, ht⟩ (c_X0_sum l D hk5 (x := (R j2).1) (y := (R j2).2) (u := (tw_ng (tw_P k) (R j3)).1) (v := (tw_ng (tw_P k) (R j3)).2) o2.1 o2.2.1 (o3n).1 (o3n).2.1) (cwV 2 ht (tb_V kl_X1_72 ki_X0_sum ks_X0_sum kn_X0 kc_X0_sum) rfl rfl rfl ⟨rfl, kd_X0_sum⟩ ⟨Nat.le_of_ble_eq_true rfl, Nat.le_of_ble_eq_true rfl⟩) (cv_preH (hP.sub (ws' := [(h0, .inr (0, [.int (nI (tw_P k)), .int (nI (tw_D k)), .int (nI (tw_I k)), .int (nI (tw_N k)), .ref ai, .ref ar, .ref af, .ref ap, .ref ah, .ref ac, .int (nI ((tw_fs k).length)), .int hk])), (ai, .inl (cA, tw_P k, .inl fi)), (ar, .inl (cA, tw_P k, .inl fr)), (af, .inl (cA, 14, .inl ff)), (ap, .inl (cA, 2 * tw_P k, .inl fp)), (ah, .inl (cA, 2 * tw_P k, .inl fh)), (ac, .inl (cA, 2 * tw_P k, .inl fn))]) [2, 3, 4, 5, 6, 7, 8] rfl) hK hfi hfr _) rfl rfl hl.1 rfl (lv_room (Nat.le_of_ble_eq_true rfl)) dX1_join_55 ⟨Nat.zero_le _, Nat.zero_le _⟩) (fun r hr9 => ?_)
    subst hr9
    have hPc := hP.sub (ws' := [(d0, .inr (1, [.ref dc, .ref dr, .int (nI k), .ref h0])), (dr, .inl (cA, 12, .inl rg))]) [0, 1] rfl
    have hDc := hD.sub (ws' := [(d0, .inr (1, [.ref dc, .ref dr, .int (nI k), .ref h0])), (dr, .inl (cA, 12, .inl rg))]) [0, 1] (by decide) rfl
    have hFc := va_free (wc := [(d0, .inr (1, [.ref dc, .ref dr, .int (nI k), .ref h0])), (dr, .inl (cA, 12, .inl rg))]) hD hS hA [0, 1] rfl
    refine va_calli (va_runV (As := [.int (nI j), .int (nI (tw_en (tw_add (tw_P k) (tw_D k) (R j2) (tw_ng (tw_P k) (R j3)))))]) (rest := []) ⟨hx, hb, hml, hown, ht⟩ (c_X1_keep l D hj (p9 := tw_add (tw_P k) (tw_D k) (R j2) (tw_ng (tw_P k) (R j3))) (by have := ((tw_clo hK0 o2 o3n)).1; omega) (by have := ((tw_clo hK0 o2 o3n)).2.1; omega) s.heap.size) (cwV 2 ht (tb_V kl_X1_75 ki_X1_keep ks_X1_keep kn_X1 kc_X1_keep) rfl rfl rfl ⟨rfl, kd_X1_keep⟩ ⟨Nat.le_of_ble_eq_true rfl, Nat.le_of_ble_eq_true rfl⟩) (wd_preV _ hPc hK hDc (va_recv (ci := 1) (q0 := 0) hK hP rfl rfl)) rfl rfl hl.1 rfl (lv_room (Nat.le_of_ble_eq_true rfl)) dX1_join_58 ⟨Nat.le_of_ble_eq_true rfl, Nat.le_of_ble_eq_true rfl⟩) hS (fun q _ h => hFc q h) hFc (fun r9 u9 t9 H1 locs ht9 hvm9 hw9 hB9 hz9 hk9 hS => ?_)
    obtain ⟨hP1, hK1, hD1⟩ := hB9
    rw [ht9] at hP1
    obtain ⟨hP, hD⟩ := va_join (wr := [(h0, .inr (0, [.int (nI (tw_P k)), .int (nI (tw_D k)), .int (nI (tw_I k)), .int (nI (tw_N k)), .ref ai, .ref ar, .ref af, .ref ap, .ref ah, .ref ac, .int (nI ((tw_fs k).length)), .int hk])), (ai, .inl (cA, tw_P k, .inl fi)), (ar, .inl (cA, tw_P k, .inl fr)), (af, .inl (cA, 14, .inl ff)), (ap, .inl (cA, 2 * tw_P k, .inl fp)), (ah, .inl (cA, 2 * tw_P k, .inl fh)), (ac, .inl (cA, 2 * tw_P k, .inl fn))]) (w1 := [(d0, .inr (1, [.ref dc, .ref dr, .int (nI k), .ref h0])), (dr, .inl (cA, 12, .inl u9))]) hP hD [0, 1] [2, 3, 4, 5, 6, 7, 8] rfl rfl (by decide) (by decide) hk9 hFc hP1 hD1
    have hP := hP.sub (ws' := [(d0, .inr (1, [.ref dc, .ref dr, .int (nI k), .ref h0])), (dr, .inl (cA, 12, .inl u9)), (h0, .inr (0, [.int (nI (tw_P k)), .int (nI (tw_D k)), .int (nI (tw_I k)), .int (nI (tw_N k)), .ref ai, .ref ar, .ref af, .ref ap, .ref ah, .ref ac, .int (nI ((tw_fs k).length)), .int hk])), (ai, .inl (cA, tw_P k, .inl fi)), (ar, .inl (cA, tw_P k, .inl fr)), (af, .inl (cA, 14, .inl ff)), (ap, .inl (cA, 2 * tw_P k, .inl fp)), (ah, .inl (cA, 2 * tw_P k, .inl fh)), (ac, .inl (cA, 2 * tw_P k, .inl fn))]) [7, 8, 0, 1, 2, 3, 4, 5, 6] rfl
    have hD := hD.sub (ws' := [(d0, .inr (1, [.ref dc, .ref dr, .int (nI k), .ref h0])), (dr, .inl (cA, 12, .inl u9)), (h0, .inr (0, [.int (nI (tw_P k)), .int (nI (tw_D k)), .int (nI (tw_I k)), .int (nI (tw_N k)), .ref ai, .ref ar, .ref af, .ref ap, .ref ah, .ref ac, .int (nI ((tw_fs k).length)), .int hk])), (ai, .inl (cA, tw_P k, .inl fi)), (ar, .inl (cA, tw_P k, .inl fr)), (af, .inl (cA, 14, .inl ff)), (ap, .inl (cA, 2 * tw_P k, .inl fp)), (ah, .inl (cA, 2 * tw_P k, .inl fh)), (ac, .inl (cA, 2 * tw_P k, .inl fn))]) [7, 8, 0, 1, 2, 3, 4, 5, 6] (by decide) rfl
    generalize H1 = H at hP hS hz9 ⊢
    exact W.iret hx hb hr (fun t ht9 hW => ⟨⟨_, u9, rfl, hw9, by rw [ht9]; exact hP, va_K.moved hW.alike hK, hD⟩, hS.F ht9⟩) hS.2.2 dX1_join_61
set_option maxHeartbeats 4000000 in
set_option maxRecDepth 100000 in
theorem c_X1_times (l : Launch) (D : va_G) {k : Nat} (hk5 : k < 5) {d0 dc dr h0 ai ar af ap ah ac : Nat} {cA : ClassId} {hk : Int32} {rg fi fr ff fp fh fn : Nat → Int32} {R : Nat → Nat × Nat} (hok : cv_ok k fi fr ff) (hrg : ∀ j, j < 12 → tw_on (tw_P k) (tw_D k) (R j) ∧ rg j = nI (tw_en (R j))) {j j2 : Nat} (hj : j < 12) (hj2 : j2 < 12) (z : Int64) (sz : Nat) : Met l yX1_times wX1_times ({ frames := 3, cells := 0, slots := 0, locals := 76 }) (va_Pc [.ref d0, .int (nI j), .long z, .int (nI j2)] (wd_pre D [(cA, .int)] [(d0, .inr (1, [.ref dc, .ref dr, .int (nI k), .ref h0])), (dr, .inl (cA, 12, .inl rg)), (h0, .inr (0, [.int (nI (tw_P k)), .int (nI (tw_D k)), .int (nI (tw_I k)), .int (nI (tw_N k)), .ref ai, .ref ar, .ref af, .ref ap, .ref ah, .ref ac, .int (nI ((tw_fs k).length)), .int hk])), (ai, .inl (cA, tw_P k, .inl fi)), (ar, .inl (cA, tw_P k, .inl fr)), (af, .inl (cA, 14, .inl ff)), (ap, .inl (cA, 2 * tw_P k, .inl fp)), (ah, .inl (cA, 2 * tw_P k, .inl fh)), (ac, .inl (cA, 2 * tw_P k, .inl fn))] sz)) (va_Qi (fun (r : Int32) (u : Nat → Int32) => r = nI (tw_pk (tw_mu (tw_P k) (tw_D k) (z.toInt % (tw_N k : Int)).toNat (R j2))) ∧ u = upd rg j (nI (tw_en (tw_mu (tw_P k) (tw_D k) (z.toInt % (tw_N k : Int)).toNat (R j2))))) (fun (u : Nat → Int32) t => wd_at D [(cA, .int)] (va_A [(d0, .inr (1, [.ref dc, .ref dr, .int (nI k), .ref h0])), (dr, .inl (cA, 12, .inl rg)), (h0, .inr (0, [.int (nI (tw_P k)), .int (nI (tw_D k)), .int (nI (tw_I k)), .int (nI (tw_N k)), .ref ai, .ref ar, .ref af, .ref ap, .ref ah, .ref ac, .int (nI ((tw_fs k).length)), .int hk])), (ai, .inl (cA, tw_P k, .inl fi)), (ar, .inl (cA, tw_P k, .inl fr)), (af, .inl (cA, 14, .inl ff)), (ap, .inl (cA, 2 * tw_P k, .inl fp)), (ah, .inl (cA, 2 * tw_P k, .inl fh)), (ac, .inl (cA, 2 * tw_P k, .inl fn))] sz) [(d0, .inr (1, [.ref dc, .ref dr, .int (nI k), .ref h0])), (dr, .inl (cA, 12, .inl u)), (h0, .inr (0, [.int (nI (tw_P k)), .int (nI (tw_D k)), .int (nI (tw_I k)), .int (nI (tw_N k)), .ref ai, .ref ar, .ref af, .ref ap, .ref ah, .ref ac, .int (nI ((tw_fs k).length)), .int hk])), (ai, .inl (cA, tw_P k, .inl fi)), (ar, .inl (cA, tw_P k, .inl fr)), (af, .inl (cA, 14, .inl ff)), (ap, .inl (cA, 2 * tw_P k, .inl fp)), (ah, .inl (cA, 2 * tw_P k, .inl fh)), (ac, .inl (cA, 2 * tw_P k, .inl fn))] t) (va_A [(d0, .inr (1, [.ref dc, .ref dr, .int (nI k), .ref h0])), (dr, .inl (cA, 12, .inl rg)), (h0, .inr (0, [.int (nI (tw_P k)), .int (nI (tw_D k)), .int (nI (tw_I k)), .int (nI (tw_N k)), .ref ai, .ref ar, .ref af, .ref ap, .ref ah, .ref ac, .int (nI ((tw_fs k).length)), .int hk])), (ai, .inl (cA, tw_P k, .inl fi)), (ar, .inl (cA, tw_P k, .inl fr)), (af, .inl (cA, 14, .inl ff)), (ap, .inl (cA, 2 * tw_P k, .inl fp)), (ah, .inl (cA, 2 * tw_P k, .inl fh)), (ac, .inl (cA, 2 * tw_P k, .inl fn))] sz)) 0 0 (va_A [(d0, .inr (1, [.ref dc, .ref dr, .int (nI k), .ref h0])), (dr, .inl (cA, 12, .inl rg)), (h0, .inr (0, [.int (nI (tw_P k)), .int (nI (tw_D k)), .int (nI (tw_I k)), .int (nI (tw_N k)), .ref ai, .ref ar, .ref af, .ref ap, .ref ah, .ref ac, .int (nI ((tw_fs k).length)), .int hk])), (ai, .inl (cA, tw_P k, .inl fi)), (ar, .inl (cA, tw_P k, .inl fr)), (af, .inl (cA, 14, .inl ff)), (ap, .inl (cA, 2 * tw_P k, .inl fp)), (ah, .inl (cA, 2 * tw_P k, .inl fh)), (ac, .inl (cA, 2 * tw_P k, .inl fn))] sz) := by
  refine Met.ofW (cc := cX1_times) (maxL := 5) (ret := (some .int)) (by decide) rfl ?_
  intro p e s m args below meth c s₁ B hml hv
  obtain ⟨rfl, hsz, hP, hK, hD0⟩ := hv
  have hx := B.exec
  have hb := B.bytes
  have hr := B.returns
  have hts := atoms_spec (ws := wX1_times) B.pre
  have ht : ∀ w ∈ tb_all, w.before _ s = true := fun w h => hts w (List.mem_cons_of_mem _ h)
  have hown : s.vm.findClass RX1 = some m.cls := findClass_of_methodNamed B.named
  have hlocks := B.notSynchronized
  have hin : meth.name = "times" := (name_of_methodNamed B.named B.method).1
  subst hsz
  have hD := hD0.self (sz := s.heap.size)
  generalize hAe : va_A [(d0, .inr (1, [.ref dc, .ref dr, .int (nI k), .ref h0])), (dr, .inl (cA, 12, .inl rg)), (h0, .inr (0, [.int (nI (tw_P k)), .int (nI (tw_D k)), .int (nI (tw_I k)), .int (nI (tw_N k)), .ref ai, .ref ar, .ref af, .ref ap, .ref ah, .ref ac, .int (nI ((tw_fs k).length)), .int hk])), (ai, .inl (cA, tw_P k, .inl fi)), (ar, .inl (cA, tw_P k, .inl fr)), (af, .inl (cA, 14, .inl ff)), (ap, .inl (cA, 2 * tw_P k, .inl fp)), (ah, .inl (cA, 2 * tw_P k, .inl fh)), (ac, .inl (cA, 2 * tw_P k, .inl fn))] s.heap.size = A at hD ⊢
  have hA : ∀ q : Nat, s.heap.size ≤ q → A q := fun q h => by rw [← hAe]; exact Or.inr h
  have hS : va_S A s.heap s.heap [] := va_S.rf
  have hl := lv_entry ([.ref d0, .int (nI j), .long z, .int (nI j2)]) (n := 5) (Nat.le_of_ble_eq_true rfl)
  rw [lg_entry_eq]
  generalize (lg_sl ([.ref d0, .int (nI j), .long z, .int (nI j2)]) ++ List.replicate (5 - (lg_sl ([.ref d0, .int (nI j), .long z, .int (nI j2)])).length) Slot.unset).toArray = ls at hl ⊢
  have hl : lv_has ls 5 [(0, .ref d0), (1, .int (nI j)), (2, .long z), (4, .int (nI j2))] := hl
  obtain ⟨hP0, hP2, hD2, hI2, hDP⟩ := tw_kb hk5
  have hK0 := tw_kK k hk5
  have hP8 : tw_P k ≤ 8192 := by omega
  have hN := tw_kN k hk5
  have zk : k ≤ 4 := by omega
  obtain ⟨hfi, hfr, hff⟩ := hok
  have o2 := (hrg j2 hj2).1
  have om := tw_mu_on hK0 o2 (z.toInt % (tw_N k : Int)).toNat
  refine lv_iload_n hx hb dX1_times_0 rfl (lv_at hl 1 rfl) ?_
  refine va_csv (W.runS (As := [.int (nI j)]) (rest := []) ⟨hx, hb, hml, hown, ht⟩ (c_X1_needRegister l hj) (va_cwS 1 ht (tb_S kl_X1_41 kt_X1_needRegister kn_X1 kc_X1_needRegister) rfl rfl rfl kd_X1_needRegister ⟨Nat.le_of_ble_eq_true rfl, Nat.le_of_ble_eq_true rfl⟩) (st_pre _) rfl rfl hl.1 rfl (lv_room (Nat.le_of_ble_eq_true rfl)) dX1_times_1 ⟨Nat.zero_le _, Nat.zero_le _⟩) (fun _ => ?_)
  refine lv_iload hx hb dX1_times_4 (lv_at hl 3 rfl) ?_
  refine va_csv (W.runS (As := [.int (nI j2)]) (rest := []) ⟨hx, hb, hml, hown, ht⟩ (c_X1_needRegister l hj2) (va_cwS 1 ht (tb_S kl_X1_41 kt_X1_needRegister kn_X1 kc_X1_needRegister) rfl rfl rfl kd_X1_needRegister ⟨Nat.le_of_ble_eq_true rfl, Nat.le_of_ble_eq_true rfl⟩) (st_pre _) rfl rfl hl.1 rfl (lv_room (Nat.le_of_ble_eq_true rfl)) dX1_times_6 ⟨Nat.zero_le _, Nat.zero_le _⟩) (fun _ => ?_)
  refine lv_aload_n hx hb dX1_times_9 rfl (lv_at hl 0 rfl) ?_
  refine lv_iload_n hx hb dX1_times_10 rfl (lv_at hl 1 rfl) ?_
  refine lv_aload_n hx hb dX1_times_11 rfl (lv_at hl 0 rfl) ?_
  refine va_get (D := D) (ci := 1) (v := .ref h0) (C := RX1) (T := TX1) (N := 4) hx hb ht inX1 hown hK hP 0 rfl rfl 3 (by decide) (ht _ kf_X1_33) (fun _ h9 => h9) rfl dX1_times_12 ?_
  refine lv_lload_n hx hb dX1_times_15 rfl (lv_at hl 2 rfl) ?_
  refine lv_aload_n hx hb dX1_times_16 rfl (lv_at hl 0 rfl) ?_
  refine va_get (D := D) (ci := 1) (v := .ref dr) (C := RX1) (T := TX1) (N := 4) hx hb ht inX1 hown hK hP 0 rfl rfl 1 (by decide) (ht _ kf_X1_19) (fun _ h9 => h9) rfl dX1_times_17 ?_
  refine lv_iload hx hb dX1_times_20 (lv_at hl 3 rfl) ?_
  refine nv_iald (A := fun _ => True) (H0 := s.heap) hx hb hK hP 1 0 rfl rfl hj2 (by decide) dX1_times_22 ?_
  rw [(hrg _ hj2).2]
  refine vp_callSi (W.runV (As := [.long z, .int (nI (tw_en (R j2)))]) (rest := [.int (nI j), .ref d0]) ⟨hx, hb, hml, hown, ht⟩ (c_X0_multiple l D hk5 (by omega) hN.2 z o2) (cwV 2 ht (tb_V kl_X1_78 ki_X0_multiple ks_X0_multiple kn_X0 kc_X0_multiple) rfl rfl rfl ⟨rfl, kd_X0_multiple⟩ ⟨Nat.le_of_ble_eq_true rfl, Nat.le_of_ble_eq_true rfl⟩) (cv_preH (hP.sub (ws' := [(h0, .inr (0, [.int (nI (tw_P k)), .int (nI (tw_D k)), .int (nI (tw_I k)), .int (nI (tw_N k)), .ref ai, .ref ar, .ref af, .ref ap, .ref ah, .ref ac, .int (nI ((tw_fs k).length)), .int hk])), (ai, .inl (cA, tw_P k, .inl fi)), (ar, .inl (cA, tw_P k, .inl fr)), (af, .inl (cA, 14, .inl ff)), (ap, .inl (cA, 2 * tw_P k, .inl fp)), (ah, .inl (cA, 2 * tw_P k, .inl fh)), (ac, .inl (cA, 2 * tw_P k, .inl fn))]) [2, 3, 4, 5, 6, 7, 8] rfl) hK hfi hfr _) rfl rfl hl.1 rfl (lv_room (Nat.le_of_ble_eq_true rfl)) dX1_times_23 ⟨Nat.zero_le _, Nat.zero_le _⟩) (fun r hr9 => ?_)
  subst hr9
  have hPc := hP.sub (ws' := [(d0, .inr (1, [.ref dc, .ref dr, .int (nI k), .ref h0])), (dr, .inl (cA, 12, .inl rg))]) [0, 1] rfl
  have hDc := hD.sub (ws' := [(d0, .inr (1, [.ref dc, .ref dr, .int (nI k), .ref h0])), (dr, .inl (cA, 12, .inl rg))]) [0, 1] (by decide) rfl
  have hFc := va_free (wc := [(d0, .inr (1, [.ref dc, .ref dr, .int (nI k), .ref h0])), (dr, .inl (cA, 12, .inl rg))]) hD hS hA [0, 1] rfl
  refine va_calli (va_runV (As := [.int (nI j), .int (nI (tw_en (tw_mu (tw_P k) (tw_D k) (z.toInt % (tw_N k : Int)).toNat (R j2))))]) (rest := []) ⟨hx, hb, hml, hown, ht⟩ (c_X1_keep l D hj (p9 := tw_mu (tw_P k) (tw_D k) (z.toInt % (tw_N k : Int)).toNat (R j2)) (by have := (om).1; omega) (by have := (om).2.1; omega) s.heap.size) (cwV 2 ht (tb_V kl_X1_75 ki_X1_keep ks_X1_keep kn_X1 kc_X1_keep) rfl rfl rfl ⟨rfl, kd_X1_keep⟩ ⟨Nat.le_of_ble_eq_true rfl, Nat.le_of_ble_eq_true rfl⟩) (wd_preV _ hPc hK hDc (va_recv (ci := 1) (q0 := 0) hK hP rfl rfl)) rfl rfl hl.1 rfl (lv_room (Nat.le_of_ble_eq_true rfl)) dX1_times_26 ⟨Nat.le_of_ble_eq_true rfl, Nat.le_of_ble_eq_true rfl⟩) hS (fun q _ h => hFc q h) hFc (fun r9 u9 t9 H1 locs ht9 hvm9 hw9 hB9 hz9 hk9 hS => ?_)
  obtain ⟨hP1, hK1, hD1⟩ := hB9
  rw [ht9] at hP1
  obtain ⟨hP, hD⟩ := va_join (wr := [(h0, .inr (0, [.int (nI (tw_P k)), .int (nI (tw_D k)), .int (nI (tw_I k)), .int (nI (tw_N k)), .ref ai, .ref ar, .ref af, .ref ap, .ref ah, .ref ac, .int (nI ((tw_fs k).length)), .int hk])), (ai, .inl (cA, tw_P k, .inl fi)), (ar, .inl (cA, tw_P k, .inl fr)), (af, .inl (cA, 14, .inl ff)), (ap, .inl (cA, 2 * tw_P k, .inl fp)), (ah, .inl (cA, 2 * tw_P k, .inl fh)), (ac, .inl (cA, 2 * tw_P k, .inl fn))]) (w1 := [(d0, .inr (1, [.ref dc, .ref dr, .int (nI k), .ref h0])), (dr, .inl (cA, 12, .inl u9))]) hP hD [0, 1] [2, 3, 4, 5, 6, 7, 8] rfl rfl (by decide) (by decide) hk9 hFc hP1 hD1
  have hP := hP.sub (ws' := [(d0, .inr (1, [.ref dc, .ref dr, .int (nI k), .ref h0])), (dr, .inl (cA, 12, .inl u9)), (h0, .inr (0, [.int (nI (tw_P k)), .int (nI (tw_D k)), .int (nI (tw_I k)), .int (nI (tw_N k)), .ref ai, .ref ar, .ref af, .ref ap, .ref ah, .ref ac, .int (nI ((tw_fs k).length)), .int hk])), (ai, .inl (cA, tw_P k, .inl fi)), (ar, .inl (cA, tw_P k, .inl fr)), (af, .inl (cA, 14, .inl ff)), (ap, .inl (cA, 2 * tw_P k, .inl fp)), (ah, .inl (cA, 2 * tw_P k, .inl fh)), (ac, .inl (cA, 2 * tw_P k, .inl fn))]) [7, 8, 0, 1, 2, 3, 4, 5, 6] rfl
  have hD := hD.sub (ws' := [(d0, .inr (1, [.ref dc, .ref dr, .int (nI k), .ref h0])), (dr, .inl (cA, 12, .inl u9)), (h0, .inr (0, [.int (nI (tw_P k)), .int (nI (tw_D k)), .int (nI (tw_I k)), .int (nI (tw_N k)), .ref ai, .ref ar, .ref af, .ref ap, .ref ah, .ref ac, .int (nI ((tw_fs k).length)), .int hk])), (ai, .inl (cA, tw_P k, .inl fi)), (ar, .inl (cA, tw_P k, .inl fr)), (af, .inl (cA, 14, .inl ff)), (ap, .inl (cA, 2 * tw_P k, .inl fp)), (ah, .inl (cA, 2 * tw_P k, .inl fh)), (ac, .inl (cA, 2 * tw_P k, .inl fn))]) [7, 8, 0, 1, 2, 3, 4, 5, 6] (by decide) rfl
  generalize H1 = H at hP hS hz9 ⊢
  exact W.iret hx hb hr (fun t ht9 hW => ⟨⟨_, u9, rfl, hw9, by rw [ht9]; exact hP, va_K.moved hW.alike hK, hD⟩, hS.F ht9⟩) hS.2.2 dX1_times_29
set_option maxHeartbeats 4000000 in
set_option maxRecDepth 100000 in
theorem c_X1_both (l : Launch) (D : va_G) {k : Nat} (hk5 : k < 5) {d0 dc dr h0 ai ar af ap ah ac : Nat} {cA : ClassId} {hk : Int32} {rg fi fr ff fp fh fn : Nat → Int32} {R : Nat → Nat × Nat} (hok : cv_ok k fi fr ff) (hrg : ∀ j, j < 12 → tw_on (tw_P k) (tw_D k) (R j) ∧ rg j = nI (tw_en (R j))) {j j2 j3 : Nat} (hj : j < 12) (hj2 : j2 < 12) (hj3 : j3 < 12) (z z2 : Int64) (sz : Nat) : Met l yX1_both wX1_both ({ frames := 3, cells := 0, slots := 0, locals := 76 }) (va_Pc [.ref d0, .int (nI j), .long z, .int (nI j2), .long z2, .int (nI j3)] (wd_pre D [(cA, .int)] [(d0, .inr (1, [.ref dc, .ref dr, .int (nI k), .ref h0])), (dr, .inl (cA, 12, .inl rg)), (h0, .inr (0, [.int (nI (tw_P k)), .int (nI (tw_D k)), .int (nI (tw_I k)), .int (nI (tw_N k)), .ref ai, .ref ar, .ref af, .ref ap, .ref ah, .ref ac, .int (nI ((tw_fs k).length)), .int hk])), (ai, .inl (cA, tw_P k, .inl fi)), (ar, .inl (cA, tw_P k, .inl fr)), (af, .inl (cA, 14, .inl ff)), (ap, .inl (cA, 2 * tw_P k, .inl fp)), (ah, .inl (cA, 2 * tw_P k, .inl fh)), (ac, .inl (cA, 2 * tw_P k, .inl fn))] sz)) (va_Qi (fun (r : Int32) (u : Nat → Int32) => r = nI (tw_pk (tw_add (tw_P k) (tw_D k) (tw_mu (tw_P k) (tw_D k) (z.toInt % (tw_N k : Int)).toNat (R j2)) (tw_mu (tw_P k) (tw_D k) (z2.toInt % (tw_N k : Int)).toNat (R j3)))) ∧ u = upd rg j (nI (tw_en (tw_add (tw_P k) (tw_D k) (tw_mu (tw_P k) (tw_D k) (z.toInt % (tw_N k : Int)).toNat (R j2)) (tw_mu (tw_P k) (tw_D k) (z2.toInt % (tw_N k : Int)).toNat (R j3)))))) (fun (u : Nat → Int32) t => wd_at D [(cA, .int)] (va_A [(d0, .inr (1, [.ref dc, .ref dr, .int (nI k), .ref h0])), (dr, .inl (cA, 12, .inl rg)), (h0, .inr (0, [.int (nI (tw_P k)), .int (nI (tw_D k)), .int (nI (tw_I k)), .int (nI (tw_N k)), .ref ai, .ref ar, .ref af, .ref ap, .ref ah, .ref ac, .int (nI ((tw_fs k).length)), .int hk])), (ai, .inl (cA, tw_P k, .inl fi)), (ar, .inl (cA, tw_P k, .inl fr)), (af, .inl (cA, 14, .inl ff)), (ap, .inl (cA, 2 * tw_P k, .inl fp)), (ah, .inl (cA, 2 * tw_P k, .inl fh)), (ac, .inl (cA, 2 * tw_P k, .inl fn))] sz) [(d0, .inr (1, [.ref dc, .ref dr, .int (nI k), .ref h0])), (dr, .inl (cA, 12, .inl u)), (h0, .inr (0, [.int (nI (tw_P k)), .int (nI (tw_D k)), .int (nI (tw_I k)), .int (nI (tw_N k)), .ref ai, .ref ar, .ref af, .ref ap, .ref ah, .ref ac, .int (nI ((tw_fs k).length)), .int hk])), (ai, .inl (cA, tw_P k, .inl fi)), (ar, .inl (cA, tw_P k, .inl fr)), (af, .inl (cA, 14, .inl ff)), (ap, .inl (cA, 2 * tw_P k, .inl fp)), (ah, .inl (cA, 2 * tw_P k, .inl fh)), (ac, .inl (cA, 2 * tw_P k, .inl fn))] t) (va_A [(d0, .inr (1, [.ref dc, .ref dr, .int (nI k), .ref h0])), (dr, .inl (cA, 12, .inl rg)), (h0, .inr (0, [.int (nI (tw_P k)), .int (nI (tw_D k)), .int (nI (tw_I k)), .int (nI (tw_N k)), .ref ai, .ref ar, .ref af, .ref ap, .ref ah, .ref ac, .int (nI ((tw_fs k).length)), .int hk])), (ai, .inl (cA, tw_P k, .inl fi)), (ar, .inl (cA, tw_P k, .inl fr)), (af, .inl (cA, 14, .inl ff)), (ap, .inl (cA, 2 * tw_P k, .inl fp)), (ah, .inl (cA, 2 * tw_P k, .inl fh)), (ac, .inl (cA, 2 * tw_P k, .inl fn))] sz)) 0 0 (va_A [(d0, .inr (1, [.ref dc, .ref dr, .int (nI k), .ref h0])), (dr, .inl (cA, 12, .inl rg)), (h0, .inr (0, [.int (nI (tw_P k)), .int (nI (tw_D k)), .int (nI (tw_I k)), .int (nI (tw_N k)), .ref ai, .ref ar, .ref af, .ref ap, .ref ah, .ref ac, .int (nI ((tw_fs k).length)), .int hk])), (ai, .inl (cA, tw_P k, .inl fi)), (ar, .inl (cA, tw_P k, .inl fr)), (af, .inl (cA, 14, .inl ff)), (ap, .inl (cA, 2 * tw_P k, .inl fp)), (ah, .inl (cA, 2 * tw_P k, .inl fh)), (ac, .inl (cA, 2 * tw_P k, .inl fn))] sz) := by
  refine Met.ofW (cc := cX1_both) (maxL := 10) (ret := (some .int)) (by decide) rfl ?_
  intro p e s m args below meth c s₁ B hml hv
  obtain ⟨rfl, hsz, hP, hK, hD0⟩ := hv
  have hx := B.exec
  have hb := B.bytes
  have hr := B.returns
  have hts := atoms_spec (ws := wX1_both) B.pre
  have ht : ∀ w ∈ tb_all, w.before _ s = true := fun w h => hts w (List.mem_cons_of_mem _ h)
  have hown : s.vm.findClass RX1 = some m.cls := findClass_of_methodNamed B.named
  have hlocks := B.notSynchronized
  have hin : meth.name = "both" := (name_of_methodNamed B.named B.method).1
  subst hsz
  have hD := hD0.self (sz := s.heap.size)
  generalize hAe : va_A [(d0, .inr (1, [.ref dc, .ref dr, .int (nI k), .ref h0])), (dr, .inl (cA, 12, .inl rg)), (h0, .inr (0, [.int (nI (tw_P k)), .int (nI (tw_D k)), .int (nI (tw_I k)), .int (nI (tw_N k)), .ref ai, .ref ar, .ref af, .ref ap, .ref ah, .ref ac, .int (nI ((tw_fs k).length)), .int hk])), (ai, .inl (cA, tw_P k, .inl fi)), (ar, .inl (cA, tw_P k, .inl fr)), (af, .inl (cA, 14, .inl ff)), (ap, .inl (cA, 2 * tw_P k, .inl fp)), (ah, .inl (cA, 2 * tw_P k, .inl fh)), (ac, .inl (cA, 2 * tw_P k, .inl fn))] s.heap.size = A at hD ⊢
  have hA : ∀ q : Nat, s.heap.size ≤ q → A q := fun q h => by rw [← hAe]; exact Or.inr h
  have hS : va_S A s.heap s.heap [] := va_S.rf
  have hl := lv_entry ([.ref d0, .int (nI j), .long z, .int (nI j2), .long z2, .int (nI j3)]) (n := 10) (Nat.le_of_ble_eq_true rfl)
  rw [lg_entry_eq]
  generalize (lg_sl ([.ref d0, .int (nI j), .long z, .int (nI j2), .long z2, .int (nI j3)]) ++ List.replicate (10 - (lg_sl ([.ref d0, .int (nI j), .long z, .int (nI j2), .long z2, .int (nI j3)])).length) Slot.unset).toArray = ls at hl ⊢
  have hl : lv_has ls 10 [(0, .ref d0), (1, .int (nI j)), (2, .long z), (4, .int (nI j2)), (5, .long z2), (7, .int (nI j3))] := hl
  obtain ⟨hP0, hP2, hD2, hI2, hDP⟩ := tw_kb hk5
  have hK0 := tw_kK k hk5
  have hP8 : tw_P k ≤ 8192 := by omega
  have hN := tw_kN k hk5
  have zk : k ≤ 4 := by omega
  obtain ⟨hfi, hfr, hff⟩ := hok
  have o2 := (hrg j2 hj2).1
  have o3 := (hrg j3 hj3).1
  have om := tw_mu_on hK0 o2 (z.toInt % (tw_N k : Int)).toNat
  have om2 := tw_mu_on hK0 o3 (z2.toInt % (tw_N k : Int)).toNat
  refine lv_iload_n hx hb dX1_both_0 rfl (lv_at hl 1 rfl) ?_
  refine va_csv (W.runS (As := [.int (nI j)]) (rest := []) ⟨hx, hb, hml, hown, ht⟩ (c_X1_needRegister l hj) (va_cwS 1 ht (tb_S kl_X1_41 kt_X1_needRegister kn_X1 kc_X1_needRegister) rfl rfl rfl kd_X1_needRegister ⟨Nat.le_of_ble_eq_true rfl, Nat.le_of_ble_eq_true rfl⟩) (st_pre _) rfl rfl hl.1 rfl (lv_room (Nat.le_of_ble_eq_true rfl)) dX1_both_1 ⟨Nat.zero_le _, Nat.zero_le _⟩) (fun _ => ?_)
  refine lv_iload hx hb dX1_both_4 (lv_at hl 3 rfl) ?_
  refine va_csv (W.runS (As := [.int (nI j2)]) (rest := []) ⟨hx, hb, hml, hown, ht⟩ (c_X1_needRegister l hj2) (va_cwS 1 ht (tb_S kl_X1_41 kt_X1_needRegister kn_X1 kc_X1_needRegister) rfl rfl rfl kd_X1_needRegister ⟨Nat.le_of_ble_eq_true rfl, Nat.le_of_ble_eq_true rfl⟩) (st_pre _) rfl rfl hl.1 rfl (lv_room (Nat.le_of_ble_eq_true rfl)) dX1_both_6 ⟨Nat.zero_le _, Nat.zero_le _⟩) (fun _ => ?_)
  refine lv_iload hx hb dX1_both_9 (lv_at hl 5 rfl) ?_
  refine va_csv (W.runS (As := [.int (nI j3)]) (rest := []) ⟨hx, hb, hml, hown, ht⟩ (c_X1_needRegister l hj3) (va_cwS 1 ht (tb_S kl_X1_41 kt_X1_needRegister kn_X1 kc_X1_needRegister) rfl rfl rfl kd_X1_needRegister ⟨Nat.le_of_ble_eq_true rfl, Nat.le_of_ble_eq_true rfl⟩) (st_pre _) rfl rfl hl.1 rfl (lv_room (Nat.le_of_ble_eq_true rfl)) dX1_both_11 ⟨Nat.zero_le _, Nat.zero_le _⟩) (fun _ => ?_)
  refine lv_aload_n hx hb dX1_both_14 rfl (lv_at hl 0 rfl) ?_
  refine va_get (D := D) (ci := 1) (v := .ref h0) (C := RX1) (T := TX1) (N := 4) hx hb ht inX1 hown hK hP 0 rfl rfl 3 (by decide) (ht _ kf_X1_33) (fun _ h9 => h9) rfl dX1_both_15 ?_
  refine lv_lload_n hx hb dX1_both_18 rfl (lv_at hl 2 rfl) ?_
  refine lv_aload_n hx hb dX1_both_19 rfl (lv_at hl 0 rfl) ?_
  refine va_get (D := D) (ci := 1) (v := .ref dr) (C := RX1) (T := TX1) (N := 4) hx hb ht inX1 hown hK hP 0 rfl rfl 1 (by decide) (ht _ kf_X1_19) (fun _ h9 => h9) rfl dX1_both_20 ?_
  refine lv_iload hx hb dX1_both_23 (lv_at hl 3 rfl) ?_
  refine nv_iald (A := fun _ => True) (H0 := s.heap) hx hb hK hP 1 0 rfl rfl hj2 (by decide) dX1_both_25 ?_
  rw [(hrg _ hj2).2]
  refine vp_callSi (W.runV (As := [.long z, .int (nI (tw_en (R j2)))]) (rest := []) ⟨hx, hb, hml, hown, ht⟩ (c_X0_multiple l D hk5 (by omega) hN.2 z o2) (cwV 2 ht (tb_V kl_X1_78 ki_X0_multiple ks_X0_multiple kn_X0 kc_X0_multiple) rfl rfl rfl ⟨rfl, kd_X0_multiple⟩ ⟨Nat.le_of_ble_eq_true rfl, Nat.le_of_ble_eq_true rfl⟩) (cv_preH (hP.sub (ws' := [(h0, .inr (0, [.int (nI (tw_P k)), .int (nI (tw_D k)), .int (nI (tw_I k)), .int (nI (tw_N k)), .ref ai, .ref ar, .ref af, .ref ap, .ref ah, .ref ac, .int (nI ((tw_fs k).length)), .int hk])), (ai, .inl (cA, tw_P k, .inl fi)), (ar, .inl (cA, tw_P k, .inl fr)), (af, .inl (cA, 14, .inl ff)), (ap, .inl (cA, 2 * tw_P k, .inl fp)), (ah, .inl (cA, 2 * tw_P k, .inl fh)), (ac, .inl (cA, 2 * tw_P k, .inl fn))]) [2, 3, 4, 5, 6, 7, 8] rfl) hK hfi hfr _) rfl rfl hl.1 rfl (lv_room (Nat.le_of_ble_eq_true rfl)) dX1_both_26 ⟨Nat.zero_le _, Nat.zero_le _⟩) (fun r hr9 => ?_)
  subst hr9
  refine lv_istore hx hb dX1_both_29 hl (by decide) rfl (fun ls hl => ?_)
  have hl : lv_has ls 10 [(8, .int (nI (tw_en (tw_mu (tw_P k) (tw_D k) (z.toInt % (tw_N k : Int)).toNat (R j2))))), (0, .ref d0), (1, .int (nI j)), (2, .long z), (4, .int (nI j2)), (5, .long z2), (7, .int (nI j3))] := hl
  refine lv_aload_n hx hb dX1_both_31 rfl (lv_at hl 1 rfl) ?_
  refine va_get (D := D) (ci := 1) (v := .ref h0) (C := RX1) (T := TX1) (N := 4) hx hb ht inX1 hown hK hP 0 rfl rfl 3 (by decide) (ht _ kf_X1_33) (fun _ h9 => h9) rfl dX1_both_32 ?_
  refine lv_lload hx hb dX1_both_35 (lv_at hl 5 rfl) ?_
  refine lv_aload_n hx hb dX1_both_37 rfl (lv_at hl 1 rfl) ?_
  refine va_get (D := D) (ci := 1) (v := .ref dr) (C := RX1) (T := TX1) (N := 4) hx hb ht inX1 hown hK hP 0 rfl rfl 1 (by decide) (ht _ kf_X1_19) (fun _ h9 => h9) rfl dX1_both_38 ?_
  refine lv_iload hx hb dX1_both_41 (lv_at hl 6 rfl) ?_
  refine nv_iald (A := fun _ => True) (H0 := s.heap) hx hb hK hP 1 0 rfl rfl hj3 (by decide) dX1_both_43 ?_
  rw [(hrg _ hj3).2]
  refine vp_callSi (W.runV (As := [.long z2, .int (nI (tw_en (R j3)))]) (rest := []) ⟨hx, hb, hml, hown, ht⟩ (c_X0_multiple l D hk5 (by omega) hN.2 z2 o3) (cwV 2 ht (tb_V kl_X1_78 ki_X0_multiple ks_X0_multiple kn_X0 kc_X0_multiple) rfl rfl rfl ⟨rfl, kd_X0_multiple⟩ ⟨Nat.le_of_ble_eq_true rfl, Nat.le_of_ble_eq_true rfl⟩) (cv_preH (hP.sub (ws' := [(h0, .inr (0, [.int (nI (tw_P k)), .int (nI (tw_D k)), .int (nI (tw_I k)), .int (nI (tw_N k)), .ref ai, .ref ar, .ref af, .ref ap, .ref ah, .ref ac, .int (nI ((tw_fs k).length)), .int hk])), (ai, .inl (cA, tw_P k, .inl fi)), (ar, .inl (cA, tw_P k, .inl fr)), (af, .inl (cA, 14, .inl ff)), (ap, .inl (cA, 2 * tw_P k, .inl fp)), (ah, .inl (cA, 2 * tw_P k, .inl fh)), (ac, .inl (cA, 2 * tw_P k, .inl fn))]) [2, 3, 4, 5, 6, 7, 8] rfl) hK hfi hfr _) rfl rfl hl.1 rfl (lv_room (Nat.le_of_ble_eq_true rfl)) dX1_both_44 ⟨Nat.zero_le _, Nat.zero_le _⟩) (fun r hr9 => ?_)
  subst hr9
  refine lv_istore hx hb dX1_both_47 hl (by decide) rfl (fun ls hl => ?_)
  have hl : lv_has ls 10 [(9, .int (nI (tw_en (tw_mu (tw_P k) (tw_D k) (z2.toInt % (tw_N k : Int)).toNat (R j3))))), (8, .int (nI (tw_en (tw_mu (tw_P k) (tw_D k) (z.toInt % (tw_N k : Int)).toNat (R j2))))), (0, .ref d0), (1, .int (nI j)), (2, .long z), (4, .int (nI j2)), (5, .long z2), (7, .int (nI j3))] := hl
  refine lv_aload_n hx hb dX1_both_49 rfl (lv_at hl 2 rfl) ?_
  refine lv_iload_n hx hb dX1_both_50 rfl (lv_at hl 3 rfl) ?_
  refine lv_aload_n hx hb dX1_both_51 rfl (lv_at hl 2 rfl) ?_
  refine va_get (D := D) (ci := 1) (v := .ref h0) (C := RX1) (T := TX1) (N := 4) hx hb ht inX1 hown hK hP 0 rfl rfl 3 (by decide) (ht _ kf_X1_33) (fun _ h9 => h9) rfl dX1_both_52 ?_
  refine lv_iload hx hb dX1_both_55 (lv_at hl 1 rfl) ?_
  refine lv_iload hx hb dX1_both_57 (lv_at hl 0 rfl) ?_
  refine vp_callSi (W.runV (As := [.int (nI (tw_en (tw_mu (tw_P k) (tw_D k) (z.toInt % (tw_N k : Int)).toNat (R j2)))), .int (nI (tw_en (tw_mu (tw_P k) (tw_D k) (z2.toInt % (tw_N k : Int)).toNat (R j3))))]) (rest := [.int (nI j), .ref d0]) ⟨hx, hb, hml, hown, ht⟩ (c_X0_sum l D hk5 (x := (tw_mu (tw_P k) (tw_D k) (z.toInt % (tw_N k : Int)).toNat (R j2)).1) (y := (tw_mu (tw_P k) (tw_D k) (z.toInt % (tw_N k : Int)).toNat (R j2)).2) (u := (tw_mu (tw_P k) (tw_D k) (z2.toInt % (tw_N k : Int)).toNat (R j3)).1) (v := (tw_mu (tw_P k) (tw_D k) (z2.toInt % (tw_N k : Int)).toNat (R j3)).2) om.1 om.2.1 om2.1 om2.2.1) (cwV 2 ht (tb_V kl_X1_72 ki_X0_sum ks_X0_sum kn_X0 kc_X0_sum) rfl rfl rfl ⟨rfl, kd_X0_sum⟩ ⟨Nat.le_of_ble_eq_true rfl, Nat.le_of_ble_eq_true rfl⟩) (cv_preH (hP.sub (ws' := [(h0, .inr (0, [.int (nI (tw_P k)), .int (nI (tw_D k)), .int (nI (tw_I k)), .int (nI (tw_N k)), .ref ai, .ref ar, .ref af, .ref ap, .ref ah, .ref ac, .int (nI ((tw_fs k).length)), .int hk])), (ai, .inl (cA, tw_P k, .inl fi)), (ar, .inl (cA, tw_P k, .inl fr)), (af, .inl (cA, 14, .inl ff)), (ap, .inl (cA, 2 * tw_P k, .inl fp)), (ah, .inl (cA, 2 * tw_P k, .inl fh)), (ac, .inl (cA, 2 * tw_P k, .inl fn))]) [2, 3, 4, 5, 6, 7, 8] rfl) hK hfi hfr _) rfl rfl hl.1 rfl (lv_room (Nat.le_of_ble_eq_true rfl)) dX1_both_59 ⟨Nat.zero_le _, Nat.zero_le _⟩) (fun r hr9 => ?_)
  subst hr9
  have hPc := hP.sub (ws' := [(d0, .inr (1, [.ref dc, .ref dr, .int (nI k), .ref h0])), (dr, .inl (cA, 12, .inl rg))]) [0, 1] rfl
  have hDc := hD.sub (ws' := [(d0, .inr (1, [.ref dc, .ref dr, .int (nI k), .ref h0])), (dr, .inl (cA, 12, .inl rg))]) [0, 1] (by decide) rfl
  have hFc := va_free (wc := [(d0, .inr (1, [.ref dc, .ref dr, .int (nI k), .ref h0])), (dr, .inl (cA, 12, .inl rg))]) hD hS hA [0, 1] rfl
  refine va_calli (va_runV (As := [.int (nI j), .int (nI (tw_en (tw_add (tw_P k) (tw_D k) (tw_mu (tw_P k) (tw_D k) (z.toInt % (tw_N k : Int)).toNat (R j2)) (tw_mu (tw_P k) (tw_D k) (z2.toInt % (tw_N k : Int)).toNat (R j3)))))]) (rest := []) ⟨hx, hb, hml, hown, ht⟩ (c_X1_keep l D hj (p9 := tw_add (tw_P k) (tw_D k) (tw_mu (tw_P k) (tw_D k) (z.toInt % (tw_N k : Int)).toNat (R j2)) (tw_mu (tw_P k) (tw_D k) (z2.toInt % (tw_N k : Int)).toNat (R j3))) (by have := ((tw_clo hK0 om om2)).1; omega) (by have := ((tw_clo hK0 om om2)).2.1; omega) s.heap.size) (cwV 2 ht (tb_V kl_X1_75 ki_X1_keep ks_X1_keep kn_X1 kc_X1_keep) rfl rfl rfl ⟨rfl, kd_X1_keep⟩ ⟨Nat.le_of_ble_eq_true rfl, Nat.le_of_ble_eq_true rfl⟩) (wd_preV _ hPc hK hDc (va_recv (ci := 1) (q0 := 0) hK hP rfl rfl)) rfl rfl hl.1 rfl (lv_room (Nat.le_of_ble_eq_true rfl)) dX1_both_62 ⟨Nat.le_of_ble_eq_true rfl, Nat.le_of_ble_eq_true rfl⟩) hS (fun q _ h => hFc q h) hFc (fun r9 u9 t9 H1 locs ht9 hvm9 hw9 hB9 hz9 hk9 hS => ?_)
  obtain ⟨hP1, hK1, hD1⟩ := hB9
  rw [ht9] at hP1
  obtain ⟨hP, hD⟩ := va_join (wr := [(h0, .inr (0, [.int (nI (tw_P k)), .int (nI (tw_D k)), .int (nI (tw_I k)), .int (nI (tw_N k)), .ref ai, .ref ar, .ref af, .ref ap, .ref ah, .ref ac, .int (nI ((tw_fs k).length)), .int hk])), (ai, .inl (cA, tw_P k, .inl fi)), (ar, .inl (cA, tw_P k, .inl fr)), (af, .inl (cA, 14, .inl ff)), (ap, .inl (cA, 2 * tw_P k, .inl fp)), (ah, .inl (cA, 2 * tw_P k, .inl fh)), (ac, .inl (cA, 2 * tw_P k, .inl fn))]) (w1 := [(d0, .inr (1, [.ref dc, .ref dr, .int (nI k), .ref h0])), (dr, .inl (cA, 12, .inl u9))]) hP hD [0, 1] [2, 3, 4, 5, 6, 7, 8] rfl rfl (by decide) (by decide) hk9 hFc hP1 hD1
  have hP := hP.sub (ws' := [(d0, .inr (1, [.ref dc, .ref dr, .int (nI k), .ref h0])), (dr, .inl (cA, 12, .inl u9)), (h0, .inr (0, [.int (nI (tw_P k)), .int (nI (tw_D k)), .int (nI (tw_I k)), .int (nI (tw_N k)), .ref ai, .ref ar, .ref af, .ref ap, .ref ah, .ref ac, .int (nI ((tw_fs k).length)), .int hk])), (ai, .inl (cA, tw_P k, .inl fi)), (ar, .inl (cA, tw_P k, .inl fr)), (af, .inl (cA, 14, .inl ff)), (ap, .inl (cA, 2 * tw_P k, .inl fp)), (ah, .inl (cA, 2 * tw_P k, .inl fh)), (ac, .inl (cA, 2 * tw_P k, .inl fn))]) [7, 8, 0, 1, 2, 3, 4, 5, 6] rfl
  have hD := hD.sub (ws' := [(d0, .inr (1, [.ref dc, .ref dr, .int (nI k), .ref h0])), (dr, .inl (cA, 12, .inl u9)), (h0, .inr (0, [.int (nI (tw_P k)), .int (nI (tw_D k)), .int (nI (tw_I k)), .int (nI (tw_N k)), .ref ai, .ref ar, .ref af, .ref ap, .ref ah, .ref ac, .int (nI ((tw_fs k).length)), .int hk])), (ai, .inl (cA, tw_P k, .inl fi)), (ar, .inl (cA, tw_P k, .inl fr)), (af, .inl (cA, 14, .inl ff)), (ap, .inl (cA, 2 * tw_P k, .inl fp)), (ah, .inl (cA, 2 * tw_P k, .inl fh)), (ac, .inl (cA, 2 * tw_P k, .inl fn))]) [7, 8, 0, 1, 2, 3, 4, 5, 6] (by decide) rfl
  generalize H1 = H at hP hS hz9 ⊢
  exact W.iret hx hb hr (fun t ht9 hW => ⟨⟨_, u9, rfl, hw9, by rw [ht9]; exact hP, va_K.moved hW.alike hK, hD⟩, hS.F ht9⟩) hS.2.2 dX1_both_65
set_option maxHeartbeats 4000000 in
set_option maxRecDepth 100000 in
theorem c_X1_log (l : Launch) (D : va_G) {k : Nat} (hk5 : k < 5) {d0 dc dr h0 ai ar af ap ah ac : Nat} {cA : ClassId} {hk : Int32} {rg fi fr ff fp fh fn : Nat → Int32} {R : Nat → Nat × Nat} (hok : cv_ok k fi fr ff) (hrg : ∀ j, j < 12 → tw_on (tw_P k) (tw_D k) (R j) ∧ rg j = nI (tw_en (R j))) {j j2 : Nat} (hj : j < 12) (hj2 : j2 < 12) (sz : Nat) : Met l yX1_log wX1_log ({ frames := 4, cells := 0, slots := 0, locals := 102 }) (va_Pc [.ref d0, .int (nI j), .int (nI j2)] (wd_pre D [(cA, .int)] [(d0, .inr (1, [.ref dc, .ref dr, .int (nI k), .ref h0])), (dr, .inl (cA, 12, .inl rg)), (h0, .inr (0, [.int (nI (tw_P k)), .int (nI (tw_D k)), .int (nI (tw_I k)), .int (nI (tw_N k)), .ref ai, .ref ar, .ref af, .ref ap, .ref ah, .ref ac, .int (nI ((tw_fs k).length)), .int hk])), (ai, .inl (cA, tw_P k, .inl fi)), (ar, .inl (cA, tw_P k, .inl fr)), (af, .inl (cA, 14, .inl ff)), (ap, .inl (cA, 2 * tw_P k, .inl fp)), (ah, .inl (cA, 2 * tw_P k, .inl fh)), (ac, .inl (cA, 2 * tw_P k, .inl fn))] sz)) (va_Qi (fun (r : Int32) (u : Nat → Int32) => r = tw_lg (tw_P k) (tw_D k) (tw_N k) (R j) (R j2)) (fun (u : Nat → Int32) t => wd_at D [(cA, .int)] (va_A [(d0, .inr (1, [.ref dc, .ref dr, .int (nI k), .ref h0])), (dr, .inl (cA, 12, .inl rg)), (h0, .inr (0, [.int (nI (tw_P k)), .int (nI (tw_D k)), .int (nI (tw_I k)), .int (nI (tw_N k)), .ref ai, .ref ar, .ref af, .ref ap, .ref ah, .ref ac, .int (nI ((tw_fs k).length)), .int hk])), (ai, .inl (cA, tw_P k, .inl fi)), (ar, .inl (cA, tw_P k, .inl fr)), (af, .inl (cA, 14, .inl ff)), (ap, .inl (cA, 2 * tw_P k, .inl fp)), (ah, .inl (cA, 2 * tw_P k, .inl fh)), (ac, .inl (cA, 2 * tw_P k, .inl fn))] sz) [(d0, .inr (1, [.ref dc, .ref dr, .int (nI k), .ref h0])), (dr, .inl (cA, 12, .inl rg)), (h0, .inr (0, [.int (nI (tw_P k)), .int (nI (tw_D k)), .int (nI (tw_I k)), .int (nI (tw_N k)), .ref ai, .ref ar, .ref af, .ref ap, .ref ah, .ref ac, .int (nI ((tw_fs k).length)), .int hk])), (ai, .inl (cA, tw_P k, .inl fi)), (ar, .inl (cA, tw_P k, .inl fr)), (af, .inl (cA, 14, .inl ff)), (ap, .inl (cA, 2 * tw_P k, .inl u)), (ah, .inl (cA, 2 * tw_P k, .inl fh)), (ac, .inl (cA, 2 * tw_P k, .inl fn))] t) (va_A [(d0, .inr (1, [.ref dc, .ref dr, .int (nI k), .ref h0])), (dr, .inl (cA, 12, .inl rg)), (h0, .inr (0, [.int (nI (tw_P k)), .int (nI (tw_D k)), .int (nI (tw_I k)), .int (nI (tw_N k)), .ref ai, .ref ar, .ref af, .ref ap, .ref ah, .ref ac, .int (nI ((tw_fs k).length)), .int hk])), (ai, .inl (cA, tw_P k, .inl fi)), (ar, .inl (cA, tw_P k, .inl fr)), (af, .inl (cA, 14, .inl ff)), (ap, .inl (cA, 2 * tw_P k, .inl fp)), (ah, .inl (cA, 2 * tw_P k, .inl fh)), (ac, .inl (cA, 2 * tw_P k, .inl fn))] sz)) 0 0 (va_A [(d0, .inr (1, [.ref dc, .ref dr, .int (nI k), .ref h0])), (dr, .inl (cA, 12, .inl rg)), (h0, .inr (0, [.int (nI (tw_P k)), .int (nI (tw_D k)), .int (nI (tw_I k)), .int (nI (tw_N k)), .ref ai, .ref ar, .ref af, .ref ap, .ref ah, .ref ac, .int (nI ((tw_fs k).length)), .int hk])), (ai, .inl (cA, tw_P k, .inl fi)), (ar, .inl (cA, tw_P k, .inl fr)), (af, .inl (cA, 14, .inl ff)), (ap, .inl (cA, 2 * tw_P k, .inl fp)), (ah, .inl (cA, 2 * tw_P k, .inl fh)), (ac, .inl (cA, 2 * tw_P k, .inl fn))] sz) := by
  refine Met.ofW (cc := cX1_log) (maxL := 3) (ret := (some .int)) (by decide) rfl ?_
  intro p e s m args below meth c s₁ B hml hv
  obtain ⟨rfl, hsz, hP, hK, hD0⟩ := hv
  have hx := B.exec
  have hb := B.bytes
  have hr := B.returns
  have hts := atoms_spec (ws := wX1_log) B.pre
  have ht : ∀ w ∈ tb_all, w.before _ s = true := fun w h => hts w (List.mem_cons_of_mem _ h)
  have hown : s.vm.findClass RX1 = some m.cls := findClass_of_methodNamed B.named
  have hlocks := B.notSynchronized
  have hin : meth.name = "log" := (name_of_methodNamed B.named B.method).1
  subst hsz
  have hD := hD0.self (sz := s.heap.size)
  generalize hAe : va_A [(d0, .inr (1, [.ref dc, .ref dr, .int (nI k), .ref h0])), (dr, .inl (cA, 12, .inl rg)), (h0, .inr (0, [.int (nI (tw_P k)), .int (nI (tw_D k)), .int (nI (tw_I k)), .int (nI (tw_N k)), .ref ai, .ref ar, .ref af, .ref ap, .ref ah, .ref ac, .int (nI ((tw_fs k).length)), .int hk])), (ai, .inl (cA, tw_P k, .inl fi)), (ar, .inl (cA, tw_P k, .inl fr)), (af, .inl (cA, 14, .inl ff)), (ap, .inl (cA, 2 * tw_P k, .inl fp)), (ah, .inl (cA, 2 * tw_P k, .inl fh)), (ac, .inl (cA, 2 * tw_P k, .inl fn))] s.heap.size = A at hD ⊢
  have hA : ∀ q : Nat, s.heap.size ≤ q → A q := fun q h => by rw [← hAe]; exact Or.inr h
  have hS : va_S A s.heap s.heap [] := va_S.rf
  have hl := lv_entry ([.ref d0, .int (nI j), .int (nI j2)]) (n := 3) (Nat.le_of_ble_eq_true rfl)
  rw [lg_entry_eq]
  generalize (lg_sl ([.ref d0, .int (nI j), .int (nI j2)]) ++ List.replicate (3 - (lg_sl ([.ref d0, .int (nI j), .int (nI j2)])).length) Slot.unset).toArray = ls at hl ⊢
  have hl : lv_has ls 3 [(0, .ref d0), (1, .int (nI j)), (2, .int (nI j2))] := hl
  obtain ⟨hP0, hP2, hD2, hI2, hDP⟩ := tw_kb hk5
  have hK0 := tw_kK k hk5
  have hP8 : tw_P k ≤ 8192 := by omega
  have hN := tw_kN k hk5
  have zk : k ≤ 4 := by omega
  obtain ⟨hfi, hfr, hff⟩ := hok
  refine lv_iload_n hx hb dX1_log_0 rfl (lv_at hl 1 rfl) ?_
  refine va_csv (W.runS (As := [.int (nI j)]) (rest := []) ⟨hx, hb, hml, hown, ht⟩ (c_X1_needRegister l hj) (va_cwS 1 ht (tb_S kl_X1_41 kt_X1_needRegister kn_X1 kc_X1_needRegister) rfl rfl rfl kd_X1_needRegister ⟨Nat.le_of_ble_eq_true rfl, Nat.le_of_ble_eq_true rfl⟩) (st_pre _) rfl rfl hl.1 rfl (lv_room (Nat.le_of_ble_eq_true rfl)) dX1_log_1 ⟨Nat.zero_le _, Nat.zero_le _⟩) (fun _ => ?_)
  refine lv_iload_n hx hb dX1_log_4 rfl (lv_at hl 2 rfl) ?_
  refine va_csv (W.runS (As := [.int (nI j2)]) (rest := []) ⟨hx, hb, hml, hown, ht⟩ (c_X1_needRegister l hj2) (va_cwS 1 ht (tb_S kl_X1_41 kt_X1_needRegister kn_X1 kc_X1_needRegister) rfl rfl rfl kd_X1_needRegister ⟨Nat.le_of_ble_eq_true rfl, Nat.le_of_ble_eq_true rfl⟩) (st_pre _) rfl rfl hl.1 rfl (lv_room (Nat.le_of_ble_eq_true rfl)) dX1_log_5 ⟨Nat.zero_le _, Nat.zero_le _⟩) (fun _ => ?_)
  refine lv_aload_n hx hb dX1_log_8 rfl (lv_at hl 0 rfl) ?_
  refine va_get (D := D) (ci := 1) (v := .ref h0) (C := RX1) (T := TX1) (N := 4) hx hb ht inX1 hown hK hP 0 rfl rfl 3 (by decide) (ht _ kf_X1_33) (fun _ h9 => h9) rfl dX1_log_9 ?_
  refine lv_aload_n hx hb dX1_log_12 rfl (lv_at hl 0 rfl) ?_
  refine va_get (D := D) (ci := 1) (v := .ref dr) (C := RX1) (T := TX1) (N := 4) hx hb ht inX1 hown hK hP 0 rfl rfl 1 (by decide) (ht _ kf_X1_19) (fun _ h9 => h9) rfl dX1_log_13 ?_
  refine lv_iload_n hx hb dX1_log_16 rfl (lv_at hl 1 rfl) ?_
  refine nv_iald (A := fun _ => True) (H0 := s.heap) hx hb hK hP 1 0 rfl rfl hj (by decide) dX1_log_17 ?_
  rw [(hrg _ hj).2]
  refine lv_aload_n hx hb dX1_log_18 rfl (lv_at hl 0 rfl) ?_
  refine va_get (D := D) (ci := 1) (v := .ref dr) (C := RX1) (T := TX1) (N := 4) hx hb ht inX1 hown hK hP 0 rfl rfl 1 (by decide) (ht _ kf_X1_19) (fun _ h9 => h9) rfl dX1_log_19 ?_
  refine lv_iload_n hx hb dX1_log_22 rfl (lv_at hl 2 rfl) ?_
  refine nv_iald (A := fun _ => True) (H0 := s.heap) hx hb hK hP 1 0 rfl rfl hj2 (by decide) dX1_log_23 ?_
  rw [(hrg _ hj2).2]
  have hPc := hP.sub (ws' := [(h0, .inr (0, [.int (nI (tw_P k)), .int (nI (tw_D k)), .int (nI (tw_I k)), .int (nI (tw_N k)), .ref ai, .ref ar, .ref af, .ref ap, .ref ah, .ref ac, .int (nI ((tw_fs k).length)), .int hk])), (ai, .inl (cA, tw_P k, .inl fi)), (ar, .inl (cA, tw_P k, .inl fr)), (af, .inl (cA, 14, .inl ff)), (ap, .inl (cA, 2 * tw_P k, .inl fp)), (ah, .inl (cA, 2 * tw_P k, .inl fh)), (ac, .inl (cA, 2 * tw_P k, .inl fn))]) [2, 3, 4, 5, 6, 7, 8] rfl
  have hDc := hD.sub (ws' := [(h0, .inr (0, [.int (nI (tw_P k)), .int (nI (tw_D k)), .int (nI (tw_I k)), .int (nI (tw_N k)), .ref ai, .ref ar, .ref af, .ref ap, .ref ah, .ref ac, .int (nI ((tw_fs k).length)), .int hk])), (ai, .inl (cA, tw_P k, .inl fi)), (ar, .inl (cA, tw_P k, .inl fr)), (af, .inl (cA, 14, .inl ff)), (ap, .inl (cA, 2 * tw_P k, .inl fp)), (ah, .inl (cA, 2 * tw_P k, .inl fh)), (ac, .inl (cA, 2 * tw_P k, .inl fn))]) [2, 3, 4, 5, 6, 7, 8] (by decide) rfl
  have hFc := va_free (wc := [(h0, .inr (0, [.int (nI (tw_P k)), .int (nI (tw_D k)), .int (nI (tw_I k)), .int (nI (tw_N k)), .ref ai, .ref ar, .ref af, .ref ap, .ref ah, .ref ac, .int (nI ((tw_fs k).length)), .int hk])), (ai, .inl (cA, tw_P k, .inl fi)), (ar, .inl (cA, tw_P k, .inl fr)), (af, .inl (cA, 14, .inl ff)), (ap, .inl (cA, 2 * tw_P k, .inl fp)), (ah, .inl (cA, 2 * tw_P k, .inl fh)), (ac, .inl (cA, 2 * tw_P k, .inl fn))]) hD hS hA [2, 3, 4, 5, 6, 7, 8] rfl
  refine va_calli (va_runV (As := [.int (nI (tw_en (R j))), .int (nI (tw_en (R j2)))]) (rest := []) ⟨hx, hb, hml, hown, ht⟩ (c_X0_stepsTo l D hk5 hfi hfr (hrg j hj).1 (hrg j2 hj2).1 s.heap.size) (cwV 2 ht (tb_V kl_X1_92 ki_X0_stepsTo ks_X0_stepsTo kn_X0 kc_X0_stepsTo) rfl rfl rfl ⟨rfl, kd_X0_stepsTo⟩ ⟨Nat.le_of_ble_eq_true rfl, Nat.le_of_ble_eq_true rfl⟩) (wd_preV _ hPc hK hDc (va_recv (ci := 0) (q0 := 2) hK hP rfl rfl)) rfl rfl hl.1 rfl (lv_room (Nat.le_of_ble_eq_true rfl)) dX1_log_24 ⟨Nat.le_of_ble_eq_true rfl, Nat.le_of_ble_eq_true rfl⟩) hS (fun q _ h => hFc q h) hFc (fun r9 u9 t9 H1 locs ht9 hvm9 hw9 hB9 hz9 hk9 hS => ?_)
  obtain ⟨hP1, hK1, hD1⟩ := hB9
  rw [ht9] at hP1
  obtain ⟨hP, hD⟩ := va_join (wr := [(d0, .inr (1, [.ref dc, .ref dr, .int (nI k), .ref h0])), (dr, .inl (cA, 12, .inl rg))]) (w1 := [(h0, .inr (0, [.int (nI (tw_P k)), .int (nI (tw_D k)), .int (nI (tw_I k)), .int (nI (tw_N k)), .ref ai, .ref ar, .ref af, .ref ap, .ref ah, .ref ac, .int (nI ((tw_fs k).length)), .int hk])), (ai, .inl (cA, tw_P k, .inl fi)), (ar, .inl (cA, tw_P k, .inl fr)), (af, .inl (cA, 14, .inl ff)), (ap, .inl (cA, 2 * tw_P k, .inl u9)), (ah, .inl (cA, 2 * tw_P k, .inl fh)), (ac, .inl (cA, 2 * tw_P k, .inl fn))]) hP hD [2, 3, 4, 5, 6, 7, 8] [0, 1] rfl rfl (by decide) (by decide) hk9 hFc hP1 hD1
  have hP := hP.sub (ws' := [(d0, .inr (1, [.ref dc, .ref dr, .int (nI k), .ref h0])), (dr, .inl (cA, 12, .inl rg)), (h0, .inr (0, [.int (nI (tw_P k)), .int (nI (tw_D k)), .int (nI (tw_I k)), .int (nI (tw_N k)), .ref ai, .ref ar, .ref af, .ref ap, .ref ah, .ref ac, .int (nI ((tw_fs k).length)), .int hk])), (ai, .inl (cA, tw_P k, .inl fi)), (ar, .inl (cA, tw_P k, .inl fr)), (af, .inl (cA, 14, .inl ff)), (ap, .inl (cA, 2 * tw_P k, .inl u9)), (ah, .inl (cA, 2 * tw_P k, .inl fh)), (ac, .inl (cA, 2 * tw_P k, .inl fn))]) [0, 1, 2, 3, 4, 5, 6, 7, 8] rfl
  have hD := hD.sub (ws' := [(d0, .inr (1, [.ref dc, .ref dr, .int (nI k), .ref h0])), (dr, .inl (cA, 12, .inl rg)), (h0, .inr (0, [.int (nI (tw_P k)), .int (nI (tw_D k)), .int (nI (tw_I k)), .int (nI (tw_N k)), .ref ai, .ref ar, .ref af, .ref ap, .ref ah, .ref ac, .int (nI ((tw_fs k).length)), .int hk])), (ai, .inl (cA, tw_P k, .inl fi)), (ar, .inl (cA, tw_P k, .inl fr)), (af, .inl (cA, 14, .inl ff)), (ap, .inl (cA, 2 * tw_P k, .inl u9)), (ah, .inl (cA, 2 * tw_P k, .inl fh)), (ac, .inl (cA, 2 * tw_P k, .inl fn))]) [0, 1, 2, 3, 4, 5, 6, 7, 8] (by decide) rfl
  generalize H1 = H at hP hS hz9 ⊢
  exact W.iret hx hb hr (fun t ht9 hW => ⟨⟨_, u9, rfl, hw9, by rw [ht9]; exact hP, va_K.moved hW.alike hK, hD⟩, hS.F ht9⟩) hS.2.2 dX1_log_27
set_option maxHeartbeats 4000000 in
set_option maxRecDepth 100000 in
theorem c_X1_half (l : Launch) (D : va_G) {k : Nat} (hk5 : k < 5) {d0 dc dr h0 ai ar af ap ah ac : Nat} {cA : ClassId} {hk : Int32} {rg fi fr ff fp fh fn : Nat → Int32} {R : Nat → Nat × Nat} (hok : cv_ok k fi fr ff) (hrg : ∀ j, j < 12 → tw_on (tw_P k) (tw_D k) (R j) ∧ rg j = nI (tw_en (R j))) (hh : cv_hv k hk fh fn) {j j2 : Nat} (hj : j < 12) (hj2 : j2 < 12) (sz : Nat) : Met l yX1_half wX1_half ({ frames := 5, cells := 0, slots := 0, locals := 116 }) (va_Pc [.ref d0, .int (nI j), .int (nI j2)] (wd_pre D [(cA, .int)] [(d0, .inr (1, [.ref dc, .ref dr, .int (nI k), .ref h0])), (dr, .inl (cA, 12, .inl rg)), (h0, .inr (0, [.int (nI (tw_P k)), .int (nI (tw_D k)), .int (nI (tw_I k)), .int (nI (tw_N k)), .ref ai, .ref ar, .ref af, .ref ap, .ref ah, .ref ac, .int (nI ((tw_fs k).length)), .int hk])), (ai, .inl (cA, tw_P k, .inl fi)), (ar, .inl (cA, tw_P k, .inl fr)), (af, .inl (cA, 14, .inl ff)), (ap, .inl (cA, 2 * tw_P k, .inl fp)), (ah, .inl (cA, 2 * tw_P k, .inl fh)), (ac, .inl (cA, 2 * tw_P k, .inl fn))] sz)) (va_Qi (fun (r : Int32) (u : (Nat → Int32) × Int32 × (Nat → Int32) × (Nat → Int32)) => r = nI (tw_hc (tw_P k) (tw_D k) (R j2) 16384) ∧ u.1 = (match tw_hf (tw_P k) (tw_D k) (R j2) 16384 with | none => rg | some p => upd rg j (nI (tw_en p))) ∧ u.2.1 = 1 ∧ hv_ok (tw_P k) (tw_D k) 16384 u.2.2.1 u.2.2.2) (fun (u : (Nat → Int32) × Int32 × (Nat → Int32) × (Nat → Int32)) t => wd_at D [(cA, .int)] (va_A [(d0, .inr (1, [.ref dc, .ref dr, .int (nI k), .ref h0])), (dr, .inl (cA, 12, .inl rg)), (h0, .inr (0, [.int (nI (tw_P k)), .int (nI (tw_D k)), .int (nI (tw_I k)), .int (nI (tw_N k)), .ref ai, .ref ar, .ref af, .ref ap, .ref ah, .ref ac, .int (nI ((tw_fs k).length)), .int hk])), (ai, .inl (cA, tw_P k, .inl fi)), (ar, .inl (cA, tw_P k, .inl fr)), (af, .inl (cA, 14, .inl ff)), (ap, .inl (cA, 2 * tw_P k, .inl fp)), (ah, .inl (cA, 2 * tw_P k, .inl fh)), (ac, .inl (cA, 2 * tw_P k, .inl fn))] sz) [(d0, .inr (1, [.ref dc, .ref dr, .int (nI k), .ref h0])), (dr, .inl (cA, 12, .inl u.1)), (h0, .inr (0, [.int (nI (tw_P k)), .int (nI (tw_D k)), .int (nI (tw_I k)), .int (nI (tw_N k)), .ref ai, .ref ar, .ref af, .ref ap, .ref ah, .ref ac, .int (nI ((tw_fs k).length)), .int u.2.1])), (ai, .inl (cA, tw_P k, .inl fi)), (ar, .inl (cA, tw_P k, .inl fr)), (af, .inl (cA, 14, .inl ff)), (ap, .inl (cA, 2 * tw_P k, .inl fp)), (ah, .inl (cA, 2 * tw_P k, .inl u.2.2.1)), (ac, .inl (cA, 2 * tw_P k, .inl u.2.2.2))] t) (va_A [(d0, .inr (1, [.ref dc, .ref dr, .int (nI k), .ref h0])), (dr, .inl (cA, 12, .inl rg)), (h0, .inr (0, [.int (nI (tw_P k)), .int (nI (tw_D k)), .int (nI (tw_I k)), .int (nI (tw_N k)), .ref ai, .ref ar, .ref af, .ref ap, .ref ah, .ref ac, .int (nI ((tw_fs k).length)), .int hk])), (ai, .inl (cA, tw_P k, .inl fi)), (ar, .inl (cA, tw_P k, .inl fr)), (af, .inl (cA, 14, .inl ff)), (ap, .inl (cA, 2 * tw_P k, .inl fp)), (ah, .inl (cA, 2 * tw_P k, .inl fh)), (ac, .inl (cA, 2 * tw_P k, .inl fn))] sz)) 0 0 (va_A [(d0, .inr (1, [.ref dc, .ref dr, .int (nI k), .ref h0])), (dr, .inl (cA, 12, .inl rg)), (h0, .inr (0, [.int (nI (tw_P k)), .int (nI (tw_D k)), .int (nI (tw_I k)), .int (nI (tw_N k)), .ref ai, .ref ar, .ref af, .ref ap, .ref ah, .ref ac, .int (nI ((tw_fs k).length)), .int hk])), (ai, .inl (cA, tw_P k, .inl fi)), (ar, .inl (cA, tw_P k, .inl fr)), (af, .inl (cA, 14, .inl ff)), (ap, .inl (cA, 2 * tw_P k, .inl fp)), (ah, .inl (cA, 2 * tw_P k, .inl fh)), (ac, .inl (cA, 2 * tw_P k, .inl fn))] sz) := by
  refine Met.ofW (cc := cX1_half) (maxL := 5) (ret := (some .int)) (by decide) rfl ?_
  intro p e s m args below meth c s₁ B hml hv
  obtain ⟨rfl, hsz, hP, hK, hD0⟩ := hv
  have hx := B.exec
  have hb := B.bytes
  have hr := B.returns
  have hts := atoms_spec (ws := wX1_half) B.pre
  have ht : ∀ w ∈ tb_all, w.before _ s = true := fun w h => hts w (List.mem_cons_of_mem _ h)
  have hown : s.vm.findClass RX1 = some m.cls := findClass_of_methodNamed B.named
  have hlocks := B.notSynchronized
  have hin : meth.name = "half" := (name_of_methodNamed B.named B.method).1
  subst hsz
  have hD := hD0.self (sz := s.heap.size)
  generalize hAe : va_A [(d0, .inr (1, [.ref dc, .ref dr, .int (nI k), .ref h0])), (dr, .inl (cA, 12, .inl rg)), (h0, .inr (0, [.int (nI (tw_P k)), .int (nI (tw_D k)), .int (nI (tw_I k)), .int (nI (tw_N k)), .ref ai, .ref ar, .ref af, .ref ap, .ref ah, .ref ac, .int (nI ((tw_fs k).length)), .int hk])), (ai, .inl (cA, tw_P k, .inl fi)), (ar, .inl (cA, tw_P k, .inl fr)), (af, .inl (cA, 14, .inl ff)), (ap, .inl (cA, 2 * tw_P k, .inl fp)), (ah, .inl (cA, 2 * tw_P k, .inl fh)), (ac, .inl (cA, 2 * tw_P k, .inl fn))] s.heap.size = A at hD ⊢
  have hA : ∀ q : Nat, s.heap.size ≤ q → A q := fun q h => by rw [← hAe]; exact Or.inr h
  have hS : va_S A s.heap s.heap [] := va_S.rf
  have hl := lv_entry ([.ref d0, .int (nI j), .int (nI j2)]) (n := 5) (Nat.le_of_ble_eq_true rfl)
  rw [lg_entry_eq]
  generalize (lg_sl ([.ref d0, .int (nI j), .int (nI j2)]) ++ List.replicate (5 - (lg_sl ([.ref d0, .int (nI j), .int (nI j2)])).length) Slot.unset).toArray = ls at hl ⊢
  have hl : lv_has ls 5 [(0, .ref d0), (1, .int (nI j)), (2, .int (nI j2))] := hl
  obtain ⟨hP0, hP2, hD2, hI2, hDP⟩ := tw_kb hk5
  have hK0 := tw_kK k hk5
  have hP8 : tw_P k ≤ 8192 := by omega
  have hN := tw_kN k hk5
  have zk : k ≤ 4 := by omega
  obtain ⟨hfi, hfr, hff⟩ := hok
  have o2 := (hrg j2 hj2).1
  have zc := tw_hc_le (tw_P k) (tw_D k) (R j2) 16384
  have hcf := tw_hcf (tw_P k) (tw_D k) (R j2) 16384
  refine lv_iload_n hx hb dX1_half_0 rfl (lv_at hl 1 rfl) ?_
  refine va_csv (W.runS (As := [.int (nI j)]) (rest := []) ⟨hx, hb, hml, hown, ht⟩ (c_X1_needRegister l hj) (va_cwS 1 ht (tb_S kl_X1_41 kt_X1_needRegister kn_X1 kc_X1_needRegister) rfl rfl rfl kd_X1_needRegister ⟨Nat.le_of_ble_eq_true rfl, Nat.le_of_ble_eq_true rfl⟩) (st_pre _) rfl rfl hl.1 rfl (lv_room (Nat.le_of_ble_eq_true rfl)) dX1_half_1 ⟨Nat.zero_le _, Nat.zero_le _⟩) (fun _ => ?_)
  refine lv_iload_n hx hb dX1_half_4 rfl (lv_at hl 2 rfl) ?_
  refine va_csv (W.runS (As := [.int (nI j2)]) (rest := []) ⟨hx, hb, hml, hown, ht⟩ (c_X1_needRegister l hj2) (va_cwS 1 ht (tb_S kl_X1_41 kt_X1_needRegister kn_X1 kc_X1_needRegister) rfl rfl rfl kd_X1_needRegister ⟨Nat.le_of_ble_eq_true rfl, Nat.le_of_ble_eq_true rfl⟩) (st_pre _) rfl rfl hl.1 rfl (lv_room (Nat.le_of_ble_eq_true rfl)) dX1_half_5 ⟨Nat.zero_le _, Nat.zero_le _⟩) (fun _ => ?_)
  refine lv_aload_n hx hb dX1_half_8 rfl (lv_at hl 0 rfl) ?_
  refine va_get (D := D) (ci := 1) (v := .ref dr) (C := RX1) (T := TX1) (N := 4) hx hb ht inX1 hown hK hP 0 rfl rfl 1 (by decide) (ht _ kf_X1_19) (fun _ h9 => h9) rfl dX1_half_9 ?_
  refine lv_iload_n hx hb dX1_half_12 rfl (lv_at hl 2 rfl) ?_
  refine nv_iald (A := fun _ => True) (H0 := s.heap) hx hb hK hP 1 0 rfl rfl hj2 (by decide) dX1_half_13 ?_
  rw [(hrg _ hj2).2]
  refine lv_istore_n hx hb dX1_half_14 rfl hl (by decide) rfl (fun ls hl => ?_)
  have hl : lv_has ls 5 [(3, .int (nI (tw_en (R j2)))), (0, .ref d0), (1, .int (nI j)), (2, .int (nI j2))] := hl
  refine lv_aload_n hx hb dX1_half_15 rfl (lv_at hl 1 rfl) ?_
  refine va_get (D := D) (ci := 1) (v := .ref h0) (C := RX1) (T := TX1) (N := 4) hx hb ht inX1 hown hK hP 0 rfl rfl 3 (by decide) (ht _ kf_X1_33) (fun _ h9 => h9) rfl dX1_half_16 ?_
  refine lv_iload_n hx hb dX1_half_19 rfl (lv_at hl 0 rfl) ?_
  have hPc := hP.sub (ws' := [(h0, .inr (0, [.int (nI (tw_P k)), .int (nI (tw_D k)), .int (nI (tw_I k)), .int (nI (tw_N k)), .ref ai, .ref ar, .ref af, .ref ap, .ref ah, .ref ac, .int (nI ((tw_fs k).length)), .int hk])), (ai, .inl (cA, tw_P k, .inl fi)), (ar, .inl (cA, tw_P k, .inl fr)), (af, .inl (cA, 14, .inl ff)), (ap, .inl (cA, 2 * tw_P k, .inl fp)), (ah, .inl (cA, 2 * tw_P k, .inl fh)), (ac, .inl (cA, 2 * tw_P k, .inl fn))]) [2, 3, 4, 5, 6, 7, 8] rfl
  have hDc := hD.sub (ws' := [(h0, .inr (0, [.int (nI (tw_P k)), .int (nI (tw_D k)), .int (nI (tw_I k)), .int (nI (tw_N k)), .ref ai, .ref ar, .ref af, .ref ap, .ref ah, .ref ac, .int (nI ((tw_fs k).length)), .int hk])), (ai, .inl (cA, tw_P k, .inl fi)), (ar, .inl (cA, tw_P k, .inl fr)), (af, .inl (cA, 14, .inl ff)), (ap, .inl (cA, 2 * tw_P k, .inl fp)), (ah, .inl (cA, 2 * tw_P k, .inl fh)), (ac, .inl (cA, 2 * tw_P k, .inl fn))]) [2, 3, 4, 5, 6, 7, 8] (by decide) rfl
  have hFc := va_free (wc := [(h0, .inr (0, [.int (nI (tw_P k)), .int (nI (tw_D k)), .int (nI (tw_I k)), .int (nI (tw_N k)), .ref ai, .ref ar, .ref af, .ref ap, .ref ah, .ref ac, .int (nI ((tw_fs k).length)), .int hk])), (ai, .inl (cA, tw_P k, .inl fi)), (ar, .inl (cA, tw_P k, .inl fr)), (af, .inl (cA, 14, .inl ff)), (ap, .inl (cA, 2 * tw_P k, .inl fp)), (ah, .inl (cA, 2 * tw_P k, .inl fh)), (ac, .inl (cA, 2 * tw_P k, .inl fn))]) hD hS hA [2, 3, 4, 5, 6, 7, 8] rfl
  refine va_calli (va_runV (As := [.int (nI (tw_en (R j2)))]) (rest := []) ⟨hx, hb, hml, hown, ht⟩ (c_X0_howManyHalves l D hk5 hfi hfr hh o2 s.heap.size) (cwV 1 ht (tb_V kl_X1_95 ki_X0_howManyHalves ks_X0_howManyHalves kn_X0 kc_X0_howManyHalves) rfl rfl rfl ⟨rfl, kd_X0_howManyHalves⟩ ⟨Nat.le_of_ble_eq_true rfl, Nat.le_of_ble_eq_true rfl⟩) (wd_preV _ hPc hK hDc (va_recv (ci := 0) (q0 := 2) hK hP rfl rfl)) rfl rfl hl.1 rfl (lv_room (Nat.le_of_ble_eq_true rfl)) dX1_half_20 ⟨Nat.le_of_ble_eq_true rfl, Nat.le_of_ble_eq_true rfl⟩) hS (fun q _ h => hFc q h) hFc (fun r9 u9 t9 H1 locs ht9 hvm9 hw9 hB9 hz9 hk9 hS => ?_)
  obtain ⟨hP1, hK1, hD1⟩ := hB9
  rw [ht9] at hP1
  obtain ⟨hP, hD⟩ := va_join (wr := [(d0, .inr (1, [.ref dc, .ref dr, .int (nI k), .ref h0])), (dr, .inl (cA, 12, .inl rg))]) (w1 := [(h0, .inr (0, [.int (nI (tw_P k)), .int (nI (tw_D k)), .int (nI (tw_I k)), .int (nI (tw_N k)), .ref ai, .ref ar, .ref af, .ref ap, .ref ah, .ref ac, .int (nI ((tw_fs k).length)), .int u9.1])), (ai, .inl (cA, tw_P k, .inl fi)), (ar, .inl (cA, tw_P k, .inl fr)), (af, .inl (cA, 14, .inl ff)), (ap, .inl (cA, 2 * tw_P k, .inl fp)), (ah, .inl (cA, 2 * tw_P k, .inl u9.2.1)), (ac, .inl (cA, 2 * tw_P k, .inl u9.2.2))]) hP hD [2, 3, 4, 5, 6, 7, 8] [0, 1] rfl rfl (by decide) (by decide) hk9 hFc hP1 hD1
  have hP := hP.sub (ws' := [(d0, .inr (1, [.ref dc, .ref dr, .int (nI k), .ref h0])), (dr, .inl (cA, 12, .inl rg)), (h0, .inr (0, [.int (nI (tw_P k)), .int (nI (tw_D k)), .int (nI (tw_I k)), .int (nI (tw_N k)), .ref ai, .ref ar, .ref af, .ref ap, .ref ah, .ref ac, .int (nI ((tw_fs k).length)), .int u9.1])), (ai, .inl (cA, tw_P k, .inl fi)), (ar, .inl (cA, tw_P k, .inl fr)), (af, .inl (cA, 14, .inl ff)), (ap, .inl (cA, 2 * tw_P k, .inl fp)), (ah, .inl (cA, 2 * tw_P k, .inl u9.2.1)), (ac, .inl (cA, 2 * tw_P k, .inl u9.2.2))]) [0, 1, 2, 3, 4, 5, 6, 7, 8] rfl
  have hD := hD.sub (ws' := [(d0, .inr (1, [.ref dc, .ref dr, .int (nI k), .ref h0])), (dr, .inl (cA, 12, .inl rg)), (h0, .inr (0, [.int (nI (tw_P k)), .int (nI (tw_D k)), .int (nI (tw_I k)), .int (nI (tw_N k)), .ref ai, .ref ar, .ref af, .ref ap, .ref ah, .ref ac, .int (nI ((tw_fs k).length)), .int u9.1])), (ai, .inl (cA, tw_P k, .inl fi)), (ar, .inl (cA, tw_P k, .inl fr)), (af, .inl (cA, 14, .inl ff)), (ap, .inl (cA, 2 * tw_P k, .inl fp)), (ah, .inl (cA, 2 * tw_P k, .inl u9.2.1)), (ac, .inl (cA, 2 * tw_P k, .inl u9.2.2))]) [0, 1, 2, 3, 4, 5, 6, 7, 8] (by decide) rfl
  generalize H1 = H at hP hS hz9 ⊢
  obtain ⟨hr9, hu9⟩ := hw9
  subst hr9
  refine lv_istore hx hb dX1_half_23 hl (by decide) rfl (fun ls hl => ?_)
  have hl : lv_has ls 5 [(4, .int (nI (tw_hc (tw_P k) (tw_D k) (R j2) 16384))), (3, .int (nI (tw_en (R j2)))), (0, .ref d0), (1, .int (nI j)), (2, .int (nI j2))] := hl
  refine lv_iload hx hb dX1_half_25 (lv_at hl 0 rfl) ?_
  refine nv_if_le (tgt := 44) hx hb dX1_half_27 (by decide) (nv_le (b := 16384) zc (by decide)) (fun c27 => ?_) (fun c27 => ?_)
  · have e5 := hcf.mpr c27
    refine lv_iload hx hb dX1_half_44 (lv_at hl 0 rfl) ?_
    exact W.iret hx hb hr (fun t ht9 hW => ⟨⟨_, (rg, u9), rfl, ⟨rfl, by rw [e5], hu9⟩, by rw [ht9]; exact hP, va_K.moved hW.alike hK, hD⟩, hS.F ht9⟩) hS.2.2 dX1_half_46
  · have e5 : ∃ p, tw_hf (tw_P k) (tw_D k) (R j2) 16384 = some p := by
      cases e6 : tw_hf (tw_P k) (tw_D k) (R j2) 16384 with
      | none => have := hcf.mp e6; omega
      | some p => exact ⟨p, rfl⟩
    obtain ⟨p8, e5⟩ := e5
    refine lv_aload_n hx hb dX1_half_30 rfl (lv_at hl 2 rfl) ?_
    refine va_get (D := D) (ci := 1) (v := .ref dr) (C := RX1) (T := TX1) (N := 4) hx hb ht inX1 hown hK hP 0 rfl rfl 1 (by decide) (ht _ kf_X1_19) (fun _ h9 => h9) rfl dX1_half_31 ?_
    refine lv_iload_n hx hb dX1_half_34 rfl (lv_at hl 3 rfl) ?_
    refine lv_aload_n hx hb dX1_half_35 rfl (lv_at hl 2 rfl) ?_
    refine va_get (D := D) (ci := 1) (v := .ref h0) (C := RX1) (T := TX1) (N := 4) hx hb ht inX1 hown hK hP 0 rfl rfl 3 (by decide) (ht _ kf_X1_33) (fun _ h9 => h9) rfl dX1_half_36 ?_
    refine lv_iload_n hx hb dX1_half_39 rfl (lv_at hl 1 rfl) ?_
    have hPc := hP.sub (ws' := [(h0, .inr (0, [.int (nI (tw_P k)), .int (nI (tw_D k)), .int (nI (tw_I k)), .int (nI (tw_N k)), .ref ai, .ref ar, .ref af, .ref ap, .ref ah, .ref ac, .int (nI ((tw_fs k).length)), .int u9.1])), (ai, .inl (cA, tw_P k, .inl fi)), (ar, .inl (cA, tw_P k, .inl fr)), (af, .inl (cA, 14, .inl ff)), (ap, .inl (cA, 2 * tw_P k, .inl fp)), (ah, .inl (cA, 2 * tw_P k, .inl u9.2.1)), (ac, .inl (cA, 2 * tw_P k, .inl u9.2.2))]) [2, 3, 4, 5, 6, 7, 8] rfl
    have hDc := hD.sub (ws' := [(h0, .inr (0, [.int (nI (tw_P k)), .int (nI (tw_D k)), .int (nI (tw_I k)), .int (nI (tw_N k)), .ref ai, .ref ar, .ref af, .ref ap, .ref ah, .ref ac, .int (nI ((tw_fs k).length)), .int u9.1])), (ai, .inl (cA, tw_P k, .inl fi)), (ar, .inl (cA, tw_P k, .inl fr)), (af, .inl (cA, 14, .inl ff)), (ap, .inl (cA, 2 * tw_P k, .inl fp)), (ah, .inl (cA, 2 * tw_P k, .inl u9.2.1)), (ac, .inl (cA, 2 * tw_P k, .inl u9.2.2))]) [2, 3, 4, 5, 6, 7, 8] (by decide) rfl
    have hFc := va_free (wc := [(h0, .inr (0, [.int (nI (tw_P k)), .int (nI (tw_D k)), .int (nI (tw_I k)), .int (nI (tw_N k)), .ref ai, .ref ar, .ref af, .ref ap, .ref ah, .ref ac, .int (nI ((tw_fs k).length)), .int u9.1])), (ai, .inl (cA, tw_P k, .inl fi)), (ar, .inl (cA, tw_P k, .inl fr)), (af, .inl (cA, 14, .inl ff)), (ap, .inl (cA, 2 * tw_P k, .inl fp)), (ah, .inl (cA, 2 * tw_P k, .inl u9.2.1)), (ac, .inl (cA, 2 * tw_P k, .inl u9.2.2))]) hD hS hA [2, 3, 4, 5, 6, 7, 8] rfl
    refine va_calli (va_runV (As := [.int (nI (tw_en (R j2)))]) (rest := [.int (nI j), .ref dr]) ⟨hx, hb, hml, hown, ht⟩ (c_X0_leastHalf l D hk5 hfi hfr (hh := Or.inr hu9) o2 e5 H.size) (cwV 1 ht (tb_V kl_X1_98 ki_X0_leastHalf ks_X0_leastHalf kn_X0 kc_X0_leastHalf) rfl rfl rfl ⟨rfl, kd_X0_leastHalf⟩ ⟨Nat.le_of_ble_eq_true rfl, Nat.le_of_ble_eq_true rfl⟩) (wd_preV _ hPc hK hDc (va_recv (ci := 0) (q0 := 2) hK hP rfl rfl)) rfl rfl hl.1 rfl (lv_room (Nat.le_of_ble_eq_true rfl)) dX1_half_40 ⟨Nat.le_of_ble_eq_true rfl, Nat.le_of_ble_eq_true rfl⟩) hS (fun q _ h => hFc q h) hFc (fun r9 v9 t9 H1 locs ht9 hvm9 hw9 hB9 hz9 hk9 hS => ?_)
    obtain ⟨hP1, hK1, hD1⟩ := hB9
    rw [ht9] at hP1
    obtain ⟨hP, hD⟩ := va_join (wr := [(d0, .inr (1, [.ref dc, .ref dr, .int (nI k), .ref h0])), (dr, .inl (cA, 12, .inl rg))]) (w1 := [(h0, .inr (0, [.int (nI (tw_P k)), .int (nI (tw_D k)), .int (nI (tw_I k)), .int (nI (tw_N k)), .ref ai, .ref ar, .ref af, .ref ap, .ref ah, .ref ac, .int (nI ((tw_fs k).length)), .int v9.1])), (ai, .inl (cA, tw_P k, .inl fi)), (ar, .inl (cA, tw_P k, .inl fr)), (af, .inl (cA, 14, .inl ff)), (ap, .inl (cA, 2 * tw_P k, .inl fp)), (ah, .inl (cA, 2 * tw_P k, .inl v9.2.1)), (ac, .inl (cA, 2 * tw_P k, .inl v9.2.2))]) hP hD [2, 3, 4, 5, 6, 7, 8] [0, 1] rfl rfl (by decide) (by decide) hk9 hFc hP1 hD1
    have hP := hP.sub (ws' := [(d0, .inr (1, [.ref dc, .ref dr, .int (nI k), .ref h0])), (dr, .inl (cA, 12, .inl rg)), (h0, .inr (0, [.int (nI (tw_P k)), .int (nI (tw_D k)), .int (nI (tw_I k)), .int (nI (tw_N k)), .ref ai, .ref ar, .ref af, .ref ap, .ref ah, .ref ac, .int (nI ((tw_fs k).length)), .int v9.1])), (ai, .inl (cA, tw_P k, .inl fi)), (ar, .inl (cA, tw_P k, .inl fr)), (af, .inl (cA, 14, .inl ff)), (ap, .inl (cA, 2 * tw_P k, .inl fp)), (ah, .inl (cA, 2 * tw_P k, .inl v9.2.1)), (ac, .inl (cA, 2 * tw_P k, .inl v9.2.2))]) [0, 1, 2, 3, 4, 5, 6, 7, 8] rfl
    have hD := hD.sub (ws' := [(d0, .inr (1, [.ref dc, .ref dr, .int (nI k), .ref h0])), (dr, .inl (cA, 12, .inl rg)), (h0, .inr (0, [.int (nI (tw_P k)), .int (nI (tw_D k)), .int (nI (tw_I k)), .int (nI (tw_N k)), .ref ai, .ref ar, .ref af, .ref ap, .ref ah, .ref ac, .int (nI ((tw_fs k).length)), .int v9.1])), (ai, .inl (cA, tw_P k, .inl fi)), (ar, .inl (cA, tw_P k, .inl fr)), (af, .inl (cA, 14, .inl ff)), (ap, .inl (cA, 2 * tw_P k, .inl fp)), (ah, .inl (cA, 2 * tw_P k, .inl v9.2.1)), (ac, .inl (cA, 2 * tw_P k, .inl v9.2.2))]) [0, 1, 2, 3, 4, 5, 6, 7, 8] (by decide) rfl
    generalize H1 = H at hP hS hz9 ⊢
    obtain ⟨hr9, hv9⟩ := hw9
    subst hr9
    refine nv_iast hx hb hK hP hD hS 1 0 rfl rfl hj (by decide) dX1_half_43 (fun H locs hP hD hS => ?_)
    have hP : va_P D vwCl [(d0, .inr (1, [.ref dc, .ref dr, .int (nI k), .ref h0])), (dr, .inl (cA, 12, .inl (upd rg j (nI (tw_en p8))))), (h0, .inr (0, [.int (nI (tw_P k)), .int (nI (tw_D k)), .int (nI (tw_I k)), .int (nI (tw_N k)), .ref ai, .ref ar, .ref af, .ref ap, .ref ah, .ref ac, .int (nI ((tw_fs k).length)), .int v9.1])), (ai, .inl (cA, tw_P k, .inl fi)), (ar, .inl (cA, tw_P k, .inl fr)), (af, .inl (cA, 14, .inl ff)), (ap, .inl (cA, 2 * tw_P k, .inl fp)), (ah, .inl (cA, 2 * tw_P k, .inl v9.2.1)), (ac, .inl (cA, 2 * tw_P k, .inl v9.2.2))] H := hP
    have hD : va_D A [(d0, .inr (1, [.ref dc, .ref dr, .int (nI k), .ref h0])), (dr, .inl (cA, 12, .inl (upd rg j (nI (tw_en p8))))), (h0, .inr (0, [.int (nI (tw_P k)), .int (nI (tw_D k)), .int (nI (tw_I k)), .int (nI (tw_N k)), .ref ai, .ref ar, .ref af, .ref ap, .ref ah, .ref ac, .int (nI ((tw_fs k).length)), .int v9.1])), (ai, .inl (cA, tw_P k, .inl fi)), (ar, .inl (cA, tw_P k, .inl fr)), (af, .inl (cA, 14, .inl ff)), (ap, .inl (cA, 2 * tw_P k, .inl fp)), (ah, .inl (cA, 2 * tw_P k, .inl v9.2.1)), (ac, .inl (cA, 2 * tw_P k, .inl v9.2.2))] := hD
    refine lv_iload hx hb dX1_half_44 (lv_at hl 0 rfl) ?_
    exact W.iret hx hb hr (fun t ht9 hW => ⟨⟨_, ((upd rg j (nI (tw_en p8))), v9), rfl, ⟨rfl, by rw [e5], hv9⟩, by rw [ht9]; exact hP, va_K.moved hW.alike hK, hD⟩, hS.F ht9⟩) hS.2.2 dX1_half_46
