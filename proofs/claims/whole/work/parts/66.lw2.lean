/-! the wrappers of the law: calls that are refused; begin -/
def nx_R (d0 : Nat) (U : State) : Prop := ∃ cell : Cell, U.heap[d0]? = some cell ∧ cell.vm.isStatics = false ∧ U.vm.findClass RX1 = some cell.cls
def dk_opo (D : va_G) (k d0 dc dr ou : Nat) (cA cQ cL : ClassId) (F : Nat → Option Nat) (A : Nat → Prop) (u : (Nat → Int32) × (Nat → Int64)) (t : State) : Prop := ∃ (h0 ai ar af ap ah ac : Nat) (fi fr ff : Nat → Int32), wd_at D [(cA, .int), (cQ, .object RX0), (cL, .long)] A [(d0, .inr (1, [.ref dc, .ref dr, .int (nI k), .ref h0])), (dc, .inl (cQ, 5, .inr (.inr (.inr (.inr (va_up F k (some h0))))))), (dr, .inl (cA, 12, .inl u.1)), (h0, .inr (0, [.int (nI (tw_P k)), .int (nI (tw_D k)), .int (nI (tw_I k)), .int (nI (tw_N k)), .ref ai, .ref ar, .ref af, .ref ap, .ref ah, .ref ac, .int (nI ((tw_fs k).length)), .int 0])), (ai, .inl (cA, tw_P k, .inl fi)), (ar, .inl (cA, tw_P k, .inl fr)), (af, .inl (cA, 14, .inl ff)), (ap, .inl (cA, 2 * tw_P k, .inl (fun _ => 0))), (ah, .inl (cA, 2 * tw_P k, .inl (fun _ => 0))), (ac, .inl (cA, 2 * tw_P k, .inl (fun _ => 0))), (ou, .inl (cL, 1, .inr (.inl u.2)))] t ∧ cv_ok k fi fr ff
set_option maxHeartbeats 4000000 in
set_option maxRecDepth 100000 in
theorem c_L_packedR (l : Launch) (gs : Nat → Nat) {d0 : Nat} {z1 : Int32} (hz : md_bad z1) {ou : Nat} : Met l yL_packed wL_packed ({ frames := 8, cells := 1, slots := 6, locals := 131 }) (va_Pc [.ref d0, .int z1, .ref ou] (fun U => nx_K l gs (fun _ => False) U U.heap ∧ nx_R d0 U)) (va_Qi (S := Unit) (fun r _ => r = nI 1) (fun _ _ => True) (fun _ => False)) 1 6 (fun _ => False) := by
  refine va_MetW (cc := cL_packed) (maxL := 4) (ret := (some .int)) (hh := [(0, 9, 12, 19)]) (by decide) rfl ?_
  intro p e s m args below meth c s₁ B hml hv
  obtain ⟨rfl, hZ, hR⟩ := hv
  have hx := B.exec
  have hb := B.bytes
  have hr := B.returns
  have hts := atoms_spec (ws := wL_packed) B.pre
  have ht : ∀ w ∈ tb_all, w.before _ s = true := fun w h => hts w (List.mem_cons_of_mem _ h)
  have hex := vx_table (x := yL_packed) B (ht _ kc_L_packed)
  have hown : s.vm.findClass RL = some m.cls := findClass_of_methodNamed B.named
  have hlocks := B.notSynchronized
  have hS : va_S (fun _ => False) s.heap s.heap [] := va_S.rf
  have hl := lv_entry ([.ref d0, .int z1, .ref ou]) (n := 4) (Nat.le_of_ble_eq_true rfl)
  rw [lg_entry_eq]
  generalize (lg_sl ([.ref d0, .int z1, .ref ou]) ++ List.replicate (4 - (lg_sl ([.ref d0, .int z1, .ref ou])).length) Slot.unset).toArray = ls at hl ⊢
  have hl : lv_has ls 4 [(0, .ref d0), (1, .int z1), (2, .ref ou)] := hl
  refine lv_aload_n hx hb dL_packed_0 rfl (lv_at hl 2 rfl) ?_
  refine lv_iconst (v := (nI 0)) hx hb dL_packed_1 (by decide) ?_
  refine lv_aload_n hx hb dL_packed_2 rfl (lv_at hl 0 rfl) ?_
  refine lv_iload_n hx hb dL_packed_3 rfl (lv_at hl 1 rfl) ?_
  refine vx_calli (vx_runV (As := [.int z1]) (rest := [.int (nI 0), .ref ou]) ⟨hx, hb, hml, hown, ht⟩ (c_X1_packedR l gs hz) (cwV 1 ht (tb_V kl_L_25 ki_X1_packed ks_X1_packed kn_X1 kc_X1_packed) rfl rfl rfl ⟨rfl, kd_X1_packed⟩ ⟨Nat.le_of_ble_eq_true rfl, Nat.le_of_ble_eq_true rfl⟩) (nx_preV _ hZ hS hR) rfl rfl hl.1 rfl (lv_room (Nat.le_of_ble_eq_true rfl)) dL_packed_4 ⟨Nat.le_of_ble_eq_true rfl, Nat.le_of_ble_eq_true rfl⟩) hS (fun _ _ h => h) (fun _ h => h) (fun _ _ h => h) (fun E ce q9 u9 t9 H1 locs1 ht9 hvm9 _ hE hz9 hk9 hS hce hcv hcl => ?_) (fun _ _ _ _ _ _ _ hu => hu.elim)
  subst hE
  refine vx_catch (name := nS) hown [] ⟨0, 9, 12, 19⟩ [] hex (fun _ h9 => nomatch h9) (by decide) (by decide) (ht _ kk_L_19) (va_Nw.use rfl hZ.2.2.2.1.2.1.1) hce hcv hcl ?_
  refine lv_astore_n hx hb dL_packed_12 rfl hl (by decide) rfl (fun ls hl => ?_)
  have hl : lv_has ls 4 [(3, .ref q9), (0, .ref d0), (1, .int z1), (2, .ref ou)] := hl
  refine lv_iconst (v := (nI 1)) hx hb dL_packed_13 (by decide) ?_
  exact W.iret hx hb hr (fun t ht9 hW => ⟨⟨_, (), rfl, rfl, trivial⟩, hS.F ht9⟩) hS.2.2 dL_packed_14
set_option maxHeartbeats 4000000 in
set_option maxRecDepth 100000 in
theorem c_L_getR (l : Launch) (gs : Nat → Nat) {d0 : Nat} {z1 y1 : Int32} (hz : md_bad z1) {ou : Nat} : Met l yL_get wL_get ({ frames := 8, cells := 1, slots := 6, locals := 132 }) (va_Pc [.ref d0, .int z1, .int y1, .ref ou] (fun U => nx_K l gs (fun _ => False) U U.heap ∧ nx_R d0 U)) (va_Qi (S := Unit) (fun r _ => r = nI 1) (fun _ _ => True) (fun _ => False)) 1 6 (fun _ => False) := by
  refine va_MetW (cc := cL_get) (maxL := 5) (ret := (some .int)) (hh := [(0, 10, 13, 19)]) (by decide) rfl ?_
  intro p e s m args below meth c s₁ B hml hv
  obtain ⟨rfl, hZ, hR⟩ := hv
  have hx := B.exec
  have hb := B.bytes
  have hr := B.returns
  have hts := atoms_spec (ws := wL_get) B.pre
  have ht : ∀ w ∈ tb_all, w.before _ s = true := fun w h => hts w (List.mem_cons_of_mem _ h)
  have hex := vx_table (x := yL_get) B (ht _ kc_L_get)
  have hown : s.vm.findClass RL = some m.cls := findClass_of_methodNamed B.named
  have hlocks := B.notSynchronized
  have hS : va_S (fun _ => False) s.heap s.heap [] := va_S.rf
  have hl := lv_entry ([.ref d0, .int z1, .int y1, .ref ou]) (n := 5) (Nat.le_of_ble_eq_true rfl)
  rw [lg_entry_eq]
  generalize (lg_sl ([.ref d0, .int z1, .int y1, .ref ou]) ++ List.replicate (5 - (lg_sl ([.ref d0, .int z1, .int y1, .ref ou])).length) Slot.unset).toArray = ls at hl ⊢
  have hl : lv_has ls 5 [(0, .ref d0), (1, .int z1), (2, .int y1), (3, .ref ou)] := hl
  refine lv_aload_n hx hb dL_get_0 rfl (lv_at hl 3 rfl) ?_
  refine lv_iconst (v := (nI 0)) hx hb dL_get_1 (by decide) ?_
  refine lv_aload_n hx hb dL_get_2 rfl (lv_at hl 0 rfl) ?_
  refine lv_iload_n hx hb dL_get_3 rfl (lv_at hl 1 rfl) ?_
  refine lv_iload_n hx hb dL_get_4 rfl (lv_at hl 2 rfl) ?_
  refine vx_calli (vx_runV (As := [.int z1, .int y1]) (rest := [.int (nI 0), .ref ou]) ⟨hx, hb, hml, hown, ht⟩ (c_X1_getR l gs hz) (cwV 2 ht (tb_V kl_L_28 ki_X1_get ks_X1_get kn_X1 kc_X1_get) rfl rfl rfl ⟨rfl, kd_X1_get⟩ ⟨Nat.le_of_ble_eq_true rfl, Nat.le_of_ble_eq_true rfl⟩) (nx_preV _ hZ hS hR) rfl rfl hl.1 rfl (lv_room (Nat.le_of_ble_eq_true rfl)) dL_get_5 ⟨Nat.le_of_ble_eq_true rfl, Nat.le_of_ble_eq_true rfl⟩) hS (fun _ _ h => h) (fun _ h => h) (fun _ _ h => h) (fun E ce q9 u9 t9 H1 locs1 ht9 hvm9 _ hE hz9 hk9 hS hce hcv hcl => ?_) (fun _ _ _ _ _ _ _ hu => hu.elim)
  subst hE
  refine vx_catch (name := nS) hown [] ⟨0, 10, 13, 19⟩ [] hex (fun _ h9 => nomatch h9) (by decide) (by decide) (ht _ kk_L_19) (va_Nw.use rfl hZ.2.2.2.1.2.1.1) hce hcv hcl ?_
  refine lv_astore hx hb dL_get_13 hl (by decide) rfl (fun ls hl => ?_)
  have hl : lv_has ls 5 [(4, .ref q9), (0, .ref d0), (1, .int z1), (2, .int y1), (3, .ref ou)] := hl
  refine lv_iconst (v := (nI 1)) hx hb dL_get_15 (by decide) ?_
  exact W.iret hx hb hr (fun t ht9 hW => ⟨⟨_, (), rfl, rfl, trivial⟩, hS.F ht9⟩) hS.2.2 dL_get_16
set_option maxHeartbeats 4000000 in
set_option maxRecDepth 100000 in
theorem c_L_orderR (l : Launch) (gs : Nat → Nat) {d0 : Nat} {z1 : Int32} (hz : md_bad z1) {ou : Nat} : Met l yL_order wL_order ({ frames := 8, cells := 1, slots := 6, locals := 131 }) (va_Pc [.ref d0, .int z1, .ref ou] (fun U => nx_K l gs (fun _ => False) U U.heap ∧ nx_R d0 U)) (va_Qi (S := Unit) (fun r _ => r = nI 1) (fun _ _ => True) (fun _ => False)) 1 6 (fun _ => False) := by
  refine va_MetW (cc := cL_order) (maxL := 4) (ret := (some .int)) (hh := [(0, 9, 12, 19)]) (by decide) rfl ?_
  intro p e s m args below meth c s₁ B hml hv
  obtain ⟨rfl, hZ, hR⟩ := hv
  have hx := B.exec
  have hb := B.bytes
  have hr := B.returns
  have hts := atoms_spec (ws := wL_order) B.pre
  have ht : ∀ w ∈ tb_all, w.before _ s = true := fun w h => hts w (List.mem_cons_of_mem _ h)
  have hex := vx_table (x := yL_order) B (ht _ kc_L_order)
  have hown : s.vm.findClass RL = some m.cls := findClass_of_methodNamed B.named
  have hlocks := B.notSynchronized
  have hS : va_S (fun _ => False) s.heap s.heap [] := va_S.rf
  have hl := lv_entry ([.ref d0, .int z1, .ref ou]) (n := 4) (Nat.le_of_ble_eq_true rfl)
  rw [lg_entry_eq]
  generalize (lg_sl ([.ref d0, .int z1, .ref ou]) ++ List.replicate (4 - (lg_sl ([.ref d0, .int z1, .ref ou])).length) Slot.unset).toArray = ls at hl ⊢
  have hl : lv_has ls 4 [(0, .ref d0), (1, .int z1), (2, .ref ou)] := hl
  refine lv_aload_n hx hb dL_order_0 rfl (lv_at hl 2 rfl) ?_
  refine lv_iconst (v := (nI 0)) hx hb dL_order_1 (by decide) ?_
  refine lv_aload_n hx hb dL_order_2 rfl (lv_at hl 0 rfl) ?_
  refine lv_iload_n hx hb dL_order_3 rfl (lv_at hl 1 rfl) ?_
  refine vx_calli (vx_runV (As := [.int z1]) (rest := [.int (nI 0), .ref ou]) ⟨hx, hb, hml, hown, ht⟩ (c_X1_orderR l gs hz) (cwV 1 ht (tb_V kl_L_44 ki_X1_order ks_X1_order kn_X1 kc_X1_order) rfl rfl rfl ⟨rfl, kd_X1_order⟩ ⟨Nat.le_of_ble_eq_true rfl, Nat.le_of_ble_eq_true rfl⟩) (nx_preV _ hZ hS hR) rfl rfl hl.1 rfl (lv_room (Nat.le_of_ble_eq_true rfl)) dL_order_4 ⟨Nat.le_of_ble_eq_true rfl, Nat.le_of_ble_eq_true rfl⟩) hS (fun _ _ h => h) (fun _ h => h) (fun _ _ h => h) (fun E ce q9 u9 t9 H1 locs1 ht9 hvm9 _ hE hz9 hk9 hS hce hcv hcl => ?_) (fun _ _ _ _ _ _ _ hu => hu.elim)
  subst hE
  refine vx_catch (name := nS) hown [] ⟨0, 9, 12, 19⟩ [] hex (fun _ h9 => nomatch h9) (by decide) (by decide) (ht _ kk_L_19) (va_Nw.use rfl hZ.2.2.2.1.2.1.1) hce hcv hcl ?_
  refine lv_astore_n hx hb dL_order_12 rfl hl (by decide) rfl (fun ls hl => ?_)
  have hl : lv_has ls 4 [(3, .ref q9), (0, .ref d0), (1, .int z1), (2, .ref ou)] := hl
  refine lv_iconst (v := (nI 1)) hx hb dL_order_13 (by decide) ?_
  exact W.iret hx hb hr (fun t ht9 hW => ⟨⟨_, (), rfl, rfl, trivial⟩, hS.F ht9⟩) hS.2.2 dL_order_14
set_option maxHeartbeats 4000000 in
set_option maxRecDepth 100000 in
theorem c_L_putR (l : Launch) (gs : Nat → Nat) {d0 : Nat} {z1 y1 y2 : Int32} (hz : md_bad z1) {ou : Nat} : Met l yL_put wL_put ({ frames := 8, cells := 1, slots := 6, locals := 133 }) (va_Pc [.ref d0, .int z1, .int y1, .int y2] (fun U => nx_K l gs (fun _ => False) U U.heap ∧ nx_R d0 U)) (va_Qi (S := Unit) (fun r _ => r = nI 1) (fun _ _ => True) (fun _ => False)) 1 6 (fun _ => False) := by
  refine va_MetW (cc := cL_put) (maxL := 5) (ret := (some .int)) (hh := [(0, 7, 10, 19), (0, 7, 14, 13)]) (by decide) rfl ?_
  intro p e s m args below meth c s₁ B hml hv
  obtain ⟨rfl, hZ, hR⟩ := hv
  have hx := B.exec
  have hb := B.bytes
  have hr := B.returns
  have hts := atoms_spec (ws := wL_put) B.pre
  have ht : ∀ w ∈ tb_all, w.before _ s = true := fun w h => hts w (List.mem_cons_of_mem _ h)
  have hex := vx_table (x := yL_put) B (ht _ kc_L_put)
  have hown : s.vm.findClass RL = some m.cls := findClass_of_methodNamed B.named
  have hlocks := B.notSynchronized
  have hS : va_S (fun _ => False) s.heap s.heap [] := va_S.rf
  have hl := lv_entry ([.ref d0, .int z1, .int y1, .int y2]) (n := 5) (Nat.le_of_ble_eq_true rfl)
  rw [lg_entry_eq]
  generalize (lg_sl ([.ref d0, .int z1, .int y1, .int y2]) ++ List.replicate (5 - (lg_sl ([.ref d0, .int z1, .int y1, .int y2])).length) Slot.unset).toArray = ls at hl ⊢
  have hl : lv_has ls 5 [(0, .ref d0), (1, .int z1), (2, .int y1), (3, .int y2)] := hl
  refine lv_aload_n hx hb dL_put_0 rfl (lv_at hl 0 rfl) ?_
  refine lv_iload_n hx hb dL_put_1 rfl (lv_at hl 1 rfl) ?_
  refine lv_iload_n hx hb dL_put_2 rfl (lv_at hl 2 rfl) ?_
  refine lv_iload_n hx hb dL_put_3 rfl (lv_at hl 3 rfl) ?_
  refine vx_callv (vx_runV (As := [.int z1, .int y1, .int y2]) (rest := []) ⟨hx, hb, hml, hown, ht⟩ (c_X1_putR l gs hz) (cwV 3 ht (tb_V kl_L_15 ki_X1_put ks_X1_put kn_X1 kc_X1_put) rfl rfl rfl ⟨rfl, kd_X1_put⟩ ⟨Nat.le_of_ble_eq_true rfl, Nat.le_of_ble_eq_true rfl⟩) (nx_preV _ hZ hS hR) rfl rfl hl.1 rfl (lv_room (Nat.le_of_ble_eq_true rfl)) dL_put_4 ⟨Nat.le_of_ble_eq_true rfl, Nat.le_of_ble_eq_true rfl⟩) hS (fun _ _ h => h) (fun _ h => h) (fun _ _ h => h) (fun E ce q9 u9 t9 H1 locs1 ht9 hvm9 _ hE hz9 hk9 hS hce hcv hcl => ?_) (fun _ _ _ _ _ _ hu => hu.elim)
  subst hE
  refine vx_catch (name := nS) hown [] ⟨0, 7, 10, 19⟩ [⟨0, 7, 14, 13⟩] hex (fun _ h9 => nomatch h9) (by decide) (by decide) (ht _ kk_L_19) (va_Nw.use rfl hZ.2.2.2.1.2.1.1) hce hcv hcl ?_
  refine lv_astore hx hb dL_put_10 hl (by decide) rfl (fun ls hl => ?_)
  have hl : lv_has ls 5 [(4, .ref q9), (0, .ref d0), (1, .int z1), (2, .int y1), (3, .int y2)] := hl
  refine lv_iconst (v := (nI 1)) hx hb dL_put_12 (by decide) ?_
  exact W.iret hx hb hr (fun t ht9 hW => ⟨⟨_, (), rfl, rfl, trivial⟩, hS.F ht9⟩) hS.2.2 dL_put_13
set_option maxHeartbeats 4000000 in
set_option maxRecDepth 100000 in
theorem c_L_unpackR (l : Launch) (gs : Nat → Nat) {d0 : Nat} {z1 y1 : Int32} (hz : md_bad z1) {ou : Nat} : Met l yL_unpack wL_unpack ({ frames := 8, cells := 1, slots := 6, locals := 133 }) (va_Pc [.ref d0, .int z1, .int y1] (fun U => nx_K l gs (fun _ => False) U U.heap ∧ nx_R d0 U)) (va_Qi (S := Unit) (fun r _ => r = nI 1) (fun _ _ => True) (fun _ => False)) 1 6 (fun _ => False) := by
  refine va_MetW (cc := cL_unpack) (maxL := 4) (ret := (some .int)) (hh := [(0, 6, 9, 19), (0, 6, 12, 13)]) (by decide) rfl ?_
  intro p e s m args below meth c s₁ B hml hv
  obtain ⟨rfl, hZ, hR⟩ := hv
  have hx := B.exec
  have hb := B.bytes
  have hr := B.returns
  have hts := atoms_spec (ws := wL_unpack) B.pre
  have ht : ∀ w ∈ tb_all, w.before _ s = true := fun w h => hts w (List.mem_cons_of_mem _ h)
  have hex := vx_table (x := yL_unpack) B (ht _ kc_L_unpack)
  have hown : s.vm.findClass RL = some m.cls := findClass_of_methodNamed B.named
  have hlocks := B.notSynchronized
  have hS : va_S (fun _ => False) s.heap s.heap [] := va_S.rf
  have hl := lv_entry ([.ref d0, .int z1, .int y1]) (n := 4) (Nat.le_of_ble_eq_true rfl)
  rw [lg_entry_eq]
  generalize (lg_sl ([.ref d0, .int z1, .int y1]) ++ List.replicate (4 - (lg_sl ([.ref d0, .int z1, .int y1])).length) Slot.unset).toArray = ls at hl ⊢
  have hl : lv_has ls 4 [(0, .ref d0), (1, .int z1), (2, .int y1)] := hl
  refine lv_aload_n hx hb dL_unpack_0 rfl (lv_at hl 0 rfl) ?_
  refine lv_iload_n hx hb dL_unpack_1 rfl (lv_at hl 1 rfl) ?_
  refine lv_iload_n hx hb dL_unpack_2 rfl (lv_at hl 2 rfl) ?_
  refine vx_callv (vx_runV (As := [.int z1, .int y1]) (rest := []) ⟨hx, hb, hml, hown, ht⟩ (c_X1_unpackR l gs hz) (cwV 2 ht (tb_V kl_L_21 ki_X1_unpack ks_X1_unpack kn_X1 kc_X1_unpack) rfl rfl rfl ⟨rfl, kd_X1_unpack⟩ ⟨Nat.le_of_ble_eq_true rfl, Nat.le_of_ble_eq_true rfl⟩) (nx_preV _ hZ hS hR) rfl rfl hl.1 rfl (lv_room (Nat.le_of_ble_eq_true rfl)) dL_unpack_3 ⟨Nat.le_of_ble_eq_true rfl, Nat.le_of_ble_eq_true rfl⟩) hS (fun _ _ h => h) (fun _ h => h) (fun _ _ h => h) (fun E ce q9 u9 t9 H1 locs1 ht9 hvm9 _ hE hz9 hk9 hS hce hcv hcl => ?_) (fun _ _ _ _ _ _ hu => hu.elim)
  subst hE
  refine vx_catch (name := nS) hown [] ⟨0, 6, 9, 19⟩ [⟨0, 6, 12, 13⟩] hex (fun _ h9 => nomatch h9) (by decide) (by decide) (ht _ kk_L_19) (va_Nw.use rfl hZ.2.2.2.1.2.1.1) hce hcv hcl ?_
  refine lv_astore_n hx hb dL_unpack_9 rfl hl (by decide) rfl (fun ls hl => ?_)
  have hl : lv_has ls 4 [(3, .ref q9), (0, .ref d0), (1, .int z1), (2, .int y1)] := hl
  refine lv_iconst (v := (nI 1)) hx hb dL_unpack_10 (by decide) ?_
  exact W.iret hx hb hr (fun t ht9 hW => ⟨⟨_, (), rfl, rfl, trivial⟩, hS.F ht9⟩) hS.2.2 dL_unpack_11
set_option maxHeartbeats 4000000 in
set_option maxRecDepth 100000 in
theorem c_L_joinR (l : Launch) (gs : Nat → Nat) {d0 : Nat} {z1 z2 z3 y1 : Int32} (hz : md_bad z1 ∨ md_bad z2 ∨ md_bad z3) {ou : Nat} : Met l yL_join wL_join ({ frames := 8, cells := 1, slots := 6, locals := 135 }) (va_Pc [.ref d0, .int z1, .int z2, .int z3, .int y1, .ref ou] (fun U => nx_K l gs (fun _ => False) U U.heap ∧ nx_R d0 U)) (va_Qi (S := Unit) (fun r _ => r = nI 1) (fun _ _ => True) (fun _ => False)) 1 6 (fun _ => False) := by
  refine va_MetW (cc := cL_join) (maxL := 7) (ret := (some .int)) (hh := [(0, 14, 17, 19)]) (by decide) rfl ?_
  intro p e s m args below meth c s₁ B hml hv
  obtain ⟨rfl, hZ, hR⟩ := hv
  have hx := B.exec
  have hb := B.bytes
  have hr := B.returns
  have hts := atoms_spec (ws := wL_join) B.pre
  have ht : ∀ w ∈ tb_all, w.before _ s = true := fun w h => hts w (List.mem_cons_of_mem _ h)
  have hex := vx_table (x := yL_join) B (ht _ kc_L_join)
  have hown : s.vm.findClass RL = some m.cls := findClass_of_methodNamed B.named
  have hlocks := B.notSynchronized
  have hS : va_S (fun _ => False) s.heap s.heap [] := va_S.rf
  have hl := lv_entry ([.ref d0, .int z1, .int z2, .int z3, .int y1, .ref ou]) (n := 7) (Nat.le_of_ble_eq_true rfl)
  rw [lg_entry_eq]
  generalize (lg_sl ([.ref d0, .int z1, .int z2, .int z3, .int y1, .ref ou]) ++ List.replicate (7 - (lg_sl ([.ref d0, .int z1, .int z2, .int z3, .int y1, .ref ou])).length) Slot.unset).toArray = ls at hl ⊢
  have hl : lv_has ls 7 [(0, .ref d0), (1, .int z1), (2, .int z2), (3, .int z3), (4, .int y1), (5, .ref ou)] := hl
  refine lv_aload hx hb dL_join_0 (lv_at hl 5 rfl) ?_
  refine lv_iconst (v := (nI 0)) hx hb dL_join_2 (by decide) ?_
  refine lv_aload_n hx hb dL_join_3 rfl (lv_at hl 0 rfl) ?_
  refine lv_iload_n hx hb dL_join_4 rfl (lv_at hl 1 rfl) ?_
  refine lv_iload_n hx hb dL_join_5 rfl (lv_at hl 2 rfl) ?_
  refine lv_iload_n hx hb dL_join_6 rfl (lv_at hl 3 rfl) ?_
  refine lv_iload hx hb dL_join_7 (lv_at hl 4 rfl) ?_
  refine vx_calli (vx_runV (As := [.int z1, .int z2, .int z3, .int y1]) (rest := [.int (nI 0), .ref ou]) ⟨hx, hb, hml, hown, ht⟩ (c_X1_joinR l gs hz) (cwV 4 ht (tb_V kl_L_32 ki_X1_join ks_X1_join kn_X1 kc_X1_join) rfl rfl rfl ⟨rfl, kd_X1_join⟩ ⟨Nat.le_of_ble_eq_true rfl, Nat.le_of_ble_eq_true rfl⟩) (nx_preV _ hZ hS hR) rfl rfl hl.1 rfl (lv_room (Nat.le_of_ble_eq_true rfl)) dL_join_9 ⟨Nat.le_of_ble_eq_true rfl, Nat.le_of_ble_eq_true rfl⟩) hS (fun _ _ h => h) (fun _ h => h) (fun _ _ h => h) (fun E ce q9 u9 t9 H1 locs1 ht9 hvm9 _ hE hz9 hk9 hS hce hcv hcl => ?_) (fun _ _ _ _ _ _ _ hu => hu.elim)
  subst hE
  refine vx_catch (name := nS) hown [] ⟨0, 14, 17, 19⟩ [] hex (fun _ h9 => nomatch h9) (by decide) (by decide) (ht _ kk_L_19) (va_Nw.use rfl hZ.2.2.2.1.2.1.1) hce hcv hcl ?_
  refine lv_astore hx hb dL_join_17 hl (by decide) rfl (fun ls hl => ?_)
  have hl : lv_has ls 7 [(6, .ref q9), (0, .ref d0), (1, .int z1), (2, .int z2), (3, .int z3), (4, .int y1), (5, .ref ou)] := hl
  refine lv_iconst (v := (nI 1)) hx hb dL_join_19 (by decide) ?_
  exact W.iret hx hb hr (fun t ht9 hW => ⟨⟨_, (), rfl, rfl, trivial⟩, hS.F ht9⟩) hS.2.2 dL_join_20
set_option maxHeartbeats 4000000 in
set_option maxRecDepth 100000 in
theorem c_L_timesR (l : Launch) (gs : Nat → Nat) {d0 : Nat} {z1 z2 : Int32} {l1 : Int64} (hz : md_bad z1 ∨ md_bad z2) {ou : Nat} : Met l yL_times wL_times ({ frames := 8, cells := 1, slots := 6, locals := 134 }) (va_Pc [.ref d0, .int z1, .long l1, .int z2, .ref ou] (fun U => nx_K l gs (fun _ => False) U U.heap ∧ nx_R d0 U)) (va_Qi (S := Unit) (fun r _ => r = nI 1) (fun _ _ => True) (fun _ => False)) 1 6 (fun _ => False) := by
  refine va_MetW (cc := cL_times) (maxL := 7) (ret := (some .int)) (hh := [(0, 13, 16, 19)]) (by decide) rfl ?_
  intro p e s m args below meth c s₁ B hml hv
  obtain ⟨rfl, hZ, hR⟩ := hv
  have hx := B.exec
  have hb := B.bytes
  have hr := B.returns
  have hts := atoms_spec (ws := wL_times) B.pre
  have ht : ∀ w ∈ tb_all, w.before _ s = true := fun w h => hts w (List.mem_cons_of_mem _ h)
  have hex := vx_table (x := yL_times) B (ht _ kc_L_times)
  have hown : s.vm.findClass RL = some m.cls := findClass_of_methodNamed B.named
  have hlocks := B.notSynchronized
  have hS : va_S (fun _ => False) s.heap s.heap [] := va_S.rf
  have hl := lv_entry ([.ref d0, .int z1, .long l1, .int z2, .ref ou]) (n := 7) (Nat.le_of_ble_eq_true rfl)
  rw [lg_entry_eq]
  generalize (lg_sl ([.ref d0, .int z1, .long l1, .int z2, .ref ou]) ++ List.replicate (7 - (lg_sl ([.ref d0, .int z1, .long l1, .int z2, .ref ou])).length) Slot.unset).toArray = ls at hl ⊢
  have hl : lv_has ls 7 [(0, .ref d0), (1, .int z1), (2, .long l1), (4, .int z2), (5, .ref ou)] := hl
  refine lv_aload hx hb dL_times_0 (lv_at hl 4 rfl) ?_
  refine lv_iconst (v := (nI 0)) hx hb dL_times_2 (by decide) ?_
  refine lv_aload_n hx hb dL_times_3 rfl (lv_at hl 0 rfl) ?_
  refine lv_iload_n hx hb dL_times_4 rfl (lv_at hl 1 rfl) ?_
  refine lv_lload_n hx hb dL_times_5 rfl (lv_at hl 2 rfl) ?_
  refine lv_iload hx hb dL_times_6 (lv_at hl 3 rfl) ?_
  refine vx_calli (vx_runV (As := [.int z1, .long l1, .int z2]) (rest := [.int (nI 0), .ref ou]) ⟨hx, hb, hml, hown, ht⟩ (c_X1_timesR l gs hz) (cwV 3 ht (tb_V kl_L_36 ki_X1_times ks_X1_times kn_X1 kc_X1_times) rfl rfl rfl ⟨rfl, kd_X1_times⟩ ⟨Nat.le_of_ble_eq_true rfl, Nat.le_of_ble_eq_true rfl⟩) (nx_preV _ hZ hS hR) rfl rfl hl.1 rfl (lv_room (Nat.le_of_ble_eq_true rfl)) dL_times_8 ⟨Nat.le_of_ble_eq_true rfl, Nat.le_of_ble_eq_true rfl⟩) hS (fun _ _ h => h) (fun _ h => h) (fun _ _ h => h) (fun E ce q9 u9 t9 H1 locs1 ht9 hvm9 _ hE hz9 hk9 hS hce hcv hcl => ?_) (fun _ _ _ _ _ _ _ hu => hu.elim)
  subst hE
  refine vx_catch (name := nS) hown [] ⟨0, 13, 16, 19⟩ [] hex (fun _ h9 => nomatch h9) (by decide) (by decide) (ht _ kk_L_19) (va_Nw.use rfl hZ.2.2.2.1.2.1.1) hce hcv hcl ?_
  refine lv_astore hx hb dL_times_16 hl (by decide) rfl (fun ls hl => ?_)
  have hl : lv_has ls 7 [(6, .ref q9), (0, .ref d0), (1, .int z1), (2, .long l1), (4, .int z2), (5, .ref ou)] := hl
  refine lv_iconst (v := (nI 1)) hx hb dL_times_18 (by decide) ?_
  exact W.iret hx hb hr (fun t ht9 hW => ⟨⟨_, (), rfl, rfl, trivial⟩, hS.F ht9⟩) hS.2.2 dL_times_19
set_option maxHeartbeats 4000000 in
set_option maxRecDepth 100000 in
theorem c_L_bothR (l : Launch) (gs : Nat → Nat) {d0 : Nat} {z1 z2 z3 : Int32} {l1 : Int64} {l2 : Int64} (hz : md_bad z1 ∨ md_bad z2 ∨ md_bad z3) {ou : Nat} : Met l yL_both wL_both ({ frames := 8, cells := 1, slots := 6, locals := 139 }) (va_Pc [.ref d0, .int z1, .long l1, .int z2, .long l2, .int z3, .ref ou] (fun U => nx_K l gs (fun _ => False) U U.heap ∧ nx_R d0 U)) (va_Qi (S := Unit) (fun r _ => r = nI 1) (fun _ _ => True) (fun _ => False)) 1 6 (fun _ => False) := by
  refine va_MetW (cc := cL_both) (maxL := 10) (ret := (some .int)) (hh := [(0, 17, 20, 19)]) (by decide) rfl ?_
  intro p e s m args below meth c s₁ B hml hv
  obtain ⟨rfl, hZ, hR⟩ := hv
  have hx := B.exec
  have hb := B.bytes
  have hr := B.returns
  have hts := atoms_spec (ws := wL_both) B.pre
  have ht : ∀ w ∈ tb_all, w.before _ s = true := fun w h => hts w (List.mem_cons_of_mem _ h)
  have hex := vx_table (x := yL_both) B (ht _ kc_L_both)
  have hown : s.vm.findClass RL = some m.cls := findClass_of_methodNamed B.named
  have hlocks := B.notSynchronized
  have hS : va_S (fun _ => False) s.heap s.heap [] := va_S.rf
  have hl := lv_entry ([.ref d0, .int z1, .long l1, .int z2, .long l2, .int z3, .ref ou]) (n := 10) (Nat.le_of_ble_eq_true rfl)
  rw [lg_entry_eq]
  generalize (lg_sl ([.ref d0, .int z1, .long l1, .int z2, .long l2, .int z3, .ref ou]) ++ List.replicate (10 - (lg_sl ([.ref d0, .int z1, .long l1, .int z2, .long l2, .int z3, .ref ou])).length) Slot.unset).toArray = ls at hl ⊢
  have hl : lv_has ls 10 [(0, .ref d0), (1, .int z1), (2, .long l1), (4, .int z2), (5, .long l2), (7, .int z3), (8, .ref ou)] := hl
  refine lv_aload hx hb dL_both_0 (lv_at hl 6 rfl) ?_
  refine lv_iconst (v := (nI 0)) hx hb dL_both_2 (by decide) ?_
  refine lv_aload_n hx hb dL_both_3 rfl (lv_at hl 0 rfl) ?_
  refine lv_iload_n hx hb dL_both_4 rfl (lv_at hl 1 rfl) ?_
  refine lv_lload_n hx hb dL_both_5 rfl (lv_at hl 2 rfl) ?_
  refine lv_iload hx hb dL_both_6 (lv_at hl 3 rfl) ?_
  refine lv_lload hx hb dL_both_8 (lv_at hl 4 rfl) ?_
  refine lv_iload hx hb dL_both_10 (lv_at hl 5 rfl) ?_
  refine vx_calli (vx_runV (As := [.int z1, .long l1, .int z2, .long l2, .int z3]) (rest := [.int (nI 0), .ref ou]) ⟨hx, hb, hml, hown, ht⟩ (c_X1_bothR l gs hz) (cwV 5 ht (tb_V kl_L_40 ki_X1_both ks_X1_both kn_X1 kc_X1_both) rfl rfl rfl ⟨rfl, kd_X1_both⟩ ⟨Nat.le_of_ble_eq_true rfl, Nat.le_of_ble_eq_true rfl⟩) (nx_preV _ hZ hS hR) rfl rfl hl.1 rfl (lv_room (Nat.le_of_ble_eq_true rfl)) dL_both_12 ⟨Nat.le_of_ble_eq_true rfl, Nat.le_of_ble_eq_true rfl⟩) hS (fun _ _ h => h) (fun _ h => h) (fun _ _ h => h) (fun E ce q9 u9 t9 H1 locs1 ht9 hvm9 _ hE hz9 hk9 hS hce hcv hcl => ?_) (fun _ _ _ _ _ _ _ hu => hu.elim)
  subst hE
  refine vx_catch (name := nS) hown [] ⟨0, 17, 20, 19⟩ [] hex (fun _ h9 => nomatch h9) (by decide) (by decide) (ht _ kk_L_19) (va_Nw.use rfl hZ.2.2.2.1.2.1.1) hce hcv hcl ?_
  refine lv_astore hx hb dL_both_20 hl (by decide) rfl (fun ls hl => ?_)
  have hl : lv_has ls 10 [(9, .ref q9), (0, .ref d0), (1, .int z1), (2, .long l1), (4, .int z2), (5, .long l2), (7, .int z3), (8, .ref ou)] := hl
  refine lv_iconst (v := (nI 1)) hx hb dL_both_22 (by decide) ?_
  exact W.iret hx hb hr (fun t ht9 hW => ⟨⟨_, (), rfl, rfl, trivial⟩, hS.F ht9⟩) hS.2.2 dL_both_23
set_option maxHeartbeats 4000000 in
set_option maxRecDepth 100000 in
theorem c_L_logR (l : Launch) (gs : Nat → Nat) {d0 : Nat} {z1 z2 : Int32} (hz : md_bad z1 ∨ md_bad z2) {ou : Nat} : Met l yL_log wL_log ({ frames := 8, cells := 1, slots := 6, locals := 132 }) (va_Pc [.ref d0, .int z1, .int z2, .ref ou] (fun U => nx_K l gs (fun _ => False) U U.heap ∧ nx_R d0 U)) (va_Qi (S := Unit) (fun r _ => r = nI 1) (fun _ _ => True) (fun _ => False)) 1 6 (fun _ => False) := by
  refine va_MetW (cc := cL_log) (maxL := 5) (ret := (some .int)) (hh := [(0, 10, 13, 19)]) (by decide) rfl ?_
  intro p e s m args below meth c s₁ B hml hv
  obtain ⟨rfl, hZ, hR⟩ := hv
  have hx := B.exec
  have hb := B.bytes
  have hr := B.returns
  have hts := atoms_spec (ws := wL_log) B.pre
  have ht : ∀ w ∈ tb_all, w.before _ s = true := fun w h => hts w (List.mem_cons_of_mem _ h)
  have hex := vx_table (x := yL_log) B (ht _ kc_L_log)
  have hown : s.vm.findClass RL = some m.cls := findClass_of_methodNamed B.named
  have hlocks := B.notSynchronized
  have hS : va_S (fun _ => False) s.heap s.heap [] := va_S.rf
  have hl := lv_entry ([.ref d0, .int z1, .int z2, .ref ou]) (n := 5) (Nat.le_of_ble_eq_true rfl)
  rw [lg_entry_eq]
  generalize (lg_sl ([.ref d0, .int z1, .int z2, .ref ou]) ++ List.replicate (5 - (lg_sl ([.ref d0, .int z1, .int z2, .ref ou])).length) Slot.unset).toArray = ls at hl ⊢
  have hl : lv_has ls 5 [(0, .ref d0), (1, .int z1), (2, .int z2), (3, .ref ou)] := hl
  refine lv_aload_n hx hb dL_log_0 rfl (lv_at hl 3 rfl) ?_
  refine lv_iconst (v := (nI 0)) hx hb dL_log_1 (by decide) ?_
  refine lv_aload_n hx hb dL_log_2 rfl (lv_at hl 0 rfl) ?_
  refine lv_iload_n hx hb dL_log_3 rfl (lv_at hl 1 rfl) ?_
  refine lv_iload_n hx hb dL_log_4 rfl (lv_at hl 2 rfl) ?_
  refine vx_calli (vx_runV (As := [.int z1, .int z2]) (rest := [.int (nI 0), .ref ou]) ⟨hx, hb, hml, hown, ht⟩ (c_X1_logR l gs hz) (cwV 2 ht (tb_V kl_L_47 ki_X1_log ks_X1_log kn_X1 kc_X1_log) rfl rfl rfl ⟨rfl, kd_X1_log⟩ ⟨Nat.le_of_ble_eq_true rfl, Nat.le_of_ble_eq_true rfl⟩) (nx_preV _ hZ hS hR) rfl rfl hl.1 rfl (lv_room (Nat.le_of_ble_eq_true rfl)) dL_log_5 ⟨Nat.le_of_ble_eq_true rfl, Nat.le_of_ble_eq_true rfl⟩) hS (fun _ _ h => h) (fun _ h => h) (fun _ _ h => h) (fun E ce q9 u9 t9 H1 locs1 ht9 hvm9 _ hE hz9 hk9 hS hce hcv hcl => ?_) (fun _ _ _ _ _ _ _ hu => hu.elim)
  subst hE
  refine vx_catch (name := nS) hown [] ⟨0, 10, 13, 19⟩ [] hex (fun _ h9 => nomatch h9) (by decide) (by decide) (ht _ kk_L_19) (va_Nw.use rfl hZ.2.2.2.1.2.1.1) hce hcv hcl ?_
  refine lv_astore hx hb dL_log_13 hl (by decide) rfl (fun ls hl => ?_)
  have hl : lv_has ls 5 [(4, .ref q9), (0, .ref d0), (1, .int z1), (2, .int z2), (3, .ref ou)] := hl
  refine lv_iconst (v := (nI 1)) hx hb dL_log_15 (by decide) ?_
  exact W.iret hx hb hr (fun t ht9 hW => ⟨⟨_, (), rfl, rfl, trivial⟩, hS.F ht9⟩) hS.2.2 dL_log_16
set_option maxHeartbeats 4000000 in
set_option maxRecDepth 100000 in
theorem c_L_halfR (l : Launch) (gs : Nat → Nat) {d0 : Nat} {z1 z2 : Int32} (hz : md_bad z1 ∨ md_bad z2) {ou : Nat} : Met l yL_half wL_half ({ frames := 8, cells := 1, slots := 6, locals := 134 }) (va_Pc [.ref d0, .int z1, .int z2, .ref ou] (fun U => nx_K l gs (fun _ => False) U U.heap ∧ nx_R d0 U)) (va_Qi (S := Unit) (fun r _ => r = nI 1) (fun _ _ => True) (fun _ => False)) 1 6 (fun _ => False) := by
  refine va_MetW (cc := cL_half) (maxL := 5) (ret := (some .int)) (hh := [(0, 10, 13, 19)]) (by decide) rfl ?_
  intro p e s m args below meth c s₁ B hml hv
  obtain ⟨rfl, hZ, hR⟩ := hv
  have hx := B.exec
  have hb := B.bytes
  have hr := B.returns
  have hts := atoms_spec (ws := wL_half) B.pre
  have ht : ∀ w ∈ tb_all, w.before _ s = true := fun w h => hts w (List.mem_cons_of_mem _ h)
  have hex := vx_table (x := yL_half) B (ht _ kc_L_half)
  have hown : s.vm.findClass RL = some m.cls := findClass_of_methodNamed B.named
  have hlocks := B.notSynchronized
  have hS : va_S (fun _ => False) s.heap s.heap [] := va_S.rf
  have hl := lv_entry ([.ref d0, .int z1, .int z2, .ref ou]) (n := 5) (Nat.le_of_ble_eq_true rfl)
  rw [lg_entry_eq]
  generalize (lg_sl ([.ref d0, .int z1, .int z2, .ref ou]) ++ List.replicate (5 - (lg_sl ([.ref d0, .int z1, .int z2, .ref ou])).length) Slot.unset).toArray = ls at hl ⊢
  have hl : lv_has ls 5 [(0, .ref d0), (1, .int z1), (2, .int z2), (3, .ref ou)] := hl
  refine lv_aload_n hx hb dL_half_0 rfl (lv_at hl 3 rfl) ?_
  refine lv_iconst (v := (nI 0)) hx hb dL_half_1 (by decide) ?_
  refine lv_aload_n hx hb dL_half_2 rfl (lv_at hl 0 rfl) ?_
  refine lv_iload_n hx hb dL_half_3 rfl (lv_at hl 1 rfl) ?_
  refine lv_iload_n hx hb dL_half_4 rfl (lv_at hl 2 rfl) ?_
  refine vx_calli (vx_runV (As := [.int z1, .int z2]) (rest := [.int (nI 0), .ref ou]) ⟨hx, hb, hml, hown, ht⟩ (c_X1_halfR l gs hz) (cwV 2 ht (tb_V kl_L_51 ki_X1_half ks_X1_half kn_X1 kc_X1_half) rfl rfl rfl ⟨rfl, kd_X1_half⟩ ⟨Nat.le_of_ble_eq_true rfl, Nat.le_of_ble_eq_true rfl⟩) (nx_preV _ hZ hS hR) rfl rfl hl.1 rfl (lv_room (Nat.le_of_ble_eq_true rfl)) dL_half_5 ⟨Nat.le_of_ble_eq_true rfl, Nat.le_of_ble_eq_true rfl⟩) hS (fun _ _ h => h) (fun _ h => h) (fun _ _ h => h) (fun E ce q9 u9 t9 H1 locs1 ht9 hvm9 _ hE hz9 hk9 hS hce hcv hcl => ?_) (fun _ _ _ _ _ _ _ hu => hu.elim)
  subst hE
  refine vx_catch (name := nS) hown [] ⟨0, 10, 13, 19⟩ [] hex (fun _ h9 => nomatch h9) (by decide) (by decide) (ht _ kk_L_19) (va_Nw.use rfl hZ.2.2.2.1.2.1.1) hce hcv hcl ?_
  refine lv_astore hx hb dL_half_13 hl (by decide) rfl (fun ls hl => ?_)
  have hl : lv_has ls 5 [(4, .ref q9), (0, .ref d0), (1, .int z1), (2, .int z2), (3, .ref ou)] := hl
  refine lv_iconst (v := (nI 1)) hx hb dL_half_15 (by decide) ?_
  exact W.iret hx hb hr (fun t ht9 hW => ⟨⟨_, (), rfl, rfl, trivial⟩, hS.F ht9⟩) hS.2.2 dL_half_16
set_option maxHeartbeats 4000000 in
set_option maxRecDepth 100000 in
theorem c_L_signR (l : Launch) (gs : Nat → Nat) {d0 : Nat} {z1 y1 y2 : Int32} (hz : md_bad z1) {ou : Nat} : Met l yL_sign wL_sign ({ frames := 8, cells := 1, slots := 6, locals := 141 }) (va_Pc [.ref d0, .int z1, .int y1, .int y2, .ref ou] (fun U => nx_K l gs (fun _ => False) U U.heap ∧ nx_R d0 U)) (va_Qi (S := Unit) (fun r _ => r = nI 1) (fun _ _ => True) (fun _ => False)) 1 6 (fun _ => False) := by
  refine va_MetW (cc := cL_sign) (maxL := 6) (ret := (some .int)) (hh := [(0, 11, 14, 19), (0, 11, 18, 13), (0, 11, 22, 58)]) (by decide) rfl ?_
  intro p e s m args below meth c s₁ B hml hv
  obtain ⟨rfl, hZ, hR⟩ := hv
  have hx := B.exec
  have hb := B.bytes
  have hr := B.returns
  have hts := atoms_spec (ws := wL_sign) B.pre
  have ht : ∀ w ∈ tb_all, w.before _ s = true := fun w h => hts w (List.mem_cons_of_mem _ h)
  have hex := vx_table (x := yL_sign) B (ht _ kc_L_sign)
  have hown : s.vm.findClass RL = some m.cls := findClass_of_methodNamed B.named
  have hlocks := B.notSynchronized
  have hS : va_S (fun _ => False) s.heap s.heap [] := va_S.rf
  have hl := lv_entry ([.ref d0, .int z1, .int y1, .int y2, .ref ou]) (n := 6) (Nat.le_of_ble_eq_true rfl)
  rw [lg_entry_eq]
  generalize (lg_sl ([.ref d0, .int z1, .int y1, .int y2, .ref ou]) ++ List.replicate (6 - (lg_sl ([.ref d0, .int z1, .int y1, .int y2, .ref ou])).length) Slot.unset).toArray = ls at hl ⊢
  have hl : lv_has ls 6 [(0, .ref d0), (1, .int z1), (2, .int y1), (3, .int y2), (4, .ref ou)] := hl
  refine lv_aload hx hb dL_sign_0 (lv_at hl 4 rfl) ?_
  refine lv_iconst (v := (nI 0)) hx hb dL_sign_2 (by decide) ?_
  refine lv_aload_n hx hb dL_sign_3 rfl (lv_at hl 0 rfl) ?_
  refine lv_iload_n hx hb dL_sign_4 rfl (lv_at hl 1 rfl) ?_
  refine lv_iload_n hx hb dL_sign_5 rfl (lv_at hl 2 rfl) ?_
  refine lv_iload_n hx hb dL_sign_6 rfl (lv_at hl 3 rfl) ?_
  refine vx_calll (vx_runV (As := [.int z1, .int y1, .int y2]) (rest := [.int (nI 0), .ref ou]) ⟨hx, hb, hml, hown, ht⟩ (c_X1_signR l gs hz) (cwV 3 ht (tb_V kl_L_54 ki_X1_sign ks_X1_sign kn_X1 kc_X1_sign) rfl rfl rfl ⟨rfl, kd_X1_sign⟩ ⟨Nat.le_of_ble_eq_true rfl, Nat.le_of_ble_eq_true rfl⟩) (nx_preV _ hZ hS hR) rfl rfl hl.1 rfl (lv_room (Nat.le_of_ble_eq_true rfl)) dL_sign_7 ⟨Nat.le_of_ble_eq_true rfl, Nat.le_of_ble_eq_true rfl⟩) hS (fun _ _ h => h) (fun _ h => h) (fun _ _ h => h) (fun E ce q9 u9 t9 H1 locs1 ht9 hvm9 _ hE hz9 hk9 hS hce hcv hcl => ?_) (fun _ _ _ _ _ _ _ hu => hu.elim)
  subst hE
  refine vx_catch (name := nS) hown [] ⟨0, 11, 14, 19⟩ [⟨0, 11, 18, 13⟩, ⟨0, 11, 22, 58⟩] hex (fun _ h9 => nomatch h9) (by decide) (by decide) (ht _ kk_L_19) (va_Nw.use rfl hZ.2.2.2.1.2.1.1) hce hcv hcl ?_
  refine lv_astore hx hb dL_sign_14 hl (by decide) rfl (fun ls hl => ?_)
  have hl : lv_has ls 6 [(5, .ref q9), (0, .ref d0), (1, .int z1), (2, .int y1), (3, .int y2), (4, .ref ou)] := hl
  refine lv_iconst (v := (nI 1)) hx hb dL_sign_16 (by decide) ?_
  exact W.iret hx hb hr (fun t ht9 hW => ⟨⟨_, (), rfl, rfl, trivial⟩, hS.F ht9⟩) hS.2.2 dL_sign_17
set_option maxHeartbeats 4000000 in
set_option maxRecDepth 100000 in
theorem c_L_verifyR (l : Launch) (gs : Nat → Nat) {d0 : Nat} {z1 z2 y1 : Int32} {l1 : Int64} (hz : md_bad z1 ∨ md_bad z2) {ou : Nat} : Met l yL_verify wL_verify ({ frames := 8, cells := 1, slots := 6, locals := 141 }) (va_Pc [.ref d0, .int z1, .int z2, .int y1, .long l1, .ref ou] (fun U => nx_K l gs (fun _ => False) U U.heap ∧ nx_R d0 U)) (va_Qi (S := Unit) (fun r _ => r = nI 1) (fun _ _ => True) (fun _ => False)) 1 6 (fun _ => False) := by
  refine va_MetW (cc := cL_verify) (maxL := 8) (ret := (some .int)) (hh := [(0, 21, 24, 19), (0, 21, 28, 13)]) (by decide) rfl ?_
  intro p e s m args below meth c s₁ B hml hv
  obtain ⟨rfl, hZ, hR⟩ := hv
  have hx := B.exec
  have hb := B.bytes
  have hr := B.returns
  have hts := atoms_spec (ws := wL_verify) B.pre
  have ht : ∀ w ∈ tb_all, w.before _ s = true := fun w h => hts w (List.mem_cons_of_mem _ h)
  have hex := vx_table (x := yL_verify) B (ht _ kc_L_verify)
  have hown : s.vm.findClass RL = some m.cls := findClass_of_methodNamed B.named
  have hlocks := B.notSynchronized
  have hS : va_S (fun _ => False) s.heap s.heap [] := va_S.rf
  have hl := lv_entry ([.ref d0, .int z1, .int z2, .int y1, .long l1, .ref ou]) (n := 8) (Nat.le_of_ble_eq_true rfl)
  rw [lg_entry_eq]
  generalize (lg_sl ([.ref d0, .int z1, .int z2, .int y1, .long l1, .ref ou]) ++ List.replicate (8 - (lg_sl ([.ref d0, .int z1, .int z2, .int y1, .long l1, .ref ou])).length) Slot.unset).toArray = ls at hl ⊢
  have hl : lv_has ls 8 [(0, .ref d0), (1, .int z1), (2, .int z2), (3, .int y1), (4, .long l1), (6, .ref ou)] := hl
  refine lv_aload hx hb dL_verify_0 (lv_at hl 5 rfl) ?_
  refine lv_iconst (v := (nI 0)) hx hb dL_verify_2 (by decide) ?_
  refine lv_aload_n hx hb dL_verify_3 rfl (lv_at hl 0 rfl) ?_
  refine lv_iload_n hx hb dL_verify_4 rfl (lv_at hl 1 rfl) ?_
  refine lv_iload_n hx hb dL_verify_5 rfl (lv_at hl 2 rfl) ?_
  refine lv_iload_n hx hb dL_verify_6 rfl (lv_at hl 3 rfl) ?_
  refine lv_lload hx hb dL_verify_7 (lv_at hl 4 rfl) ?_
  refine vx_calli (vx_runV (As := [.int z1, .int z2, .int y1, .long l1]) (rest := [.int (nI 0), .ref ou]) ⟨hx, hb, hml, hown, ht⟩ (c_X1_verifyR l gs hz) (cwV 4 ht (tb_V kl_L_60 ki_X1_verify ks_X1_verify kn_X1 kc_X1_verify) rfl rfl rfl ⟨rfl, kd_X1_verify⟩ ⟨Nat.le_of_ble_eq_true rfl, Nat.le_of_ble_eq_true rfl⟩) (nx_preV _ hZ hS hR) rfl rfl hl.1 rfl (lv_room (Nat.le_of_ble_eq_true rfl)) dL_verify_9 ⟨Nat.le_of_ble_eq_true rfl, Nat.le_of_ble_eq_true rfl⟩) hS (fun _ _ h => h) (fun _ h => h) (fun _ _ h => h) (fun E ce q9 u9 t9 H1 locs1 ht9 hvm9 _ hE hz9 hk9 hS hce hcv hcl => ?_) (fun _ _ _ _ _ _ _ hu => hu.elim)
  subst hE
  refine vx_catch (name := nS) hown [] ⟨0, 21, 24, 19⟩ [⟨0, 21, 28, 13⟩] hex (fun _ h9 => nomatch h9) (by decide) (by decide) (ht _ kk_L_19) (va_Nw.use rfl hZ.2.2.2.1.2.1.1) hce hcv hcl ?_
  refine lv_astore hx hb dL_verify_24 hl (by decide) rfl (fun ls hl => ?_)
  have hl : lv_has ls 8 [(7, .ref q9), (0, .ref d0), (1, .int z1), (2, .int z2), (3, .int y1), (4, .long l1), (6, .ref ou)] := hl
  refine lv_iconst (v := (nI 1)) hx hb dL_verify_26 (by decide) ?_
  exact W.iret hx hb hr (fun t ht9 hW => ⟨⟨_, (), rfl, rfl, trivial⟩, hS.F ht9⟩) hS.2.2 dL_verify_27
set_option maxHeartbeats 4000000 in
set_option maxRecDepth 100000 in
theorem c_L_signN (l : Launch) (gs : Nat → Nat) {d0 j : Nat} (hj : j < 12) {y1 y2 : Int32} (hz : md_nb y1 ∨ md_nb y2) {ou : Nat} : Met l yL_sign wL_sign ({ frames := 8, cells := 1, slots := 6, locals := 141 }) (va_Pc [.ref d0, .int (nI j), .int y1, .int y2, .ref ou] (fun U => nx_K l gs (fun _ => False) U U.heap ∧ nx_R d0 U)) (va_Qi (S := Unit) (fun r _ => r = nI 2) (fun _ _ => True) (fun _ => False)) 1 6 (fun _ => False) := by
  refine va_MetW (cc := cL_sign) (maxL := 6) (ret := (some .int)) (hh := [(0, 11, 14, 19), (0, 11, 18, 13), (0, 11, 22, 58)]) (by decide) rfl ?_
  intro p e s m args below meth c s₁ B hml hv
  obtain ⟨rfl, hZ, hR⟩ := hv
  have hx := B.exec
  have hb := B.bytes
  have hr := B.returns
  have hts := atoms_spec (ws := wL_sign) B.pre
  have ht : ∀ w ∈ tb_all, w.before _ s = true := fun w h => hts w (List.mem_cons_of_mem _ h)
  have hex := vx_table (x := yL_sign) B (ht _ kc_L_sign)
  have hown : s.vm.findClass RL = some m.cls := findClass_of_methodNamed B.named
  have hlocks := B.notSynchronized
  have hS : va_S (fun _ => False) s.heap s.heap [] := va_S.rf
  have hl := lv_entry ([.ref d0, .int (nI j), .int y1, .int y2, .ref ou]) (n := 6) (Nat.le_of_ble_eq_true rfl)
  rw [lg_entry_eq]
  generalize (lg_sl ([.ref d0, .int (nI j), .int y1, .int y2, .ref ou]) ++ List.replicate (6 - (lg_sl ([.ref d0, .int (nI j), .int y1, .int y2, .ref ou])).length) Slot.unset).toArray = ls at hl ⊢
  have hl : lv_has ls 6 [(0, .ref d0), (1, .int (nI j)), (2, .int y1), (3, .int y2), (4, .ref ou)] := hl
  refine lv_aload hx hb dL_sign_0 (lv_at hl 4 rfl) ?_
  refine lv_iconst (v := (nI 0)) hx hb dL_sign_2 (by decide) ?_
  refine lv_aload_n hx hb dL_sign_3 rfl (lv_at hl 0 rfl) ?_
  refine lv_iload_n hx hb dL_sign_4 rfl (lv_at hl 1 rfl) ?_
  refine lv_iload_n hx hb dL_sign_5 rfl (lv_at hl 2 rfl) ?_
  refine lv_iload_n hx hb dL_sign_6 rfl (lv_at hl 3 rfl) ?_
  refine vx_calll (vx_runV (As := [.int (nI j), .int y1, .int y2]) (rest := [.int (nI 0), .ref ou]) ⟨hx, hb, hml, hown, ht⟩ (c_X1_signN l gs hj hz) (cwV 3 ht (tb_V kl_L_54 ki_X1_sign ks_X1_sign kn_X1 kc_X1_sign) rfl rfl rfl ⟨rfl, kd_X1_sign⟩ ⟨Nat.le_of_ble_eq_true rfl, Nat.le_of_ble_eq_true rfl⟩) (nx_preV _ hZ hS hR) rfl rfl hl.1 rfl (lv_room (Nat.le_of_ble_eq_true rfl)) dL_sign_7 ⟨Nat.le_of_ble_eq_true rfl, Nat.le_of_ble_eq_true rfl⟩) hS (fun _ _ h => h) (fun _ h => h) (fun _ _ h => h) (fun E ce q9 u9 t9 H1 locs1 ht9 hvm9 _ hE hz9 hk9 hS hce hcv hcl => ?_) (fun _ _ _ _ _ _ _ hu => hu.elim)
  subst hE
  refine vx_catch (name := nA) hown [⟨0, 11, 14, 19⟩] ⟨0, 11, 18, 13⟩ [⟨0, 11, 22, 58⟩] hex (List.forall_mem_cons.mpr ⟨Or.inr ⟨by decide, nS, ht _ kk_L_19, hZ.2.2.2.1.2.2.1⟩, fun _ h9 => nomatch h9⟩) (by decide) (by decide) (ht _ kk_L_13) (va_Nw.use rfl hZ.2.2.2.1.2.1.2.1) hce hcv hcl ?_
  refine lv_astore hx hb dL_sign_18 hl (by decide) rfl (fun ls hl => ?_)
  have hl : lv_has ls 6 [(5, .ref q9), (0, .ref d0), (1, .int (nI j)), (2, .int y1), (3, .int y2), (4, .ref ou)] := hl
  refine lv_iconst (v := (nI 2)) hx hb dL_sign_20 (by decide) ?_
  exact W.iret hx hb hr (fun t ht9 hW => ⟨⟨_, (), rfl, rfl, trivial⟩, hS.F ht9⟩) hS.2.2 dL_sign_21
set_option maxHeartbeats 4000000 in
set_option maxRecDepth 100000 in
theorem c_L_verifyN (l : Launch) (gs : Nat → Nat) {d0 j j2 : Nat} (hj : j < 12) (hj2 : j2 < 12) {y1 : Int32} {l1 : Int64} (hz : md_nb y1) {ou : Nat} : Met l yL_verify wL_verify ({ frames := 8, cells := 1, slots := 6, locals := 141 }) (va_Pc [.ref d0, .int (nI j), .int (nI j2), .int y1, .long l1, .ref ou] (fun U => nx_K l gs (fun _ => False) U U.heap ∧ nx_R d0 U)) (va_Qi (S := Unit) (fun r _ => r = nI 2) (fun _ _ => True) (fun _ => False)) 1 6 (fun _ => False) := by
  refine va_MetW (cc := cL_verify) (maxL := 8) (ret := (some .int)) (hh := [(0, 21, 24, 19), (0, 21, 28, 13)]) (by decide) rfl ?_
  intro p e s m args below meth c s₁ B hml hv
  obtain ⟨rfl, hZ, hR⟩ := hv
  have hx := B.exec
  have hb := B.bytes
  have hr := B.returns
  have hts := atoms_spec (ws := wL_verify) B.pre
  have ht : ∀ w ∈ tb_all, w.before _ s = true := fun w h => hts w (List.mem_cons_of_mem _ h)
  have hex := vx_table (x := yL_verify) B (ht _ kc_L_verify)
  have hown : s.vm.findClass RL = some m.cls := findClass_of_methodNamed B.named
  have hlocks := B.notSynchronized
  have hS : va_S (fun _ => False) s.heap s.heap [] := va_S.rf
  have hl := lv_entry ([.ref d0, .int (nI j), .int (nI j2), .int y1, .long l1, .ref ou]) (n := 8) (Nat.le_of_ble_eq_true rfl)
  rw [lg_entry_eq]
  generalize (lg_sl ([.ref d0, .int (nI j), .int (nI j2), .int y1, .long l1, .ref ou]) ++ List.replicate (8 - (lg_sl ([.ref d0, .int (nI j), .int (nI j2), .int y1, .long l1, .ref ou])).length) Slot.unset).toArray = ls at hl ⊢
  have hl : lv_has ls 8 [(0, .ref d0), (1, .int (nI j)), (2, .int (nI j2)), (3, .int y1), (4, .long l1), (6, .ref ou)] := hl
  refine lv_aload hx hb dL_verify_0 (lv_at hl 5 rfl) ?_
  refine lv_iconst (v := (nI 0)) hx hb dL_verify_2 (by decide) ?_
  refine lv_aload_n hx hb dL_verify_3 rfl (lv_at hl 0 rfl) ?_
  refine lv_iload_n hx hb dL_verify_4 rfl (lv_at hl 1 rfl) ?_
  refine lv_iload_n hx hb dL_verify_5 rfl (lv_at hl 2 rfl) ?_
  refine lv_iload_n hx hb dL_verify_6 rfl (lv_at hl 3 rfl) ?_
  refine lv_lload hx hb dL_verify_7 (lv_at hl 4 rfl) ?_
  refine vx_calli (vx_runV (As := [.int (nI j), .int (nI j2), .int y1, .long l1]) (rest := [.int (nI 0), .ref ou]) ⟨hx, hb, hml, hown, ht⟩ (c_X1_verifyN l gs hj hj2 hz) (cwV 4 ht (tb_V kl_L_60 ki_X1_verify ks_X1_verify kn_X1 kc_X1_verify) rfl rfl rfl ⟨rfl, kd_X1_verify⟩ ⟨Nat.le_of_ble_eq_true rfl, Nat.le_of_ble_eq_true rfl⟩) (nx_preV _ hZ hS hR) rfl rfl hl.1 rfl (lv_room (Nat.le_of_ble_eq_true rfl)) dL_verify_9 ⟨Nat.le_of_ble_eq_true rfl, Nat.le_of_ble_eq_true rfl⟩) hS (fun _ _ h => h) (fun _ h => h) (fun _ _ h => h) (fun E ce q9 u9 t9 H1 locs1 ht9 hvm9 _ hE hz9 hk9 hS hce hcv hcl => ?_) (fun _ _ _ _ _ _ _ hu => hu.elim)
  subst hE
  refine vx_catch (name := nA) hown [⟨0, 21, 24, 19⟩] ⟨0, 21, 28, 13⟩ [] hex (List.forall_mem_cons.mpr ⟨Or.inr ⟨by decide, nS, ht _ kk_L_19, hZ.2.2.2.1.2.2.1⟩, fun _ h9 => nomatch h9⟩) (by decide) (by decide) (ht _ kk_L_13) (va_Nw.use rfl hZ.2.2.2.1.2.1.2.1) hce hcv hcl ?_
  refine lv_astore hx hb dL_verify_28 hl (by decide) rfl (fun ls hl => ?_)
  have hl : lv_has ls 8 [(7, .ref q9), (0, .ref d0), (1, .int (nI j)), (2, .int (nI j2)), (3, .int y1), (4, .long l1), (6, .ref ou)] := hl
  refine lv_iconst (v := (nI 2)) hx hb dL_verify_30 (by decide) ?_
  exact W.iret hx hb hr (fun t ht9 hW => ⟨⟨_, (), rfl, rfl, trivial⟩, hS.F ht9⟩) hS.2.2 dL_verify_31
set_option maxHeartbeats 4000000 in
set_option maxRecDepth 100000 in
theorem c_L_putN (l : Launch) (gs : Nat → Nat) (D : va_G) {k : Nat} (hk5 : k < 5) {d0 dc dr h0 ai ar af ap ah ac : Nat} {cA : ClassId} {hk : Int32} {rg fi fr ff fp fh fn : Nat → Int32} {R : Nat → Nat × Nat} (hok : cv_ok k fi fr ff) (hrg : ∀ j, j < 12 → tw_on (tw_P k) (tw_D k) (R j) ∧ rg j = nI (tw_en (R j))) {j : Nat} (hj : j < 12) {y1 y2 : Int32} (hz : ∀ x y, y1 = nI x → y2 = nI y → ¬ tw_on (tw_P k) (tw_D k) (x, y)) {ou : Nat} : Met l yL_put wL_put ({ frames := 8, cells := 1, slots := 6, locals := 133 }) (va_Pc [.ref d0, .int (nI j), .int y1, .int y2] (fun U => nx_K l gs (fun _ => False) U U.heap ∧ va_P D vwCl [(d0, .inr (1, [.ref dc, .ref dr, .int (nI k), .ref h0])), (dr, .inl (cA, 12, .inl rg)), (h0, .inr (0, [.int (nI (tw_P k)), .int (nI (tw_D k)), .int (nI (tw_I k)), .int (nI (tw_N k)), .ref ai, .ref ar, .ref af, .ref ap, .ref ah, .ref ac, .int (nI ((tw_fs k).length)), .int hk])), (ai, .inl (cA, tw_P k, .inl fi)), (ar, .inl (cA, tw_P k, .inl fr)), (af, .inl (cA, 14, .inl ff)), (ap, .inl (cA, 2 * tw_P k, .inl fp)), (ah, .inl (cA, 2 * tw_P k, .inl fh)), (ac, .inl (cA, 2 * tw_P k, .inl fn))] U.heap ∧ va_K D vwCl [(cA, .int)] U)) (va_Qi (S := Unit) (fun r _ => r = nI 2) (fun _ _ => True) (fun _ => False)) 1 6 (fun _ => False) := by
  refine va_MetW (cc := cL_put) (maxL := 5) (ret := (some .int)) (hh := [(0, 7, 10, 19), (0, 7, 14, 13)]) (by decide) rfl ?_
  intro p e s m args below meth c s₁ B hml hv
  obtain ⟨rfl, hZ, hP, hK⟩ := hv
  have hx := B.exec
  have hb := B.bytes
  have hr := B.returns
  have hts := atoms_spec (ws := wL_put) B.pre
  have ht : ∀ w ∈ tb_all, w.before _ s = true := fun w h => hts w (List.mem_cons_of_mem _ h)
  have hex := vx_table (x := yL_put) B (ht _ kc_L_put)
  have hown : s.vm.findClass RL = some m.cls := findClass_of_methodNamed B.named
  have hlocks := B.notSynchronized
  have hS : va_S (fun _ => False) s.heap s.heap [] := va_S.rf
  have hl := lv_entry ([.ref d0, .int (nI j), .int y1, .int y2]) (n := 5) (Nat.le_of_ble_eq_true rfl)
  rw [lg_entry_eq]
  generalize (lg_sl ([.ref d0, .int (nI j), .int y1, .int y2]) ++ List.replicate (5 - (lg_sl ([.ref d0, .int (nI j), .int y1, .int y2])).length) Slot.unset).toArray = ls at hl ⊢
  have hl : lv_has ls 5 [(0, .ref d0), (1, .int (nI j)), (2, .int y1), (3, .int y2)] := hl
  refine lv_aload_n hx hb dL_put_0 rfl (lv_at hl 0 rfl) ?_
  refine lv_iload_n hx hb dL_put_1 rfl (lv_at hl 1 rfl) ?_
  refine lv_iload_n hx hb dL_put_2 rfl (lv_at hl 2 rfl) ?_
  refine lv_iload_n hx hb dL_put_3 rfl (lv_at hl 3 rfl) ?_
  refine vx_callv (vx_runV (As := [.int (nI j), .int y1, .int y2]) (rest := []) ⟨hx, hb, hml, hown, ht⟩ (c_X1_putN l gs D hk5 hok hrg hj hz) (cwV 3 ht (tb_V kl_L_15 ki_X1_put ks_X1_put kn_X1 kc_X1_put) rfl rfl rfl ⟨rfl, kd_X1_put⟩ ⟨Nat.le_of_ble_eq_true rfl, Nat.le_of_ble_eq_true rfl⟩) (nx_preW _ hZ hS hP hK (va_recv (ci := 1) (q0 := 0) hK hP rfl rfl)) rfl rfl hl.1 rfl (lv_room (Nat.le_of_ble_eq_true rfl)) dL_put_4 ⟨Nat.le_of_ble_eq_true rfl, Nat.le_of_ble_eq_true rfl⟩) hS (fun _ _ h => h) (fun _ h => h) (fun _ _ h => h) (fun E ce q9 u9 t9 H1 locs1 ht9 hvm9 _ hE hz9 hk9 hS hce hcv hcl => ?_) (fun _ _ _ _ _ _ hu => hu.elim)
  subst hE
  refine vx_catch (name := nA) hown [⟨0, 7, 10, 19⟩] ⟨0, 7, 14, 13⟩ [] hex (List.forall_mem_cons.mpr ⟨Or.inr ⟨by decide, nS, ht _ kk_L_19, hZ.2.2.2.1.2.2.1⟩, fun _ h9 => nomatch h9⟩) (by decide) (by decide) (ht _ kk_L_13) (va_Nw.use rfl hZ.2.2.2.1.2.1.2.1) hce hcv hcl ?_
  refine lv_astore hx hb dL_put_14 hl (by decide) rfl (fun ls hl => ?_)
  have hl : lv_has ls 5 [(4, .ref q9), (0, .ref d0), (1, .int (nI j)), (2, .int y1), (3, .int y2)] := hl
  refine lv_iconst (v := (nI 2)) hx hb dL_put_16 (by decide) ?_
  exact W.iret hx hb hr (fun t ht9 hW => ⟨⟨_, (), rfl, rfl, trivial⟩, hS.F ht9⟩) hS.2.2 dL_put_17
set_option maxHeartbeats 4000000 in
set_option maxRecDepth 100000 in
theorem c_L_unpackN (l : Launch) (gs : Nat → Nat) (D : va_G) {k : Nat} (hk5 : k < 5) {d0 dc dr h0 ai ar af ap ah ac : Nat} {cA : ClassId} {hk : Int32} {rg fi fr ff fp fh fn : Nat → Int32} {R : Nat → Nat × Nat} (hok : cv_ok k fi fr ff) (hrg : ∀ j, j < 12 → tw_on (tw_P k) (tw_D k) (R j) ∧ rg j = nI (tw_en (R j))) {j : Nat} (hj : j < 12) {y1 : Int32} (hz : y1 < 0 ∨ ∃ m9, m9 < 2 ^ 31 ∧ y1 = nI m9 ∧ tw_rd (tw_P k) (tw_D k) m9 = none) {ou : Nat} : Met l yL_unpack wL_unpack ({ frames := 8, cells := 1, slots := 6, locals := 133 }) (va_Pc [.ref d0, .int (nI j), .int y1] (fun U => nx_K l gs (fun _ => False) U U.heap ∧ va_P D vwCl [(d0, .inr (1, [.ref dc, .ref dr, .int (nI k), .ref h0])), (dr, .inl (cA, 12, .inl rg)), (h0, .inr (0, [.int (nI (tw_P k)), .int (nI (tw_D k)), .int (nI (tw_I k)), .int (nI (tw_N k)), .ref ai, .ref ar, .ref af, .ref ap, .ref ah, .ref ac, .int (nI ((tw_fs k).length)), .int hk])), (ai, .inl (cA, tw_P k, .inl fi)), (ar, .inl (cA, tw_P k, .inl fr)), (af, .inl (cA, 14, .inl ff)), (ap, .inl (cA, 2 * tw_P k, .inl fp)), (ah, .inl (cA, 2 * tw_P k, .inl fh)), (ac, .inl (cA, 2 * tw_P k, .inl fn))] U.heap ∧ va_K D vwCl [(cA, .int)] U)) (va_Qi (S := Unit) (fun r _ => r = nI 2) (fun _ _ => True) (fun _ => False)) 1 6 (fun _ => False) := by
  refine va_MetW (cc := cL_unpack) (maxL := 4) (ret := (some .int)) (hh := [(0, 6, 9, 19), (0, 6, 12, 13)]) (by decide) rfl ?_
  intro p e s m args below meth c s₁ B hml hv
  obtain ⟨rfl, hZ, hP, hK⟩ := hv
  have hx := B.exec
  have hb := B.bytes
  have hr := B.returns
  have hts := atoms_spec (ws := wL_unpack) B.pre
  have ht : ∀ w ∈ tb_all, w.before _ s = true := fun w h => hts w (List.mem_cons_of_mem _ h)
  have hex := vx_table (x := yL_unpack) B (ht _ kc_L_unpack)
  have hown : s.vm.findClass RL = some m.cls := findClass_of_methodNamed B.named
  have hlocks := B.notSynchronized
  have hS : va_S (fun _ => False) s.heap s.heap [] := va_S.rf
  have hl := lv_entry ([.ref d0, .int (nI j), .int y1]) (n := 4) (Nat.le_of_ble_eq_true rfl)
  rw [lg_entry_eq]
  generalize (lg_sl ([.ref d0, .int (nI j), .int y1]) ++ List.replicate (4 - (lg_sl ([.ref d0, .int (nI j), .int y1])).length) Slot.unset).toArray = ls at hl ⊢
  have hl : lv_has ls 4 [(0, .ref d0), (1, .int (nI j)), (2, .int y1)] := hl
  refine lv_aload_n hx hb dL_unpack_0 rfl (lv_at hl 0 rfl) ?_
  refine lv_iload_n hx hb dL_unpack_1 rfl (lv_at hl 1 rfl) ?_
  refine lv_iload_n hx hb dL_unpack_2 rfl (lv_at hl 2 rfl) ?_
  refine vx_callv (vx_runV (As := [.int (nI j), .int y1]) (rest := []) ⟨hx, hb, hml, hown, ht⟩ (c_X1_unpackN l gs D hk5 hok hrg hj hz) (cwV 2 ht (tb_V kl_L_21 ki_X1_unpack ks_X1_unpack kn_X1 kc_X1_unpack) rfl rfl rfl ⟨rfl, kd_X1_unpack⟩ ⟨Nat.le_of_ble_eq_true rfl, Nat.le_of_ble_eq_true rfl⟩) (nx_preW _ hZ hS hP hK (va_recv (ci := 1) (q0 := 0) hK hP rfl rfl)) rfl rfl hl.1 rfl (lv_room (Nat.le_of_ble_eq_true rfl)) dL_unpack_3 ⟨Nat.le_of_ble_eq_true rfl, Nat.le_of_ble_eq_true rfl⟩) hS (fun _ _ h => h) (fun _ h => h) (fun _ _ h => h) (fun E ce q9 u9 t9 H1 locs1 ht9 hvm9 _ hE hz9 hk9 hS hce hcv hcl => ?_) (fun _ _ _ _ _ _ hu => hu.elim)
  subst hE
  refine vx_catch (name := nA) hown [⟨0, 6, 9, 19⟩] ⟨0, 6, 12, 13⟩ [] hex (List.forall_mem_cons.mpr ⟨Or.inr ⟨by decide, nS, ht _ kk_L_19, hZ.2.2.2.1.2.2.1⟩, fun _ h9 => nomatch h9⟩) (by decide) (by decide) (ht _ kk_L_13) (va_Nw.use rfl hZ.2.2.2.1.2.1.2.1) hce hcv hcl ?_
  refine lv_astore_n hx hb dL_unpack_12 rfl hl (by decide) rfl (fun ls hl => ?_)
  have hl : lv_has ls 4 [(3, .ref q9), (0, .ref d0), (1, .int (nI j)), (2, .int y1)] := hl
  refine lv_iconst (v := (nI 2)) hx hb dL_unpack_13 (by decide) ?_
  exact W.iret hx hb hr (fun t ht9 hW => ⟨⟨_, (), rfl, rfl, trivial⟩, hS.F ht9⟩) hS.2.2 dL_unpack_14
set_option maxHeartbeats 4000000 in
set_option maxRecDepth 100000 in
theorem c_L_signZ (l : Launch) (gs : Nat → Nat) (D : va_G) {k : Nat} (hk5 : k < 5) {d0 dc dr h0 ai ar af ap ah ac : Nat} {cA : ClassId} {hk : Int32} {rg fi fr ff fp fh fn : Nat → Int32} {R : Nat → Nat × Nat} (hok : cv_ok k fi fr ff) (hrg : ∀ j, j < 12 → tw_on (tw_P k) (tw_D k) (R j) ∧ rg j = nI (tw_en (R j))) {j key msg : Nat} (hj : j < 12) (hkey : key ≤ 1073741824) (hmsg : msg ≤ 1073741824) (hne : R j = (0, 1)) {ou : Nat} : Met l yL_sign wL_sign ({ frames := 8, cells := 1, slots := 6, locals := 141 }) (va_Pc [.ref d0, .int (nI j), .int (nI key), .int (nI msg), .ref ou] (fun U => nx_K l gs (fun _ => False) U U.heap ∧ va_P D vwCl [(d0, .inr (1, [.ref dc, .ref dr, .int (nI k), .ref h0])), (dr, .inl (cA, 12, .inl rg)), (h0, .inr (0, [.int (nI (tw_P k)), .int (nI (tw_D k)), .int (nI (tw_I k)), .int (nI (tw_N k)), .ref ai, .ref ar, .ref af, .ref ap, .ref ah, .ref ac, .int (nI ((tw_fs k).length)), .int hk])), (ai, .inl (cA, tw_P k, .inl fi)), (ar, .inl (cA, tw_P k, .inl fr)), (af, .inl (cA, 14, .inl ff)), (ap, .inl (cA, 2 * tw_P k, .inl fp)), (ah, .inl (cA, 2 * tw_P k, .inl fh)), (ac, .inl (cA, 2 * tw_P k, .inl fn))] U.heap ∧ va_K D vwCl [(cA, .int)] U)) (va_Qi (S := Unit) (fun r _ => r = nI 3) (fun _ _ => True) (fun _ => False)) 1 6 (fun _ => False) := by
  refine va_MetW (cc := cL_sign) (maxL := 6) (ret := (some .int)) (hh := [(0, 11, 14, 19), (0, 11, 18, 13), (0, 11, 22, 58)]) (by decide) rfl ?_
  intro p e s m args below meth c s₁ B hml hv
  obtain ⟨rfl, hZ, hP, hK⟩ := hv
  have hx := B.exec
  have hb := B.bytes
  have hr := B.returns
  have hts := atoms_spec (ws := wL_sign) B.pre
  have ht : ∀ w ∈ tb_all, w.before _ s = true := fun w h => hts w (List.mem_cons_of_mem _ h)
  have hex := vx_table (x := yL_sign) B (ht _ kc_L_sign)
  have hown : s.vm.findClass RL = some m.cls := findClass_of_methodNamed B.named
  have hlocks := B.notSynchronized
  have hS : va_S (fun _ => False) s.heap s.heap [] := va_S.rf
  have hl := lv_entry ([.ref d0, .int (nI j), .int (nI key), .int (nI msg), .ref ou]) (n := 6) (Nat.le_of_ble_eq_true rfl)
  rw [lg_entry_eq]
  generalize (lg_sl ([.ref d0, .int (nI j), .int (nI key), .int (nI msg), .ref ou]) ++ List.replicate (6 - (lg_sl ([.ref d0, .int (nI j), .int (nI key), .int (nI msg), .ref ou])).length) Slot.unset).toArray = ls at hl ⊢
  have hl : lv_has ls 6 [(0, .ref d0), (1, .int (nI j)), (2, .int (nI key)), (3, .int (nI msg)), (4, .ref ou)] := hl
  refine lv_aload hx hb dL_sign_0 (lv_at hl 4 rfl) ?_
  refine lv_iconst (v := (nI 0)) hx hb dL_sign_2 (by decide) ?_
  refine lv_aload_n hx hb dL_sign_3 rfl (lv_at hl 0 rfl) ?_
  refine lv_iload_n hx hb dL_sign_4 rfl (lv_at hl 1 rfl) ?_
  refine lv_iload_n hx hb dL_sign_5 rfl (lv_at hl 2 rfl) ?_
  refine lv_iload_n hx hb dL_sign_6 rfl (lv_at hl 3 rfl) ?_
  refine vx_calll (vx_runV (As := [.int (nI j), .int (nI key), .int (nI msg)]) (rest := [.int (nI 0), .ref ou]) ⟨hx, hb, hml, hown, ht⟩ (c_X1_signZ l gs D hk5 hok hrg hj hkey hmsg hne) (cwV 3 ht (tb_V kl_L_54 ki_X1_sign ks_X1_sign kn_X1 kc_X1_sign) rfl rfl rfl ⟨rfl, kd_X1_sign⟩ ⟨Nat.le_of_ble_eq_true rfl, Nat.le_of_ble_eq_true rfl⟩) (nx_preW _ hZ hS hP hK (va_recv (ci := 1) (q0 := 0) hK hP rfl rfl)) rfl rfl hl.1 rfl (lv_room (Nat.le_of_ble_eq_true rfl)) dL_sign_7 ⟨Nat.le_of_ble_eq_true rfl, Nat.le_of_ble_eq_true rfl⟩) hS (fun _ _ h => h) (fun _ h => h) (fun _ _ h => h) (fun E ce q9 u9 t9 H1 locs1 ht9 hvm9 _ hE hz9 hk9 hS hce hcv hcl => ?_) (fun _ _ _ _ _ _ _ hu => hu.elim)
  subst hE
  refine vx_catch (name := nT) hown [⟨0, 11, 14, 19⟩, ⟨0, 11, 18, 13⟩] ⟨0, 11, 22, 58⟩ [] hex (List.forall_mem_cons.mpr ⟨Or.inr ⟨by decide, nS, ht _ kk_L_19, hZ.2.2.2.1.2.2.2.1⟩, List.forall_mem_cons.mpr ⟨Or.inr ⟨by decide, nA, ht _ kk_L_13, hZ.2.2.2.1.2.2.2.2⟩, fun _ h9 => nomatch h9⟩⟩) (by decide) (by decide) (ht _ kk_L_58) (va_Nw.use rfl hZ.2.2.2.1.2.1.2.2) hce hcv hcl ?_
  refine lv_astore hx hb dL_sign_22 hl (by decide) rfl (fun ls hl => ?_)
  have hl : lv_has ls 6 [(5, .ref q9), (0, .ref d0), (1, .int (nI j)), (2, .int (nI key)), (3, .int (nI msg)), (4, .ref ou)] := hl
  refine lv_iconst (v := (nI 3)) hx hb dL_sign_24 (by decide) ?_
  exact W.iret hx hb hr (fun t ht9 hW => ⟨⟨_, (), rfl, rfl, trivial⟩, hS.F ht9⟩) hS.2.2 dL_sign_25
set_option maxHeartbeats 4000000 in
set_option maxRecDepth 100000 in
theorem c_L_beginR (l : Launch) (gs : Nat → Nat) {tp d0 : Nat} {z1 : Int32} (hz : z1 < 0 ∨ nI 4 < z1) {ou : Nat} : Met l yL_begin wL_begin ({ frames := 8, cells := 1, slots := 6, locals := 131 }) (va_Pc [.ref d0, .int z1, .ref ou] (fun U => nx_K l gs (fun _ => False) U U.heap ∧ tw_Z tp (fun _ => False) U U.heap ∧ nx_R d0 U)) (va_Qi (S := Unit) (fun r _ => r = nI 1) (fun _ _ => True) (fun _ => False)) 1 6 (fun _ => False) := by
  refine va_MetW (cc := cL_begin) (maxL := 4) (ret := (some .int)) (hh := [(0, 9, 12, 13)]) (by decide) rfl ?_
  intro p e s m args below meth c s₁ B hml hv
  obtain ⟨rfl, hZ, hT, hR⟩ := hv
  have hx := B.exec
  have hb := B.bytes
  have hr := B.returns
  have hts := atoms_spec (ws := wL_begin) B.pre
  have ht : ∀ w ∈ tb_all, w.before _ s = true := fun w h => hts w (List.mem_cons_of_mem _ h)
  have hex := vx_table (x := yL_begin) B (ht _ kc_L_begin)
  have hown : s.vm.findClass RL = some m.cls := findClass_of_methodNamed B.named
  have hlocks := B.notSynchronized
  have hS : va_S (fun _ => False) s.heap s.heap [] := va_S.rf
  have hl := lv_entry ([.ref d0, .int z1, .ref ou]) (n := 4) (Nat.le_of_ble_eq_true rfl)
  rw [lg_entry_eq]
  generalize (lg_sl ([.ref d0, .int z1, .ref ou]) ++ List.replicate (4 - (lg_sl ([.ref d0, .int z1, .ref ou])).length) Slot.unset).toArray = ls at hl ⊢
  have hl : lv_has ls 4 [(0, .ref d0), (1, .int z1), (2, .ref ou)] := hl
  refine lv_aload_n hx hb dL_begin_0 rfl (lv_at hl 2 rfl) ?_
  refine lv_iconst (v := (nI 0)) hx hb dL_begin_1 (by decide) ?_
  refine lv_aload_n hx hb dL_begin_2 rfl (lv_at hl 0 rfl) ?_
  refine lv_iload_n hx hb dL_begin_3 rfl (lv_at hl 1 rfl) ?_
  refine vx_calli (vx_runV (As := [.int z1]) (rest := [.int (nI 0), .ref ou]) ⟨hx, hb, hml, hown, ht⟩ (c_X1_beginR l gs hz) (cwV 1 ht (tb_V kl_L_7 ki_X1_begin ks_X1_begin kn_X1 kc_X1_begin) rfl rfl rfl ⟨rfl, kd_X1_begin⟩ ⟨Nat.le_of_ble_eq_true rfl, Nat.le_of_ble_eq_true rfl⟩) (nx_preZ _ hZ hS hT hR) rfl rfl hl.1 rfl (lv_room (Nat.le_of_ble_eq_true rfl)) dL_begin_4 ⟨Nat.le_of_ble_eq_true rfl, Nat.le_of_ble_eq_true rfl⟩) hS (fun _ _ h => h) (fun _ h => h) (fun _ _ h => h) (fun E ce q9 u9 t9 H1 locs1 ht9 hvm9 _ hE hz9 hk9 hS hce hcv hcl => ?_) (fun _ _ _ _ _ _ _ hu => hu.elim)
  subst hE
  refine vx_catch (name := nA) hown [] ⟨0, 9, 12, 13⟩ [] hex (fun _ h9 => nomatch h9) (by decide) (by decide) (ht _ kk_L_13) (va_Nw.use rfl hZ.2.2.2.1.2.1.2.1) hce hcv hcl ?_
  refine lv_astore_n hx hb dL_begin_12 rfl hl (by decide) rfl (fun ls hl => ?_)
  have hl : lv_has ls 4 [(3, .ref q9), (0, .ref d0), (1, .int z1), (2, .ref ou)] := hl
  refine lv_iconst (v := (nI 1)) hx hb dL_begin_13 (by decide) ?_
  exact W.iret hx hb hr (fun t ht9 hW => ⟨⟨_, (), rfl, rfl, trivial⟩, hS.F ht9⟩) hS.2.2 dL_begin_14
set_option maxHeartbeats 4000000 in
set_option maxRecDepth 100000 in
theorem c_L_beginS (l : Launch) (tp : Nat) (D : va_G) {k : Nat} (hk5 : k < 5) {d0 dc dr : Nat} {cA cQ : ClassId} {kd : Int32} {vc : Value} {F : Nat → Option Nat} {rg : Nat → Int32} {ou : Nat} {cL : ClassId} {fo : Nat → Int64} {h0 ai ar af ap ah ac : Nat} {hk : Int32} {fi fr ff fp fh fn : Nat → Int32} (hF : F k = some h0) (sz : Nat) : Met l yL_begin wL_begin ({ frames := 3, cells := 0, slots := 0, locals := 66 }) (va_Pc [.ref d0, .int (nI k), .ref ou] (wz_pre tp D [(cA, .int), (cQ, .object RX0), (cL, .long)] [(d0, .inr (1, [.ref dc, .ref dr, .int kd, vc])), (dc, .inl (cQ, 5, .inr (.inr (.inr (.inr F))))), (dr, .inl (cA, 12, .inl rg)), (h0, .inr (0, [.int (nI (tw_P k)), .int (nI (tw_D k)), .int (nI (tw_I k)), .int (nI (tw_N k)), .ref ai, .ref ar, .ref af, .ref ap, .ref ah, .ref ac, .int (nI ((tw_fs k).length)), .int hk])), (ai, .inl (cA, tw_P k, .inl fi)), (ar, .inl (cA, tw_P k, .inl fr)), (af, .inl (cA, 14, .inl ff)), (ap, .inl (cA, 2 * tw_P k, .inl fp)), (ah, .inl (cA, 2 * tw_P k, .inl fh)), (ac, .inl (cA, 2 * tw_P k, .inl fn)), (ou, .inl (cL, 1, .inr (.inl fo)))] sz)) (va_Qi (fun (r : Int32) (u : (Nat → Int32) × (Nat → Int64)) => r = nI 0 ∧ u.2 0 = (nI (tw_P k)).toInt64 ∧ ∀ j, j < 12 → u.1 j = nI 1) (fun (u : (Nat → Int32) × (Nat → Int64)) t => wd_at D [(cA, .int), (cQ, .object RX0), (cL, .long)] (va_A [(d0, .inr (1, [.ref dc, .ref dr, .int kd, vc])), (dc, .inl (cQ, 5, .inr (.inr (.inr (.inr F))))), (dr, .inl (cA, 12, .inl rg)), (h0, .inr (0, [.int (nI (tw_P k)), .int (nI (tw_D k)), .int (nI (tw_I k)), .int (nI (tw_N k)), .ref ai, .ref ar, .ref af, .ref ap, .ref ah, .ref ac, .int (nI ((tw_fs k).length)), .int hk])), (ai, .inl (cA, tw_P k, .inl fi)), (ar, .inl (cA, tw_P k, .inl fr)), (af, .inl (cA, 14, .inl ff)), (ap, .inl (cA, 2 * tw_P k, .inl fp)), (ah, .inl (cA, 2 * tw_P k, .inl fh)), (ac, .inl (cA, 2 * tw_P k, .inl fn)), (ou, .inl (cL, 1, .inr (.inl fo)))] sz) [(d0, .inr (1, [.ref dc, .ref dr, .int (nI k), .ref h0])), (dc, .inl (cQ, 5, .inr (.inr (.inr (.inr F))))), (dr, .inl (cA, 12, .inl u.1)), (h0, .inr (0, [.int (nI (tw_P k)), .int (nI (tw_D k)), .int (nI (tw_I k)), .int (nI (tw_N k)), .ref ai, .ref ar, .ref af, .ref ap, .ref ah, .ref ac, .int (nI ((tw_fs k).length)), .int hk])), (ai, .inl (cA, tw_P k, .inl fi)), (ar, .inl (cA, tw_P k, .inl fr)), (af, .inl (cA, 14, .inl ff)), (ap, .inl (cA, 2 * tw_P k, .inl fp)), (ah, .inl (cA, 2 * tw_P k, .inl fh)), (ac, .inl (cA, 2 * tw_P k, .inl fn)), (ou, .inl (cL, 1, .inr (.inl u.2)))] t) (va_A [(d0, .inr (1, [.ref dc, .ref dr, .int kd, vc])), (dc, .inl (cQ, 5, .inr (.inr (.inr (.inr F))))), (dr, .inl (cA, 12, .inl rg)), (h0, .inr (0, [.int (nI (tw_P k)), .int (nI (tw_D k)), .int (nI (tw_I k)), .int (nI (tw_N k)), .ref ai, .ref ar, .ref af, .ref ap, .ref ah, .ref ac, .int (nI ((tw_fs k).length)), .int hk])), (ai, .inl (cA, tw_P k, .inl fi)), (ar, .inl (cA, tw_P k, .inl fr)), (af, .inl (cA, 14, .inl ff)), (ap, .inl (cA, 2 * tw_P k, .inl fp)), (ah, .inl (cA, 2 * tw_P k, .inl fh)), (ac, .inl (cA, 2 * tw_P k, .inl fn)), (ou, .inl (cL, 1, .inr (.inl fo)))] sz)) 0 0 (va_A [(d0, .inr (1, [.ref dc, .ref dr, .int kd, vc])), (dc, .inl (cQ, 5, .inr (.inr (.inr (.inr F))))), (dr, .inl (cA, 12, .inl rg)), (h0, .inr (0, [.int (nI (tw_P k)), .int (nI (tw_D k)), .int (nI (tw_I k)), .int (nI (tw_N k)), .ref ai, .ref ar, .ref af, .ref ap, .ref ah, .ref ac, .int (nI ((tw_fs k).length)), .int hk])), (ai, .inl (cA, tw_P k, .inl fi)), (ar, .inl (cA, tw_P k, .inl fr)), (af, .inl (cA, 14, .inl ff)), (ap, .inl (cA, 2 * tw_P k, .inl fp)), (ah, .inl (cA, 2 * tw_P k, .inl fh)), (ac, .inl (cA, 2 * tw_P k, .inl fn)), (ou, .inl (cL, 1, .inr (.inl fo)))] sz) := by
  refine va_MetW (cc := cL_begin) (maxL := 4) (ret := (some .int)) (hh := [(0, 9, 12, 13)]) (by decide) rfl ?_
  intro p e s m args below meth c s₁ B hml hv
  obtain ⟨rfl, ⟨hsz, hP, hK, hD0⟩, hZ⟩ := hv
  have hx := B.exec
  have hb := B.bytes
  have hr := B.returns
  have hts := atoms_spec (ws := wL_begin) B.pre
  have ht : ∀ w ∈ tb_all, w.before _ s = true := fun w h => hts w (List.mem_cons_of_mem _ h)
  have hown : s.vm.findClass RL = some m.cls := findClass_of_methodNamed B.named
  have hlocks := B.notSynchronized
  have hin : meth.name = "begin" := (name_of_methodNamed B.named B.method).1
  subst hsz
  have hD := hD0.self (sz := s.heap.size)
  generalize hAe : va_A [(d0, .inr (1, [.ref dc, .ref dr, .int kd, vc])), (dc, .inl (cQ, 5, .inr (.inr (.inr (.inr F))))), (dr, .inl (cA, 12, .inl rg)), (h0, .inr (0, [.int (nI (tw_P k)), .int (nI (tw_D k)), .int (nI (tw_I k)), .int (nI (tw_N k)), .ref ai, .ref ar, .ref af, .ref ap, .ref ah, .ref ac, .int (nI ((tw_fs k).length)), .int hk])), (ai, .inl (cA, tw_P k, .inl fi)), (ar, .inl (cA, tw_P k, .inl fr)), (af, .inl (cA, 14, .inl ff)), (ap, .inl (cA, 2 * tw_P k, .inl fp)), (ah, .inl (cA, 2 * tw_P k, .inl fh)), (ac, .inl (cA, 2 * tw_P k, .inl fn)), (ou, .inl (cL, 1, .inr (.inl fo)))] s.heap.size = A at hD hZ ⊢
  have hA : ∀ q : Nat, s.heap.size ≤ q → A q := fun q h => by rw [← hAe]; exact Or.inr h
  have hS : va_S A s.heap s.heap [] := va_S.rf
  have hl := lv_entry ([.ref d0, .int (nI k), .ref ou]) (n := 4) (Nat.le_of_ble_eq_true rfl)
  rw [lg_entry_eq]
  generalize (lg_sl ([.ref d0, .int (nI k), .ref ou]) ++ List.replicate (4 - (lg_sl ([.ref d0, .int (nI k), .ref ou])).length) Slot.unset).toArray = ls at hl ⊢
  have hl : lv_has ls 4 [(0, .ref d0), (1, .int (nI k)), (2, .ref ou)] := hl
  obtain ⟨hP0, hP2, hD2, hI2, hDP⟩ := tw_kb hk5
  have hK0 := tw_kK k hk5
  have hP8 : tw_P k ≤ 8192 := by omega
  have hN := tw_kN k hk5
  have zk : k ≤ 4 := by omega
  have ek : (nI k).toNatClampNeg = k := nI_clamp (by omega)
  refine lv_aload_n hx hb dL_begin_0 rfl (lv_at hl 2 rfl) ?_
  refine lv_iconst (v := (nI 0)) hx hb dL_begin_1 (by decide) ?_
  refine lv_aload_n hx hb dL_begin_2 rfl (lv_at hl 0 rfl) ?_
  refine lv_iload_n hx hb dL_begin_3 rfl (lv_at hl 1 rfl) ?_
  have hPc := hP.sub (ws' := [(d0, .inr (1, [.ref dc, .ref dr, .int kd, vc])), (dc, .inl (cQ, 5, .inr (.inr (.inr (.inr F))))), (dr, .inl (cA, 12, .inl rg)), (h0, .inr (0, [.int (nI (tw_P k)), .int (nI (tw_D k)), .int (nI (tw_I k)), .int (nI (tw_N k)), .ref ai, .ref ar, .ref af, .ref ap, .ref ah, .ref ac, .int (nI ((tw_fs k).length)), .int hk])), (ai, .inl (cA, tw_P k, .inl fi)), (ar, .inl (cA, tw_P k, .inl fr)), (af, .inl (cA, 14, .inl ff)), (ap, .inl (cA, 2 * tw_P k, .inl fp)), (ah, .inl (cA, 2 * tw_P k, .inl fh)), (ac, .inl (cA, 2 * tw_P k, .inl fn))]) [0, 1, 2, 3, 4, 5, 6, 7, 8, 9] rfl
  have hDc := hD.sub (ws' := [(d0, .inr (1, [.ref dc, .ref dr, .int kd, vc])), (dc, .inl (cQ, 5, .inr (.inr (.inr (.inr F))))), (dr, .inl (cA, 12, .inl rg)), (h0, .inr (0, [.int (nI (tw_P k)), .int (nI (tw_D k)), .int (nI (tw_I k)), .int (nI (tw_N k)), .ref ai, .ref ar, .ref af, .ref ap, .ref ah, .ref ac, .int (nI ((tw_fs k).length)), .int hk])), (ai, .inl (cA, tw_P k, .inl fi)), (ar, .inl (cA, tw_P k, .inl fr)), (af, .inl (cA, 14, .inl ff)), (ap, .inl (cA, 2 * tw_P k, .inl fp)), (ah, .inl (cA, 2 * tw_P k, .inl fh)), (ac, .inl (cA, 2 * tw_P k, .inl fn))]) [0, 1, 2, 3, 4, 5, 6, 7, 8, 9] (by decide) rfl
  have hFc := va_free (wc := [(d0, .inr (1, [.ref dc, .ref dr, .int kd, vc])), (dc, .inl (cQ, 5, .inr (.inr (.inr (.inr F))))), (dr, .inl (cA, 12, .inl rg)), (h0, .inr (0, [.int (nI (tw_P k)), .int (nI (tw_D k)), .int (nI (tw_I k)), .int (nI (tw_N k)), .ref ai, .ref ar, .ref af, .ref ap, .ref ah, .ref ac, .int (nI ((tw_fs k).length)), .int hk])), (ai, .inl (cA, tw_P k, .inl fi)), (ar, .inl (cA, tw_P k, .inl fr)), (af, .inl (cA, 14, .inl ff)), (ap, .inl (cA, 2 * tw_P k, .inl fp)), (ah, .inl (cA, 2 * tw_P k, .inl fh)), (ac, .inl (cA, 2 * tw_P k, .inl fn))]) hD hS hA [0, 1, 2, 3, 4, 5, 6, 7, 8, 9] rfl
  refine va_calli (va_runV (As := [.int (nI k)]) (rest := [.int (nI 0), .ref ou]) ⟨hx, hb, hml, hown, ht⟩ (c_X1_beginS l tp D hk5 hF s.heap.size) (cwV 1 ht (tb_V kl_L_7 ki_X1_begin ks_X1_begin kn_X1 kc_X1_begin) rfl rfl rfl ⟨rfl, kd_X1_begin⟩ ⟨Nat.le_of_ble_eq_true rfl, Nat.le_of_ble_eq_true rfl⟩) (wz_preV _ hPc (hK.sub (tys' := [(cA, .int), (cQ, .object RX0)]) [0, 1] rfl) hDc hZ hS hFc (va_recv (ci := 1) (q0 := 0) hK hP rfl rfl)) rfl rfl hl.1 rfl (lv_room (Nat.le_of_ble_eq_true rfl)) dL_begin_4 ⟨Nat.le_of_ble_eq_true rfl, Nat.le_of_ble_eq_true rfl⟩) hS (fun q _ h => hFc q h) hFc (fun r9 u9 t9 H1 locs ht9 hvm9 hw9 hB9 hz9 hk9 hS => ?_)
  obtain ⟨hP1, hK1, hD1⟩ := hB9
  rw [ht9] at hP1
  obtain ⟨hP, hD⟩ := va_join (wr := [(ou, .inl (cL, 1, .inr (.inl fo)))]) (w1 := [(d0, .inr (1, [.ref dc, .ref dr, .int (nI k), .ref h0])), (dc, .inl (cQ, 5, .inr (.inr (.inr (.inr F))))), (dr, .inl (cA, 12, .inl u9)), (h0, .inr (0, [.int (nI (tw_P k)), .int (nI (tw_D k)), .int (nI (tw_I k)), .int (nI (tw_N k)), .ref ai, .ref ar, .ref af, .ref ap, .ref ah, .ref ac, .int (nI ((tw_fs k).length)), .int hk])), (ai, .inl (cA, tw_P k, .inl fi)), (ar, .inl (cA, tw_P k, .inl fr)), (af, .inl (cA, 14, .inl ff)), (ap, .inl (cA, 2 * tw_P k, .inl fp)), (ah, .inl (cA, 2 * tw_P k, .inl fh)), (ac, .inl (cA, 2 * tw_P k, .inl fn))]) hP hD [0, 1, 2, 3, 4, 5, 6, 7, 8, 9] [10] rfl rfl (by decide) (by decide) hk9 hFc hP1 hD1
  generalize H1 = H at hP hS hz9 ⊢
  have hP := hP.sub (ws' := [(d0, .inr (1, [.ref dc, .ref dr, .int (nI k), .ref h0])), (dc, .inl (cQ, 5, .inr (.inr (.inr (.inr F))))), (dr, .inl (cA, 12, .inl u9)), (h0, .inr (0, [.int (nI (tw_P k)), .int (nI (tw_D k)), .int (nI (tw_I k)), .int (nI (tw_N k)), .ref ai, .ref ar, .ref af, .ref ap, .ref ah, .ref ac, .int (nI ((tw_fs k).length)), .int hk])), (ai, .inl (cA, tw_P k, .inl fi)), (ar, .inl (cA, tw_P k, .inl fr)), (af, .inl (cA, 14, .inl ff)), (ap, .inl (cA, 2 * tw_P k, .inl fp)), (ah, .inl (cA, 2 * tw_P k, .inl fh)), (ac, .inl (cA, 2 * tw_P k, .inl fn)), (ou, .inl (cL, 1, .inr (.inl fo)))]) [1, 2, 3, 4, 5, 6, 7, 8, 9, 10, 0] rfl
  have hD := hD.sub (ws' := [(d0, .inr (1, [.ref dc, .ref dr, .int (nI k), .ref h0])), (dc, .inl (cQ, 5, .inr (.inr (.inr (.inr F))))), (dr, .inl (cA, 12, .inl u9)), (h0, .inr (0, [.int (nI (tw_P k)), .int (nI (tw_D k)), .int (nI (tw_I k)), .int (nI (tw_N k)), .ref ai, .ref ar, .ref af, .ref ap, .ref ah, .ref ac, .int (nI ((tw_fs k).length)), .int hk])), (ai, .inl (cA, tw_P k, .inl fi)), (ar, .inl (cA, tw_P k, .inl fr)), (af, .inl (cA, 14, .inl ff)), (ap, .inl (cA, 2 * tw_P k, .inl fp)), (ah, .inl (cA, 2 * tw_P k, .inl fh)), (ac, .inl (cA, 2 * tw_P k, .inl fn)), (ou, .inl (cL, 1, .inr (.inl fo)))]) [1, 2, 3, 4, 5, 6, 7, 8, 9, 10, 0] (by decide) rfl
  refine lv_i2l (v := (r9).toInt64) hx hb dL_begin_7 rfl ?_
  refine va_last hx hb hK hP hD hS 10 2 rfl rfl (nv_in (a := 0) (n := 1) (by decide) (by decide)) dL_begin_8 (fun H locs hP hD hS => ?_)
  have hP : va_P D vwCl [(d0, .inr (1, [.ref dc, .ref dr, .int (nI k), .ref h0])), (dc, .inl (cQ, 5, .inr (.inr (.inr (.inr F))))), (dr, .inl (cA, 12, .inl u9)), (h0, .inr (0, [.int (nI (tw_P k)), .int (nI (tw_D k)), .int (nI (tw_I k)), .int (nI (tw_N k)), .ref ai, .ref ar, .ref af, .ref ap, .ref ah, .ref ac, .int (nI ((tw_fs k).length)), .int hk])), (ai, .inl (cA, tw_P k, .inl fi)), (ar, .inl (cA, tw_P k, .inl fr)), (af, .inl (cA, 14, .inl ff)), (ap, .inl (cA, 2 * tw_P k, .inl fp)), (ah, .inl (cA, 2 * tw_P k, .inl fh)), (ac, .inl (cA, 2 * tw_P k, .inl fn)), (ou, .inl (cL, 1, .inr (.inl (vp_updL fo 0 ((r9).toInt64)))))] H := hP
  have hD : va_D A [(d0, .inr (1, [.ref dc, .ref dr, .int (nI k), .ref h0])), (dc, .inl (cQ, 5, .inr (.inr (.inr (.inr F))))), (dr, .inl (cA, 12, .inl u9)), (h0, .inr (0, [.int (nI (tw_P k)), .int (nI (tw_D k)), .int (nI (tw_I k)), .int (nI (tw_N k)), .ref ai, .ref ar, .ref af, .ref ap, .ref ah, .ref ac, .int (nI ((tw_fs k).length)), .int hk])), (ai, .inl (cA, tw_P k, .inl fi)), (ar, .inl (cA, tw_P k, .inl fr)), (af, .inl (cA, 14, .inl ff)), (ap, .inl (cA, 2 * tw_P k, .inl fp)), (ah, .inl (cA, 2 * tw_P k, .inl fh)), (ac, .inl (cA, 2 * tw_P k, .inl fn)), (ou, .inl (cL, 1, .inr (.inl (vp_updL fo 0 ((r9).toInt64)))))] := hD
  refine lv_goto (tgt := 15) hx hb dL_begin_9 (by decide) ?_
  refine lv_iconst (v := (nI 0)) hx hb dL_begin_15 (by decide) ?_
  exact W.iret hx hb hr (fun t ht9 hW => ⟨⟨_, (u9, (vp_updL fo 0 ((r9).toInt64))), rfl, ⟨rfl, by show (r9).toInt64 = _; rw [hw9.1], hw9.2⟩, by rw [ht9]; exact hP, va_K.moved hW.alike hK, hD⟩, hS.F ht9⟩) hS.2.2 dL_begin_16
set_option maxHeartbeats 4000000 in
set_option maxRecDepth 100000 in
theorem c_L_beginN (l : Launch) (tp : Nat) (D : va_G) {k : Nat} (hk5 : k < 5) {d0 dc dr : Nat} {cA cQ : ClassId} {kd : Int32} {vc : Value} {F : Nat → Option Nat} {rg : Nat → Int32} {ou : Nat} {cL : ClassId} {fo : Nat → Int64} (hF : F k = none) (sz : Nat) : Met l yL_begin wL_begin ({ frames := 5, cells := 7, slots := 8 * tw_P k + 26, locals := 109 }) (va_Pc [.ref d0, .int (nI k), .ref ou] (wz_pre tp D [(cA, .int), (cQ, .object RX0), (cL, .long)] [(d0, .inr (1, [.ref dc, .ref dr, .int kd, vc])), (dc, .inl (cQ, 5, .inr (.inr (.inr (.inr F))))), (dr, .inl (cA, 12, .inl rg)), (ou, .inl (cL, 1, .inr (.inl fo)))] sz)) (va_Qi (fun (r : Int32) (u : (Nat → Int32) × (Nat → Int64)) => r = nI 0 ∧ u.2 0 = (nI (tw_P k)).toInt64 ∧ ∀ j, j < 12 → u.1 j = nI 1) (fun (u : (Nat → Int32) × (Nat → Int64)) t => dk_opo D k d0 dc dr ou cA cQ cL F (va_A [(d0, .inr (1, [.ref dc, .ref dr, .int kd, vc])), (dc, .inl (cQ, 5, .inr (.inr (.inr (.inr F))))), (dr, .inl (cA, 12, .inl rg)), (ou, .inl (cL, 1, .inr (.inl fo)))] sz) u t) (va_A [(d0, .inr (1, [.ref dc, .ref dr, .int kd, vc])), (dc, .inl (cQ, 5, .inr (.inr (.inr (.inr F))))), (dr, .inl (cA, 12, .inl rg)), (ou, .inl (cL, 1, .inr (.inl fo)))] sz)) 7 (8 * tw_P k + 26) (va_A [(d0, .inr (1, [.ref dc, .ref dr, .int kd, vc])), (dc, .inl (cQ, 5, .inr (.inr (.inr (.inr F))))), (dr, .inl (cA, 12, .inl rg)), (ou, .inl (cL, 1, .inr (.inl fo)))] sz) := by
  refine va_MetW (cc := cL_begin) (maxL := 4) (ret := (some .int)) (hh := [(0, 9, 12, 13)]) (by decide) rfl ?_
  intro p e s m args below meth c s₁ B hml hv
  obtain ⟨rfl, ⟨hsz, hP, hK, hD0⟩, hZ⟩ := hv
  have hx := B.exec
  have hb := B.bytes
  have hr := B.returns
  have hts := atoms_spec (ws := wL_begin) B.pre
  have ht : ∀ w ∈ tb_all, w.before _ s = true := fun w h => hts w (List.mem_cons_of_mem _ h)
  have hown : s.vm.findClass RL = some m.cls := findClass_of_methodNamed B.named
  have hlocks := B.notSynchronized
  have hin : meth.name = "begin" := (name_of_methodNamed B.named B.method).1
  subst hsz
  have hD := hD0.self (sz := s.heap.size)
  generalize hAe : va_A [(d0, .inr (1, [.ref dc, .ref dr, .int kd, vc])), (dc, .inl (cQ, 5, .inr (.inr (.inr (.inr F))))), (dr, .inl (cA, 12, .inl rg)), (ou, .inl (cL, 1, .inr (.inl fo)))] s.heap.size = A at hD hZ ⊢
  have hA : ∀ q : Nat, s.heap.size ≤ q → A q := fun q h => by rw [← hAe]; exact Or.inr h
  have hS : va_S A s.heap s.heap [] := va_S.rf
  have hl := lv_entry ([.ref d0, .int (nI k), .ref ou]) (n := 4) (Nat.le_of_ble_eq_true rfl)
  rw [lg_entry_eq]
  generalize (lg_sl ([.ref d0, .int (nI k), .ref ou]) ++ List.replicate (4 - (lg_sl ([.ref d0, .int (nI k), .ref ou])).length) Slot.unset).toArray = ls at hl ⊢
  have hl : lv_has ls 4 [(0, .ref d0), (1, .int (nI k)), (2, .ref ou)] := hl
  obtain ⟨hP0, hP2, hD2, hI2, hDP⟩ := tw_kb hk5
  have hK0 := tw_kK k hk5
  have hP8 : tw_P k ≤ 8192 := by omega
  have hN := tw_kN k hk5
  have zk : k ≤ 4 := by omega
  have ek : (nI k).toNatClampNeg = k := nI_clamp (by omega)
  refine lv_aload_n hx hb dL_begin_0 rfl (lv_at hl 2 rfl) ?_
  refine lv_iconst (v := (nI 0)) hx hb dL_begin_1 (by decide) ?_
  refine lv_aload_n hx hb dL_begin_2 rfl (lv_at hl 0 rfl) ?_
  refine lv_iload_n hx hb dL_begin_3 rfl (lv_at hl 1 rfl) ?_
  have hPc := hP.sub (ws' := [(d0, .inr (1, [.ref dc, .ref dr, .int kd, vc])), (dc, .inl (cQ, 5, .inr (.inr (.inr (.inr F))))), (dr, .inl (cA, 12, .inl rg))]) [0, 1, 2] rfl
  have hDc := hD.sub (ws' := [(d0, .inr (1, [.ref dc, .ref dr, .int kd, vc])), (dc, .inl (cQ, 5, .inr (.inr (.inr (.inr F))))), (dr, .inl (cA, 12, .inl rg))]) [0, 1, 2] (by decide) rfl
  have hFc := va_free (wc := [(d0, .inr (1, [.ref dc, .ref dr, .int kd, vc])), (dc, .inl (cQ, 5, .inr (.inr (.inr (.inr F))))), (dr, .inl (cA, 12, .inl rg))]) hD hS hA [0, 1, 2] rfl
  refine va_calli (va_runV (As := [.int (nI k)]) (rest := [.int (nI 0), .ref ou]) ⟨hx, hb, hml, hown, ht⟩ (c_X1_beginN l tp D hk5 hF s.heap.size) (cwV 1 ht (tb_V kl_L_7 ki_X1_begin ks_X1_begin kn_X1 kc_X1_begin) rfl rfl rfl ⟨rfl, kd_X1_begin⟩ ⟨Nat.le_of_ble_eq_true rfl, Nat.le_of_ble_eq_true rfl⟩) (wz_preV _ hPc (hK.sub (tys' := [(cA, .int), (cQ, .object RX0)]) [0, 1] rfl) hDc hZ hS hFc (va_recv (ci := 1) (q0 := 0) hK hP rfl rfl)) rfl rfl hl.1 rfl (lv_room (Nat.le_of_ble_eq_true rfl)) dL_begin_4 ⟨by show 0 + 7 ≤ 7; omega, by show 0 + (8 * tw_P k + 26) ≤ 8 * tw_P k + 26; omega⟩) hS (fun q _ h => hFc q h) hFc (fun r9 u9 t9 H1 locs ht9 hvm9 hw9 hB9 hz9 hk9 hS => ?_)
  obtain ⟨h0, ai, ar, af, ap, ah, ac, fi, fr, ff, ⟨hP1, hK1, hD1⟩, hok⟩ := hB9
  rw [ht9] at hP1
  obtain ⟨hP, hD⟩ := va_join (wr := [(ou, .inl (cL, 1, .inr (.inl fo)))]) (w1 := [(d0, .inr (1, [.ref dc, .ref dr, .int (nI k), .ref h0])), (dc, .inl (cQ, 5, .inr (.inr (.inr (.inr (va_up F k (some h0))))))), (dr, .inl (cA, 12, .inl u9)), (h0, .inr (0, [.int (nI (tw_P k)), .int (nI (tw_D k)), .int (nI (tw_I k)), .int (nI (tw_N k)), .ref ai, .ref ar, .ref af, .ref ap, .ref ah, .ref ac, .int (nI ((tw_fs k).length)), .int 0])), (ai, .inl (cA, tw_P k, .inl fi)), (ar, .inl (cA, tw_P k, .inl fr)), (af, .inl (cA, 14, .inl ff)), (ap, .inl (cA, 2 * tw_P k, .inl (fun _ => 0))), (ah, .inl (cA, 2 * tw_P k, .inl (fun _ => 0))), (ac, .inl (cA, 2 * tw_P k, .inl (fun _ => 0)))]) hP hD [0, 1, 2] [3] rfl rfl (by decide) (by decide) hk9 hFc hP1 hD1
  generalize H1 = H at hP hS hz9 ⊢
  have hP := hP.sub (ws' := [(d0, .inr (1, [.ref dc, .ref dr, .int (nI k), .ref h0])), (dc, .inl (cQ, 5, .inr (.inr (.inr (.inr (va_up F k (some h0))))))), (dr, .inl (cA, 12, .inl u9)), (h0, .inr (0, [.int (nI (tw_P k)), .int (nI (tw_D k)), .int (nI (tw_I k)), .int (nI (tw_N k)), .ref ai, .ref ar, .ref af, .ref ap, .ref ah, .ref ac, .int (nI ((tw_fs k).length)), .int 0])), (ai, .inl (cA, tw_P k, .inl fi)), (ar, .inl (cA, tw_P k, .inl fr)), (af, .inl (cA, 14, .inl ff)), (ap, .inl (cA, 2 * tw_P k, .inl (fun _ => 0))), (ah, .inl (cA, 2 * tw_P k, .inl (fun _ => 0))), (ac, .inl (cA, 2 * tw_P k, .inl (fun _ => 0))), (ou, .inl (cL, 1, .inr (.inl fo)))]) [1, 2, 3, 4, 5, 6, 7, 8, 9, 10, 0] rfl
  have hD := hD.sub (ws' := [(d0, .inr (1, [.ref dc, .ref dr, .int (nI k), .ref h0])), (dc, .inl (cQ, 5, .inr (.inr (.inr (.inr (va_up F k (some h0))))))), (dr, .inl (cA, 12, .inl u9)), (h0, .inr (0, [.int (nI (tw_P k)), .int (nI (tw_D k)), .int (nI (tw_I k)), .int (nI (tw_N k)), .ref ai, .ref ar, .ref af, .ref ap, .ref ah, .ref ac, .int (nI ((tw_fs k).length)), .int 0])), (ai, .inl (cA, tw_P k, .inl fi)), (ar, .inl (cA, tw_P k, .inl fr)), (af, .inl (cA, 14, .inl ff)), (ap, .inl (cA, 2 * tw_P k, .inl (fun _ => 0))), (ah, .inl (cA, 2 * tw_P k, .inl (fun _ => 0))), (ac, .inl (cA, 2 * tw_P k, .inl (fun _ => 0))), (ou, .inl (cL, 1, .inr (.inl fo)))]) [1, 2, 3, 4, 5, 6, 7, 8, 9, 10, 0] (by decide) rfl
  refine W.widen (k := 7) (n := 8 * tw_P k + 26) (by omega) (by omega) ?_
  refine lv_i2l (v := (r9).toInt64) hx hb dL_begin_7 rfl ?_
  refine va_last hx hb hK hP hD hS 10 2 rfl rfl (nv_in (a := 0) (n := 1) (by decide) (by decide)) dL_begin_8 (fun H locs hP hD hS => ?_)
  have hP : va_P D vwCl [(d0, .inr (1, [.ref dc, .ref dr, .int (nI k), .ref h0])), (dc, .inl (cQ, 5, .inr (.inr (.inr (.inr (va_up F k (some h0))))))), (dr, .inl (cA, 12, .inl u9)), (h0, .inr (0, [.int (nI (tw_P k)), .int (nI (tw_D k)), .int (nI (tw_I k)), .int (nI (tw_N k)), .ref ai, .ref ar, .ref af, .ref ap, .ref ah, .ref ac, .int (nI ((tw_fs k).length)), .int 0])), (ai, .inl (cA, tw_P k, .inl fi)), (ar, .inl (cA, tw_P k, .inl fr)), (af, .inl (cA, 14, .inl ff)), (ap, .inl (cA, 2 * tw_P k, .inl (fun _ => 0))), (ah, .inl (cA, 2 * tw_P k, .inl (fun _ => 0))), (ac, .inl (cA, 2 * tw_P k, .inl (fun _ => 0))), (ou, .inl (cL, 1, .inr (.inl (vp_updL fo 0 ((r9).toInt64)))))] H := hP
  have hD : va_D A [(d0, .inr (1, [.ref dc, .ref dr, .int (nI k), .ref h0])), (dc, .inl (cQ, 5, .inr (.inr (.inr (.inr (va_up F k (some h0))))))), (dr, .inl (cA, 12, .inl u9)), (h0, .inr (0, [.int (nI (tw_P k)), .int (nI (tw_D k)), .int (nI (tw_I k)), .int (nI (tw_N k)), .ref ai, .ref ar, .ref af, .ref ap, .ref ah, .ref ac, .int (nI ((tw_fs k).length)), .int 0])), (ai, .inl (cA, tw_P k, .inl fi)), (ar, .inl (cA, tw_P k, .inl fr)), (af, .inl (cA, 14, .inl ff)), (ap, .inl (cA, 2 * tw_P k, .inl (fun _ => 0))), (ah, .inl (cA, 2 * tw_P k, .inl (fun _ => 0))), (ac, .inl (cA, 2 * tw_P k, .inl (fun _ => 0))), (ou, .inl (cL, 1, .inr (.inl (vp_updL fo 0 ((r9).toInt64)))))] := hD
  refine lv_goto (tgt := 15) hx hb dL_begin_9 (by decide) ?_
  refine lv_iconst (v := (nI 0)) hx hb dL_begin_15 (by decide) ?_
  exact W.iret hx hb hr (fun t ht8 hW => ⟨⟨_, (u9, (vp_updL fo 0 ((r9).toInt64))), rfl, ⟨rfl, by show (r9).toInt64 = _; rw [hw9.1], hw9.2⟩, h0, ai, ar, af, ap, ah, ac, fi, fr, ff, ⟨by rw [ht8]; exact hP, va_K.moved hW.alike hK, hD⟩, hok⟩, hS.F ht8⟩) hS.2.2 dL_begin_16
