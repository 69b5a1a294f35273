/-! the desk: what reads alone -/
theorem lN_mask (j : Nat) {a : Nat} : lN a &&& lN (2 ^ j - 1) = lN (a % 2 ^ j) := by
  apply Int64.toBitVec_inj.mp
  show BitVec.ofNat 64 a &&& BitVec.ofNat 64 (2 ^ j - 1) = BitVec.ofNat 64 (a % 2 ^ j)
  rw [← BitVec.ofNat_and, Nat.and_two_pow_sub_one_eq_mod]
theorem lN_shl16 (a : Nat) : lN a <<< ((nI 16).toInt64 &&& 63) = lN (a * 2 ^ 16) := by
  have e : (nI 16).toInt64 &&& 63 = 16 := by decide
  rw [e]
  apply Int64.toBitVec_inj.mp
  show (BitVec.ofNat 64 a) <<< ((16 : Int64).toBitVec.smod 64) = BitVec.ofNat 64 (a * 2 ^ 16)
  have e2 : ((16 : Int64).toBitVec.smod 64) = 16#64 := by decide
  rw [e2]
  apply BitVec.eq_of_toNat_eq
  simp [Nat.shiftLeft_eq]
theorem tw_pk_le {p : Nat × Nat} (h : p.2 ≤ 8191) : tw_pk p ≤ 16383 := by
  unfold tw_pk
  omega
theorem tw_useb (R : Nat → Nat × Nat) : ∀ n, tw_sum (fun j => if R j = (0, 1) then 0 else 1) n ≤ n
  | 0 => Nat.le_refl _
  | n + 1 => by
    have a := tw_useb R n
    show tw_sum (fun j => if R j = (0, 1) then 0 else 1) n + (if R n = (0, 1) then 0 else 1) ≤ n + 1
    split <;> omega
/-- what count answers -/
def tw_ct (k : Nat) (R : Nat → Nat × Nat) (w : Nat) : Nat := match w with
  | 0 => k
  | 1 => tw_P k
  | 2 => tw_D k
  | 3 => tw_I k
  | _ => tw_sum (fun j => if R j = (0, 1) then 0 else 1) 12
set_option maxHeartbeats 4000000 in
set_option maxRecDepth 100000 in
theorem c_X1_needRegister (l : Launch) {j : Nat} (hj : j < 12) : Met l yX1_needRegister wX1_needRegister ({ frames := 0, cells := 0, slots := 0, locals := 0 }) (va_Pc [.int (nI j)] (fun _ => True)) (va_Sv (fun r => True)) 0 0 (fun _ => False) := by
  refine Met.ofW (cc := cX1_needRegister) (maxL := 1) (ret := none) (by decide) rfl ?_
  intro p e s m args below meth c s₁ B hml hv
  obtain ⟨rfl, hv⟩ := hv
  have hx := B.exec
  have hb := B.bytes
  have hr := B.returns
  have hts := atoms_spec (ws := wX1_needRegister) B.pre
  have ht : ∀ w ∈ tb_all, w.before _ s = true := fun w h => hts w (List.mem_cons_of_mem _ h)
  have hown : s.vm.findClass RX1 = some m.cls := findClass_of_methodNamed B.named
  have hlocks := B.notSynchronized
  have hl := lv_entry ([.int (nI j)]) (n := 1) (Nat.le_of_ble_eq_true rfl)
  rw [lg_entry_eq]
  generalize (lg_sl ([.int (nI j)]) ++ List.replicate (1 - (lg_sl ([.int (nI j)])).length) Slot.unset).toArray = ls at hl ⊢
  have hl : lv_has ls 1 [(0, .int (nI j))] := hl
  refine lv_iload_n hx hb dX1_needRegister_0 rfl (lv_at hl 0 rfl) ?_
  refine nv_if_lt (tgt := 10) hx hb dX1_needRegister_1 (by decide) (nv_le (b := 11) (Nat.le_of_lt_succ hj) (by decide)) ?_
  refine lv_iload_n hx hb dX1_needRegister_4 rfl (lv_at hl 0 rfl) ?_
  refine lv_bipush (v := (nI 12)) hx hb dX1_needRegister_5 (by decide) ?_
  refine nv_icmp_lt (tgt := 20) hx hb dX1_needRegister_7 (by decide) (nv_le (b := 11) (Nat.le_of_lt_succ hj) (by decide)) (nv_le (b := 12) (Nat.le_refl 12) (by decide)) (fun c7 => ?_) (fun c7 => ?_)
  · exact W.vret hx hb hr (fun t ht hW => ⟨rfl, trivial, ht⟩) (fun q h => nomatch h) dX1_needRegister_20
  · exact absurd hj (Nat.not_lt.mpr c7)
set_option maxHeartbeats 4000000 in
set_option maxRecDepth 100000 in
theorem c_X1_needNumber (l : Launch) {j : Nat} (hj : j ≤ 1073741824) : Met l yX1_needNumber wX1_needNumber ({ frames := 0, cells := 0, slots := 0, locals := 0 }) (va_Pc [.int (nI j)] (fun _ => True)) (va_Sv (fun r => True)) 0 0 (fun _ => False) := by
  refine Met.ofW (cc := cX1_needNumber) (maxL := 1) (ret := none) (by decide) rfl ?_
  intro p e s m args below meth c s₁ B hml hv
  obtain ⟨rfl, hv⟩ := hv
  have hx := B.exec
  have hb := B.bytes
  have hr := B.returns
  have hts := atoms_spec (ws := wX1_needNumber) B.pre
  have ht : ∀ w ∈ tb_all, w.before _ s = true := fun w h => hts w (List.mem_cons_of_mem _ h)
  have hown : s.vm.findClass RX1 = some m.cls := findClass_of_methodNamed B.named
  have hlocks := B.notSynchronized
  have hl := lv_entry ([.int (nI j)]) (n := 1) (Nat.le_of_ble_eq_true rfl)
  rw [lg_entry_eq]
  generalize (lg_sl ([.int (nI j)]) ++ List.replicate (1 - (lg_sl ([.int (nI j)])).length) Slot.unset).toArray = ls at hl ⊢
  have hl : lv_has ls 1 [(0, .int (nI j))] := hl
  refine lv_iload_n hx hb dX1_needNumber_0 rfl (lv_at hl 0 rfl) ?_
  refine nv_if_lt (tgt := 10) hx hb dX1_needNumber_1 (by decide) (nv_le (b := 1073741824) hj (by decide)) ?_
  refine lv_iload_n hx hb dX1_needNumber_4 rfl (lv_at hl 0 rfl) ?_
  refine lv_ldc (v := nI 1073741824) hx hb hown (ht _ kv_X1_148) dX1_needNumber_5 ?_
  refine nv_icmp_le (tgt := 20) hx hb dX1_needNumber_7 (by decide) (nv_le (b := 1073741824) hj (by decide)) (nv_le (b := 1073741824) (Nat.le_refl 1073741824) (by decide)) (fun c7 => ?_) (fun c7 => ?_)
  · exact W.vret hx hb hr (fun t ht hW => ⟨rfl, trivial, ht⟩) (fun q h => nomatch h) dX1_needNumber_20
  · exact absurd hj (Nat.not_le.mpr c7)
set_option maxHeartbeats 4000000 in
set_option maxRecDepth 100000 in
theorem c_X1_hash (l : Launch) {a b : Nat} (ha : a ≤ 16383) (hb1 : b ≤ 1073741824) : Met l yX1_hash wX1_hash ({ frames := 0, cells := 0, slots := 0, locals := 0 }) (va_Pc [.int (nI a), .int (nI b)] (fun _ => True)) (vp_Si (fun r => r = nI ((a + b) % 2 ^ 20))) 0 0 (fun _ => False) := by
  refine Met.ofW (cc := cX1_hash) (maxL := 2) (ret := (some .int)) (by decide) rfl ?_
  intro p e s m args below meth c s₁ B hml hv
  obtain ⟨rfl, hv⟩ := hv
  have hx := B.exec
  have hb := B.bytes
  have hr := B.returns
  have hts := atoms_spec (ws := wX1_hash) B.pre
  have ht : ∀ w ∈ tb_all, w.before _ s = true := fun w h => hts w (List.mem_cons_of_mem _ h)
  have hown : s.vm.findClass RX1 = some m.cls := findClass_of_methodNamed B.named
  have hlocks := B.notSynchronized
  have hl := lv_entry ([.int (nI a), .int (nI b)]) (n := 2) (Nat.le_of_ble_eq_true rfl)
  rw [lg_entry_eq]
  generalize (lg_sl ([.int (nI a), .int (nI b)]) ++ List.replicate (2 - (lg_sl ([.int (nI a), .int (nI b)])).length) Slot.unset).toArray = ls at hl ⊢
  have hl : lv_has ls 2 [(0, .int (nI a)), (1, .int (nI b))] := hl
  refine lv_iload_n hx hb dX1_hash_0 rfl (lv_at hl 0 rfl) ?_
  refine lv_iload_n hx hb dX1_hash_1 rfl (lv_at hl 1 rfl) ?_
  refine nv_iadd hx hb dX1_hash_2 ?_
  refine lv_ldc (v := nI 1048575) hx hb hown (ht _ kv_X1_142) dX1_hash_3 ?_
  refine nv_iand hx hb 20 dX1_hash_5 (Nat.lt_trans (nv_le (b := 1073758207) (Nat.add_le_add ha hb1) (by decide)) (by decide)) (by decide) ?_
  exact W.iret hx hb hr (fun t ht hW => ⟨_, rfl, rfl, ht⟩) (fun q h => nomatch h) dX1_hash_6
set_option maxHeartbeats 4000000 in
set_option maxRecDepth 100000 in
theorem c_X1_packed (l : Launch) (D : va_G) {k : Nat} (hk5 : k < 5) {d0 dc dr h0 ai ar af ap ah ac : Nat} {cA : ClassId} {hk : Int32} {rg fi fr ff fp fh fn : Nat → Int32} {R : Nat → Nat × Nat} (hok : cv_ok k fi fr ff) (hrg : ∀ j, j < 12 → tw_on (tw_P k) (tw_D k) (R j) ∧ rg j = nI (tw_en (R j))) {j : Nat} (hj : j < 12) : Met l yX1_packed wX1_packed ({ frames := 2, cells := 0, slots := 0, locals := 40 }) (va_Pc [.ref d0, .int (nI j)] (fun U => va_P D vwCl [(d0, .inr (1, [.ref dc, .ref dr, .int (nI k), .ref h0])), (dr, .inl (cA, 12, .inl rg)), (h0, .inr (0, [.int (nI (tw_P k)), .int (nI (tw_D k)), .int (nI (tw_I k)), .int (nI (tw_N k)), .ref ai, .ref ar, .ref af, .ref ap, .ref ah, .ref ac, .int (nI ((tw_fs k).length)), .int hk])), (ai, .inl (cA, tw_P k, .inl fi)), (ar, .inl (cA, tw_P k, .inl fr)), (af, .inl (cA, 14, .inl ff)), (ap, .inl (cA, 2 * tw_P k, .inl fp)), (ah, .inl (cA, 2 * tw_P k, .inl fh)), (ac, .inl (cA, 2 * tw_P k, .inl fn))] U.heap ∧ va_K D vwCl [(cA, .int)] U)) (vp_Si (fun r => r = nI (tw_pk (R j)))) 0 0 (fun _ => False) := by
  refine Met.ofW (cc := cX1_packed) (maxL := 2) (ret := (some .int)) (by decide) rfl ?_
  intro p e s m args below meth c s₁ B hml hv
  obtain ⟨rfl, hv⟩ := hv
  have hx := B.exec
  have hb := B.bytes
  have hr := B.returns
  have hts := atoms_spec (ws := wX1_packed) B.pre
  have ht : ∀ w ∈ tb_all, w.before _ s = true := fun w h => hts w (List.mem_cons_of_mem _ h)
  have hown : s.vm.findClass RX1 = some m.cls := findClass_of_methodNamed B.named
  have hlocks := B.notSynchronized
  have hl := lv_entry ([.ref d0, .int (nI j)]) (n := 2) (Nat.le_of_ble_eq_true rfl)
  rw [lg_entry_eq]
  generalize (lg_sl ([.ref d0, .int (nI j)]) ++ List.replicate (2 - (lg_sl ([.ref d0, .int (nI j)])).length) Slot.unset).toArray = ls at hl ⊢
  have hl : lv_has ls 2 [(0, .ref d0), (1, .int (nI j))] := hl
  obtain ⟨hP, hK⟩ := hv
  obtain ⟨hP0, hP2, hD2, hI2, hDP⟩ := tw_kb hk5
  have hK0 := tw_kK k hk5
  have hP8 : tw_P k ≤ 8192 := by omega
  have hN := tw_kN k hk5
  have zk : k ≤ 4 := by omega
  obtain ⟨hfi, hfr, hff⟩ := hok
  refine lv_iload_n hx hb dX1_packed_0 rfl (lv_at hl 1 rfl) ?_
  refine va_csv (W.runS (As := [.int (nI j)]) (rest := []) ⟨hx, hb, hml, hown, ht⟩ (c_X1_needRegister l hj) (va_cwS 1 ht (tb_S kl_X1_41 kt_X1_needRegister kn_X1 kc_X1_needRegister) rfl rfl rfl kd_X1_needRegister ⟨Nat.le_of_ble_eq_true rfl, Nat.le_of_ble_eq_true rfl⟩) (st_pre _) rfl rfl hl.1 rfl (lv_room (Nat.le_of_ble_eq_true rfl)) dX1_packed_1 ⟨Nat.zero_le _, Nat.zero_le _⟩) (fun _ => ?_)
  refine lv_aload_n hx hb dX1_packed_4 rfl (lv_at hl 0 rfl) ?_
  refine va_get (D := D) (ci := 1) (v := .ref dr) (C := RX1) (T := TX1) (N := 4) hx hb ht inX1 hown hK hP 0 rfl rfl 1 (by decide) (ht _ kf_X1_19) (fun _ h9 => h9) rfl dX1_packed_5 ?_
  refine lv_iload_n hx hb dX1_packed_8 rfl (lv_at hl 1 rfl) ?_
  refine nv_iald (A := fun _ => True) (H0 := s.heap) hx hb hK hP 1 0 rfl rfl hj (by decide) dX1_packed_9 ?_
  rw [(hrg _ hj).2]
  refine vp_callSi (W.runS (As := [.int (nI (tw_en (R j)))]) (rest := []) ⟨hx, hb, hml, hown, ht⟩ (c_X0_compress l (x := (R j).1) (y := (R j).2) (by have := ((hrg j hj).1).1; omega) (by have := ((hrg j hj).1).2.1; omega)) (va_cwS 1 ht (tb_S kl_X1_60 kt_X0_compress kn_X0 kc_X0_compress) rfl rfl rfl kd_X0_compress ⟨Nat.le_of_ble_eq_true rfl, Nat.le_of_ble_eq_true rfl⟩) (st_pre _) rfl rfl hl.1 rfl (lv_room (Nat.le_of_ble_eq_true rfl)) dX1_packed_10 ⟨Nat.zero_le _, Nat.zero_le _⟩) (fun r hr9 => ?_)
  subst hr9
  exact W.iret hx hb hr (fun t ht hW => ⟨_, rfl, rfl, ht⟩) (fun q h => nomatch h) dX1_packed_13
set_option maxHeartbeats 4000000 in
set_option maxRecDepth 100000 in
theorem c_X1_get (l : Launch) (D : va_G) {k : Nat} (hk5 : k < 5) {d0 dc dr h0 ai ar af ap ah ac : Nat} {cA : ClassId} {hk : Int32} {rg fi fr ff fp fh fn : Nat → Int32} {R : Nat → Nat × Nat} (hok : cv_ok k fi fr ff) (hrg : ∀ j, j < 12 → tw_on (tw_P k) (tw_D k) (R j) ∧ rg j = nI (tw_en (R j))) {j b : Nat} (hj : j < 12) (hb1 : b ≤ 1) : Met l yX1_get wX1_get ({ frames := 1, cells := 0, slots := 0, locals := 20 }) (va_Pc [.ref d0, .int (nI j), .int (nI b)] (fun U => va_P D vwCl [(d0, .inr (1, [.ref dc, .ref dr, .int (nI k), .ref h0])), (dr, .inl (cA, 12, .inl rg)), (h0, .inr (0, [.int (nI (tw_P k)), .int (nI (tw_D k)), .int (nI (tw_I k)), .int (nI (tw_N k)), .ref ai, .ref ar, .ref af, .ref ap, .ref ah, .ref ac, .int (nI ((tw_fs k).length)), .int hk])), (ai, .inl (cA, tw_P k, .inl fi)), (ar, .inl (cA, tw_P k, .inl fr)), (af, .inl (cA, 14, .inl ff)), (ap, .inl (cA, 2 * tw_P k, .inl fp)), (ah, .inl (cA, 2 * tw_P k, .inl fh)), (ac, .inl (cA, 2 * tw_P k, .inl fn))] U.heap ∧ va_K D vwCl [(cA, .int)] U)) (vp_Si (fun r => r = nI (if b = 0 then (R j).1 else (R j).2))) 0 0 (fun _ => False) := by
  refine Met.ofW (cc := cX1_get) (maxL := 3) (ret := (some .int)) (by decide) rfl ?_
  intro p e s m args below meth c s₁ B hml hv
  obtain ⟨rfl, hv⟩ := hv
  have hx := B.exec
  have hb := B.bytes
  have hr := B.returns
  have hts := atoms_spec (ws := wX1_get) B.pre
  have ht : ∀ w ∈ tb_all, w.before _ s = true := fun w h => hts w (List.mem_cons_of_mem _ h)
  have hown : s.vm.findClass RX1 = some m.cls := findClass_of_methodNamed B.named
  have hlocks := B.notSynchronized
  have hl := lv_entry ([.ref d0, .int (nI j), .int (nI b)]) (n := 3) (Nat.le_of_ble_eq_true rfl)
  rw [lg_entry_eq]
  generalize (lg_sl ([.ref d0, .int (nI j), .int (nI b)]) ++ List.replicate (3 - (lg_sl ([.ref d0, .int (nI j), .int (nI b)])).length) Slot.unset).toArray = ls at hl ⊢
  have hl : lv_has ls 3 [(0, .ref d0), (1, .int (nI j)), (2, .int (nI b))] := hl
  obtain ⟨hP, hK⟩ := hv
  obtain ⟨hP0, hP2, hD2, hI2, hDP⟩ := tw_kb hk5
  have hK0 := tw_kK k hk5
  have hP8 : tw_P k ≤ 8192 := by omega
  have hN := tw_kN k hk5
  have zk : k ≤ 4 := by omega
  obtain ⟨hfi, hfr, hff⟩ := hok
  refine lv_iload_n hx hb dX1_get_0 rfl (lv_at hl 1 rfl) ?_
  refine va_csv (W.runS (As := [.int (nI j)]) (rest := []) ⟨hx, hb, hml, hown, ht⟩ (c_X1_needRegister l hj) (va_cwS 1 ht (tb_S kl_X1_41 kt_X1_needRegister kn_X1 kc_X1_needRegister) rfl rfl rfl kd_X1_needRegister ⟨Nat.le_of_ble_eq_true rfl, Nat.le_of_ble_eq_true rfl⟩) (st_pre _) rfl rfl hl.1 rfl (lv_room (Nat.le_of_ble_eq_true rfl)) dX1_get_1 ⟨Nat.zero_le _, Nat.zero_le _⟩) (fun _ => ?_)
  refine lv_iload_n hx hb dX1_get_4 rfl (lv_at hl 2 rfl) ?_
  refine nv_if_eq (tgt := 20) hx hb dX1_get_5 (by decide) (nv_le (b := 1) hb1 (by decide)) (fun c5 => ?_) (fun c5 => ?_)
  · refine lv_aload_n hx hb dX1_get_20 rfl (lv_at hl 0 rfl) ?_
    refine va_get (D := D) (ci := 1) (v := .ref dr) (C := RX1) (T := TX1) (N := 4) hx hb ht inX1 hown hK hP 0 rfl rfl 1 (by decide) (ht _ kf_X1_19) (fun _ h9 => h9) rfl dX1_get_21 ?_
    refine lv_iload_n hx hb dX1_get_24 rfl (lv_at hl 1 rfl) ?_
    refine nv_iald (A := fun _ => True) (H0 := s.heap) hx hb hK hP 1 0 rfl rfl hj (by decide) dX1_get_25 ?_
    rw [(hrg _ hj).2]
    refine vp_callSi (W.runS (As := [.int (nI (tw_en (R j)))]) (rest := []) ⟨hx, hb, hml, hown, ht⟩ (c_X0_xOf l (x := (R j).1) (y := (R j).2) (by have := (hrg j hj).1.1; omega) (by have := (hrg j hj).1.2.1; omega)) (va_cwS 1 ht (tb_S kl_X1_66 kt_X0_xOf kn_X0 kc_X0_xOf) rfl rfl rfl kd_X0_xOf ⟨Nat.le_of_ble_eq_true rfl, Nat.le_of_ble_eq_true rfl⟩) (st_pre _) rfl rfl hl.1 rfl (lv_room (Nat.le_of_ble_eq_true rfl)) dX1_get_26 ⟨Nat.zero_le _, Nat.zero_le _⟩) (fun r hr9 => ?_)
    subst hr9
    exact W.iret hx hb hr (fun t ht hW => ⟨_, rfl, by rw [if_pos c5], ht⟩) (fun q h => nomatch h) dX1_get_29
  · refine lv_aload_n hx hb dX1_get_8 rfl (lv_at hl 0 rfl) ?_
    refine va_get (D := D) (ci := 1) (v := .ref dr) (C := RX1) (T := TX1) (N := 4) hx hb ht inX1 hown hK hP 0 rfl rfl 1 (by decide) (ht _ kf_X1_19) (fun _ h9 => h9) rfl dX1_get_9 ?_
    refine lv_iload_n hx hb dX1_get_12 rfl (lv_at hl 1 rfl) ?_
    refine nv_iald (A := fun _ => True) (H0 := s.heap) hx hb hK hP 1 0 rfl rfl hj (by decide) dX1_get_13 ?_
    rw [(hrg _ hj).2]
    refine vp_callSi (W.runS (As := [.int (nI (tw_en (R j)))]) (rest := []) ⟨hx, hb, hml, hown, ht⟩ (c_X0_yOf l (x := (R j).1) (y := (R j).2) (by have := (hrg j hj).1.1; omega) (by have := (hrg j hj).1.2.1; omega)) (va_cwS 1 ht (tb_S kl_X1_63 kt_X0_yOf kn_X0 kc_X0_yOf) rfl rfl rfl kd_X0_yOf ⟨Nat.le_of_ble_eq_true rfl, Nat.le_of_ble_eq_true rfl⟩) (st_pre _) rfl rfl hl.1 rfl (lv_room (Nat.le_of_ble_eq_true rfl)) dX1_get_14 ⟨Nat.zero_le _, Nat.zero_le _⟩) (fun r hr9 => ?_)
    subst hr9
    refine lv_goto (tgt := 29) hx hb dX1_get_17 (by decide) ?_
    exact W.iret hx hb hr (fun t ht hW => ⟨_, rfl, by rw [if_neg (by omega)], ht⟩) (fun q h => nomatch h) dX1_get_29
set_option maxHeartbeats 4000000 in
set_option maxRecDepth 100000 in
theorem c_X1_order (l : Launch) (D : va_G) {k : Nat} (hk5 : k < 5) {d0 dc dr h0 ai ar af ap ah ac : Nat} {cA : ClassId} {hk : Int32} {rg fi fr ff fp fh fn : Nat → Int32} {R : Nat → Nat × Nat} (hok : cv_ok k fi fr ff) (hrg : ∀ j, j < 12 → tw_on (tw_P k) (tw_D k) (R j) ∧ rg j = nI (tw_en (R j))) {j : Nat} (hj : j < 12) : Met l yX1_order wX1_order ({ frames := 4, cells := 0, slots := 0, locals := 100 }) (va_Pc [.ref d0, .int (nI j)] (fun U => va_P D vwCl [(d0, .inr (1, [.ref dc, .ref dr, .int (nI k), .ref h0])), (dr, .inl (cA, 12, .inl rg)), (h0, .inr (0, [.int (nI (tw_P k)), .int (nI (tw_D k)), .int (nI (tw_I k)), .int (nI (tw_N k)), .ref ai, .ref ar, .ref af, .ref ap, .ref ah, .ref ac, .int (nI ((tw_fs k).length)), .int hk])), (ai, .inl (cA, tw_P k, .inl fi)), (ar, .inl (cA, tw_P k, .inl fr)), (af, .inl (cA, 14, .inl ff)), (ap, .inl (cA, 2 * tw_P k, .inl fp)), (ah, .inl (cA, 2 * tw_P k, .inl fh)), (ac, .inl (cA, 2 * tw_P k, .inl fn))] U.heap ∧ va_K D vwCl [(cA, .int)] U)) (vp_Si (fun r => r = nI (tw_od (tw_P k) (tw_D k) (tw_N k) (R j)))) 0 0 (fun _ => False) := by
  refine Met.ofW (cc := cX1_order) (maxL := 2) (ret := (some .int)) (by decide) rfl ?_
  intro p e s m args below meth c s₁ B hml hv
  obtain ⟨rfl, hv⟩ := hv
  have hx := B.exec
  have hb := B.bytes
  have hr := B.returns
  have hts := atoms_spec (ws := wX1_order) B.pre
  have ht : ∀ w ∈ tb_all, w.before _ s = true := fun w h => hts w (List.mem_cons_of_mem _ h)
  have hown : s.vm.findClass RX1 = some m.cls := findClass_of_methodNamed B.named
  have hlocks := B.notSynchronized
  have hl := lv_entry ([.ref d0, .int (nI j)]) (n := 2) (Nat.le_of_ble_eq_true rfl)
  rw [lg_entry_eq]
  generalize (lg_sl ([.ref d0, .int (nI j)]) ++ List.replicate (2 - (lg_sl ([.ref d0, .int (nI j)])).length) Slot.unset).toArray = ls at hl ⊢
  have hl : lv_has ls 2 [(0, .ref d0), (1, .int (nI j))] := hl
  obtain ⟨hP, hK⟩ := hv
  obtain ⟨hP0, hP2, hD2, hI2, hDP⟩ := tw_kb hk5
  have hK0 := tw_kK k hk5
  have hP8 : tw_P k ≤ 8192 := by omega
  have hN := tw_kN k hk5
  have zk : k ≤ 4 := by omega
  obtain ⟨hfi, hfr, hff⟩ := hok
  refine lv_iload_n hx hb dX1_order_0 rfl (lv_at hl 1 rfl) ?_
  refine va_csv (W.runS (As := [.int (nI j)]) (rest := []) ⟨hx, hb, hml, hown, ht⟩ (c_X1_needRegister l hj) (va_cwS 1 ht (tb_S kl_X1_41 kt_X1_needRegister kn_X1 kc_X1_needRegister) rfl rfl rfl kd_X1_needRegister ⟨Nat.le_of_ble_eq_true rfl, Nat.le_of_ble_eq_true rfl⟩) (st_pre _) rfl rfl hl.1 rfl (lv_room (Nat.le_of_ble_eq_true rfl)) dX1_order_1 ⟨Nat.zero_le _, Nat.zero_le _⟩) (fun _ => ?_)
  refine lv_aload_n hx hb dX1_order_4 rfl (lv_at hl 0 rfl) ?_
  refine va_get (D := D) (ci := 1) (v := .ref h0) (C := RX1) (T := TX1) (N := 4) hx hb ht inX1 hown hK hP 0 rfl rfl 3 (by decide) (ht _ kf_X1_33) (fun _ h9 => h9) rfl dX1_order_5 ?_
  refine lv_aload_n hx hb dX1_order_8 rfl (lv_at hl 0 rfl) ?_
  refine va_get (D := D) (ci := 1) (v := .ref dr) (C := RX1) (T := TX1) (N := 4) hx hb ht inX1 hown hK hP 0 rfl rfl 1 (by decide) (ht _ kf_X1_19) (fun _ h9 => h9) rfl dX1_order_9 ?_
  refine lv_iload_n hx hb dX1_order_12 rfl (lv_at hl 1 rfl) ?_
  refine nv_iald (A := fun _ => True) (H0 := s.heap) hx hb hK hP 1 0 rfl rfl hj (by decide) dX1_order_13 ?_
  rw [(hrg _ hj).2]
  refine vp_callSi (W.runV (As := [.int (nI (tw_en (R j)))]) (rest := []) ⟨hx, hb, hml, hown, ht⟩ (c_X0_orderOf l D hk5 hff (hrg j hj).1) (cwV 1 ht (tb_V kl_X1_82 ki_X0_orderOf ks_X0_orderOf kn_X0 kc_X0_orderOf) rfl rfl rfl ⟨rfl, kd_X0_orderOf⟩ ⟨Nat.le_of_ble_eq_true rfl, Nat.le_of_ble_eq_true rfl⟩) (cv_preH (hP.sub (ws' := [(h0, .inr (0, [.int (nI (tw_P k)), .int (nI (tw_D k)), .int (nI (tw_I k)), .int (nI (tw_N k)), .ref ai, .ref ar, .ref af, .ref ap, .ref ah, .ref ac, .int (nI ((tw_fs k).length)), .int hk])), (ai, .inl (cA, tw_P k, .inl fi)), (ar, .inl (cA, tw_P k, .inl fr)), (af, .inl (cA, 14, .inl ff)), (ap, .inl (cA, 2 * tw_P k, .inl fp)), (ah, .inl (cA, 2 * tw_P k, .inl fh)), (ac, .inl (cA, 2 * tw_P k, .inl fn))]) [2, 3, 4, 5, 6, 7, 8] rfl) hK hfi hfr _) rfl rfl hl.1 rfl (lv_room (Nat.le_of_ble_eq_true rfl)) dX1_order_14 ⟨Nat.zero_le _, Nat.zero_le _⟩) (fun r hr9 => ?_)
  subst hr9
  exact W.iret hx hb hr (fun t ht hW => ⟨_, rfl, rfl, ht⟩) (fun q h => nomatch h) dX1_order_17
set_option maxHeartbeats 4000000 in
set_option maxRecDepth 100000 in
theorem c_X1_points (l : Launch) (D : va_G) {k : Nat} (hk5 : k < 5) {d0 dc dr h0 ai ar af ap ah ac : Nat} {cA : ClassId} {hk : Int32} {rg fi fr ff fp fh fn : Nat → Int32} {R : Nat → Nat × Nat} (hok : cv_ok k fi fr ff) (hrg : ∀ j, j < 12 → tw_on (tw_P k) (tw_D k) (R j) ∧ rg j = nI (tw_en (R j))) : Met l yX1_points wX1_points ({ frames := 0, cells := 0, slots := 0, locals := 0 }) (va_Pc [.ref d0] (fun U => va_P D vwCl [(d0, .inr (1, [.ref dc, .ref dr, .int (nI k), .ref h0])), (dr, .inl (cA, 12, .inl rg)), (h0, .inr (0, [.int (nI (tw_P k)), .int (nI (tw_D k)), .int (nI (tw_I k)), .int (nI (tw_N k)), .ref ai, .ref ar, .ref af, .ref ap, .ref ah, .ref ac, .int (nI ((tw_fs k).length)), .int hk])), (ai, .inl (cA, tw_P k, .inl fi)), (ar, .inl (cA, tw_P k, .inl fr)), (af, .inl (cA, 14, .inl ff)), (ap, .inl (cA, 2 * tw_P k, .inl fp)), (ah, .inl (cA, 2 * tw_P k, .inl fh)), (ac, .inl (cA, 2 * tw_P k, .inl fn))] U.heap ∧ va_K D vwCl [(cA, .int)] U)) (vp_Si (fun r => r = nI (tw_N k))) 0 0 (fun _ => False) := by
  refine Met.ofW (cc := cX1_points) (maxL := 1) (ret := (some .int)) (by decide) rfl ?_
  intro p e s m args below meth c s₁ B hml hv
  obtain ⟨rfl, hv⟩ := hv
  have hx := B.exec
  have hb := B.bytes
  have hr := B.returns
  have hts := atoms_spec (ws := wX1_points) B.pre
  have ht : ∀ w ∈ tb_all, w.before _ s = true := fun w h => hts w (List.mem_cons_of_mem _ h)
  have hown : s.vm.findClass RX1 = some m.cls := findClass_of_methodNamed B.named
  have hlocks := B.notSynchronized
  have hl := lv_entry ([.ref d0]) (n := 1) (Nat.le_of_ble_eq_true rfl)
  rw [lg_entry_eq]
  generalize (lg_sl ([.ref d0]) ++ List.replicate (1 - (lg_sl ([.ref d0])).length) Slot.unset).toArray = ls at hl ⊢
  have hl : lv_has ls 1 [(0, .ref d0)] := hl
  obtain ⟨hP, hK⟩ := hv
  obtain ⟨hP0, hP2, hD2, hI2, hDP⟩ := tw_kb hk5
  have hK0 := tw_kK k hk5
  have hP8 : tw_P k ≤ 8192 := by omega
  have hN := tw_kN k hk5
  have zk : k ≤ 4 := by omega
  obtain ⟨hfi, hfr, hff⟩ := hok
  refine lv_aload_n hx hb dX1_points_0 rfl (lv_at hl 0 rfl) ?_
  refine va_get (D := D) (ci := 1) (v := .ref h0) (C := RX1) (T := TX1) (N := 4) hx hb ht inX1 hown hK hP 0 rfl rfl 3 (by decide) (ht _ kf_X1_33) (fun _ h9 => h9) rfl dX1_points_1 ?_
  refine va_get (D := D) (ci := 0) (v := .int (nI (tw_N k))) (C := RX0) (T := TX0) (N := 12) hx hb ht inX0 hown hK hP 2 rfl rfl 3 (by decide) (ht _ kf_X1_85) (fun _ h9 => h9) rfl dX1_points_4 ?_
  exact W.iret hx hb hr (fun t ht hW => ⟨_, rfl, rfl, ht⟩) (fun q h => nomatch h) dX1_points_7
set_option maxHeartbeats 4000000 in
set_option maxRecDepth 100000 in
theorem c_X1_base (l : Launch) (D : va_G) {k : Nat} (hk5 : k < 5) {d0 dc dr h0 ai ar af ap ah ac : Nat} {cA : ClassId} {hk : Int32} {rg fi fr ff fp fh fn : Nat → Int32} {R : Nat → Nat × Nat} (hok : cv_ok k fi fr ff) (hrg : ∀ j, j < 12 → tw_on (tw_P k) (tw_D k) (R j) ∧ rg j = nI (tw_en (R j))) : Met l yX1_base wX1_base ({ frames := 5, cells := 0, slots := 0, locals := 125 }) (va_Pc [.ref d0] (fun U => va_P D vwCl [(d0, .inr (1, [.ref dc, .ref dr, .int (nI k), .ref h0])), (dr, .inl (cA, 12, .inl rg)), (h0, .inr (0, [.int (nI (tw_P k)), .int (nI (tw_D k)), .int (nI (tw_I k)), .int (nI (tw_N k)), .ref ai, .ref ar, .ref af, .ref ap, .ref ah, .ref ac, .int (nI ((tw_fs k).length)), .int hk])), (ai, .inl (cA, tw_P k, .inl fi)), (ar, .inl (cA, tw_P k, .inl fr)), (af, .inl (cA, 14, .inl ff)), (ap, .inl (cA, 2 * tw_P k, .inl fp)), (ah, .inl (cA, 2 * tw_P k, .inl fh)), (ac, .inl (cA, 2 * tw_P k, .inl fn))] U.heap ∧ va_K D vwCl [(cA, .int)] U)) (vp_Si (fun r => r = nI (tw_bst (tw_P k) (tw_D k) (tw_N k) 16384).2)) 0 0 (fun _ => False) := by
  refine Met.ofW (cc := cX1_base) (maxL := 1) (ret := (some .int)) (by decide) rfl ?_
  intro p e s m args below meth c s₁ B hml hv
  obtain ⟨rfl, hv⟩ := hv
  have hx := B.exec
  have hb := B.bytes
  have hr := B.returns
  have hts := atoms_spec (ws := wX1_base) B.pre
  have ht : ∀ w ∈ tb_all, w.before _ s = true := fun w h => hts w (List.mem_cons_of_mem _ h)
  have hown : s.vm.findClass RX1 = some m.cls := findClass_of_methodNamed B.named
  have hlocks := B.notSynchronized
  have hl := lv_entry ([.ref d0]) (n := 1) (Nat.le_of_ble_eq_true rfl)
  rw [lg_entry_eq]
  generalize (lg_sl ([.ref d0]) ++ List.replicate (1 - (lg_sl ([.ref d0])).length) Slot.unset).toArray = ls at hl ⊢
  have hl : lv_has ls 1 [(0, .ref d0)] := hl
  obtain ⟨hP, hK⟩ := hv
  obtain ⟨hP0, hP2, hD2, hI2, hDP⟩ := tw_kb hk5
  have hK0 := tw_kK k hk5
  have hP8 : tw_P k ≤ 8192 := by omega
  have hN := tw_kN k hk5
  have zk : k ≤ 4 := by omega
  obtain ⟨hfi, hfr, hff⟩ := hok
  refine lv_aload_n hx hb dX1_base_0 rfl (lv_at hl 0 rfl) ?_
  refine va_get (D := D) (ci := 1) (v := .ref h0) (C := RX1) (T := TX1) (N := 4) hx hb ht inX1 hown hK hP 0 rfl rfl 3 (by decide) (ht _ kf_X1_33) (fun _ h9 => h9) rfl dX1_base_1 ?_
  refine vp_callSi (W.runV (As := []) (rest := []) ⟨hx, hb, hml, hown, ht⟩ (c_X0_leastOfGreatestOrder l D hk5 hff) (cwV 0 ht (tb_V kl_X1_88 ki_X0_leastOfGreatestOrder ks_X0_leastOfGreatestOrder kn_X0 kc_X0_leastOfGreatestOrder) rfl rfl rfl ⟨rfl, kd_X0_leastOfGreatestOrder⟩ ⟨Nat.le_of_ble_eq_true rfl, Nat.le_of_ble_eq_true rfl⟩) (cv_preH (hP.sub (ws' := [(h0, .inr (0, [.int (nI (tw_P k)), .int (nI (tw_D k)), .int (nI (tw_I k)), .int (nI (tw_N k)), .ref ai, .ref ar, .ref af, .ref ap, .ref ah, .ref ac, .int (nI ((tw_fs k).length)), .int hk])), (ai, .inl (cA, tw_P k, .inl fi)), (ar, .inl (cA, tw_P k, .inl fr)), (af, .inl (cA, 14, .inl ff)), (ap, .inl (cA, 2 * tw_P k, .inl fp)), (ah, .inl (cA, 2 * tw_P k, .inl fh)), (ac, .inl (cA, 2 * tw_P k, .inl fn))]) [2, 3, 4, 5, 6, 7, 8] rfl) hK hfi hfr _) rfl rfl hl.1 rfl (lv_room (Nat.le_of_ble_eq_true rfl)) dX1_base_4 ⟨Nat.zero_le _, Nat.zero_le _⟩) (fun r hr9 => ?_)
  subst hr9
  exact W.iret hx hb hr (fun t ht hW => ⟨_, rfl, rfl, ht⟩) (fun q h => nomatch h) dX1_base_7
set_option maxHeartbeats 4000000 in
set_option maxRecDepth 100000 in
theorem c_X1_registersInUse (l : Launch) (D : va_G) {k : Nat} (hk5 : k < 5) {d0 dc dr h0 ai ar af ap ah ac : Nat} {cA : ClassId} {hk : Int32} {rg fi fr ff fp fh fn : Nat → Int32} {R : Nat → Nat × Nat} (hok : cv_ok k fi fr ff) (hrg : ∀ j, j < 12 → tw_on (tw_P k) (tw_D k) (R j) ∧ rg j = nI (tw_en (R j))) : Met l yX1_registersInUse wX1_registersInUse ({ frames := 0, cells := 0, slots := 0, locals := 0 }) (va_Pc [.ref d0] (fun U => va_P D vwCl [(d0, .inr (1, [.ref dc, .ref dr, .int (nI k), .ref h0])), (dr, .inl (cA, 12, .inl rg)), (h0, .inr (0, [.int (nI (tw_P k)), .int (nI (tw_D k)), .int (nI (tw_I k)), .int (nI (tw_N k)), .ref ai, .ref ar, .ref af, .ref ap, .ref ah, .ref ac, .int (nI ((tw_fs k).length)), .int hk])), (ai, .inl (cA, tw_P k, .inl fi)), (ar, .inl (cA, tw_P k, .inl fr)), (af, .inl (cA, 14, .inl ff)), (ap, .inl (cA, 2 * tw_P k, .inl fp)), (ah, .inl (cA, 2 * tw_P k, .inl fh)), (ac, .inl (cA, 2 * tw_P k, .inl fn))] U.heap ∧ va_K D vwCl [(cA, .int)] U)) (vp_Si (fun r => r = nI (tw_sum (fun j => if R j = (0, 1) then 0 else 1) 12))) 0 0 (fun _ => False) := by
  refine Met.ofW (cc := cX1_registersInUse) (maxL := 6) (ret := (some .int)) (by decide) rfl ?_
  intro p e s m args below meth c s₁ B hml hv
  obtain ⟨rfl, hv⟩ := hv
  have hx := B.exec
  have hb := B.bytes
  have hr := B.returns
  have hts := atoms_spec (ws := wX1_registersInUse) B.pre
  have ht : ∀ w ∈ tb_all, w.before _ s = true := fun w h => hts w (List.mem_cons_of_mem _ h)
  have hown : s.vm.findClass RX1 = some m.cls := findClass_of_methodNamed B.named
  have hlocks := B.notSynchronized
  have hl := lv_entry ([.ref d0]) (n := 6) (Nat.le_of_ble_eq_true rfl)
  rw [lg_entry_eq]
  generalize (lg_sl ([.ref d0]) ++ List.replicate (6 - (lg_sl ([.ref d0])).length) Slot.unset).toArray = ls at hl ⊢
  have hl : lv_has ls 6 [(0, .ref d0)] := hl
  obtain ⟨hP, hK⟩ := hv
  obtain ⟨hP0, hP2, hD2, hI2, hDP⟩ := tw_kb hk5
  have hK0 := tw_kK k hk5
  have hP8 : tw_P k ≤ 8192 := by omega
  have hN := tw_kN k hk5
  have zk : k ≤ 4 := by omega
  obtain ⟨hfi, hfr, hff⟩ := hok
  refine lv_iconst (v := (nI 0)) hx hb dX1_registersInUse_0 (by decide) ?_
  refine lv_istore_n hx hb dX1_registersInUse_1 rfl hl (by decide) rfl (fun ls hl => ?_)
  have hl : lv_has ls 6 [(1, .int (nI 0)), (0, .ref d0)] := hl
  refine lv_aload_n hx hb dX1_registersInUse_2 rfl (lv_at hl 1 rfl) ?_
  refine va_get (D := D) (ci := 1) (v := .ref dr) (C := RX1) (T := TX1) (N := 4) hx hb ht inX1 hown hK hP 0 rfl rfl 1 (by decide) (ht _ kf_X1_19) (fun _ h9 => h9) rfl dX1_registersInUse_3 ?_
  refine lv_astore_n hx hb dX1_registersInUse_6 rfl hl (by decide) rfl (fun ls hl => ?_)
  have hl : lv_has ls 6 [(2, .ref dr), (1, .int (nI 0)), (0, .ref d0)] := hl
  refine lv_aload_n hx hb dX1_registersInUse_7 rfl (lv_at hl 0 rfl) ?_
  refine va_alen (v := nI 12) hx hb hK hP 1 0 rfl rfl rfl dX1_registersInUse_8 ?_
  refine lv_istore_n hx hb dX1_registersInUse_9 rfl hl (by decide) rfl (fun ls hl => ?_)
  have hl : lv_has ls 6 [(3, .int (nI 12)), (2, .ref dr), (1, .int (nI 0)), (0, .ref d0)] := hl
  refine lv_iconst (v := (nI 0)) hx hb dX1_registersInUse_10 (by decide) ?_
  refine lv_istore hx hb dX1_registersInUse_11 hl (by decide) rfl (fun ls hl => ?_)
  have hl : lv_has ls 6 [(4, .int (nI 0)), (3, .int (nI 12)), (2, .ref dr), (1, .int (nI 0)), (0, .ref d0)] := hl
  have loop : ∀ (f9 i : Nat) (ls : Array Slot), 12 - i < f9 → i ≤ 12 → lv_has ls 6 [(4, .int (nI i)), (3, .int (nI 12)), (2, .ref dr), (1, .int (nI (tw_sum (fun j => if R j = (0, 1) then 0 else 1) i))), (0, .ref d0)] → W p l e (headSpec wX1_registersInUse ({ frames := 0, cells := 0, slots := 0, locals := 0 })).room s m ([.ref d0]).toArray below meth c s.heap [] 0 0 (MQ below (vp_Si (fun r => r = nI (tw_sum (fun j => if R j = (0, 1) then 0 else 1) 12))) ([.ref d0]).toArray s 0 0 (fun _ => False)) (F0 m 13 ls []) := by
    intro f9
    induction f9 with
    | zero => intro i ls h1; exact absurd h1 (Nat.not_lt_zero _)
    | succ f9 ih =>
      intro i ls h1 h2 hl
      have zs : tw_sum (fun j => if R j = (0, 1) then 0 else 1) i ≤ 12 := Nat.le_trans (tw_useb R i) h2
      refine lv_iload hx hb dX1_registersInUse_13 (lv_at hl 0 rfl) ?_
      refine lv_iload_n hx hb dX1_registersInUse_15 rfl (lv_at hl 1 rfl) ?_
      refine nv_icmp_ge (tgt := 40) hx hb dX1_registersInUse_16 (by decide) (nv_le (b := 12) h2 (by decide)) (nv_le (b := 12) (Nat.le_refl 12) (by decide)) (fun c16 => ?_) (fun c16 => ?_)
      · have e8 : i = 12 := Nat.le_antisymm h2 c16
        subst e8
        refine lv_iload_n hx hb dX1_registersInUse_40 rfl (lv_at hl 3 rfl) ?_
        exact W.iret hx hb hr (fun t ht hW => ⟨_, rfl, rfl, ht⟩) (fun q h => nomatch h) dX1_registersInUse_41
      · refine lv_aload_n hx hb dX1_registersInUse_19 rfl (lv_at hl 2 rfl) ?_
        refine lv_iload hx hb dX1_registersInUse_20 (lv_at hl 0 rfl) ?_
        refine nv_iald (A := fun _ => True) (H0 := s.heap) hx hb hK hP 1 0 rfl rfl c16 (by decide) dX1_registersInUse_22 ?_
        rw [(hrg _ c16).2]
        refine lv_istore hx hb dX1_registersInUse_23 hl (by decide) rfl (fun ls hl => ?_)
        have hl : lv_has ls 6 [(5, .int (nI (tw_en (R i)))), (4, .int (nI i)), (3, .int (nI 12)), (2, .ref dr), (1, .int (nI (tw_sum (fun j => if R j = (0, 1) then 0 else 1) i))), (0, .ref d0)] := hl
        refine lv_iload hx hb dX1_registersInUse_25 (lv_at hl 0 rfl) ?_
        refine lv_iconst (v := (nI 1)) hx hb dX1_registersInUse_27 (by decide) ?_
        have h1e := tw_en_1 (p := R i) (by have := (hrg i c16).1.2.1; omega)
        refine nv_icmp_eq (tgt := 34) hx hb dX1_registersInUse_28 (by decide) (nv_le (b := 67108863) (tw_en_le hP2 (hrg _ c16).1) (by decide)) (nv_le (b := 1) (Nat.le_refl 1) (by decide)) (fun c28 => ?_) (fun c28 => ?_)
        · refine lv_iinc hx hb dX1_registersInUse_34 hl (k := 1) rfl nv_inc (by decide) rfl (fun ls hl => ?_)
          have hl : lv_has ls 6 [(4, .int (nI (i + 1))), (5, .int (nI (tw_en (R i)))), (3, .int (nI 12)), (2, .ref dr), (1, .int (nI (tw_sum (fun j => if R j = (0, 1) then 0 else 1) i))), (0, .ref d0)] := hl
          refine lv_goto (tgt := 13) hx hb dX1_registersInUse_37 (by decide) ?_
          refine ih (i + 1) ls (by omega) (by omega) ?_
          have e7 : tw_sum (fun j => if R j = (0, 1) then 0 else 1) (i + 1) = tw_sum (fun j => if R j = (0, 1) then 0 else 1) i + 0 := by show _ + (if R i = (0, 1) then 0 else 1) = _; rw [if_pos (h1e.mp c28)]
          rw [e7]
          exact lv_sub hl [0, 2, 3, 4, 5] rfl
        · refine lv_iinc hx hb dX1_registersInUse_31 hl (k := 4) rfl nv_inc (by decide) rfl (fun ls hl => ?_)
          have hl : lv_has ls 6 [(1, .int (nI ((tw_sum (fun j => if R j = (0, 1) then 0 else 1) i) + 1))), (5, .int (nI (tw_en (R i)))), (4, .int (nI i)), (3, .int (nI 12)), (2, .ref dr), (0, .ref d0)] := hl
          refine lv_iinc hx hb dX1_registersInUse_34 hl (k := 2) rfl nv_inc (by decide) rfl (fun ls hl => ?_)
          have hl : lv_has ls 6 [(4, .int (nI (i + 1))), (1, .int (nI ((tw_sum (fun j => if R j = (0, 1) then 0 else 1) i) + 1))), (5, .int (nI (tw_en (R i)))), (3, .int (nI 12)), (2, .ref dr), (0, .ref d0)] := hl
          refine lv_goto (tgt := 13) hx hb dX1_registersInUse_37 (by decide) ?_
          refine ih (i + 1) ls (by omega) (by omega) ?_
          have e7 : tw_sum (fun j => if R j = (0, 1) then 0 else 1) (i + 1) = tw_sum (fun j => if R j = (0, 1) then 0 else 1) i + 1 := by show _ + (if R i = (0, 1) then 0 else 1) = _; rw [if_neg (fun z => c28 (h1e.mpr z))]
          rw [e7]
          exact lv_sub hl [0, 3, 4, 1, 5] rfl
  exact loop 13 0 ls (by omega) (Nat.zero_le _) (lv_sub hl [0, 1, 2, 3, 4] rfl)
set_option maxHeartbeats 4000000 in
set_option maxRecDepth 100000 in
theorem c_X1_count (l : Launch) (D : va_G) {k : Nat} (hk5 : k < 5) {d0 dc dr h0 ai ar af ap ah ac : Nat} {cA : ClassId} {hk : Int32} {rg fi fr ff fp fh fn : Nat → Int32} {R : Nat → Nat × Nat} (hok : cv_ok k fi fr ff) (hrg : ∀ j, j < 12 → tw_on (tw_P k) (tw_D k) (R j) ∧ rg j = nI (tw_en (R j))) {w : Nat} (hw : w < 5) : Met l yX1_count wX1_count ({ frames := 1, cells := 0, slots := 0, locals := 25 }) (va_Pc [.ref d0, .int (nI w)] (fun U => va_P D vwCl [(d0, .inr (1, [.ref dc, .ref dr, .int (nI k), .ref h0])), (dr, .inl (cA, 12, .inl rg)), (h0, .inr (0, [.int (nI (tw_P k)), .int (nI (tw_D k)), .int (nI (tw_I k)), .int (nI (tw_N k)), .ref ai, .ref ar, .ref af, .ref ap, .ref ah, .ref ac, .int (nI ((tw_fs k).length)), .int hk])), (ai, .inl (cA, tw_P k, .inl fi)), (ar, .inl (cA, tw_P k, .inl fr)), (af, .inl (cA, 14, .inl ff)), (ap, .inl (cA, 2 * tw_P k, .inl fp)), (ah, .inl (cA, 2 * tw_P k, .inl fh)), (ac, .inl (cA, 2 * tw_P k, .inl fn))] U.heap ∧ va_K D vwCl [(cA, .int)] U)) (vp_Si (fun r => r = nI (tw_ct k R w))) 0 0 (fun _ => False) := by
  refine Met.ofW (cc := cX1_count) (maxL := 2) (ret := (some .int)) (by decide) rfl ?_
  intro p e s m args below meth c s₁ B hml hv
  obtain ⟨rfl, hv⟩ := hv
  have hx := B.exec
  have hb := B.bytes
  have hr := B.returns
  have hts := atoms_spec (ws := wX1_count) B.pre
  have ht : ∀ w ∈ tb_all, w.before _ s = true := fun w h => hts w (List.mem_cons_of_mem _ h)
  have hown : s.vm.findClass RX1 = some m.cls := findClass_of_methodNamed B.named
  have hlocks := B.notSynchronized
  have hl := lv_entry ([.ref d0, .int (nI w)]) (n := 2) (Nat.le_of_ble_eq_true rfl)
  rw [lg_entry_eq]
  generalize (lg_sl ([.ref d0, .int (nI w)]) ++ List.replicate (2 - (lg_sl ([.ref d0, .int (nI w)])).length) Slot.unset).toArray = ls at hl ⊢
  have hl : lv_has ls 2 [(0, .ref d0), (1, .int (nI w))] := hl
  obtain ⟨hP, hK⟩ := hv
  obtain ⟨hP0, hP2, hD2, hI2, hDP⟩ := tw_kb hk5
  have hK0 := tw_kK k hk5
  have hP8 : tw_P k ≤ 8192 := by omega
  have hN := tw_kN k hk5
  have zk : k ≤ 4 := by omega
  obtain ⟨hfi, hfr, hff⟩ := hok
  refine lv_iload_n hx hb dX1_count_0 rfl (lv_at hl 1 rfl) ?_
  have hw5 : w = 0 ∨ w = 1 ∨ w = 2 ∨ w = 3 ∨ w = 4 := by omega
  rcases hw5 with rfl | rfl | rfl | rfl | rfl
  · refine lv_tableIn (tgt := 36) (off := 35) hx hb dX1_count_1 (by decide) (by decide) (by decide) (by decide) ?_
    refine lv_aload_n hx hb dX1_count_36 rfl (lv_at hl 0 rfl) ?_
    refine va_get (D := D) (ci := 1) (v := .int (nI k)) (C := RX1) (T := TX1) (N := 4) hx hb ht inX1 hown hK hP 0 rfl rfl 2 (by decide) (ht _ kf_X1_120) (fun _ h9 => h9) rfl dX1_count_37 ?_
    exact W.iret hx hb hr (fun t ht hW => ⟨_, rfl, rfl, ht⟩) (fun q h => nomatch h) dX1_count_40
  · refine lv_tableIn (tgt := 41) (off := 40) hx hb dX1_count_1 (by decide) (by decide) (by decide) (by decide) ?_
    refine lv_aload_n hx hb dX1_count_41 rfl (lv_at hl 0 rfl) ?_
    refine va_get (D := D) (ci := 1) (v := .ref h0) (C := RX1) (T := TX1) (N := 4) hx hb ht inX1 hown hK hP 0 rfl rfl 3 (by decide) (ht _ kf_X1_33) (fun _ h9 => h9) rfl dX1_count_42 ?_
    refine va_get (D := D) (ci := 0) (v := .int (nI (tw_P k))) (C := RX0) (T := TX0) (N := 12) hx hb ht inX0 hown hK hP 2 rfl rfl 0 (by decide) (ht _ kf_X1_37) (fun _ h9 => h9) rfl dX1_count_45 ?_
    exact W.iret hx hb hr (fun t ht hW => ⟨_, rfl, rfl, ht⟩) (fun q h => nomatch h) dX1_count_48
  · refine lv_tableIn (tgt := 49) (off := 48) hx hb dX1_count_1 (by decide) (by decide) (by decide) (by decide) ?_
    refine lv_aload_n hx hb dX1_count_49 rfl (lv_at hl 0 rfl) ?_
    refine va_get (D := D) (ci := 1) (v := .ref h0) (C := RX1) (T := TX1) (N := 4) hx hb ht inX1 hown hK hP 0 rfl rfl 3 (by decide) (ht _ kf_X1_33) (fun _ h9 => h9) rfl dX1_count_50 ?_
    refine va_get (D := D) (ci := 0) (v := .int (nI (tw_D k))) (C := RX0) (T := TX0) (N := 12) hx hb ht inX0 hown hK hP 2 rfl rfl 1 (by decide) (ht _ kf_X1_123) (fun _ h9 => h9) rfl dX1_count_53 ?_
    exact W.iret hx hb hr (fun t ht hW => ⟨_, rfl, rfl, ht⟩) (fun q h => nomatch h) dX1_count_56
  · refine lv_tableIn (tgt := 57) (off := 56) hx hb dX1_count_1 (by decide) (by decide) (by decide) (by decide) ?_
    refine lv_aload_n hx hb dX1_count_57 rfl (lv_at hl 0 rfl) ?_
    refine va_get (D := D) (ci := 1) (v := .ref h0) (C := RX1) (T := TX1) (N := 4) hx hb ht inX1 hown hK hP 0 rfl rfl 3 (by decide) (ht _ kf_X1_33) (fun _ h9 => h9) rfl dX1_count_58 ?_
    refine va_get (D := D) (ci := 0) (v := .int (nI (tw_I k))) (C := RX0) (T := TX0) (N := 12) hx hb ht inX0 hown hK hP 2 rfl rfl 2 (by decide) (ht _ kf_X1_126) (fun _ h9 => h9) rfl dX1_count_61 ?_
    exact W.iret hx hb hr (fun t ht hW => ⟨_, rfl, rfl, ht⟩) (fun q h => nomatch h) dX1_count_64
  · refine lv_tableIn (tgt := 65) (off := 64) hx hb dX1_count_1 (by decide) (by decide) (by decide) (by decide) ?_
    refine lv_aload_n hx hb dX1_count_65 rfl (lv_at hl 0 rfl) ?_
    refine vp_callSi (W.runV (As := []) (rest := []) ⟨hx, hb, hml, hown, ht⟩ (c_X1_registersInUse l D hk5 ⟨hfi, hfr, hff⟩ hrg) (cwV 0 ht (tb_V kl_X1_129 ki_X1_registersInUse ks_X1_registersInUse kn_X1 kc_X1_registersInUse) rfl rfl rfl ⟨rfl, kd_X1_registersInUse⟩ ⟨Nat.le_of_ble_eq_true rfl, Nat.le_of_ble_eq_true rfl⟩) (ro_preV _ hP hK (va_recv (ci := 1) (q0 := 0) hK hP rfl rfl)) rfl rfl hl.1 rfl (lv_room (Nat.le_of_ble_eq_true rfl)) dX1_count_66 ⟨Nat.zero_le _, Nat.zero_le _⟩) (fun r hr9 => ?_)
    subst hr9
    exact W.iret hx hb hr (fun t ht hW => ⟨_, rfl, rfl, ht⟩) (fun q h => nomatch h) dX1_count_69
set_option maxHeartbeats 4000000 in
set_option maxRecDepth 100000 in
theorem c_X1_countM (l : Launch) (D : va_G) {k : Nat} (hk5 : k < 5) {d0 dc dr h0 ai ar af ap ah ac : Nat} {cA : ClassId} {hk : Int32} {rg fi fr ff fp fh fn : Nat → Int32} {R : Nat → Nat × Nat} (hok : cv_ok k fi fr ff) (hrg : ∀ j, j < 12 → tw_on (tw_P k) (tw_D k) (R j) ∧ rg j = nI (tw_en (R j))) {z : Int32} (hz : z.toInt < 0 ∨ 4 < z.toInt) : Met l yX1_count wX1_count ({ frames := 1, cells := 0, slots := 0, locals := 25 }) (va_Pc [.ref d0, .int z] (fun U => va_P D vwCl [(d0, .inr (1, [.ref dc, .ref dr, .int (nI k), .ref h0])), (dr, .inl (cA, 12, .inl rg)), (h0, .inr (0, [.int (nI (tw_P k)), .int (nI (tw_D k)), .int (nI (tw_I k)), .int (nI (tw_N k)), .ref ai, .ref ar, .ref af, .ref ap, .ref ah, .ref ac, .int (nI ((tw_fs k).length)), .int hk])), (ai, .inl (cA, tw_P k, .inl fi)), (ar, .inl (cA, tw_P k, .inl fr)), (af, .inl (cA, 14, .inl ff)), (ap, .inl (cA, 2 * tw_P k, .inl fp)), (ah, .inl (cA, 2 * tw_P k, .inl fh)), (ac, .inl (cA, 2 * tw_P k, .inl fn))] U.heap ∧ va_K D vwCl [(cA, .int)] U)) (vp_Si (fun r => r = -1)) 0 0 (fun _ => False) := by
  refine Met.ofW (cc := cX1_count) (maxL := 2) (ret := (some .int)) (by decide) rfl ?_
  intro p e s m args below meth c s₁ B hml hv
  obtain ⟨rfl, hv⟩ := hv
  have hx := B.exec
  have hb := B.bytes
  have hr := B.returns
  have hts := atoms_spec (ws := wX1_count) B.pre
  have ht : ∀ w ∈ tb_all, w.before _ s = true := fun w h => hts w (List.mem_cons_of_mem _ h)
  have hown : s.vm.findClass RX1 = some m.cls := findClass_of_methodNamed B.named
  have hlocks := B.notSynchronized
  have hl := lv_entry ([.ref d0, .int z]) (n := 2) (Nat.le_of_ble_eq_true rfl)
  rw [lg_entry_eq]
  generalize (lg_sl ([.ref d0, .int z]) ++ List.replicate (2 - (lg_sl ([.ref d0, .int z])).length) Slot.unset).toArray = ls at hl ⊢
  have hl : lv_has ls 2 [(0, .ref d0), (1, .int z)] := hl
  obtain ⟨hP, hK⟩ := hv
  obtain ⟨hP0, hP2, hD2, hI2, hDP⟩ := tw_kb hk5
  have hK0 := tw_kK k hk5
  have hP8 : tw_P k ≤ 8192 := by omega
  have hN := tw_kN k hk5
  have zk : k ≤ 4 := by omega
  obtain ⟨hfi, hfr, hff⟩ := hok
  refine lv_iload_n hx hb dX1_count_0 rfl (lv_at hl 1 rfl) ?_
  refine lv_tableOut (tgt := 70) hx hb dX1_count_1 hz (by decide) ?_
  refine lv_iconst (v := (-1)) hx hb dX1_count_70 (by decide) ?_
  exact W.iret hx hb hr (fun t ht hW => ⟨_, rfl, rfl, ht⟩) (fun q h => nomatch h) dX1_count_71
