/-! the model: numbers modulo P, sums, multiples -/
theorem fm_c {a b c P : Nat} (m : Int) (h : (a : Int) + P * m = b + c) : (((a : Int) - b) % (P : Int)).toNat = c % P := by
  have e : (a : Int) - b = c + P * (-m) := by
    rw [Int.mul_neg]
    omega
  rw [e, Int.add_mul_emod_self_left, ← Int.natCast_emod, Int.toNat_natCast]
theorem lN_subI {a b : Nat} (ha : a < 2 ^ 31) (hb : b < 2 ^ 31) : (lN a - lN b).toInt = (a : Int) - b := by
  rw [Int64.toInt_sub, lN_toInt ha, lN_toInt hb]
  exact Int.bmod_eq_of_le (by omega) (by omega)
theorem md_pt {x y P : Nat} (hP : 0 < P) (hx : x * x < 2 ^ 31) (hy : y * y < 2 ^ 31) : ((lN (y * y) - lN (x * x)).toInt % (P : Int)).toNat = (P - x * x % P + y * y % P) % P := by
  rw [lN_subI hy hx]
  refine fm_c ((x * x / P : Nat) + 1 - (y * y / P : Nat)) ?_
  have a := Nat.div_add_mod (x * x) P
  have b := Nat.div_add_mod (y * y) P
  have c : x * x % P < P := Nat.mod_lt _ hP
  have e : ((P - x * x % P + y * y % P : Nat) : Int) = (P : Int) - ((x * x % P : Nat) : Int) + ((y * y % P : Nat) : Int) := by omega
  rw [e]
  have a2 : ((x * x : Nat) : Int) = (P : Int) * ((x * x / P : Nat) : Int) + ((x * x % P : Nat) : Int) := by exact_mod_cast a.symm
  have b2 : ((y * y : Nat) : Int) = (P : Int) * ((y * y / P : Nat) : Int) + ((y * y % P : Nat) : Int) := by exact_mod_cast b.symm
  rw [a2, b2]
  generalize ((x * x / P : Nat) : Int) = q1
  generalize ((y * y / P : Nat) : Int) = q2
  grind
theorem md_m1 {y P : Nat} (hP : 0 < P) (hy : y * y < 2 ^ 31) : ((lN (y * y) - lN 1).toInt % (P : Int)).toNat = (y * y % P + P - 1) % P := by
  rw [lN_subI hy (by decide)]
  refine fm_c (1 - (y * y / P : Nat)) ?_
  have b := Nat.div_add_mod (y * y) P
  have b2 : ((y * y : Nat) : Int) = (P : Int) * ((y * y / P : Nat) : Int) + ((y * y % P : Nat) : Int) := by exact_mod_cast b.symm
  have e : ((y * y % P + P - 1 : Nat) : Int) = ((y * y % P : Nat) : Int) + P - 1 := by omega
  rw [e, b2]
  generalize ((y * y / P : Nat) : Int) = q2
  generalize ((y * y % P : Nat) : Int) = r2
  grind
theorem md_1t {t P : Nat} (ht : t < P) (hP : P < 2 ^ 31) : ((lN 1 - lN t).toInt % (P : Int)).toNat = (1 + P - t) % P := by
  rw [lN_subI (by decide) (by omega)]
  refine fm_c 1 ?_
  omega
theorem ov_0 {P r b e : Nat} (he : e % 2 = 0) : r * (b * b % P) ^ (e / 2) % P = r * b ^ e % P := by
  have h : b ^ e = (b * b) ^ (e / 2) := by
    have h2 : e = 2 * (e / 2) := by omega
    have h3 : b ^ e = b ^ (2 * (e / 2)) := congrArg (fun z => b ^ z) h2
    rw [h3, Nat.pow_mul, Nat.pow_two]
  rw [h, Nat.mul_mod, ← Nat.pow_mod, ← Nat.mul_mod]
theorem ov_1 {P r b e : Nat} (he : e % 2 = 1) : r * b % P * (b * b % P) ^ (e / 2) % P = r * b ^ e % P := by
  have h : b ^ e = b * (b * b) ^ (e / 2) := by
    have h2 : e = 2 * (e / 2) + 1 := by omega
    have h3 : b ^ e = b ^ (2 * (e / 2) + 1) := congrArg (fun z => b ^ z) h2
    rw [h3, Nat.pow_succ, Nat.pow_mul, Nat.pow_two, Nat.mul_comm]
  rw [h, ← Nat.mul_assoc, Nat.mul_mod (r * b % P), Nat.mod_mod, ← Nat.pow_mod, ← Nat.mul_mod]
theorem md_t {P D I : Nat} (h : tw_K P D I) (p q : Nat × Nat) : p.1 * p.2 % P * q.1 % P * q.2 % P * D % P = tw_t P D p q := by
  have h3 : 3 ≤ P := h.1
  have hz : NeZero P := ⟨by omega⟩
  have e : Fin.ofNat P (p.1 * p.2 % P * q.1 % P * q.2 % P * D) = Fin.ofNat P (tw_t P D p q) := by
    rw [tw_tf]
    simp only [th_mod, th_mul]
    grind
  have e2 := (th_eq P _ _).mp e
  rw [Nat.mod_eq_of_lt (tw_tlt (by omega) p q)] at e2
  exact e2
theorem md_iv {P a b : Nat} : a * b ^ (P - 2) % P = a * tw_iv P b % P := by
  unfold tw_iv
  rw [Nat.mul_mod_mod]
set_option maxHeartbeats 4000000 in
set_option maxRecDepth 100000 in
theorem c_X2_none (l : Launch) {j : Nat} (hj : j < 12) : Met l yX2_none wX2_none ({ frames := 0, cells := 0, slots := 0, locals := 0 }) (va_Pc [.int (nI j)] (fun _ => True)) (vp_Si (fun r => r = 0)) 0 0 (fun _ => False) := by
  refine Met.ofW (cc := cX2_none) (maxL := 1) (ret := (some .boolean)) (by decide) rfl ?_
  intro p e s m args below meth c s₁ B hml hv
  obtain ⟨rfl, hv⟩ := hv
  have hx := B.exec
  have hb := B.bytes
  have hr := B.returns
  have hts := atoms_spec (ws := wX2_none) B.pre
  have ht : ∀ w ∈ tb_all, w.before _ s = true := fun w h => hts w (List.mem_cons_of_mem _ h)
  have hown : s.vm.findClass RX2 = some m.cls := findClass_of_methodNamed B.named
  have hlocks := B.notSynchronized
  have hl := lv_entry ([.int (nI j)]) (n := 1) (Nat.le_of_ble_eq_true rfl)
  rw [lg_entry_eq]
  generalize (lg_sl ([.int (nI j)]) ++ List.replicate (1 - (lg_sl ([.int (nI j)])).length) Slot.unset).toArray = ls at hl ⊢
  have hl : lv_has ls 1 [(0, .int (nI j))] := hl
  refine lv_iload_n hx hb dX2_none_0 rfl (lv_at hl 0 rfl) ?_
  refine nv_if_lt (tgt := 10) hx hb dX2_none_1 (by decide) (nv_le (b := 11) (Nat.le_of_lt_succ hj) (by decide)) ?_
  refine lv_iload_n hx hb dX2_none_4 rfl (lv_at hl 0 rfl) ?_
  refine lv_bipush (v := (nI 11)) hx hb dX2_none_5 (by decide) ?_
  refine nv_icmp_le (tgt := 14) hx hb dX2_none_7 (by decide) (nv_le (b := 11) (Nat.le_of_lt_succ hj) (by decide)) (nv_le (b := 11) (Nat.le_refl 11) (by decide)) (fun c7 => ?_) (fun c7 => ?_)
  · refine lv_iconst (v := (nI 0)) hx hb dX2_none_14 (by decide) ?_
    exact W.zret hx hb hr rfl (fun t ht hW => ⟨_, rfl, rfl, ht⟩) (fun q h => nomatch h) dX2_none_15
  · exact absurd hj (by omega)
set_option maxHeartbeats 4000000 in
set_option maxRecDepth 100000 in
theorem c_X2_noneM (l : Launch) {z : Int32} (hz : z < 0 ∨ nI 11 < z) : Met l yX2_none wX2_none ({ frames := 0, cells := 0, slots := 0, locals := 0 }) (va_Pc [.int z] (fun _ => True)) (vp_Si (fun r => r = 1)) 0 0 (fun _ => False) := by
  refine Met.ofW (cc := cX2_none) (maxL := 1) (ret := (some .boolean)) (by decide) rfl ?_
  intro p e s m args below meth c s₁ B hml hv
  obtain ⟨rfl, hv⟩ := hv
  have hx := B.exec
  have hb := B.bytes
  have hr := B.returns
  have hts := atoms_spec (ws := wX2_none) B.pre
  have ht : ∀ w ∈ tb_all, w.before _ s = true := fun w h => hts w (List.mem_cons_of_mem _ h)
  have hown : s.vm.findClass RX2 = some m.cls := findClass_of_methodNamed B.named
  have hlocks := B.notSynchronized
  have hl := lv_entry ([.int z]) (n := 1) (Nat.le_of_ble_eq_true rfl)
  rw [lg_entry_eq]
  generalize (lg_sl ([.int z]) ++ List.replicate (1 - (lg_sl ([.int z])).length) Slot.unset).toArray = ls at hl ⊢
  have hl : lv_has ls 1 [(0, .int z)] := hl
  refine lv_iload_n hx hb dX2_none_0 rfl (lv_at hl 0 rfl) ?_
  refine lv_if_lt (tgt := 10) hx hb dX2_none_1 (by decide) (fun _ => ?_) (fun c1 => ?_)
  · refine lv_iconst (v := (nI 1)) hx hb dX2_none_10 (by decide) ?_
    refine lv_goto (tgt := 15) hx hb dX2_none_11 (by decide) ?_
    exact W.zret hx hb hr rfl (fun t ht hW => ⟨_, rfl, rfl, ht⟩) (fun q h => nomatch h) dX2_none_15
  · refine lv_iload_n hx hb dX2_none_4 rfl (lv_at hl 0 rfl) ?_
    refine lv_bipush (v := (nI 11)) hx hb dX2_none_5 (by decide) ?_
    refine lv_icmp_le (tgt := 14) hx hb dX2_none_7 (by decide) (fun c2 => ?_) (fun _ => ?_)
    · rcases hz with hz | hz
      · exact absurd hz c1
      · rw [Int32.lt_iff_toInt_lt] at hz; rw [Int32.le_iff_toInt_le] at c2; omega
    · refine lv_iconst (v := (nI 1)) hx hb dX2_none_10 (by decide) ?_
      refine lv_goto (tgt := 15) hx hb dX2_none_11 (by decide) ?_
      exact W.zret hx hb hr rfl (fun t ht hW => ⟨_, rfl, rfl, ht⟩) (fun q h => nomatch h) dX2_none_15
set_option maxHeartbeats 4000000 in
set_option maxRecDepth 100000 in
theorem c_X2_pack (l : Launch) {x y : Nat} (hx1 : x ≤ 8191) (hy1 : y ≤ 8191) : Met l yX2_pack wX2_pack ({ frames := 0, cells := 0, slots := 0, locals := 0 }) (va_Pc [.int (nI x), .int (nI y)] (fun _ => True)) (vp_Si (fun r => r = nI (tw_pk (x, y)))) 0 0 (fun _ => False) := by
  refine Met.ofW (cc := cX2_pack) (maxL := 2) (ret := (some .int)) (by decide) rfl ?_
  intro p e s m args below meth c s₁ B hml hv
  obtain ⟨rfl, hv⟩ := hv
  have hx := B.exec
  have hb := B.bytes
  have hr := B.returns
  have hts := atoms_spec (ws := wX2_pack) B.pre
  have ht : ∀ w ∈ tb_all, w.before _ s = true := fun w h => hts w (List.mem_cons_of_mem _ h)
  have hown : s.vm.findClass RX2 = some m.cls := findClass_of_methodNamed B.named
  have hlocks := B.notSynchronized
  have hl := lv_entry ([.int (nI x), .int (nI y)]) (n := 2) (Nat.le_of_ble_eq_true rfl)
  rw [lg_entry_eq]
  generalize (lg_sl ([.int (nI x), .int (nI y)]) ++ List.replicate (2 - (lg_sl ([.int (nI x), .int (nI y)])).length) Slot.unset).toArray = ls at hl ⊢
  have hl : lv_has ls 2 [(0, .int (nI x)), (1, .int (nI y))] := hl
  refine lv_iload_n hx hb dX2_pack_0 rfl (lv_at hl 1 rfl) ?_
  refine lv_sipush (v := (nI 8192)) hx hb dX2_pack_1 (by decide) ?_
  refine lv_iload_n hx hb dX2_pack_4 rfl (lv_at hl 0 rfl) ?_
  refine lv_iconst (v := (nI 2)) hx hb dX2_pack_5 (by decide) ?_
  refine nv_irem hx hb dX2_pack_6 (by decide) (nv_le (b := 8191) hx1 (by decide)) (nv_le (b := 2) (Nat.le_refl 2) (by decide)) ?_
  refine nv_imul hx hb dX2_pack_7 ?_
  refine nv_iadd hx hb dX2_pack_8 ?_
  exact W.iret hx hb hr (fun t ht hW => ⟨_, rfl, rfl, ht⟩) (fun q h => nomatch h) dX2_pack_9
set_option maxHeartbeats 4000000 in
set_option maxRecDepth 100000 in
theorem c_X2_of (l : Launch) (D : va_G) {k : Nat} (hk5 : k < 5) {m0 mx my mr mb : Nat} {th sx sy : Int32} (z : Int64) : Met l yX2_of wX2_of ({ frames := 1, cells := 0, slots := 0, locals := 25 }) (va_Pc [.ref m0, .long z] (fun U => va_P D vwCl [(m0, .inr (2, [.int th, .int (nI k), .int (nI (tw_P k)), .int (nI (tw_D k)), .int (nI (tw_I k)), .ref mx, .ref my, .ref mr, .ref mb, .int sx, .int sy]))] U.heap ∧ va_K D vwCl [] U)) (vp_Si (fun r => r = nI (z.toInt % (tw_P k : Int)).toNat)) 0 0 (fun _ => False) := by
  refine Met.ofW (cc := cX2_of) (maxL := 3) (ret := (some .int)) (by decide) rfl ?_
  intro p e s m args below meth c s₁ B hml hv
  obtain ⟨rfl, hv⟩ := hv
  have hx := B.exec
  have hb := B.bytes
  have hr := B.returns
  have hts := atoms_spec (ws := wX2_of) B.pre
  have ht : ∀ w ∈ tb_all, w.before _ s = true := fun w h => hts w (List.mem_cons_of_mem _ h)
  have hown : s.vm.findClass RX2 = some m.cls := findClass_of_methodNamed B.named
  have hlocks := B.notSynchronized
  have hl := lv_entry ([.ref m0, .long z]) (n := 3) (Nat.le_of_ble_eq_true rfl)
  rw [lg_entry_eq]
  generalize (lg_sl ([.ref m0, .long z]) ++ List.replicate (3 - (lg_sl ([.ref m0, .long z])).length) Slot.unset).toArray = ls at hl ⊢
  have hl : lv_has ls 3 [(0, .ref m0), (1, .long z)] := hl
  obtain ⟨hP, hK⟩ := hv
  obtain ⟨hP0, hP2, hD2, hI2, hDP⟩ := tw_kb hk5
  have hK0 := tw_kK k hk5
  have hP8 : tw_P k ≤ 8192 := by omega
  have hN := tw_kN k hk5
  have zk : k ≤ 4 := by omega
  refine lv_lload_n hx hb dX2_of_0 rfl (lv_at hl 1 rfl) ?_
  refine lv_aload_n hx hb dX2_of_1 rfl (lv_at hl 0 rfl) ?_
  refine va_get (D := D) (ci := 2) (v := .int (nI (tw_P k))) (C := RX2) (T := TX2) (N := 11) hx hb ht inX2 hown hK hP 0 rfl rfl 2 (by decide) (ht _ kf_X2_7) (fun _ h9 => h9) rfl dX2_of_2 ?_
  refine lv_i2l (v := lN (tw_P k)) hx hb dX2_of_5 (nI_l (nv_le (b := 8101) hP2 (by decide))) ?_
  refine vp_callSl (W.runS (As := [.long z, .long (lN (tw_P k))]) (rest := []) ⟨hx, hb, hml, hown, ht⟩ (c_J9_floorMod l z hP0 (by omega)) (va_cwS 2 ht (tb_S kl_X2_42 kt_J9_floorMod kn_J9 kc_J9_floorMod) rfl rfl rfl kd_J9_floorMod ⟨Nat.le_of_ble_eq_true rfl, Nat.le_of_ble_eq_true rfl⟩) (st_pre _) rfl rfl hl.1 rfl (lv_room (Nat.le_of_ble_eq_true rfl)) dX2_of_6 ⟨Nat.zero_le _, Nat.zero_le _⟩) (fun r hr9 => ?_)
  subst hr9
  refine lv_l2i (v := nI ((z.toInt % (tw_P k : Int)).toNat)) hx hb dX2_of_9 (lN_i _) ?_
  exact W.iret hx hb hr (fun t ht hW => ⟨_, rfl, rfl, ht⟩) (fun q h => nomatch h) dX2_of_10
set_option maxHeartbeats 4000000 in
set_option maxRecDepth 100000 in
theorem c_X2_over (l : Launch) (D : va_G) {k : Nat} (hk5 : k < 5) {m0 mx my mr mb : Nat} {th sx sy : Int32} {a b : Nat} (ha : a < tw_P k) (hb1 : b < tw_P k) : Met l yX2_over wX2_over ({ frames := 0, cells := 0, slots := 0, locals := 0 }) (va_Pc [.ref m0, .int (nI a), .int (nI b)] (fun U => va_P D vwCl [(m0, .inr (2, [.int th, .int (nI k), .int (nI (tw_P k)), .int (nI (tw_D k)), .int (nI (tw_I k)), .ref mx, .ref my, .ref mr, .ref mb, .int sx, .int sy]))] U.heap ∧ va_K D vwCl [] U)) (vp_Si (fun r => r = nI (a * tw_iv (tw_P k) b % tw_P k))) 0 0 (fun _ => False) := by
  refine Met.ofW (cc := cX2_over) (maxL := 8) (ret := (some .int)) (by decide) rfl ?_
  intro p e s m args below meth c s₁ B hml hv
  obtain ⟨rfl, hv⟩ := hv
  have hx := B.exec
  have hb := B.bytes
  have hr := B.returns
  have hts := atoms_spec (ws := wX2_over) B.pre
  have ht : ∀ w ∈ tb_all, w.before _ s = true := fun w h => hts w (List.mem_cons_of_mem _ h)
  have hown : s.vm.findClass RX2 = some m.cls := findClass_of_methodNamed B.named
  have hlocks := B.notSynchronized
  have hl := lv_entry ([.ref m0, .int (nI a), .int (nI b)]) (n := 8) (Nat.le_of_ble_eq_true rfl)
  rw [lg_entry_eq]
  generalize (lg_sl ([.ref m0, .int (nI a), .int (nI b)]) ++ List.replicate (8 - (lg_sl ([.ref m0, .int (nI a), .int (nI b)])).length) Slot.unset).toArray = ls at hl ⊢
  have hl : lv_has ls 8 [(0, .ref m0), (1, .int (nI a)), (2, .int (nI b))] := hl
  obtain ⟨hP, hK⟩ := hv
  obtain ⟨hP0, hP2, hD2, hI2, hDP⟩ := tw_kb hk5
  have hK0 := tw_kK k hk5
  have hP8 : tw_P k ≤ 8192 := by omega
  have hN := tw_kN k hk5
  have zk : k ≤ 4 := by omega
  have za : a ≤ 8100 := by omega
  have zb : b ≤ 8100 := by omega
  have h3 := hK0.1
  refine lv_iload_n hx hb dX2_over_0 rfl (lv_at hl 1 rfl) ?_
  refine lv_i2l (v := lN a) hx hb dX2_over_1 (nI_l (nv_le (b := 8100) za (by decide))) ?_
  refine lv_lstore_n hx hb dX2_over_2 rfl hl (by decide) rfl (fun ls hl => ?_)
  have hl : lv_has ls 8 [(3, .long (lN a)), (0, .ref m0), (1, .int (nI a)), (2, .int (nI b))] := hl
  refine lv_iload_n hx hb dX2_over_3 rfl (lv_at hl 3 rfl) ?_
  refine lv_i2l (v := lN b) hx hb dX2_over_4 (nI_l (nv_le (b := 8100) zb (by decide))) ?_
  refine lv_lstore hx hb dX2_over_5 hl (by decide) rfl (fun ls hl => ?_)
  have hl : lv_has ls 8 [(5, .long (lN b)), (3, .long (lN a)), (0, .ref m0), (1, .int (nI a)), (2, .int (nI b))] := hl
  refine lv_aload_n hx hb dX2_over_7 rfl (lv_at hl 2 rfl) ?_
  refine va_get (D := D) (ci := 2) (v := .int (nI (tw_P k))) (C := RX2) (T := TX2) (N := 11) hx hb ht inX2 hown hK hP 0 rfl rfl 2 (by decide) (ht _ kf_X2_7) (fun _ h9 => h9) rfl dX2_over_8 ?_
  refine lv_iconst (v := (nI 2)) hx hb dX2_over_11 (by decide) ?_
  refine nv_isub hx hb dX2_over_12 (by omega) ?_
  refine lv_istore hx hb dX2_over_13 hl (by decide) rfl (fun ls hl => ?_)
  have hl : lv_has ls 8 [(7, .int (nI ((tw_P k) - 2))), (5, .long (lN b)), (3, .long (lN a)), (0, .ref m0), (1, .int (nI a)), (2, .int (nI b))] := hl
  have loop : ∀ (f9 ee r v : Nat) (ls : Array Slot), ee < f9 → ee ≤ 8101 → r < tw_P k → v < tw_P k → r * v ^ ee % tw_P k = a * b ^ (tw_P k - 2) % tw_P k → lv_has ls 8 [(7, .int (nI ee)), (5, .long (lN v)), (3, .long (lN r)), (0, .ref m0)] → W p l e (headSpec wX2_over ({ frames := 0, cells := 0, slots := 0, locals := 0 })).room s m ([.ref m0, .int (nI a), .int (nI b)]).toArray below meth c s.heap [] 0 0 (MQ below (vp_Si (fun r => r = nI (a * tw_iv (tw_P k) b % tw_P k))) ([.ref m0, .int (nI a), .int (nI b)]).toArray s 0 0 (fun _ => False)) (F0 m 15 ls []) := by
    intro f9
    induction f9 with
    | zero => intro ee r v ls h1; exact absurd h1 (Nat.not_lt_zero _)
    | succ f9 ih =>
      intro ee r v ls h1 h2 h4 h5 hinv hl
      have zv : v ≤ 8100 := by omega
      have zr : r ≤ 8100 := by omega
      refine lv_iload hx hb dX2_over_15 (lv_at hl 0 rfl) ?_
      refine nv_if_le (tgt := 61) hx hb dX2_over_17 (by decide) (nv_le (b := 8101) h2 (by decide)) (fun c17 => ?_) (fun c17 => ?_)
      · have e8 : r = a * tw_iv (tw_P k) b % tw_P k := by rw [← md_iv, ← hinv, c17, Nat.pow_zero, Nat.mul_one, Nat.mod_eq_of_lt h4]
        refine lv_lload_n hx hb dX2_over_61 rfl (lv_at hl 2 rfl) ?_
        refine lv_l2i (v := nI r) hx hb dX2_over_62 (lN_i _) ?_
        exact W.iret hx hb hr (fun t ht hW => ⟨_, rfl, by rw [← e8], ht⟩) (fun q h => nomatch h) dX2_over_63
      · refine lv_iload hx hb dX2_over_20 (lv_at hl 0 rfl) ?_
        refine lv_iconst (v := (nI 2)) hx hb dX2_over_22 (by decide) ?_
        refine nv_irem hx hb dX2_over_23 (by decide) (nv_le (b := 8101) h2 (by decide)) (nv_le (b := 2) (Nat.le_refl 2) (by decide)) ?_
        refine lv_iconst (v := (nI 1)) hx hb dX2_over_24 (by decide) ?_
        refine nv_icmp_ne (tgt := 39) hx hb dX2_over_25 (by decide) (nv_le (b := 1) (nv_md (by decide) (Nat.le_refl 2)) (by decide)) (nv_le (b := 1) (Nat.le_refl 1) (by decide)) (fun c25 => ?_) (fun c25 => ?_)
        · refine lv_lload hx hb dX2_over_39 (lv_at hl 1 rfl) ?_
          refine lv_lload hx hb dX2_over_41 (lv_at hl 1 rfl) ?_
          refine lv_lmul hx hb dX2_over_43 ?_
          rw [lN_mul]
          refine lv_aload_n hx hb dX2_over_44 rfl (lv_at hl 3 rfl) ?_
          refine va_get (D := D) (ci := 2) (v := .int (nI (tw_P k))) (C := RX2) (T := TX2) (N := 11) hx hb ht inX2 hown hK hP 0 rfl rfl 2 (by decide) (ht _ kf_X2_7) (fun _ h9 => h9) rfl dX2_over_45 ?_
          refine lv_i2l (v := lN (tw_P k)) hx hb dX2_over_48 (nI_l (nv_le (b := 8101) hP2 (by decide))) ?_
          refine lv_lrem hx hb dX2_over_49 (fm_ne hP0 (nv_le (b := 8101) hP2 (by decide))) ?_
          rw [pk_lRem (Nat.lt_of_le_of_lt (m := 65610000) (Nat.mul_le_mul zv zv) (by decide)) hP0 (Nat.lt_of_le_of_lt (m := 8101) hP2 (by decide))]
          refine lv_lstore hx hb dX2_over_50 hl (by decide) rfl (fun ls hl => ?_)
          have hl : lv_has ls 8 [(5, .long (lN ((v * v) % (tw_P k)))), (7, .int (nI ee)), (3, .long (lN r)), (0, .ref m0)] := hl
          refine lv_iload hx hb dX2_over_52 (lv_at hl 1 rfl) ?_
          refine lv_iconst (v := (nI 2)) hx hb dX2_over_54 (by decide) ?_
          refine nv_idiv hx hb dX2_over_55 (by decide) (nv_le (b := 8101) h2 (by decide)) (nv_le (b := 2) (Nat.le_refl 2) (by decide)) ?_
          refine lv_istore hx hb dX2_over_56 hl (by decide) rfl (fun ls hl => ?_)
          have hl : lv_has ls 8 [(7, .int (nI (ee / 2))), (5, .long (lN ((v * v) % (tw_P k)))), (3, .long (lN r)), (0, .ref m0)] := hl
          refine lv_goto (tgt := 15) hx hb dX2_over_58 (by decide) ?_
          exact ih (ee / 2) r (v * v % tw_P k) ls (by omega) (by omega) h4 (Nat.mod_lt _ hP0) ((ov_0 (by omega)).trans hinv) (lv_sub hl [0, 1, 2, 3] rfl)
        · refine lv_lload_n hx hb dX2_over_28 rfl (lv_at hl 2 rfl) ?_
          refine lv_lload hx hb dX2_over_29 (lv_at hl 1 rfl) ?_
          refine lv_lmul hx hb dX2_over_31 ?_
          rw [lN_mul]
          refine lv_aload_n hx hb dX2_over_32 rfl (lv_at hl 3 rfl) ?_
          refine va_get (D := D) (ci := 2) (v := .int (nI (tw_P k))) (C := RX2) (T := TX2) (N := 11) hx hb ht inX2 hown hK hP 0 rfl rfl 2 (by decide) (ht _ kf_X2_7) (fun _ h9 => h9) rfl dX2_over_33 ?_
          refine lv_i2l (v := lN (tw_P k)) hx hb dX2_over_36 (nI_l (nv_le (b := 8101) hP2 (by decide))) ?_
          refine lv_lrem hx hb dX2_over_37 (fm_ne hP0 (nv_le (b := 8101) hP2 (by decide))) ?_
          rw [pk_lRem (Nat.lt_of_le_of_lt (m := 65610000) (Nat.mul_le_mul zr zv) (by decide)) hP0 (Nat.lt_of_le_of_lt (m := 8101) hP2 (by decide))]
          refine lv_lstore_n hx hb dX2_over_38 rfl hl (by decide) rfl (fun ls hl => ?_)
          have hl : lv_has ls 8 [(3, .long (lN ((r * v) % (tw_P k)))), (7, .int (nI ee)), (5, .long (lN v)), (0, .ref m0)] := hl
          refine lv_lload hx hb dX2_over_39 (lv_at hl 2 rfl) ?_
          refine lv_lload hx hb dX2_over_41 (lv_at hl 2 rfl) ?_
          refine lv_lmul hx hb dX2_over_43 ?_
          rw [lN_mul]
          refine lv_aload_n hx hb dX2_over_44 rfl (lv_at hl 3 rfl) ?_
          refine va_get (D := D) (ci := 2) (v := .int (nI (tw_P k))) (C := RX2) (T := TX2) (N := 11) hx hb ht inX2 hown hK hP 0 rfl rfl 2 (by decide) (ht _ kf_X2_7) (fun _ h9 => h9) rfl dX2_over_45 ?_
          refine lv_i2l (v := lN (tw_P k)) hx hb dX2_over_48 (nI_l (nv_le (b := 8101) hP2 (by decide))) ?_
          refine lv_lrem hx hb dX2_over_49 (fm_ne hP0 (nv_le (b := 8101) hP2 (by decide))) ?_
          rw [pk_lRem (Nat.lt_of_le_of_lt (m := 65610000) (Nat.mul_le_mul zv zv) (by decide)) hP0 (Nat.lt_of_le_of_lt (m := 8101) hP2 (by decide))]
          refine lv_lstore hx hb dX2_over_50 hl (by decide) rfl (fun ls hl => ?_)
          have hl : lv_has ls 8 [(5, .long (lN ((v * v) % (tw_P k)))), (3, .long (lN ((r * v) % (tw_P k)))), (7, .int (nI ee)), (0, .ref m0)] := hl
          refine lv_iload hx hb dX2_over_52 (lv_at hl 2 rfl) ?_
          refine lv_iconst (v := (nI 2)) hx hb dX2_over_54 (by decide) ?_
          refine nv_idiv hx hb dX2_over_55 (by decide) (nv_le (b := 8101) h2 (by decide)) (nv_le (b := 2) (Nat.le_refl 2) (by decide)) ?_
          refine lv_istore hx hb dX2_over_56 hl (by decide) rfl (fun ls hl => ?_)
          have hl : lv_has ls 8 [(7, .int (nI (ee / 2))), (5, .long (lN ((v * v) % (tw_P k)))), (3, .long (lN ((r * v) % (tw_P k)))), (0, .ref m0)] := hl
          refine lv_goto (tgt := 15) hx hb dX2_over_58 (by decide) ?_
          exact ih (ee / 2) (r * v % tw_P k) (v * v % tw_P k) ls (by omega) (by omega) (Nat.mod_lt _ hP0) (Nat.mod_lt _ hP0) ((ov_1 c25).trans hinv) (lv_sub hl [0, 1, 2, 3] rfl)
  exact loop (tw_P k) (tw_P k - 2) a b ls (by omega) (by omega) ha hb1 rfl (lv_sub hl [0, 1, 2, 3] rfl)
set_option maxHeartbeats 4000000 in
set_option maxRecDepth 100000 in
theorem c_X2_isPoint (l : Launch) (D : va_G) {k : Nat} (hk5 : k < 5) {m0 mx my mr mb : Nat} {th sx sy : Int32} {x y : Nat} (hx1 : x < tw_P k) (hy1 : y < tw_P k) : Met l yX2_isPoint wX2_isPoint ({ frames := 2, cells := 0, slots := 0, locals := 47 }) (va_Pc [.ref m0, .int (nI x), .int (nI y)] (fun U => va_P D vwCl [(m0, .inr (2, [.int th, .int (nI k), .int (nI (tw_P k)), .int (nI (tw_D k)), .int (nI (tw_I k)), .ref mx, .ref my, .ref mr, .ref mb, .int sx, .int sy]))] U.heap ∧ va_K D vwCl [] U)) (vp_Si (fun r => r = if (tw_P k - x * x % tw_P k + y * y % tw_P k) % tw_P k = (1 + tw_D k * ((x * x % tw_P k) * (y * y % tw_P k) % tw_P k)) % tw_P k then 1 else 0)) 0 0 (fun _ => False) := by
  refine Met.ofW (cc := cX2_isPoint) (maxL := 3) (ret := (some .boolean)) (by decide) rfl ?_
  intro p e s m args below meth c s₁ B hml hv
  obtain ⟨rfl, hv⟩ := hv
  have hx := B.exec
  have hb := B.bytes
  have hr := B.returns
  have hts := atoms_spec (ws := wX2_isPoint) B.pre
  have ht : ∀ w ∈ tb_all, w.before _ s = true := fun w h => hts w (List.mem_cons_of_mem _ h)
  have hown : s.vm.findClass RX2 = some m.cls := findClass_of_methodNamed B.named
  have hlocks := B.notSynchronized
  have hl := lv_entry ([.ref m0, .int (nI x), .int (nI y)]) (n := 3) (Nat.le_of_ble_eq_true rfl)
  rw [lg_entry_eq]
  generalize (lg_sl ([.ref m0, .int (nI x), .int (nI y)]) ++ List.replicate (3 - (lg_sl ([.ref m0, .int (nI x), .int (nI y)])).length) Slot.unset).toArray = ls at hl ⊢
  have hl : lv_has ls 3 [(0, .ref m0), (1, .int (nI x)), (2, .int (nI y))] := hl
  obtain ⟨hP, hK⟩ := hv
  obtain ⟨hP0, hP2, hD2, hI2, hDP⟩ := tw_kb hk5
  have hK0 := tw_kK k hk5
  have hP8 : tw_P k ≤ 8192 := by omega
  have hN := tw_kN k hk5
  have zk : k ≤ 4 := by omega
  have zx : x ≤ 8100 := by omega
  have zy : y ≤ 8100 := by omega
  have zxx : x * x < 2 ^ 31 := nv_le (b := 65610000) (Nat.mul_le_mul zx zx) (by decide)
  have zyy : y * y < 2 ^ 31 := nv_le (b := 65610000) (Nat.mul_le_mul zy zy) (by decide)
  refine lv_aload_n hx hb dX2_isPoint_0 rfl (lv_at hl 0 rfl) ?_
  refine lv_iload_n hx hb dX2_isPoint_1 rfl (lv_at hl 2 rfl) ?_
  refine lv_i2l (v := lN y) hx hb dX2_isPoint_2 (nI_l (nv_le (b := 8100) zy (by decide))) ?_
  refine lv_iload_n hx hb dX2_isPoint_3 rfl (lv_at hl 2 rfl) ?_
  refine lv_i2l (v := lN y) hx hb dX2_isPoint_4 (nI_l (nv_le (b := 8100) zy (by decide))) ?_
  refine lv_lmul hx hb dX2_isPoint_5 ?_
  rw [lN_mul]
  refine lv_iload_n hx hb dX2_isPoint_6 rfl (lv_at hl 1 rfl) ?_
  refine lv_i2l (v := lN x) hx hb dX2_isPoint_7 (nI_l (nv_le (b := 8100) zx (by decide))) ?_
  refine lv_iload_n hx hb dX2_isPoint_8 rfl (lv_at hl 1 rfl) ?_
  refine lv_i2l (v := lN x) hx hb dX2_isPoint_9 (nI_l (nv_le (b := 8100) zx (by decide))) ?_
  refine lv_lmul hx hb dX2_isPoint_10 ?_
  rw [lN_mul]
  refine lv_lsub hx hb dX2_isPoint_11 ?_
  refine vp_callSi (W.runV (As := [.long (lN (y * y) - lN (x * x))]) (rest := []) ⟨hx, hb, hml, hown, ht⟩ (c_X2_of l D hk5 (lN (y * y) - lN (x * x))) (cwV 1 ht (tb_V kl_X2_48 ki_X2_of ks_X2_of kn_X2 kc_X2_of) rfl rfl rfl ⟨rfl, kd_X2_of⟩ ⟨Nat.le_of_ble_eq_true rfl, Nat.le_of_ble_eq_true rfl⟩) (ro_preV _ (hP.sub (ws' := [(m0, .inr (2, [.int th, .int (nI k), .int (nI (tw_P k)), .int (nI (tw_D k)), .int (nI (tw_I k)), .ref mx, .ref my, .ref mr, .ref mb, .int sx, .int sy]))]) [0] rfl) (hK.sub (tys' := []) [] rfl) (va_recv (ci := 2) (q0 := 0) hK hP rfl rfl)) rfl rfl hl.1 rfl (lv_room (Nat.le_of_ble_eq_true rfl)) dX2_isPoint_12 ⟨Nat.zero_le _, Nat.zero_le _⟩) (fun r hr9 => ?_)
  subst hr9
  rw [md_pt hP0 zxx zyy]
  refine lv_aload_n hx hb dX2_isPoint_15 rfl (lv_at hl 0 rfl) ?_
  refine lv_lconst (v := lN 1) hx hb dX2_isPoint_16 (by decide) ?_
  refine lv_iload_n hx hb dX2_isPoint_17 rfl (lv_at hl 1 rfl) ?_
  refine lv_i2l (v := lN x) hx hb dX2_isPoint_18 (nI_l (nv_le (b := 8100) zx (by decide))) ?_
  refine lv_iload_n hx hb dX2_isPoint_19 rfl (lv_at hl 1 rfl) ?_
  refine lv_i2l (v := lN x) hx hb dX2_isPoint_20 (nI_l (nv_le (b := 8100) zx (by decide))) ?_
  refine lv_lmul hx hb dX2_isPoint_21 ?_
  rw [lN_mul]
  refine lv_aload_n hx hb dX2_isPoint_22 rfl (lv_at hl 0 rfl) ?_
  refine va_get (D := D) (ci := 2) (v := .int (nI (tw_P k))) (C := RX2) (T := TX2) (N := 11) hx hb ht inX2 hown hK hP 0 rfl rfl 2 (by decide) (ht _ kf_X2_7) (fun _ h9 => h9) rfl dX2_isPoint_23 ?_
  refine lv_i2l (v := lN (tw_P k)) hx hb dX2_isPoint_26 (nI_l (nv_le (b := 8101) hP2 (by decide))) ?_
  refine lv_lrem hx hb dX2_isPoint_27 (fm_ne hP0 (nv_le (b := 8101) hP2 (by decide))) ?_
  rw [pk_lRem (Nat.lt_of_le_of_lt (m := 65610000) (Nat.mul_le_mul zx zx) (by decide)) hP0 (Nat.lt_of_le_of_lt (m := 8101) hP2 (by decide))]
  refine lv_iload_n hx hb dX2_isPoint_28 rfl (lv_at hl 2 rfl) ?_
  refine lv_iload_n hx hb dX2_isPoint_29 rfl (lv_at hl 2 rfl) ?_
  refine nv_imul hx hb dX2_isPoint_30 ?_
  refine lv_aload_n hx hb dX2_isPoint_31 rfl (lv_at hl 0 rfl) ?_
  refine va_get (D := D) (ci := 2) (v := .int (nI (tw_P k))) (C := RX2) (T := TX2) (N := 11) hx hb ht inX2 hown hK hP 0 rfl rfl 2 (by decide) (ht _ kf_X2_7) (fun _ h9 => h9) rfl dX2_isPoint_32 ?_
  refine nv_irem hx hb dX2_isPoint_35 hP0 (nv_le (b := 65610000) (Nat.mul_le_mul zy zy) (by decide)) (nv_le (b := 8101) hP2 (by decide)) ?_
  refine lv_i2l (v := lN ((y * y) % (tw_P k))) hx hb dX2_isPoint_36 (nI_l (nv_le (b := 8100) (nv_md hP0 hP2) (by decide))) ?_
  refine lv_lmul hx hb dX2_isPoint_37 ?_
  rw [lN_mul]
  refine lv_aload_n hx hb dX2_isPoint_38 rfl (lv_at hl 0 rfl) ?_
  refine va_get (D := D) (ci := 2) (v := .int (nI (tw_P k))) (C := RX2) (T := TX2) (N := 11) hx hb ht inX2 hown hK hP 0 rfl rfl 2 (by decide) (ht _ kf_X2_7) (fun _ h9 => h9) rfl dX2_isPoint_39 ?_
  refine lv_i2l (v := lN (tw_P k)) hx hb dX2_isPoint_42 (nI_l (nv_le (b := 8101) hP2 (by decide))) ?_
  refine lv_lrem hx hb dX2_isPoint_43 (fm_ne hP0 (nv_le (b := 8101) hP2 (by decide))) ?_
  rw [pk_lRem (Nat.lt_of_le_of_lt (m := 65610000) (Nat.mul_le_mul (nv_md hP0 hP2) (nv_md hP0 hP2)) (by decide)) hP0 (Nat.lt_of_le_of_lt (m := 8101) hP2 (by decide))]
  refine lv_aload_n hx hb dX2_isPoint_44 rfl (lv_at hl 0 rfl) ?_
  refine va_get (D := D) (ci := 2) (v := .int (nI (tw_D k))) (C := RX2) (T := TX2) (N := 11) hx hb ht inX2 hown hK hP 0 rfl rfl 3 (by decide) (ht _ kf_X2_36) (fun _ h9 => h9) rfl dX2_isPoint_45 ?_
  refine lv_i2l (v := lN (tw_D k)) hx hb dX2_isPoint_48 (nI_l (nv_le (b := 8100) hD2 (by decide))) ?_
  refine lv_lmul hx hb dX2_isPoint_49 ?_
  rw [lN_mul]
  refine lv_ladd hx hb dX2_isPoint_50 ?_
  rw [lN_add]
  refine vp_callSi (W.runV (As := [.long (lN (1 + (((((x * x) % (tw_P k)) * ((y * y) % (tw_P k))) % (tw_P k)) * (tw_D k))))]) (rest := [.int (nI ((tw_P k - x * x % tw_P k + y * y % tw_P k) % tw_P k))]) ⟨hx, hb, hml, hown, ht⟩ (c_X2_of l D hk5 (lN (1 + (((((x * x) % (tw_P k)) * ((y * y) % (tw_P k))) % (tw_P k)) * (tw_D k))))) (cwV 1 ht (tb_V kl_X2_48 ki_X2_of ks_X2_of kn_X2 kc_X2_of) rfl rfl rfl ⟨rfl, kd_X2_of⟩ ⟨Nat.le_of_ble_eq_true rfl, Nat.le_of_ble_eq_true rfl⟩) (ro_preV _ (hP.sub (ws' := [(m0, .inr (2, [.int th, .int (nI k), .int (nI (tw_P k)), .int (nI (tw_D k)), .int (nI (tw_I k)), .ref mx, .ref my, .ref mr, .ref mb, .int sx, .int sy]))]) [0] rfl) (hK.sub (tys' := []) [] rfl) (va_recv (ci := 2) (q0 := 0) hK hP rfl rfl)) rfl rfl hl.1 rfl (lv_room (Nat.le_of_ble_eq_true rfl)) dX2_isPoint_51 ⟨Nat.zero_le _, Nat.zero_le _⟩) (fun r hr9 => ?_)
  subst hr9
  rw [tw_lNm (nv_le (b := 65610001) (Nat.add_le_add (Nat.le_refl 1) (Nat.mul_le_mul (nv_md hP0 hP2) hD2)) (by decide))]
  have e7 : (1 + (x * x % tw_P k) * (y * y % tw_P k) % tw_P k * tw_D k) = (1 + tw_D k * ((x * x % tw_P k) * (y * y % tw_P k) % tw_P k)) := by rw [Nat.mul_comm (tw_D k)]
  refine nv_icmp_ne (tgt := 61) hx hb dX2_isPoint_54 (by decide) (nv_le (b := 8100) (nv_md hP0 hP2) (by decide)) (nv_le (b := 8100) (nv_md hP0 hP2) (by decide)) (fun c54 => ?_) (fun c54 => ?_)
  · have c9 : ¬ ((tw_P k - x * x % tw_P k + y * y % tw_P k) % tw_P k = (1 + tw_D k * ((x * x % tw_P k) * (y * y % tw_P k) % tw_P k)) % tw_P k) := by rw [← e7]; exact c54
    refine lv_iconst (v := (nI 0)) hx hb dX2_isPoint_61 (by decide) ?_
    exact W.zret hx hb hr rfl (fun t ht hW => ⟨_, rfl, (if_neg c9).symm, ht⟩) (fun q h => nomatch h) dX2_isPoint_62
  · have c9 : (tw_P k - x * x % tw_P k + y * y % tw_P k) % tw_P k = (1 + tw_D k * ((x * x % tw_P k) * (y * y % tw_P k) % tw_P k)) % tw_P k := by rw [← e7]; exact c54
    refine lv_iconst (v := (nI 1)) hx hb dX2_isPoint_57 (by decide) ?_
    refine lv_goto (tgt := 62) hx hb dX2_isPoint_58 (by decide) ?_
    exact W.zret hx hb hr rfl (fun t ht hW => ⟨_, rfl, (if_pos c9).symm, ht⟩) (fun q h => nomatch h) dX2_isPoint_62
set_option maxHeartbeats 4000000 in
set_option maxRecDepth 100000 in
theorem c_X2_sum (l : Launch) (D : va_G) {k : Nat} (hk5 : k < 5) {m0 mx my mr mb : Nat} {th sx sy : Int32} {x y x2 y2 : Nat} (hx1 : x < tw_P k) (hy1 : y < tw_P k) (hu1 : x2 < tw_P k) (hv1 : y2 < tw_P k) (sz : Nat) : Met l yX2_sum wX2_sum ({ frames := 2, cells := 0, slots := 0, locals := 47 }) (va_Pc [.ref m0, .int (nI x), .int (nI y), .int (nI x2), .int (nI y2)] (wd_pre D [] [(m0, .inr (2, [.int th, .int (nI k), .int (nI (tw_P k)), .int (nI (tw_D k)), .int (nI (tw_I k)), .ref mx, .ref my, .ref mr, .ref mb, .int sx, .int sy]))] sz)) (va_Qv (fun (u : Unit) => u = ()) (fun (u : Unit) t => wd_at D [] (va_A [(m0, .inr (2, [.int th, .int (nI k), .int (nI (tw_P k)), .int (nI (tw_D k)), .int (nI (tw_I k)), .ref mx, .ref my, .ref mr, .ref mb, .int sx, .int sy]))] sz) [(m0, .inr (2, [.int th, .int (nI k), .int (nI (tw_P k)), .int (nI (tw_D k)), .int (nI (tw_I k)), .ref mx, .ref my, .ref mr, .ref mb, .int (nI (tw_add (tw_P k) (tw_D k) (x, y) (x2, y2)).1), .int (nI (tw_add (tw_P k) (tw_D k) (x, y) (x2, y2)).2)]))] t) (va_A [(m0, .inr (2, [.int th, .int (nI k), .int (nI (tw_P k)), .int (nI (tw_D k)), .int (nI (tw_I k)), .ref mx, .ref my, .ref mr, .ref mb, .int sx, .int sy]))] sz)) 0 0 (va_A [(m0, .inr (2, [.int th, .int (nI k), .int (nI (tw_P k)), .int (nI (tw_D k)), .int (nI (tw_I k)), .ref mx, .ref my, .ref mr, .ref mb, .int sx, .int sy]))] sz) := by
  refine Met.ofW (cc := cX2_sum) (maxL := 7) (ret := none) (by decide) rfl ?_
  intro p e s m args below meth c s₁ B hml hv
  obtain ⟨rfl, hsz, hP, hK, hD0⟩ := hv
  have hx := B.exec
  have hb := B.bytes
  have hr := B.returns
  have hts := atoms_spec (ws := wX2_sum) B.pre
  have ht : ∀ w ∈ tb_all, w.before _ s = true := fun w h => hts w (List.mem_cons_of_mem _ h)
  have hown : s.vm.findClass RX2 = some m.cls := findClass_of_methodNamed B.named
  have hlocks := B.notSynchronized
  have hin : meth.name = "sum" := (name_of_methodNamed B.named B.method).1
  subst hsz
  have hD := hD0.self (sz := s.heap.size)
  generalize hAe : va_A [(m0, .inr (2, [.int th, .int (nI k), .int (nI (tw_P k)), .int (nI (tw_D k)), .int (nI (tw_I k)), .ref mx, .ref my, .ref mr, .ref mb, .int sx, .int sy]))] s.heap.size = A at hD ⊢
  have hA : ∀ q : Nat, s.heap.size ≤ q → A q := fun q h => by rw [← hAe]; exact Or.inr h
  have hS : va_S A s.heap s.heap [] := va_S.rf
  have hl := lv_entry ([.ref m0, .int (nI x), .int (nI y), .int (nI x2), .int (nI y2)]) (n := 7) (Nat.le_of_ble_eq_true rfl)
  rw [lg_entry_eq]
  generalize (lg_sl ([.ref m0, .int (nI x), .int (nI y), .int (nI x2), .int (nI y2)]) ++ List.replicate (7 - (lg_sl ([.ref m0, .int (nI x), .int (nI y), .int (nI x2), .int (nI y2)])).length) Slot.unset).toArray = ls at hl ⊢
  have hl : lv_has ls 7 [(0, .ref m0), (1, .int (nI x)), (2, .int (nI y)), (3, .int (nI x2)), (4, .int (nI y2))] := hl
  obtain ⟨hP0, hP2, hD2, hI2, hDP⟩ := tw_kb hk5
  have hK0 := tw_kK k hk5
  have hP8 : tw_P k ≤ 8192 := by omega
  have hN := tw_kN k hk5
  have zk : k ≤ 4 := by omega
  have zx : x ≤ 8100 := by omega
  have zy : y ≤ 8100 := by omega
  have zx2 : x2 ≤ 8100 := by omega
  have zy2 : y2 ≤ 8100 := by omega
  refine lv_iload_n hx hb dX2_sum_0 rfl (lv_at hl 1 rfl) ?_
  refine lv_i2l (v := lN x) hx hb dX2_sum_1 (nI_l (nv_le (b := 8100) zx (by decide))) ?_
  refine lv_iload_n hx hb dX2_sum_2 rfl (lv_at hl 2 rfl) ?_
  refine lv_i2l (v := lN y) hx hb dX2_sum_3 (nI_l (nv_le (b := 8100) zy (by decide))) ?_
  refine lv_lmul hx hb dX2_sum_4 ?_
  rw [lN_mul]
  refine lv_aload_n hx hb dX2_sum_5 rfl (lv_at hl 0 rfl) ?_
  refine va_get (D := D) (ci := 2) (v := .int (nI (tw_P k))) (C := RX2) (T := TX2) (N := 11) hx hb ht inX2 hown hK hP 0 rfl rfl 2 (by decide) (ht _ kf_X2_7) (fun _ h9 => h9) rfl dX2_sum_6 ?_
  refine lv_i2l (v := lN (tw_P k)) hx hb dX2_sum_9 (nI_l (nv_le (b := 8101) hP2 (by decide))) ?_
  refine lv_lrem hx hb dX2_sum_10 (fm_ne hP0 (nv_le (b := 8101) hP2 (by decide))) ?_
  rw [pk_lRem (Nat.lt_of_le_of_lt (m := 65610000) (Nat.mul_le_mul zx zy) (by decide)) hP0 (Nat.lt_of_le_of_lt (m := 8101) hP2 (by decide))]
  refine lv_iload_n hx hb dX2_sum_11 rfl (lv_at hl 3 rfl) ?_
  refine lv_i2l (v := lN x2) hx hb dX2_sum_12 (nI_l (nv_le (b := 8100) zx2 (by decide))) ?_
  refine lv_lmul hx hb dX2_sum_13 ?_
  rw [lN_mul]
  refine lv_aload_n hx hb dX2_sum_14 rfl (lv_at hl 0 rfl) ?_
  refine va_get (D := D) (ci := 2) (v := .int (nI (tw_P k))) (C := RX2) (T := TX2) (N := 11) hx hb ht inX2 hown hK hP 0 rfl rfl 2 (by decide) (ht _ kf_X2_7) (fun _ h9 => h9) rfl dX2_sum_15 ?_
  refine lv_i2l (v := lN (tw_P k)) hx hb dX2_sum_18 (nI_l (nv_le (b := 8101) hP2 (by decide))) ?_
  refine lv_lrem hx hb dX2_sum_19 (fm_ne hP0 (nv_le (b := 8101) hP2 (by decide))) ?_
  rw [pk_lRem (Nat.lt_of_le_of_lt (m := 65610000) (Nat.mul_le_mul (nv_md hP0 hP2) zx2) (by decide)) hP0 (Nat.lt_of_le_of_lt (m := 8101) hP2 (by decide))]
  refine lv_iload hx hb dX2_sum_20 (lv_at hl 4 rfl) ?_
  refine lv_i2l (v := lN y2) hx hb dX2_sum_22 (nI_l (nv_le (b := 8100) zy2 (by decide))) ?_
  refine lv_lmul hx hb dX2_sum_23 ?_
  rw [lN_mul]
  refine lv_aload_n hx hb dX2_sum_24 rfl (lv_at hl 0 rfl) ?_
  refine va_get (D := D) (ci := 2) (v := .int (nI (tw_P k))) (C := RX2) (T := TX2) (N := 11) hx hb ht inX2 hown hK hP 0 rfl rfl 2 (by decide) (ht _ kf_X2_7) (fun _ h9 => h9) rfl dX2_sum_25 ?_
  refine lv_i2l (v := lN (tw_P k)) hx hb dX2_sum_28 (nI_l (nv_le (b := 8101) hP2 (by decide))) ?_
  refine lv_lrem hx hb dX2_sum_29 (fm_ne hP0 (nv_le (b := 8101) hP2 (by decide))) ?_
  rw [pk_lRem (Nat.lt_of_le_of_lt (m := 65610000) (Nat.mul_le_mul (nv_md hP0 hP2) zy2) (by decide)) hP0 (Nat.lt_of_le_of_lt (m := 8101) hP2 (by decide))]
  refine lv_aload_n hx hb dX2_sum_30 rfl (lv_at hl 0 rfl) ?_
  refine va_get (D := D) (ci := 2) (v := .int (nI (tw_D k))) (C := RX2) (T := TX2) (N := 11) hx hb ht inX2 hown hK hP 0 rfl rfl 3 (by decide) (ht _ kf_X2_36) (fun _ h9 => h9) rfl dX2_sum_31 ?_
  refine lv_i2l (v := lN (tw_D k)) hx hb dX2_sum_34 (nI_l (nv_le (b := 8100) hD2 (by decide))) ?_
  refine lv_lmul hx hb dX2_sum_35 ?_
  rw [lN_mul]
  refine lv_aload_n hx hb dX2_sum_36 rfl (lv_at hl 0 rfl) ?_
  refine va_get (D := D) (ci := 2) (v := .int (nI (tw_P k))) (C := RX2) (T := TX2) (N := 11) hx hb ht inX2 hown hK hP 0 rfl rfl 2 (by decide) (ht _ kf_X2_7) (fun _ h9 => h9) rfl dX2_sum_37 ?_
  refine lv_i2l (v := lN (tw_P k)) hx hb dX2_sum_40 (nI_l (nv_le (b := 8101) hP2 (by decide))) ?_
  refine lv_lrem hx hb dX2_sum_41 (fm_ne hP0 (nv_le (b := 8101) hP2 (by decide))) ?_
  rw [pk_lRem (Nat.lt_of_le_of_lt (m := 65610000) (Nat.mul_le_mul (nv_md hP0 hP2) hD2) (by decide)) hP0 (Nat.lt_of_le_of_lt (m := 8101) hP2 (by decide))]
  refine lv_l2i (v := nI ((((((((x * y) % (tw_P k)) * x2) % (tw_P k)) * y2) % (tw_P k)) * (tw_D k)) % (tw_P k))) hx hb dX2_sum_42 (lN_i _) ?_
  rw [md_t hK0 (x, y) (x2, y2)]
  have htl := tw_tlt (P := tw_P k) (D := tw_D k) hP0 (x, y) (x2, y2)
  have ztt : tw_t (tw_P k) (tw_D k) (x, y) (x2, y2) ≤ 8100 := by omega
  refine lv_istore hx hb dX2_sum_43 hl (by decide) rfl (fun ls hl => ?_)
  have hl : lv_has ls 7 [(5, .int (nI (tw_t (tw_P k) (tw_D k) (x, y) (x2, y2)))), (0, .ref m0), (1, .int (nI x)), (2, .int (nI y)), (3, .int (nI x2)), (4, .int (nI y2))] := hl
  refine lv_aload_n hx hb dX2_sum_45 rfl (lv_at hl 1 rfl) ?_
  refine lv_aload_n hx hb dX2_sum_46 rfl (lv_at hl 1 rfl) ?_
  refine lv_iload_n hx hb dX2_sum_47 rfl (lv_at hl 2 rfl) ?_
  refine lv_i2l (v := lN x) hx hb dX2_sum_48 (nI_l (nv_le (b := 8100) zx (by decide))) ?_
  refine lv_iload hx hb dX2_sum_49 (lv_at hl 5 rfl) ?_
  refine lv_i2l (v := lN y2) hx hb dX2_sum_51 (nI_l (nv_le (b := 8100) zy2 (by decide))) ?_
  refine lv_lmul hx hb dX2_sum_52 ?_
  rw [lN_mul]
  refine lv_iload_n hx hb dX2_sum_53 rfl (lv_at hl 3 rfl) ?_
  refine lv_i2l (v := lN y) hx hb dX2_sum_54 (nI_l (nv_le (b := 8100) zy (by decide))) ?_
  refine lv_iload_n hx hb dX2_sum_55 rfl (lv_at hl 4 rfl) ?_
  refine lv_i2l (v := lN x2) hx hb dX2_sum_56 (nI_l (nv_le (b := 8100) zx2 (by decide))) ?_
  refine lv_lmul hx hb dX2_sum_57 ?_
  rw [lN_mul]
  refine lv_ladd hx hb dX2_sum_58 ?_
  rw [lN_add]
  refine vp_callSi (W.runV (As := [.long (lN ((x * y2) + (y * x2)))]) (rest := [.ref m0]) ⟨hx, hb, hml, hown, ht⟩ (c_X2_of l D hk5 (lN ((x * y2) + (y * x2)))) (cwV 1 ht (tb_V kl_X2_48 ki_X2_of ks_X2_of kn_X2 kc_X2_of) rfl rfl rfl ⟨rfl, kd_X2_of⟩ ⟨Nat.le_of_ble_eq_true rfl, Nat.le_of_ble_eq_true rfl⟩) (ro_preV _ (hP.sub (ws' := [(m0, .inr (2, [.int th, .int (nI k), .int (nI (tw_P k)), .int (nI (tw_D k)), .int (nI (tw_I k)), .ref mx, .ref my, .ref mr, .ref mb, .int sx, .int sy]))]) [0] rfl) (hK.sub (tys' := []) [] rfl) (va_recv (ci := 2) (q0 := 0) hK hP rfl rfl)) rfl rfl hl.1 rfl (lv_room (Nat.le_of_ble_eq_true rfl)) dX2_sum_59 ⟨Nat.zero_le _, Nat.zero_le _⟩) (fun r hr9 => ?_)
  subst hr9
  rw [tw_lNm (nv_le (b := 131220000) (Nat.add_le_add (Nat.mul_le_mul zx zy2) (Nat.mul_le_mul zy zx2)) (by decide))]
  refine lv_aload_n hx hb dX2_sum_62 rfl (lv_at hl 1 rfl) ?_
  refine lv_lconst (v := lN 1) hx hb dX2_sum_63 (by decide) ?_
  refine lv_iload hx hb dX2_sum_64 (lv_at hl 0 rfl) ?_
  refine lv_i2l (v := lN (tw_t (tw_P k) (tw_D k) (x, y) (x2, y2))) hx hb dX2_sum_66 (nI_l (nv_le (b := 8100) ztt (by decide))) ?_
  refine lv_ladd hx hb dX2_sum_67 ?_
  rw [lN_add]
  refine vp_callSi (W.runV (As := [.long (lN (1 + (tw_t (tw_P k) (tw_D k) (x, y) (x2, y2))))]) (rest := [.int (nI (((x * y2) + (y * x2)) % tw_P k)), .ref m0]) ⟨hx, hb, hml, hown, ht⟩ (c_X2_of l D hk5 (lN (1 + (tw_t (tw_P k) (tw_D k) (x, y) (x2, y2))))) (cwV 1 ht (tb_V kl_X2_48 ki_X2_of ks_X2_of kn_X2 kc_X2_of) rfl rfl rfl ⟨rfl, kd_X2_of⟩ ⟨Nat.le_of_ble_eq_true rfl, Nat.le_of_ble_eq_true rfl⟩) (ro_preV _ (hP.sub (ws' := [(m0, .inr (2, [.int th, .int (nI k), .int (nI (tw_P k)), .int (nI (tw_D k)), .int (nI (tw_I k)), .ref mx, .ref my, .ref mr, .ref mb, .int sx, .int sy]))]) [0] rfl) (hK.sub (tys' := []) [] rfl) (va_recv (ci := 2) (q0 := 0) hK hP rfl rfl)) rfl rfl hl.1 rfl (lv_room (Nat.le_of_ble_eq_true rfl)) dX2_sum_68 ⟨Nat.zero_le _, Nat.zero_le _⟩) (fun r hr9 => ?_)
  subst hr9
  rw [tw_lNm (nv_le (b := 8101) (Nat.add_le_add (Nat.le_refl 1) ztt) (by decide))]
  refine vp_callSi (W.runV (As := [.int (nI (((x * y2) + (y * x2)) % tw_P k)), .int (nI ((1 + (tw_t (tw_P k) (tw_D k) (x, y) (x2, y2))) % tw_P k))]) (rest := []) ⟨hx, hb, hml, hown, ht⟩ (c_X2_over l D hk5 (a := ((x * y2) + (y * x2)) % tw_P k) (b := (1 + (tw_t (tw_P k) (tw_D k) (x, y) (x2, y2))) % tw_P k) (Nat.mod_lt _ hP0) (Nat.mod_lt _ hP0)) (cwV 2 ht (tb_V kl_X2_52 ki_X2_over ks_X2_over kn_X2 kc_X2_over) rfl rfl rfl ⟨rfl, kd_X2_over⟩ ⟨Nat.le_of_ble_eq_true rfl, Nat.le_of_ble_eq_true rfl⟩) (ro_preV _ (hP.sub (ws' := [(m0, .inr (2, [.int th, .int (nI k), .int (nI (tw_P k)), .int (nI (tw_D k)), .int (nI (tw_I k)), .ref mx, .ref my, .ref mr, .ref mb, .int sx, .int sy]))]) [0] rfl) (hK.sub (tys' := []) [] rfl) (va_recv (ci := 2) (q0 := 0) hK hP rfl rfl)) rfl rfl hl.1 rfl (lv_room (Nat.le_of_ble_eq_true rfl)) dX2_sum_71 ⟨Nat.zero_le _, Nat.zero_le _⟩) (fun r hr9 => ?_)
  subst hr9
  refine lv_istore hx hb dX2_sum_74 hl (by decide) rfl (fun ls hl => ?_)
  have hl : lv_has ls 7 [(6, .int (nI ((((x * y2) + (y * x2)) % tw_P k) * tw_iv (tw_P k) ((1 + (tw_t (tw_P k) (tw_D k) (x, y) (x2, y2))) % tw_P k) % tw_P k))), (5, .int (nI (tw_t (tw_P k) (tw_D k) (x, y) (x2, y2)))), (0, .ref m0), (1, .int (nI x)), (2, .int (nI y)), (3, .int (nI x2)), (4, .int (nI y2))] := hl
  refine lv_aload_n hx hb dX2_sum_76 rfl (lv_at hl 2 rfl) ?_
  refine lv_aload_n hx hb dX2_sum_77 rfl (lv_at hl 2 rfl) ?_
  refine lv_aload_n hx hb dX2_sum_78 rfl (lv_at hl 2 rfl) ?_
  refine lv_iload_n hx hb dX2_sum_79 rfl (lv_at hl 4 rfl) ?_
  refine lv_i2l (v := lN y) hx hb dX2_sum_80 (nI_l (nv_le (b := 8100) zy (by decide))) ?_
  refine lv_iload hx hb dX2_sum_81 (lv_at hl 6 rfl) ?_
  refine lv_i2l (v := lN y2) hx hb dX2_sum_83 (nI_l (nv_le (b := 8100) zy2 (by decide))) ?_
  refine lv_lmul hx hb dX2_sum_84 ?_
  rw [lN_mul]
  refine lv_iload_n hx hb dX2_sum_85 rfl (lv_at hl 3 rfl) ?_
  refine lv_i2l (v := lN x) hx hb dX2_sum_86 (nI_l (nv_le (b := 8100) zx (by decide))) ?_
  refine lv_iload_n hx hb dX2_sum_87 rfl (lv_at hl 5 rfl) ?_
  refine lv_i2l (v := lN x2) hx hb dX2_sum_88 (nI_l (nv_le (b := 8100) zx2 (by decide))) ?_
  refine lv_lmul hx hb dX2_sum_89 ?_
  rw [lN_mul]
  refine lv_ladd hx hb dX2_sum_90 ?_
  rw [lN_add]
  refine vp_callSi (W.runV (As := [.long (lN ((y * y2) + (x * x2)))]) (rest := [.ref m0, .ref m0]) ⟨hx, hb, hml, hown, ht⟩ (c_X2_of l D hk5 (lN ((y * y2) + (x * x2)))) (cwV 1 ht (tb_V kl_X2_48 ki_X2_of ks_X2_of kn_X2 kc_X2_of) rfl rfl rfl ⟨rfl, kd_X2_of⟩ ⟨Nat.le_of_ble_eq_true rfl, Nat.le_of_ble_eq_true rfl⟩) (ro_preV _ (hP.sub (ws' := [(m0, .inr (2, [.int th, .int (nI k), .int (nI (tw_P k)), .int (nI (tw_D k)), .int (nI (tw_I k)), .ref mx, .ref my, .ref mr, .ref mb, .int sx, .int sy]))]) [0] rfl) (hK.sub (tys' := []) [] rfl) (va_recv (ci := 2) (q0 := 0) hK hP rfl rfl)) rfl rfl hl.1 rfl (lv_room (Nat.le_of_ble_eq_true rfl)) dX2_sum_91 ⟨Nat.zero_le _, Nat.zero_le _⟩) (fun r hr9 => ?_)
  subst hr9
  rw [tw_lNm (nv_le (b := 131220000) (Nat.add_le_add (Nat.mul_le_mul zy zy2) (Nat.mul_le_mul zx zx2)) (by decide))]
  refine lv_aload_n hx hb dX2_sum_94 rfl (lv_at hl 2 rfl) ?_
  refine lv_lconst (v := lN 1) hx hb dX2_sum_95 (by decide) ?_
  refine lv_iload hx hb dX2_sum_96 (lv_at hl 1 rfl) ?_
  refine lv_i2l (v := lN (tw_t (tw_P k) (tw_D k) (x, y) (x2, y2))) hx hb dX2_sum_98 (nI_l (nv_le (b := 8100) ztt (by decide))) ?_
  refine lv_lsub hx hb dX2_sum_99 ?_
  refine vp_callSi (W.runV (As := [.long (lN 1 - lN (tw_t (tw_P k) (tw_D k) (x, y) (x2, y2)))]) (rest := [.int (nI (((y * y2) + (x * x2)) % tw_P k)), .ref m0, .ref m0]) ⟨hx, hb, hml, hown, ht⟩ (c_X2_of l D hk5 (lN 1 - lN (tw_t (tw_P k) (tw_D k) (x, y) (x2, y2)))) (cwV 1 ht (tb_V kl_X2_48 ki_X2_of ks_X2_of kn_X2 kc_X2_of) rfl rfl rfl ⟨rfl, kd_X2_of⟩ ⟨Nat.le_of_ble_eq_true rfl, Nat.le_of_ble_eq_true rfl⟩) (ro_preV _ (hP.sub (ws' := [(m0, .inr (2, [.int th, .int (nI k), .int (nI (tw_P k)), .int (nI (tw_D k)), .int (nI (tw_I k)), .ref mx, .ref my, .ref mr, .ref mb, .int sx, .int sy]))]) [0] rfl) (hK.sub (tys' := []) [] rfl) (va_recv (ci := 2) (q0 := 0) hK hP rfl rfl)) rfl rfl hl.1 rfl (lv_room (Nat.le_of_ble_eq_true rfl)) dX2_sum_100 ⟨Nat.zero_le _, Nat.zero_le _⟩) (fun r hr9 => ?_)
  subst hr9
  rw [md_1t htl (by omega)]
  refine vp_callSi (W.runV (As := [.int (nI (((y * y2) + (x * x2)) % tw_P k)), .int (nI ((1 + tw_P k - tw_t (tw_P k) (tw_D k) (x, y) (x2, y2)) % tw_P k))]) (rest := [.ref m0]) ⟨hx, hb, hml, hown, ht⟩ (c_X2_over l D hk5 (a := ((y * y2) + (x * x2)) % tw_P k) (b := (1 + tw_P k - tw_t (tw_P k) (tw_D k) (x, y) (x2, y2)) % tw_P k) (Nat.mod_lt _ hP0) (Nat.mod_lt _ hP0)) (cwV 2 ht (tb_V kl_X2_52 ki_X2_over ks_X2_over kn_X2 kc_X2_over) rfl rfl rfl ⟨rfl, kd_X2_over⟩ ⟨Nat.le_of_ble_eq_true rfl, Nat.le_of_ble_eq_true rfl⟩) (ro_preV _ (hP.sub (ws' := [(m0, .inr (2, [.int th, .int (nI k), .int (nI (tw_P k)), .int (nI (tw_D k)), .int (nI (tw_I k)), .ref mx, .ref my, .ref mr, .ref mb, .int sx, .int sy]))]) [0] rfl) (hK.sub (tys' := []) [] rfl) (va_recv (ci := 2) (q0 := 0) hK hP rfl rfl)) rfl rfl hl.1 rfl (lv_room (Nat.le_of_ble_eq_true rfl)) dX2_sum_103 ⟨Nat.zero_le _, Nat.zero_le _⟩) (fun r hr9 => ?_)
  subst hr9
  refine va_put (D := D) (ci := 2) (v := .int (nI ((((y * y2) + (x * x2)) % tw_P k) * tw_iv (tw_P k) ((1 + tw_P k - tw_t (tw_P k) (tw_D k) (x, y) (x2, y2)) % tw_P k) % tw_P k))) (ty := .int) (C := RX2) (T := TX2) (N := 11) hx hb ht inX2 tyX2 tyX2_ok nmX2 hown hK hP hD hS 0 rfl rfl 10 (by decide) (ht _ kf_X2_56) (fun _ h9 => h9) rfl (by decide +kernel) rfl rfl (Nat.le_of_ble_eq_true rfl) dX2_sum_106 (fun H locs hP hD hS => ?_)
  have hP : va_P D vwCl [(m0, .inr (2, [.int th, .int (nI k), .int (nI (tw_P k)), .int (nI (tw_D k)), .int (nI (tw_I k)), .ref mx, .ref my, .ref mr, .ref mb, .int sx, .int (nI ((((y * y2) + (x * x2)) % tw_P k) * tw_iv (tw_P k) ((1 + tw_P k - tw_t (tw_P k) (tw_D k) (x, y) (x2, y2)) % tw_P k) % tw_P k))]))] H := hP
  have hD : va_D A [(m0, .inr (2, [.int th, .int (nI k), .int (nI (tw_P k)), .int (nI (tw_D k)), .int (nI (tw_I k)), .ref mx, .ref my, .ref mr, .ref mb, .int sx, .int (nI ((((y * y2) + (x * x2)) % tw_P k) * tw_iv (tw_P k) ((1 + tw_P k - tw_t (tw_P k) (tw_D k) (x, y) (x2, y2)) % tw_P k) % tw_P k))]))] := hD
  refine lv_aload_n hx hb dX2_sum_109 rfl (lv_at hl 2 rfl) ?_
  refine lv_iload hx hb dX2_sum_110 (lv_at hl 0 rfl) ?_
  refine va_put (D := D) (ci := 2) (v := .int (nI ((((x * y2) + (y * x2)) % tw_P k) * tw_iv (tw_P k) ((1 + (tw_t (tw_P k) (tw_D k) (x, y) (x2, y2))) % tw_P k) % tw_P k))) (ty := .int) (C := RX2) (T := TX2) (N := 11) hx hb ht inX2 tyX2 tyX2_ok nmX2 hown hK hP hD hS 0 rfl rfl 9 (by decide) (ht _ kf_X2_59) (fun _ h9 => h9) rfl (by decide +kernel) rfl rfl (Nat.le_of_ble_eq_true rfl) dX2_sum_112 (fun H locs hP hD hS => ?_)
  have hP : va_P D vwCl [(m0, .inr (2, [.int th, .int (nI k), .int (nI (tw_P k)), .int (nI (tw_D k)), .int (nI (tw_I k)), .ref mx, .ref my, .ref mr, .ref mb, .int (nI ((((x * y2) + (y * x2)) % tw_P k) * tw_iv (tw_P k) ((1 + (tw_t (tw_P k) (tw_D k) (x, y) (x2, y2))) % tw_P k) % tw_P k)), .int (nI ((((y * y2) + (x * x2)) % tw_P k) * tw_iv (tw_P k) ((1 + tw_P k - tw_t (tw_P k) (tw_D k) (x, y) (x2, y2)) % tw_P k) % tw_P k))]))] H := hP
  have hD : va_D A [(m0, .inr (2, [.int th, .int (nI k), .int (nI (tw_P k)), .int (nI (tw_D k)), .int (nI (tw_I k)), .ref mx, .ref my, .ref mr, .ref mb, .int (nI ((((x * y2) + (y * x2)) % tw_P k) * tw_iv (tw_P k) ((1 + (tw_t (tw_P k) (tw_D k) (x, y) (x2, y2))) % tw_P k) % tw_P k)), .int (nI ((((y * y2) + (x * x2)) % tw_P k) * tw_iv (tw_P k) ((1 + tw_P k - tw_t (tw_P k) (tw_D k) (x, y) (x2, y2)) % tw_P k) % tw_P k))]))] := hD
  exact W.vret hx hb hr (fun t ht9 hW => ⟨⟨(), rfl, rfl, by rw [ht9]; exact hP, va_K.moved hW.alike hK, hD⟩, hS.F ht9⟩) hS.2.2 dX2_sum_115
