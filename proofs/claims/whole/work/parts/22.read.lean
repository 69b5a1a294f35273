/-! roots and packed numbers read back -/
def tw_rr (P D j : Nat) : Int32 := match tw_rd P D j with
  | none => -1
  | some p => nI (tw_en p)
theorem tw_rr_none {P D j : Nat} (h : tw_rd P D j = none) : tw_rr P D j = -1 := by
  unfold tw_rr
  rw [h]
theorem tw_rr_some {P D j : Nat} {p : Nat × Nat} (h : tw_rd P D j = some p) : tw_rr P D j = nI (tw_en p) := by
  unfold tw_rr
  rw [h]
theorem tw_rd_big {P D j : Nat} (h : 16384 ≤ j ∨ P ≤ j % 2 ^ 13) : tw_rd P D j = none := by
  unfold tw_rd
  rw [if_neg (by intro q; have q2 : j % 8192 < P := q.1; omega)]
theorem tw_rd_r {P D j : Nat} (h1 : j % 2 ^ 13 < P) (h2 : j < 16384) : tw_rd P D j = (match tw_rt P (tw_w P D (j % 2 ^ 13)) with
    | none => none
    | some r => if r = 0 ∧ j / 2 ^ 13 = 1 then none else if r % 2 = j / 2 ^ 13 then some (r, j % 2 ^ 13) else some (P - r, j % 2 ^ 13)) := by
  unfold tw_rd
  rw [if_pos ⟨h1, h2⟩]
  have e : j % 2 ^ 13 = j % 8192 := rfl
  rw [e]
  cases tw_rt P (tw_w P D (j % 8192)) <;> rfl
set_option maxHeartbeats 4000000 in
set_option maxRecDepth 100000 in
theorem c_X0_rootFor (l : Launch) (D : va_G) {k : Nat} (hk5 : k < 5) {n fc h0 : Nat} {ff : Nat → Int32} {y : Nat} (hy1 : y < tw_P k) : Met l yX0_rootFor wX0_rootFor ({ frames := 0, cells := 0, slots := 0, locals := 0 }) (va_Pc [.ref h0, .int (nI y)] (cv_at D k n fc h0 ff)) (vp_Si (fun r => r = tw_rv (tw_P k) (tw_w (tw_P k) (tw_D k) y))) 0 0 (fun _ => False) := by
  refine Met.ofW (cc := cX0_rootFor) (maxL := 4) (ret := (some .int)) (by decide) rfl ?_
  intro p e s m args below meth c s₁ B hml hv
  obtain ⟨rfl, hv⟩ := hv
  have hx := B.exec
  have hb := B.bytes
  have hr := B.returns
  have hts := atoms_spec (ws := wX0_rootFor) B.pre
  have ht : ∀ w ∈ tb_all, w.before _ s = true := fun w h => hts w (List.mem_cons_of_mem _ h)
  have hown : s.vm.findClass RX0 = some m.cls := findClass_of_methodNamed B.named
  have hlocks := B.notSynchronized
  have hl := lv_entry ([.ref h0, .int (nI y)]) (n := 4) (Nat.le_of_ble_eq_true rfl)
  rw [lg_entry_eq]
  generalize (lg_sl ([.ref h0, .int (nI y)]) ++ List.replicate (4 - (lg_sl ([.ref h0, .int (nI y)])).length) Slot.unset).toArray = ls at hl ⊢
  have hl : lv_has ls 4 [(0, .ref h0), (1, .int (nI y))] := hl
  obtain ⟨hP0, hP2, hD2, hI2, hDP⟩ := tw_kb hk5
  have hat := hv
  obtain ⟨ai, ar, af, ap, ah, ac, cA, hk, fi, fr, fp, fh, fn, hP, hK, hfi, hfr⟩ := hv
  have zy : y ≤ 8100 := by omega
  refine lv_iload_n hx hb dX0_rootFor_0 rfl (lv_at hl 1 rfl) ?_
  refine lv_iload_n hx hb dX0_rootFor_1 rfl (lv_at hl 1 rfl) ?_
  refine nv_imul hx hb dX0_rootFor_2 ?_
  refine lv_aload_n hx hb dX0_rootFor_3 rfl (lv_at hl 0 rfl) ?_
  refine va_get (D := D) (ci := 0) (v := .int (nI (tw_P k))) (C := RX0) (T := TX0) (N := 12) hx hb ht inX0 hown hK hP 0 rfl rfl 0 (by decide) (ht _ kf_X0_9) (fun _ h9 => h9) rfl dX0_rootFor_4 ?_
  refine nv_irem hx hb dX0_rootFor_7 hP0 (nv_le (b := 65610000) (Nat.mul_le_mul zy zy) (by decide)) (nv_le (b := 8101) hP2 (by decide)) ?_
  refine lv_istore_n hx hb dX0_rootFor_8 rfl hl (by decide) rfl (fun ls hl => ?_)
  have hl : lv_has ls 4 [(2, .int (nI ((y * y) % (tw_P k)))), (0, .ref h0), (1, .int (nI y))] := hl
  refine lv_iconst (v := (nI 1)) hx hb dX0_rootFor_9 (by decide) ?_
  refine lv_aload_n hx hb dX0_rootFor_10 rfl (lv_at hl 1 rfl) ?_
  refine va_get (D := D) (ci := 0) (v := .int (nI (tw_D k))) (C := RX0) (T := TX0) (N := 12) hx hb ht inX0 hown hK hP 0 rfl rfl 1 (by decide) (ht _ kf_X0_42) (fun _ h9 => h9) rfl dX0_rootFor_11 ?_
  refine lv_iload_n hx hb dX0_rootFor_14 rfl (lv_at hl 0 rfl) ?_
  refine nv_imul hx hb dX0_rootFor_15 ?_
  refine nv_iadd hx hb dX0_rootFor_16 ?_
  refine lv_aload_n hx hb dX0_rootFor_17 rfl (lv_at hl 1 rfl) ?_
  refine va_get (D := D) (ci := 0) (v := .int (nI (tw_P k))) (C := RX0) (T := TX0) (N := 12) hx hb ht inX0 hown hK hP 0 rfl rfl 0 (by decide) (ht _ kf_X0_9) (fun _ h9 => h9) rfl dX0_rootFor_18 ?_
  refine nv_irem hx hb dX0_rootFor_21 hP0 (nv_le (b := 65610001) (Nat.add_le_add (Nat.le_refl 1) (Nat.mul_le_mul hD2 (nv_md hP0 hP2))) (by decide)) (nv_le (b := 8101) hP2 (by decide)) ?_
  refine lv_istore_n hx hb dX0_rootFor_22 rfl hl (by decide) rfl (fun ls hl => ?_)
  have hl : lv_has ls 4 [(3, .int (nI ((1 + ((tw_D k) * ((y * y) % (tw_P k)))) % (tw_P k)))), (2, .int (nI ((y * y) % (tw_P k)))), (0, .ref h0), (1, .int (nI y))] := hl
  refine lv_aload_n hx hb dX0_rootFor_23 rfl (lv_at hl 2 rfl) ?_
  refine va_get (D := D) (ci := 0) (v := .ref ar) (C := RX0) (T := TX0) (N := 12) hx hb ht inX0 hown hK hP 0 rfl rfl 5 (by decide) (ht _ kf_X0_17) (fun _ h9 => h9) rfl dX0_rootFor_24 ?_
  refine lv_iload_n hx hb dX0_rootFor_27 rfl (lv_at hl 1 rfl) ?_
  refine lv_aload_n hx hb dX0_rootFor_28 rfl (lv_at hl 2 rfl) ?_
  refine va_get (D := D) (ci := 0) (v := .int (nI (tw_P k))) (C := RX0) (T := TX0) (N := 12) hx hb ht inX0 hown hK hP 0 rfl rfl 0 (by decide) (ht _ kf_X0_9) (fun _ h9 => h9) rfl dX0_rootFor_29 ?_
  refine nv_iadd hx hb dX0_rootFor_32 ?_
  refine lv_iconst (v := (nI 1)) hx hb dX0_rootFor_33 (by decide) ?_
  refine nv_isub hx hb dX0_rootFor_34 (Nat.le_trans hP0 (Nat.le_add_left _ _)) ?_
  refine lv_aload_n hx hb dX0_rootFor_35 rfl (lv_at hl 2 rfl) ?_
  refine va_get (D := D) (ci := 0) (v := .int (nI (tw_P k))) (C := RX0) (T := TX0) (N := 12) hx hb ht inX0 hown hK hP 0 rfl rfl 0 (by decide) (ht _ kf_X0_9) (fun _ h9 => h9) rfl dX0_rootFor_36 ?_
  refine nv_irem hx hb dX0_rootFor_39 hP0 (nv_le (b := 16201) (Nat.le_trans (Nat.sub_le _ _) (Nat.add_le_add (nv_md hP0 hP2) hP2)) (by decide)) (nv_le (b := 8101) hP2 (by decide)) ?_
  refine lv_aload_n hx hb dX0_rootFor_40 rfl (lv_at hl 2 rfl) ?_
  refine va_get (D := D) (ci := 0) (v := .ref ai) (C := RX0) (T := TX0) (N := 12) hx hb ht inX0 hown hK hP 0 rfl rfl 4 (by decide) (ht _ kf_X0_13) (fun _ h9 => h9) rfl dX0_rootFor_41 ?_
  refine lv_iload_n hx hb dX0_rootFor_44 rfl (lv_at hl 0 rfl) ?_
  refine nv_iald (A := fun _ => True) (H0 := s.heap) hx hb hK hP 1 0 rfl rfl (Nat.mod_lt _ hP0) (nv_le hP2 (by decide)) dX0_rootFor_45 ?_
  rw [hfi _ (Nat.mod_lt _ hP0)]
  refine nv_imul hx hb dX0_rootFor_46 ?_
  refine lv_aload_n hx hb dX0_rootFor_47 rfl (lv_at hl 2 rfl) ?_
  refine va_get (D := D) (ci := 0) (v := .int (nI (tw_P k))) (C := RX0) (T := TX0) (N := 12) hx hb ht inX0 hown hK hP 0 rfl rfl 0 (by decide) (ht _ kf_X0_9) (fun _ h9 => h9) rfl dX0_rootFor_48 ?_
  refine nv_irem hx hb dX0_rootFor_51 hP0 (nv_le (b := 65610000) (Nat.mul_le_mul (nv_md hP0 hP2) (Nat.le_of_lt_succ (Nat.lt_of_lt_of_le (tw_iv_lt hP0 _) hP2))) (by decide)) (nv_le (b := 8101) hP2 (by decide)) ?_
  refine nv_iald (A := fun _ => True) (H0 := s.heap) hx hb hK hP 2 0 rfl rfl (Nat.mod_lt _ hP0) (nv_le hP2 (by decide)) dX0_rootFor_52 ?_
  rw [hfr _ (Nat.mod_lt _ hP0)]
  exact W.iret hx hb hr (fun t ht hW => ⟨_, rfl, rfl, ht⟩) (fun q h => nomatch h) dX0_rootFor_53
set_option maxHeartbeats 4000000 in
set_option maxRecDepth 100000 in
theorem c_X0_read (l : Launch) (D : va_G) {k : Nat} (hk5 : k < 5) {n fc h0 : Nat} {ff : Nat → Int32} {j : Nat} (hj : j < 2 ^ 31) : Met l yX0_read wX0_read ({ frames := 1, cells := 0, slots := 0, locals := 23 }) (va_Pc [.ref h0, .int (nI j)] (cv_at D k n fc h0 ff)) (vp_Si (fun r => r = tw_rr (tw_P k) (tw_D k) j)) 0 0 (fun _ => False) := by
  refine Met.ofW (cc := cX0_read) (maxL := 5) (ret := (some .int)) (by decide) rfl ?_
  intro p e s m args below meth c s₁ B hml hv
  obtain ⟨rfl, hv⟩ := hv
  have hx := B.exec
  have hb := B.bytes
  have hr := B.returns
  have hts := atoms_spec (ws := wX0_read) B.pre
  have ht : ∀ w ∈ tb_all, w.before _ s = true := fun w h => hts w (List.mem_cons_of_mem _ h)
  have hown : s.vm.findClass RX0 = some m.cls := findClass_of_methodNamed B.named
  have hlocks := B.notSynchronized
  have hl := lv_entry ([.ref h0, .int (nI j)]) (n := 5) (Nat.le_of_ble_eq_true rfl)
  rw [lg_entry_eq]
  generalize (lg_sl ([.ref h0, .int (nI j)]) ++ List.replicate (5 - (lg_sl ([.ref h0, .int (nI j)])).length) Slot.unset).toArray = ls at hl ⊢
  have hl : lv_has ls 5 [(0, .ref h0), (1, .int (nI j))] := hl
  obtain ⟨hP0, hP2, hD2, hI2, hDP⟩ := tw_kb hk5
  have hat := hv
  obtain ⟨ai, ar, af, ap, ah, ac, cA, hk, fi, fr, fp, fh, fn, hP, hK, hfi, hfr⟩ := hv
  have zj : j ≤ 2147483647 := Nat.le_of_lt_succ hj
  have hK0 := tw_kK k hk5
  refine lv_iload_n hx hb dX0_read_0 rfl (lv_at hl 1 rfl) ?_
  refine nv_if_lt (tgt := 23) hx hb dX0_read_1 (by decide) (nv_le (b := 2147483647) zj (by decide)) ?_
  refine lv_iload_n hx hb dX0_read_4 rfl (lv_at hl 1 rfl) ?_
  refine lv_sipush (v := (nI 16384)) hx hb dX0_read_5 (by decide) ?_
  refine nv_icmp_ge (tgt := 23) hx hb dX0_read_8 (by decide) (nv_le (b := 2147483647) zj (by decide)) (nv_le (b := 16384) (Nat.le_refl 16384) (by decide)) (fun c8 => ?_) (fun c8 => ?_)
  · refine lv_iconst (v := (-1)) hx hb dX0_read_23 (by decide) ?_
    exact W.iret hx hb hr (fun t ht hW => ⟨_, rfl, (tw_rr_none (tw_rd_big (Or.inl c8))).symm, ht⟩) (fun q h => nomatch h) dX0_read_24
  · refine lv_iload_n hx hb dX0_read_11 rfl (lv_at hl 1 rfl) ?_
    refine lv_sipush (v := (nI 8191)) hx hb dX0_read_12 (by decide) ?_
    refine nv_iand hx hb 13 dX0_read_15 (Nat.lt_trans (nv_le (b := 2147483647) zj (by decide)) (by decide)) (by decide) ?_
    refine lv_aload_n hx hb dX0_read_16 rfl (lv_at hl 0 rfl) ?_
    refine va_get (D := D) (ci := 0) (v := .int (nI (tw_P k))) (C := RX0) (T := TX0) (N := 12) hx hb ht inX0 hown hK hP 0 rfl rfl 0 (by decide) (ht _ kf_X0_9) (fun _ h9 => h9) rfl dX0_read_17 ?_
    refine nv_icmp_lt (tgt := 25) hx hb dX0_read_20 (by decide) (nv_le (b := 8191) (Nat.le_of_lt_succ (Nat.mod_lt _ (by decide))) (by decide)) (nv_le (b := 8101) hP2 (by decide)) (fun c20 => ?_) (fun c20 => ?_)
    · refine lv_iload_n hx hb dX0_read_25 rfl (lv_at hl 1 rfl) ?_
      refine lv_sipush (v := (nI 8191)) hx hb dX0_read_26 (by decide) ?_
      refine nv_iand hx hb 13 dX0_read_29 (Nat.lt_trans (nv_le (b := 2147483647) zj (by decide)) (by decide)) (by decide) ?_
      refine lv_istore_n hx hb dX0_read_30 rfl hl (by decide) rfl (fun ls hl => ?_)
      have hl : lv_has ls 5 [(2, .int (nI (j % 2 ^ 13))), (0, .ref h0), (1, .int (nI j))] := hl
      refine lv_iload_n hx hb dX0_read_31 rfl (lv_at hl 2 rfl) ?_
      refine lv_bipush (v := (nI 13)) hx hb dX0_read_32 (by decide) ?_
      refine nv_ishr hx hb 13 dX0_read_34 (by decide) (nv_le (b := 2147483647) zj (by decide)) ?_
      refine lv_istore_n hx hb dX0_read_35 rfl hl (by decide) rfl (fun ls hl => ?_)
      have hl : lv_has ls 5 [(3, .int (nI (j / 2 ^ 13))), (2, .int (nI (j % 2 ^ 13))), (0, .ref h0), (1, .int (nI j))] := hl
      refine lv_aload_n hx hb dX0_read_36 rfl (lv_at hl 2 rfl) ?_
      refine lv_iload_n hx hb dX0_read_37 rfl (lv_at hl 1 rfl) ?_
      refine vp_callSi (W.runV (As := [.int (nI (j % 2 ^ 13))]) (rest := []) ⟨hx, hb, hml, hown, ht⟩ (c_X0_rootFor l D hk5 c20) (cwV 1 ht (tb_V kl_X0_64 ki_X0_rootFor ks_X0_rootFor kn_X0 kc_X0_rootFor) rfl rfl rfl ⟨rfl, kd_X0_rootFor⟩ ⟨Nat.le_of_ble_eq_true rfl, Nat.le_of_ble_eq_true rfl⟩) (cv_pre hat _) rfl rfl hl.1 rfl (lv_room (Nat.le_of_ble_eq_true rfl)) dX0_read_38 ⟨Nat.zero_le _, Nat.zero_le _⟩) (fun r hr9 => ?_)
      subst hr9
      refine lv_istore hx hb dX0_read_41 hl (by decide) rfl (fun ls hl => ?_)
      have hl : lv_has ls 5 [(4, .int (tw_rv (tw_P k) (tw_w (tw_P k) (tw_D k) (j % 2 ^ 13)))), (3, .int (nI (j / 2 ^ 13))), (2, .int (nI (j % 2 ^ 13))), (0, .ref h0), (1, .int (nI j))] := hl
      have hrd := tw_rd_r (D := tw_D k) c20 c8
      cases er : tw_rt (tw_P k) (tw_w (tw_P k) (tw_D k) (j % 2 ^ 13)) with
      | none =>
        have e9 : tw_rv (tw_P k) (tw_w (tw_P k) (tw_D k) (j % 2 ^ 13)) = -1 := by unfold tw_rv; rw [er]
        rw [e9] at hl
        rw [er] at hrd
        refine lv_iload hx hb dX0_read_43 (lv_at hl 0 rfl) ?_
        refine nv_if_ltM (tgt := 58) hx hb dX0_read_45 (by decide) ?_
        refine lv_iconst (v := (-1)) hx hb dX0_read_58 (by decide) ?_
        exact W.iret hx hb hr (fun t ht hW => ⟨_, rfl, (tw_rr_none hrd).symm, ht⟩) (fun q h => nomatch h) dX0_read_59
      | some r =>
        have e9 : tw_rv (tw_P k) (tw_w (tw_P k) (tw_D k) (j % 2 ^ 13)) = nI r := by unfold tw_rv; rw [er]
        rw [e9] at hl
        rw [er] at hrd
        have hr5 := tw_rt_some er
        have zr : r ≤ 8100 := by omega
        dsimp only at hrd
        have k60 : ∀ ls : Array Slot, lv_has ls 5 [(4, .int (nI r)), (3, .int (nI (j / 2 ^ 13))), (2, .int (nI (j % 2 ^ 13))), (0, .ref h0), (1, .int (nI j))] → ¬ (r = 0 ∧ j / 2 ^ 13 = 1) → W p l e (headSpec wX0_read ({ frames := 1, cells := 0, slots := 0, locals := 23 })).room s m ([.ref h0, .int (nI j)]).toArray below meth c s.heap [] 0 0 (MQ below (vp_Si (fun r => r = tw_rr (tw_P k) (tw_D k) j)) ([.ref h0, .int (nI j)]).toArray s 0 0 (fun _ => False)) (F0 m 60 ls []) := by
          intro ls hl hn
          rw [if_neg hn] at hrd
          refine lv_iload hx hb dX0_read_60 (lv_at hl 0 rfl) ?_
          refine lv_iconst (v := (nI 1)) hx hb dX0_read_62 (by decide) ?_
          refine nv_iand hx hb 1 dX0_read_63 (Nat.lt_trans (nv_le (b := 8100) zr (by decide)) (by decide)) (by decide) ?_
          refine lv_iload_n hx hb dX0_read_64 rfl (lv_at hl 1 rfl) ?_
          refine nv_icmp_ne (tgt := 73) hx hb dX0_read_65 (by decide) (nv_le (b := 1) (Nat.le_of_lt_succ (Nat.mod_lt _ (by decide))) (by decide)) (nv_le (b := 262143) (Nat.div_le_div_right zj) (by decide)) (fun c65 => ?_) (fun c65 => ?_)
          · rw [if_neg (show ¬ r % 2 = j / 2 ^ 13 from c65)] at hrd
            refine lv_aload_n hx hb dX0_read_73 rfl (lv_at hl 3 rfl) ?_
            refine va_get (D := D) (ci := 0) (v := .int (nI (tw_P k))) (C := RX0) (T := TX0) (N := 12) hx hb ht inX0 hown hK hP 0 rfl rfl 0 (by decide) (ht _ kf_X0_9) (fun _ h9 => h9) rfl dX0_read_74 ?_
            refine lv_iload hx hb dX0_read_77 (lv_at hl 0 rfl) ?_
            refine nv_isub hx hb dX0_read_79 (Nat.le_of_lt hr5.1) ?_
            refine lv_iload_n hx hb dX0_read_80 rfl (lv_at hl 2 rfl) ?_
            refine vp_callSi (W.runS (As := [.int (nI ((tw_P k) - r)), .int (nI (j % 2 ^ 13))]) (rest := []) ⟨hx, hb, hml, hown, ht⟩ (c_X0_point l (x := tw_P k - r) (y := j % 2 ^ 13) (by omega) (by omega)) (va_cwS 2 ht (tb_S kl_X0_67 kt_X0_point kn_X0 kc_X0_point) rfl rfl rfl kd_X0_point ⟨Nat.le_of_ble_eq_true rfl, Nat.le_of_ble_eq_true rfl⟩) (st_pre _) rfl rfl hl.1 rfl (lv_room (Nat.le_of_ble_eq_true rfl)) dX0_read_81 ⟨Nat.zero_le _, Nat.zero_le _⟩) (fun r hr9 => ?_)
            subst hr9
            exact W.iret hx hb hr (fun t ht hW => ⟨_, rfl, (tw_rr_some hrd).symm, ht⟩) (fun q h => nomatch h) dX0_read_84
          · rw [if_pos (show r % 2 = j / 2 ^ 13 from c65)] at hrd
            refine lv_iload hx hb dX0_read_68 (lv_at hl 0 rfl) ?_
            refine lv_goto (tgt := 80) hx hb dX0_read_70 (by decide) ?_
            refine lv_iload_n hx hb dX0_read_80 rfl (lv_at hl 2 rfl) ?_
            refine vp_callSi (W.runS (As := [.int (nI r), .int (nI (j % 2 ^ 13))]) (rest := []) ⟨hx, hb, hml, hown, ht⟩ (c_X0_point l (x := r) (y := j % 2 ^ 13) (by omega) (by omega)) (va_cwS 2 ht (tb_S kl_X0_67 kt_X0_point kn_X0 kc_X0_point) rfl rfl rfl kd_X0_point ⟨Nat.le_of_ble_eq_true rfl, Nat.le_of_ble_eq_true rfl⟩) (st_pre _) rfl rfl hl.1 rfl (lv_room (Nat.le_of_ble_eq_true rfl)) dX0_read_81 ⟨Nat.zero_le _, Nat.zero_le _⟩) (fun r hr9 => ?_)
            subst hr9
            exact W.iret hx hb hr (fun t ht hW => ⟨_, rfl, (tw_rr_some hrd).symm, ht⟩) (fun q h => nomatch h) dX0_read_84
        refine lv_iload hx hb dX0_read_43 (lv_at hl 0 rfl) ?_
        refine nv_if_lt (tgt := 58) hx hb dX0_read_45 (by decide) (nv_le (b := 8100) zr (by decide)) ?_
        refine lv_iload hx hb dX0_read_48 (lv_at hl 0 rfl) ?_
        refine nv_if_ne (tgt := 60) hx hb dX0_read_50 (by decide) (nv_le (b := 8100) zr (by decide)) (fun c50 => ?_) (fun c50 => ?_)
        · exact k60 ls hl (by omega)
        · refine lv_iload_n hx hb dX0_read_53 rfl (lv_at hl 1 rfl) ?_
          refine lv_iconst (v := (nI 1)) hx hb dX0_read_54 (by decide) ?_
          refine nv_icmp_ne (tgt := 60) hx hb dX0_read_55 (by decide) (nv_le (b := 262143) (Nat.div_le_div_right zj) (by decide)) (nv_le (b := 1) (Nat.le_refl 1) (by decide)) (fun c55 => ?_) (fun c55 => ?_)
          · exact k60 ls hl (fun q => c55 q.2)
          · rw [if_pos ⟨c50, c55⟩] at hrd
            refine lv_iconst (v := (-1)) hx hb dX0_read_58 (by decide) ?_
            exact W.iret hx hb hr (fun t ht hW => ⟨_, rfl, (tw_rr_none hrd).symm, ht⟩) (fun q h => nomatch h) dX0_read_59
    · refine lv_iconst (v := (-1)) hx hb dX0_read_23 (by decide) ?_
      exact W.iret hx hb hr (fun t ht hW => ⟨_, rfl, (tw_rr_none (tw_rd_big (Or.inr c20))).symm, ht⟩) (fun q h => nomatch h) dX0_read_24
set_option maxHeartbeats 4000000 in
set_option maxRecDepth 100000 in
theorem c_X0_readM (l : Launch) (D : va_G) {k n fc h0 : Nat} {ff : Nat → Int32} {z : Int32} (hz : z < 0) : Met l yX0_read wX0_read ({ frames := 1, cells := 0, slots := 0, locals := 23 }) (va_Pc [.ref h0, .int z] (cv_at D k n fc h0 ff)) (vp_Si (fun r => r = -1)) 0 0 (fun _ => False) := by
  refine Met.ofW (cc := cX0_read) (maxL := 5) (ret := (some .int)) (by decide) rfl ?_
  intro p e s m args below meth c s₁ B hml hv
  obtain ⟨rfl, hv⟩ := hv
  have hx := B.exec
  have hb := B.bytes
  have hr := B.returns
  have hts := atoms_spec (ws := wX0_read) B.pre
  have ht : ∀ w ∈ tb_all, w.before _ s = true := fun w h => hts w (List.mem_cons_of_mem _ h)
  have hown : s.vm.findClass RX0 = some m.cls := findClass_of_methodNamed B.named
  have hlocks := B.notSynchronized
  have hl := lv_entry ([.ref h0, .int z]) (n := 5) (Nat.le_of_ble_eq_true rfl)
  rw [lg_entry_eq]
  generalize (lg_sl ([.ref h0, .int z]) ++ List.replicate (5 - (lg_sl ([.ref h0, .int z])).length) Slot.unset).toArray = ls at hl ⊢
  have hl : lv_has ls 5 [(0, .ref h0), (1, .int z)] := hl
  refine lv_iload_n hx hb dX0_read_0 rfl (lv_at hl 1 rfl) ?_
  refine lv_if_lt (tgt := 23) hx hb dX0_read_1 (by decide) (fun _ => ?_) (fun c9 => absurd hz c9)
  refine lv_iconst (v := (-1)) hx hb dX0_read_23 (by decide) ?_
  exact W.iret hx hb hr (fun t ht hW => ⟨_, rfl, rfl, ht⟩) (fun q h => nomatch h) dX0_read_24
