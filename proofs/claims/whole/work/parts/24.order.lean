/-! the order and the base -/
set_option maxHeartbeats 4000000 in
set_option maxRecDepth 100000 in
theorem c_X0_orderOf (l : Launch) (D : va_G) {k : Nat} (hk5 : k < 5) {h0 : Nat} {ff : Nat → Int32} (hff : ∀ j, j < (tw_fs k).length → ff j = nI ((tw_fs k).getD j 0)) {p9 : Nat × Nat} (hp9 : tw_on (tw_P k) (tw_D k) p9) : Met l yX0_orderOf wX0_orderOf ({ frames := 3, cells := 0, slots := 0, locals := 76 }) (va_Pc [.ref h0, .int (nI (tw_en p9))] (cv_at D k (tw_N k) (tw_fs k).length h0 ff)) (vp_Si (fun r => r = nI (tw_od (tw_P k) (tw_D k) (tw_N k) p9))) 0 0 (fun _ => False) := by
  refine Met.ofW (cc := cX0_orderOf) (maxL := 5) (ret := (some .int)) (by decide) rfl ?_
  intro p e s m args below meth c s₁ B hml hv
  obtain ⟨rfl, hv⟩ := hv
  have hx := B.exec
  have hb := B.bytes
  have hr := B.returns
  have hts := atoms_spec (ws := wX0_orderOf) B.pre
  have ht : ∀ w ∈ tb_all, w.before _ s = true := fun w h => hts w (List.mem_cons_of_mem _ h)
  have hown : s.vm.findClass RX0 = some m.cls := findClass_of_methodNamed B.named
  have hlocks := B.notSynchronized
  have hl := lv_entry ([.ref h0, .int (nI (tw_en p9))]) (n := 5) (Nat.le_of_ble_eq_true rfl)
  rw [lg_entry_eq]
  generalize (lg_sl ([.ref h0, .int (nI (tw_en p9))]) ++ List.replicate (5 - (lg_sl ([.ref h0, .int (nI (tw_en p9))])).length) Slot.unset).toArray = ls at hl ⊢
  have hl : lv_has ls 5 [(0, .ref h0), (1, .int (nI (tw_en p9)))] := hl
  obtain ⟨hP0, hP2, hD2, hI2, hDP⟩ := tw_kb hk5
  have hat := hv
  obtain ⟨ai, ar, af, ap, ah, ac, cA, hk, fi, fr, fp, fh, fn, hP, hK, hfi, hfr⟩ := hv
  have hK0 := tw_kK k hk5
  have zp := tw_en_le hP2 hp9
  have hN := tw_kN k hk5
  have hF := tw_fsb k hk5
  have hoq := (tw_oqk hk5 hp9 (t := fun m => decide (tw_mu (tw_P k) (tw_D k) m p9 = (0, 1))) (fun m => decide_eq_true_iff)).1
  refine lv_aload_n hx hb dX0_orderOf_0 rfl (lv_at hl 0 rfl) ?_
  refine va_get (D := D) (ci := 0) (v := .int (nI (tw_N k))) (C := RX0) (T := TX0) (N := 12) hx hb ht inX0 hown hK hP 0 rfl rfl 3 (by decide) (ht _ kf_X0_51) (fun _ h9 => h9) rfl dX0_orderOf_1 ?_
  refine lv_istore_n hx hb dX0_orderOf_4 rfl hl (by decide) rfl (fun ls hl => ?_)
  have hl : lv_has ls 5 [(2, .int (nI (tw_N k))), (0, .ref h0), (1, .int (nI (tw_en p9)))] := hl
  refine lv_iconst (v := (nI 0)) hx hb dX0_orderOf_5 (by decide) ?_
  refine lv_istore_n hx hb dX0_orderOf_6 rfl hl (by decide) rfl (fun ls hl => ?_)
  have hl : lv_has ls 5 [(3, .int (nI 0)), (2, .int (nI (tw_N k))), (0, .ref h0), (1, .int (nI (tw_en p9)))] := hl
  have loop : ∀ (f i o : Nat) (ls : Array Slot), (tw_fs k).length - i < f → i ≤ (tw_fs k).length → o ≤ 8232 → tw_oc (fun m => decide (tw_mu (tw_P k) (tw_D k) m p9 = (0, 1))) ((tw_fs k).drop i) o = tw_od (tw_P k) (tw_D k) (tw_N k) p9 → lv_has ls 5 [(3, .int (nI i)), (2, .int (nI o)), (0, .ref h0), (1, .int (nI (tw_en p9)))] → W p l e (headSpec wX0_orderOf ({ frames := 3, cells := 0, slots := 0, locals := 76 })).room s m ([.ref h0, .int (nI (tw_en p9))]).toArray below meth c s.heap [] 0 0 (MQ below (vp_Si (fun r => r = nI (tw_od (tw_P k) (tw_D k) (tw_N k) p9))) ([.ref h0, .int (nI (tw_en p9))]).toArray s 0 0 (fun _ => False)) (F0 m 7 ls []) := by
    intro f
    induction f with
    | zero => intro i o ls h1; exact absurd h1 (Nat.not_lt_zero _)
    | succ f ih =>
      intro i o ls h1 h2 h3 hinv hl
      have zi : i ≤ 14 := Nat.le_trans h2 hF.1
      refine lv_iload_n hx hb dX0_orderOf_7 rfl (lv_at hl 0 rfl) ?_
      refine lv_aload_n hx hb dX0_orderOf_8 rfl (lv_at hl 2 rfl) ?_
      refine va_get (D := D) (ci := 0) (v := .int (nI ((tw_fs k).length))) (C := RX0) (T := TX0) (N := 12) hx hb ht inX0 hown hK hP 0 rfl rfl 10 (by decide) (ht _ kf_X0_80) (fun _ h9 => h9) rfl dX0_orderOf_9 ?_
      refine nv_icmp_ge (tgt := 46) hx hb dX0_orderOf_12 (by decide) (nv_le (b := 14) zi (by decide)) (nv_le (b := 14) hF.1 (by decide)) (fun c12 => ?_) (fun c12 => ?_)
      · have e8 : i = (tw_fs k).length := Nat.le_antisymm h2 c12
        rw [e8, List.drop_length] at hinv
        have e9 : o = tw_od (tw_P k) (tw_D k) (tw_N k) p9 := hinv
        refine lv_iload_n hx hb dX0_orderOf_46 rfl (lv_at hl 1 rfl) ?_
        exact W.iret hx hb hr (fun t ht hW => ⟨_, rfl, by rw [← e9], ht⟩) (fun q h => nomatch h) dX0_orderOf_47
      · have hg := hF.2 i c12
        rw [tw_ocs c12] at hinv
        refine lv_iload_n hx hb dX0_orderOf_15 rfl (lv_at hl 1 rfl) ?_
        refine lv_aload_n hx hb dX0_orderOf_16 rfl (lv_at hl 2 rfl) ?_
        refine va_get (D := D) (ci := 0) (v := .ref af) (C := RX0) (T := TX0) (N := 12) hx hb ht inX0 hown hK hP 0 rfl rfl 6 (by decide) (ht _ kf_X0_20) (fun _ h9 => h9) rfl dX0_orderOf_17 ?_
        refine lv_iload_n hx hb dX0_orderOf_20 rfl (lv_at hl 0 rfl) ?_
        refine nv_iald (A := fun _ => True) (H0 := s.heap) hx hb hK hP 3 0 rfl rfl (by omega) (by decide) dX0_orderOf_21 ?_
        rw [hff _ c12]
        refine nv_idiv hx hb dX0_orderOf_22 (Nat.lt_of_lt_of_le (by decide) hg.1) (nv_le (b := 8232) h3 (by decide)) (nv_le (b := 43) (hF.2 i c12).2 (by decide)) ?_
        refine lv_istore hx hb dX0_orderOf_23 hl (by decide) rfl (fun ls hl => ?_)
        have hl : lv_has ls 5 [(4, .int (nI (o / ((tw_fs k).getD i 0)))), (3, .int (nI i)), (2, .int (nI o)), (0, .ref h0), (1, .int (nI (tw_en p9)))] := hl
        refine lv_aload_n hx hb dX0_orderOf_25 rfl (lv_at hl 3 rfl) ?_
        refine lv_iload hx hb dX0_orderOf_26 (lv_at hl 0 rfl) ?_
        refine lv_i2l (v := lN (o / ((tw_fs k).getD i 0))) hx hb dX0_orderOf_28 (nI_l (nv_le (b := 8232) (Nat.le_trans (Nat.div_le_self _ _) h3) (by decide))) ?_
        refine lv_iload_n hx hb dX0_orderOf_29 rfl (lv_at hl 4 rfl) ?_
        have zl : o / (tw_fs k).getD i 0 ≤ 8232 := Nat.le_trans (Nat.div_le_self _ _) h3
        have em : (tw_mu (tw_P k) (tw_D k) ((lN (o / (tw_fs k).getD i 0)).toInt % (tw_N k : Int)).toNat p9) = tw_mu (tw_P k) (tw_D k) (o / (tw_fs k).getD i 0) p9 := by rw [tw_lNm (by omega), tw_mN hk5 hp9]
        refine vp_callSi (W.runV (As := [.long (lN (o / ((tw_fs k).getD i 0))), .int (nI (tw_en p9))]) (rest := []) ⟨hx, hb, hml, hown, ht⟩ (c_X0_multiple l D hk5 (by omega) hN.2 (lN (o / (tw_fs k).getD i 0)) hp9) (cwV 2 ht (tb_V kl_X0_83 ki_X0_multiple ks_X0_multiple kn_X0 kc_X0_multiple) rfl rfl rfl ⟨rfl, kd_X0_multiple⟩ ⟨Nat.le_of_ble_eq_true rfl, Nat.le_of_ble_eq_true rfl⟩) (cv_pre hat _) rfl rfl hl.1 rfl (lv_room (Nat.le_of_ble_eq_true rfl)) dX0_orderOf_30 ⟨Nat.zero_le _, Nat.zero_le _⟩) (fun r hr9 => ?_)
        subst hr9
        rw [em]
        have hmo := tw_mu_on hK0 hp9 (o / (tw_fs k).getD i 0)
        have h1e := tw_en_1 (p := tw_mu (tw_P k) (tw_D k) (o / (tw_fs k).getD i 0) p9) (by have := hmo.2.1; omega)
        refine lv_iconst (v := (nI 1)) hx hb dX0_orderOf_33 (by decide) ?_
        refine nv_icmp_ne (tgt := 40) hx hb dX0_orderOf_34 (by decide) (nv_le (b := 67108863) (tw_en_le hP2 hmo) (by decide)) (nv_le (b := 1) (Nat.le_refl 1) (by decide)) (fun c34 => ?_) (fun c34 => ?_)
        · refine lv_iinc hx hb dX0_orderOf_40 hl (k := 1) rfl nv_inc (by decide) rfl (fun ls hl => ?_)
          have hl : lv_has ls 5 [(3, .int (nI (i + 1))), (4, .int (nI (o / ((tw_fs k).getD i 0)))), (2, .int (nI o)), (0, .ref h0), (1, .int (nI (tw_en p9)))] := hl
          refine lv_goto (tgt := 7) hx hb dX0_orderOf_43 (by decide) ?_
          rw [if_neg (by intro q9; exact c34 (h1e.mpr (of_decide_eq_true q9)))] at hinv
          exact ih (i + 1) o ls (by omega) (by omega) h3 hinv (lv_sub hl [0, 2, 3, 4] rfl)
        · refine lv_iload hx hb dX0_orderOf_37 (lv_at hl 0 rfl) ?_
          refine lv_istore_n hx hb dX0_orderOf_39 rfl hl (by decide) rfl (fun ls hl => ?_)
          have hl : lv_has ls 5 [(2, .int (nI (o / ((tw_fs k).getD i 0)))), (4, .int (nI (o / ((tw_fs k).getD i 0)))), (3, .int (nI i)), (0, .ref h0), (1, .int (nI (tw_en p9)))] := hl
          refine lv_iinc hx hb dX0_orderOf_40 hl (k := 2) rfl nv_inc (by decide) rfl (fun ls hl => ?_)
          have hl : lv_has ls 5 [(3, .int (nI (i + 1))), (2, .int (nI (o / ((tw_fs k).getD i 0)))), (4, .int (nI (o / ((tw_fs k).getD i 0)))), (0, .ref h0), (1, .int (nI (tw_en p9)))] := hl
          refine lv_goto (tgt := 7) hx hb dX0_orderOf_43 (by decide) ?_
          rw [if_pos (decide_eq_true (h1e.mp c34))] at hinv
          exact ih (i + 1) (o / (tw_fs k).getD i 0) ls (by omega) (by omega) zl hinv (lv_sub hl [0, 1, 3, 4] rfl)
  exact loop ((tw_fs k).length + 1) 0 (tw_N k) ls (by omega) (Nat.zero_le _) hN.2 hoq (lv_sub hl [0, 1, 2, 3] rfl)
set_option maxHeartbeats 4000000 in
set_option maxRecDepth 100000 in
theorem c_X0_leastOfGreatestOrder (l : Launch) (D : va_G) {k : Nat} (hk5 : k < 5) {h0 : Nat} {ff : Nat → Int32} (hff : ∀ j, j < (tw_fs k).length → ff j = nI ((tw_fs k).getD j 0)) : Met l yX0_leastOfGreatestOrder wX0_leastOfGreatestOrder ({ frames := 4, cells := 0, slots := 0, locals := 100 }) (va_Pc [.ref h0] (cv_at D k (tw_N k) (tw_fs k).length h0 ff)) (vp_Si (fun r => r = nI (tw_bst (tw_P k) (tw_D k) (tw_N k) 16384).2)) 0 0 (fun _ => False) := by
  refine Met.ofW (cc := cX0_leastOfGreatestOrder) (maxL := 6) (ret := (some .int)) (by decide) rfl ?_
  intro p e s m args below meth c s₁ B hml hv
  obtain ⟨rfl, hv⟩ := hv
  have hx := B.exec
  have hb := B.bytes
  have hr := B.returns
  have hts := atoms_spec (ws := wX0_leastOfGreatestOrder) B.pre
  have ht : ∀ w ∈ tb_all, w.before _ s = true := fun w h => hts w (List.mem_cons_of_mem _ h)
  have hown : s.vm.findClass RX0 = some m.cls := findClass_of_methodNamed B.named
  have hlocks := B.notSynchronized
  have hl := lv_entry ([.ref h0]) (n := 6) (Nat.le_of_ble_eq_true rfl)
  rw [lg_entry_eq]
  generalize (lg_sl ([.ref h0]) ++ List.replicate (6 - (lg_sl ([.ref h0])).length) Slot.unset).toArray = ls at hl ⊢
  have hl : lv_has ls 6 [(0, .ref h0)] := hl
  obtain ⟨hP0, hP2, hD2, hI2, hDP⟩ := tw_kb hk5
  have hat := hv
  obtain ⟨ai, ar, af, ap, ah, ac, cA, hk, fi, fr, fp, fh, fn, hP, hK, hfi, hfr⟩ := hv
  have hK0 := tw_kK k hk5
  have hN := tw_kN k hk5
  have hF := tw_fsb k hk5
  refine lv_iconst (v := (nI 0)) hx hb dX0_leastOfGreatestOrder_0 (by decide) ?_
  refine lv_istore_n hx hb dX0_leastOfGreatestOrder_1 rfl hl (by decide) rfl (fun ls hl => ?_)
  have hl : lv_has ls 6 [(1, .int (nI 0)), (0, .ref h0)] := hl
  refine lv_iconst (v := (nI 0)) hx hb dX0_leastOfGreatestOrder_2 (by decide) ?_
  refine lv_istore_n hx hb dX0_leastOfGreatestOrder_3 rfl hl (by decide) rfl (fun ls hl => ?_)
  have hl : lv_has ls 6 [(2, .int (nI 0)), (1, .int (nI 0)), (0, .ref h0)] := hl
  refine lv_iconst (v := (nI 0)) hx hb dX0_leastOfGreatestOrder_4 (by decide) ?_
  refine lv_istore_n hx hb dX0_leastOfGreatestOrder_5 rfl hl (by decide) rfl (fun ls hl => ?_)
  have hl : lv_has ls 6 [(3, .int (nI 0)), (2, .int (nI 0)), (1, .int (nI 0)), (0, .ref h0)] := hl
  have loop : ∀ (f j : Nat) (ls : Array Slot), 16384 - j < f → j ≤ 16384 → lv_has ls 6 [(3, .int (nI j)), (2, .int (nI (tw_bst (tw_P k) (tw_D k) (tw_N k) j).2)), (1, .int (nI (tw_bst (tw_P k) (tw_D k) (tw_N k) j).1)), (0, .ref h0)] → W p l e (headSpec wX0_leastOfGreatestOrder ({ frames := 4, cells := 0, slots := 0, locals := 100 })).room s m ([.ref h0]).toArray below meth c s.heap [] 0 0 (MQ below (vp_Si (fun r => r = nI (tw_bst (tw_P k) (tw_D k) (tw_N k) 16384).2)) ([.ref h0]).toArray s 0 0 (fun _ => False)) (F0 m 6 ls []) := by
    intro f
    induction f with
    | zero => intro j ls h1; exact absurd h1 (Nat.not_lt_zero _)
    | succ f ih =>
      intro j ls h1 h2 hl
      have hb9 := tw_bst_b hk5 j
      have z1 : (tw_bst (tw_P k) (tw_D k) (tw_N k) j).1 ≤ 8232 := Nat.le_trans hb9.1 hN.2
      have z2 : (tw_bst (tw_P k) (tw_D k) (tw_N k) j).2 ≤ 16384 := Nat.le_trans hb9.2 h2
      refine lv_iload_n hx hb dX0_leastOfGreatestOrder_6 rfl (lv_at hl 0 rfl) ?_
      refine lv_sipush (v := (nI 16384)) hx hb dX0_leastOfGreatestOrder_7 (by decide) ?_
      refine nv_icmp_ge (tgt := 63) hx hb dX0_leastOfGreatestOrder_10 (by decide) (nv_le (b := 16384) h2 (by decide)) (nv_le (b := 16384) (Nat.le_refl 16384) (by decide)) (fun c10 => ?_) (fun c10 => ?_)
      · have e8 : j = 16384 := Nat.le_antisymm h2 c10
        subst e8
        refine lv_iload_n hx hb dX0_leastOfGreatestOrder_63 rfl (lv_at hl 1 rfl) ?_
        exact W.iret hx hb hr (fun t ht hW => ⟨_, rfl, rfl, ht⟩) (fun q h => nomatch h) dX0_leastOfGreatestOrder_64
      · refine lv_iload_n hx hb dX0_leastOfGreatestOrder_13 rfl (lv_at hl 2 rfl) ?_
        refine lv_aload_n hx hb dX0_leastOfGreatestOrder_14 rfl (lv_at hl 3 rfl) ?_
        refine va_get (D := D) (ci := 0) (v := .int (nI (tw_N k))) (C := RX0) (T := TX0) (N := 12) hx hb ht inX0 hown hK hP 0 rfl rfl 3 (by decide) (ht _ kf_X0_51) (fun _ h9 => h9) rfl dX0_leastOfGreatestOrder_15 ?_
        refine nv_icmp_ge (tgt := 63) hx hb dX0_leastOfGreatestOrder_18 (by decide) (nv_le (b := 8232) z1 (by decide)) (nv_le (b := 8232) hN.2 (by decide)) (fun c18 => ?_) (fun c18 => ?_)
        · have e8 := tw_bst_e hk5 c18 (16384 - j)
          rw [Nat.add_sub_cancel' h2] at e8
          refine lv_iload_n hx hb dX0_leastOfGreatestOrder_63 rfl (lv_at hl 1 rfl) ?_
          exact W.iret hx hb hr (fun t ht hW => ⟨_, rfl, by rw [e8], ht⟩) (fun q h => nomatch h) dX0_leastOfGreatestOrder_64
        · refine lv_aload_n hx hb dX0_leastOfGreatestOrder_21 rfl (lv_at hl 3 rfl) ?_
          refine lv_iload_n hx hb dX0_leastOfGreatestOrder_22 rfl (lv_at hl 0 rfl) ?_
          refine vp_callSi (W.runV (As := [.int (nI j)]) (rest := []) ⟨hx, hb, hml, hown, ht⟩ (c_X0_read l D hk5 (j := j) (by omega)) (cwV 1 ht (tb_V kl_X0_87 ki_X0_read ks_X0_read kn_X0 kc_X0_read) rfl rfl rfl ⟨rfl, kd_X0_read⟩ ⟨Nat.le_of_ble_eq_true rfl, Nat.le_of_ble_eq_true rfl⟩) (cv_pre hat _) rfl rfl hl.1 rfl (lv_room (Nat.le_of_ble_eq_true rfl)) dX0_leastOfGreatestOrder_23 ⟨Nat.zero_le _, Nat.zero_le _⟩) (fun r hr9 => ?_)
          subst hr9
          refine lv_istore hx hb dX0_leastOfGreatestOrder_26 hl (by decide) rfl (fun ls hl => ?_)
          have hl : lv_has ls 6 [(4, .int (tw_rr (tw_P k) (tw_D k) j)), (3, .int (nI j)), (2, .int (nI ((tw_bst (tw_P k) (tw_D k) (tw_N k) j).2))), (1, .int (nI ((tw_bst (tw_P k) (tw_D k) (tw_N k) j).1))), (0, .ref h0)] := hl
          cases er : tw_rd (tw_P k) (tw_D k) j with
          | none =>
            rw [tw_rr_none er] at hl
            refine lv_iload hx hb dX0_leastOfGreatestOrder_28 (lv_at hl 0 rfl) ?_
            refine lv_iconst (v := (-1)) hx hb dX0_leastOfGreatestOrder_30 (by decide) ?_
            refine lv_icmp_ne (tgt := 38) hx hb dX0_leastOfGreatestOrder_31 (by decide) (fun c9 => absurd rfl c9) (fun _ => ?_)
            refine lv_iconst (v := (nI 0)) hx hb dX0_leastOfGreatestOrder_34 (by decide) ?_
            refine lv_goto (tgt := 44) hx hb dX0_leastOfGreatestOrder_35 (by decide) ?_
            refine lv_istore hx hb dX0_leastOfGreatestOrder_44 hl (by decide) rfl (fun ls hl => ?_)
            have hl : lv_has ls 6 [(5, .int (nI 0)), (4, .int (-1)), (3, .int (nI j)), (2, .int (nI ((tw_bst (tw_P k) (tw_D k) (tw_N k) j).2))), (1, .int (nI ((tw_bst (tw_P k) (tw_D k) (tw_N k) j).1))), (0, .ref h0)] := hl
            refine lv_iload hx hb dX0_leastOfGreatestOrder_46 (lv_at hl 0 rfl) ?_
            refine lv_iload_n hx hb dX0_leastOfGreatestOrder_48 rfl (lv_at hl 4 rfl) ?_
            refine nv_icmp_le (tgt := 57) hx hb dX0_leastOfGreatestOrder_49 (by decide) (nv_le (b := 0) (Nat.le_refl 0) (by decide)) (nv_le (b := 8232) z1 (by decide)) (fun c49 => ?_) (fun c49 => ?_)
            · have e7 := tw_bst_n (N := tw_N k) er
              refine lv_iinc hx hb dX0_leastOfGreatestOrder_57 hl (k := 2) rfl nv_inc (by decide) rfl (fun ls hl => ?_)
              have hl : lv_has ls 6 [(3, .int (nI (j + 1))), (5, .int (nI 0)), (4, .int (-1)), (2, .int (nI ((tw_bst (tw_P k) (tw_D k) (tw_N k) j).2))), (1, .int (nI ((tw_bst (tw_P k) (tw_D k) (tw_N k) j).1))), (0, .ref h0)] := hl
              refine lv_goto (tgt := 6) hx hb dX0_leastOfGreatestOrder_60 (by decide) ?_
              refine ih (j + 1) ls (by omega) (by omega) ?_
              rw [e7]
              exact lv_sub hl [0, 3, 4, 5] rfl
            · exact absurd c49 (Nat.not_lt_zero _)
          | some q =>
            rw [tw_rr_some er] at hl
            have hq9 := (tw_rd_some hK0 er).1
            have zq := tw_en_le hP2 hq9
            have ho9 := tw_od_spec (by omega) (tw_kM hk5 hq9)
            refine lv_iload hx hb dX0_leastOfGreatestOrder_28 (lv_at hl 0 rfl) ?_
            refine lv_iconst (v := (-1)) hx hb dX0_leastOfGreatestOrder_30 (by decide) ?_
            refine lv_icmp_ne (tgt := 38) hx hb dX0_leastOfGreatestOrder_31 (by decide) (fun _ => ?_) (fun c9 => absurd c9 (nv_m1 (by omega)))
            refine lv_aload_n hx hb dX0_leastOfGreatestOrder_38 rfl (lv_at hl 4 rfl) ?_
            refine lv_iload hx hb dX0_leastOfGreatestOrder_39 (lv_at hl 0 rfl) ?_
            refine vp_callSi (W.runV (As := [.int (nI (tw_en q))]) (rest := []) ⟨hx, hb, hml, hown, ht⟩ (c_X0_orderOf l D hk5 hff hq9) (cwV 1 ht (tb_V kl_X0_90 ki_X0_orderOf ks_X0_orderOf kn_X0 kc_X0_orderOf) rfl rfl rfl ⟨rfl, kd_X0_orderOf⟩ ⟨Nat.le_of_ble_eq_true rfl, Nat.le_of_ble_eq_true rfl⟩) (cv_pre hat _) rfl rfl hl.1 rfl (lv_room (Nat.le_of_ble_eq_true rfl)) dX0_leastOfGreatestOrder_41 ⟨Nat.zero_le _, Nat.zero_le _⟩) (fun r hr9 => ?_)
            subst hr9
            refine lv_istore hx hb dX0_leastOfGreatestOrder_44 hl (by decide) rfl (fun ls hl => ?_)
            have hl : lv_has ls 6 [(5, .int (nI (tw_od (tw_P k) (tw_D k) (tw_N k) q))), (4, .int (nI (tw_en q))), (3, .int (nI j)), (2, .int (nI ((tw_bst (tw_P k) (tw_D k) (tw_N k) j).2))), (1, .int (nI ((tw_bst (tw_P k) (tw_D k) (tw_N k) j).1))), (0, .ref h0)] := hl
            refine lv_iload hx hb dX0_leastOfGreatestOrder_46 (lv_at hl 0 rfl) ?_
            refine lv_iload_n hx hb dX0_leastOfGreatestOrder_48 rfl (lv_at hl 4 rfl) ?_
            refine nv_icmp_le (tgt := 57) hx hb dX0_leastOfGreatestOrder_49 (by decide) (nv_le (b := 8232) (Nat.le_trans ho9.2.1 hN.2) (by decide)) (nv_le (b := 8232) z1 (by decide)) (fun c49 => ?_) (fun c49 => ?_)
            · have e7 := tw_bst_s (N := tw_N k) er
              rw [if_neg (Nat.not_lt.mpr c49)] at e7
              refine lv_iinc hx hb dX0_leastOfGreatestOrder_57 hl (k := 2) rfl nv_inc (by decide) rfl (fun ls hl => ?_)
              have hl : lv_has ls 6 [(3, .int (nI (j + 1))), (5, .int (nI (tw_od (tw_P k) (tw_D k) (tw_N k) q))), (4, .int (nI (tw_en q))), (2, .int (nI ((tw_bst (tw_P k) (tw_D k) (tw_N k) j).2))), (1, .int (nI ((tw_bst (tw_P k) (tw_D k) (tw_N k) j).1))), (0, .ref h0)] := hl
              refine lv_goto (tgt := 6) hx hb dX0_leastOfGreatestOrder_60 (by decide) ?_
              refine ih (j + 1) ls (by omega) (by omega) ?_
              rw [e7]
              exact lv_sub hl [0, 3, 4, 5] rfl
            · have e7 := tw_bst_s (N := tw_N k) er
              rw [if_pos c49] at e7
              refine lv_iload hx hb dX0_leastOfGreatestOrder_52 (lv_at hl 0 rfl) ?_
              refine lv_istore_n hx hb dX0_leastOfGreatestOrder_54 rfl hl (by decide) rfl (fun ls hl => ?_)
              have hl : lv_has ls 6 [(1, .int (nI (tw_od (tw_P k) (tw_D k) (tw_N k) q))), (5, .int (nI (tw_od (tw_P k) (tw_D k) (tw_N k) q))), (4, .int (nI (tw_en q))), (3, .int (nI j)), (2, .int (nI ((tw_bst (tw_P k) (tw_D k) (tw_N k) j).2))), (0, .ref h0)] := hl
              refine lv_iload_n hx hb dX0_leastOfGreatestOrder_55 rfl (lv_at hl 3 rfl) ?_
              refine lv_istore_n hx hb dX0_leastOfGreatestOrder_56 rfl hl (by decide) rfl (fun ls hl => ?_)
              have hl : lv_has ls 6 [(2, .int (nI j)), (1, .int (nI (tw_od (tw_P k) (tw_D k) (tw_N k) q))), (5, .int (nI (tw_od (tw_P k) (tw_D k) (tw_N k) q))), (4, .int (nI (tw_en q))), (3, .int (nI j)), (0, .ref h0)] := hl
              refine lv_iinc hx hb dX0_leastOfGreatestOrder_57 hl (k := 4) rfl nv_inc (by decide) rfl (fun ls hl => ?_)
              have hl : lv_has ls 6 [(3, .int (nI (j + 1))), (2, .int (nI j)), (1, .int (nI (tw_od (tw_P k) (tw_D k) (tw_N k) q))), (5, .int (nI (tw_od (tw_P k) (tw_D k) (tw_N k) q))), (4, .int (nI (tw_en q))), (0, .ref h0)] := hl
              refine lv_goto (tgt := 6) hx hb dX0_leastOfGreatestOrder_60 (by decide) ?_
              refine ih (j + 1) ls (by omega) (by omega) ?_
              rw [e7]
              exact lv_sub hl [0, 1, 2, 5] rfl
  exact loop 16385 0 ls (by omega) (Nat.zero_le _) (lv_sub hl [0, 1, 2, 3] rfl)
