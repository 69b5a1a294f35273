/-! the model: packed numbers, multiples, orders -/
def tw_xr (P D j : Nat) : Int32 := match tw_rd P D j with
  | none => -1
  | some p => nI p.1
theorem tw_xr_none {P D j : Nat} (h : tw_rd P D j = none) : tw_xr P D j = -1 := by
  unfold tw_xr
  rw [h]
theorem tw_xr_some {P D j : Nat} {p : Nat × Nat} (h : tw_rd P D j = some p) : tw_xr P D j = nI p.1 := by
  unfold tw_xr
  rw [h]
theorem tw_rd_y {P D I j : Nat} (hK : tw_K P D I) {p : Nat × Nat} (hP : P ≤ 8192) (h : tw_rd P D j = some p) : p.2 = j % 8192 ∧ j < 16384 := by
  have a := tw_rd_some hK h
  have b := a.2
  have c := a.1.2.1
  unfold tw_pk at b
  omega
set_option maxHeartbeats 4000000 in
set_option maxRecDepth 100000 in
theorem c_X2_xOf (l : Launch) (D : va_G) {k : Nat} (hk5 : k < 5) {m0 mx my mr mb : Nat} {th sx sy : Int32} {cA : ClassId} {fr : Nat → Int32} (hfr : ∀ j, j < tw_P k → fr j = tw_rv (tw_P k) j) {j : Nat} (hj : j < 2 ^ 31) : Met l yX2_xOf wX2_xOf ({ frames := 2, cells := 0, slots := 0, locals := 49 }) (va_Pc [.ref m0, .int (nI j)] (fun U => va_P D vwCl [(m0, .inr (2, [.int th, .int (nI k), .int (nI (tw_P k)), .int (nI (tw_D k)), .int (nI (tw_I k)), .ref mx, .ref my, .ref mr, .ref mb, .int sx, .int sy])), (mr, .inl (cA, 8101, .inl fr))] U.heap ∧ va_K D vwCl [(cA, .int)] U)) (vp_Si (fun r => r = tw_xr (tw_P k) (tw_D k) j)) 0 0 (fun _ => False) := by
  refine Met.ofW (cc := cX2_xOf) (maxL := 4) (ret := (some .int)) (by decide) rfl ?_
  intro p e s m args below meth c s₁ B hml hv
  obtain ⟨rfl, hv⟩ := hv
  have hx := B.exec
  have hb := B.bytes
  have hr := B.returns
  have hts := atoms_spec (ws := wX2_xOf) B.pre
  have ht : ∀ w ∈ tb_all, w.before _ s = true := fun w h => hts w (List.mem_cons_of_mem _ h)
  have hown : s.vm.findClass RX2 = some m.cls := findClass_of_methodNamed B.named
  have hlocks := B.notSynchronized
  have hl := lv_entry ([.ref m0, .int (nI j)]) (n := 4) (Nat.le_of_ble_eq_true rfl)
  rw [lg_entry_eq]
  generalize (lg_sl ([.ref m0, .int (nI j)]) ++ List.replicate (4 - (lg_sl ([.ref m0, .int (nI j)])).length) Slot.unset).toArray = ls at hl ⊢
  have hl : lv_has ls 4 [(0, .ref m0), (1, .int (nI j))] := hl
  obtain ⟨hP, hK⟩ := hv
  obtain ⟨hP0, hP2, hD2, hI2, hDP⟩ := tw_kb hk5
  have hK0 := tw_kK k hk5
  have hP8 : tw_P k ≤ 8192 := by omega
  have hN := tw_kN k hk5
  have zk : k ≤ 4 := by omega
  have zj : j ≤ 2147483647 := Nat.le_of_lt_succ hj
  refine lv_iload_n hx hb dX2_xOf_0 rfl (lv_at hl 1 rfl) ?_
  refine nv_if_lt (tgt := 23) hx hb dX2_xOf_1 (by decide) (nv_le (b := 2147483647) zj (by decide)) ?_
  refine lv_iload_n hx hb dX2_xOf_4 rfl (lv_at hl 1 rfl) ?_
  refine lv_sipush (v := (nI 16384)) hx hb dX2_xOf_5 (by decide) ?_
  refine nv_icmp_ge (tgt := 23) hx hb dX2_xOf_8 (by decide) (nv_le (b := 2147483647) zj (by decide)) (nv_le (b := 16384) (Nat.le_refl 16384) (by decide)) (fun c8 => ?_) (fun c8 => ?_)
  · refine lv_iconst (v := (-1)) hx hb dX2_xOf_23 (by decide) ?_
    exact W.iret hx hb hr (fun t ht hW => ⟨_, rfl, (tw_xr_none (tw_rd_big (Or.inl c8))).symm, ht⟩) (fun q h => nomatch h) dX2_xOf_24
  · refine lv_iload_n hx hb dX2_xOf_11 rfl (lv_at hl 1 rfl) ?_
    refine lv_sipush (v := (nI 8192)) hx hb dX2_xOf_12 (by decide) ?_
    refine nv_irem hx hb dX2_xOf_15 (by decide) (nv_le (b := 2147483647) zj (by decide)) (nv_le (b := 8192) (Nat.le_refl 8192) (by decide)) ?_
    refine lv_aload_n hx hb dX2_xOf_16 rfl (lv_at hl 0 rfl) ?_
    refine va_get (D := D) (ci := 2) (v := .int (nI (tw_P k))) (C := RX2) (T := TX2) (N := 11) hx hb ht inX2 hown hK hP 0 rfl rfl 2 (by decide) (ht _ kf_X2_7) (fun _ h9 => h9) rfl dX2_xOf_17 ?_
    refine nv_icmp_lt (tgt := 25) hx hb dX2_xOf_20 (by decide) (nv_le (b := 8191) (nv_md (by decide) (Nat.le_refl 8192)) (by decide)) (nv_le (b := 8101) hP2 (by decide)) (fun c20 => ?_) (fun c20 => ?_)
    · have zy : j % 8192 ≤ 8100 := by omega
      have zyy : (j % 8192) * (j % 8192) < 2 ^ 31 := nv_le (b := 65610000) (Nat.mul_le_mul zy zy) (by decide)
      have hrd := tw_rd_r (D := tw_D k) (show j % 2 ^ 13 < tw_P k from c20) c8
      refine lv_iload_n hx hb dX2_xOf_25 rfl (lv_at hl 1 rfl) ?_
      refine lv_sipush (v := (nI 8192)) hx hb dX2_xOf_26 (by decide) ?_
      refine nv_irem hx hb dX2_xOf_29 (by decide) (nv_le (b := 2147483647) zj (by decide)) (nv_le (b := 8192) (Nat.le_refl 8192) (by decide)) ?_
      refine lv_istore_n hx hb dX2_xOf_30 rfl hl (by decide) rfl (fun ls hl => ?_)
      have hl : lv_has ls 4 [(2, .int (nI (j % 8192))), (0, .ref m0), (1, .int (nI j))] := hl
      refine lv_aload_n hx hb dX2_xOf_31 rfl (lv_at hl 1 rfl) ?_
      refine va_get (D := D) (ci := 2) (v := .ref mr) (C := RX2) (T := TX2) (N := 11) hx hb ht inX2 hown hK hP 0 rfl rfl 7 (by decide) (ht _ kf_X2_20) (fun _ h9 => h9) rfl dX2_xOf_32 ?_
      refine lv_aload_n hx hb dX2_xOf_35 rfl (lv_at hl 1 rfl) ?_
      refine lv_aload_n hx hb dX2_xOf_36 rfl (lv_at hl 1 rfl) ?_
      refine lv_iload_n hx hb dX2_xOf_37 rfl (lv_at hl 0 rfl) ?_
      refine lv_i2l (v := lN (j % 8192)) hx hb dX2_xOf_38 (nI_l (nv_le (b := 8100) zy (by decide))) ?_
      refine lv_iload_n hx hb dX2_xOf_39 rfl (lv_at hl 0 rfl) ?_
      refine lv_i2l (v := lN (j % 8192)) hx hb dX2_xOf_40 (nI_l (nv_le (b := 8100) zy (by decide))) ?_
      refine lv_lmul hx hb dX2_xOf_41 ?_
      rw [lN_mul]
      refine lv_lconst (v := lN 1) hx hb dX2_xOf_42 (by decide) ?_
      refine lv_lsub hx hb dX2_xOf_43 ?_
      refine vp_callSi (W.runV (As := [.long (lN ((j % 8192) * (j % 8192)) - lN 1)]) (rest := [.ref m0, .ref mr]) ⟨hx, hb, hml, hown, ht⟩ (c_X2_of l D hk5 (lN ((j % 8192) * (j % 8192)) - lN 1)) (cwV 1 ht (tb_V kl_X2_48 ki_X2_of ks_X2_of kn_X2 kc_X2_of) rfl rfl rfl ⟨rfl, kd_X2_of⟩ ⟨Nat.le_of_ble_eq_true rfl, Nat.le_of_ble_eq_true rfl⟩) (ro_preV _ (hP.sub (ws' := [(m0, .inr (2, [.int th, .int (nI k), .int (nI (tw_P k)), .int (nI (tw_D k)), .int (nI (tw_I k)), .ref mx, .ref my, .ref mr, .ref mb, .int sx, .int sy]))]) [0] rfl) (hK.sub (tys' := []) [] rfl) (va_recv (ci := 2) (q0 := 0) hK hP rfl rfl)) rfl rfl hl.1 rfl (lv_room (Nat.le_of_ble_eq_true rfl)) dX2_xOf_44 ⟨Nat.zero_le _, Nat.zero_le _⟩) (fun r hr9 => ?_)
      subst hr9
      rw [md_m1 hP0 zyy]
      refine lv_aload_n hx hb dX2_xOf_47 rfl (lv_at hl 1 rfl) ?_
      refine lv_lconst (v := lN 1) hx hb dX2_xOf_48 (by decide) ?_
      refine lv_iload_n hx hb dX2_xOf_49 rfl (lv_at hl 0 rfl) ?_
      refine lv_i2l (v := lN (j % 8192)) hx hb dX2_xOf_50 (nI_l (nv_le (b := 8100) zy (by decide))) ?_
      refine lv_iload_n hx hb dX2_xOf_51 rfl (lv_at hl 0 rfl) ?_
      refine lv_i2l (v := lN (j % 8192)) hx hb dX2_xOf_52 (nI_l (nv_le (b := 8100) zy (by decide))) ?_
      refine lv_lmul hx hb dX2_xOf_53 ?_
      rw [lN_mul]
      refine lv_aload_n hx hb dX2_xOf_54 rfl (lv_at hl 1 rfl) ?_
      refine va_get (D := D) (ci := 2) (v := .int (nI (tw_P k))) (C := RX2) (T := TX2) (N := 11) hx hb ht inX2 hown hK hP 0 rfl rfl 2 (by decide) (ht _ kf_X2_7) (fun _ h9 => h9) rfl dX2_xOf_55 ?_
      refine lv_i2l (v := lN (tw_P k)) hx hb dX2_xOf_58 (nI_l (nv_le (b := 8101) hP2 (by decide))) ?_
      refine lv_lrem hx hb dX2_xOf_59 (fm_ne hP0 (nv_le (b := 8101) hP2 (by decide))) ?_
      rw [pk_lRem (Nat.lt_of_le_of_lt (m := 65610000) (Nat.mul_le_mul zy zy) (by decide)) hP0 (Nat.lt_of_le_of_lt (m := 8101) hP2 (by decide))]
      refine lv_aload_n hx hb dX2_xOf_60 rfl (lv_at hl 1 rfl) ?_
      refine va_get (D := D) (ci := 2) (v := .int (nI (tw_D k))) (C := RX2) (T := TX2) (N := 11) hx hb ht inX2 hown hK hP 0 rfl rfl 3 (by decide) (ht _ kf_X2_36) (fun _ h9 => h9) rfl dX2_xOf_61 ?_
      refine lv_i2l (v := lN (tw_D k)) hx hb dX2_xOf_64 (nI_l (nv_le (b := 8100) hD2 (by decide))) ?_
      refine lv_lmul hx hb dX2_xOf_65 ?_
      rw [lN_mul]
      refine lv_ladd hx hb dX2_xOf_66 ?_
      rw [lN_add]
      refine vp_callSi (W.runV (As := [.long (lN (1 + ((((j % 8192) * (j % 8192)) % (tw_P k)) * (tw_D k))))]) (rest := [.int (nI (((j % 8192) * (j % 8192) % tw_P k + tw_P k - 1) % tw_P k)), .ref m0, .ref mr]) ⟨hx, hb, hml, hown, ht⟩ (c_X2_of l D hk5 (lN (1 + ((((j % 8192) * (j % 8192)) % (tw_P k)) * (tw_D k))))) (cwV 1 ht (tb_V kl_X2_48 ki_X2_of ks_X2_of kn_X2 kc_X2_of) rfl rfl rfl ⟨rfl, kd_X2_of⟩ ⟨Nat.le_of_ble_eq_true rfl, Nat.le_of_ble_eq_true rfl⟩) (ro_preV _ (hP.sub (ws' := [(m0, .inr (2, [.int th, .int (nI k), .int (nI (tw_P k)), .int (nI (tw_D k)), .int (nI (tw_I k)), .ref mx, .ref my, .ref mr, .ref mb, .int sx, .int sy]))]) [0] rfl) (hK.sub (tys' := []) [] rfl) (va_recv (ci := 2) (q0 := 0) hK hP rfl rfl)) rfl rfl hl.1 rfl (lv_room (Nat.le_of_ble_eq_true rfl)) dX2_xOf_67 ⟨Nat.zero_le _, Nat.zero_le _⟩) (fun r hr9 => ?_)
      subst hr9
      rw [tw_lNm (nv_le (b := 65610001) (Nat.add_le_add (Nat.le_refl 1) (Nat.mul_le_mul (nv_md hP0 hP2) hD2)) (by decide))]
      rw [Nat.mul_comm ((j % 8192) * (j % 8192) % tw_P k) (tw_D k)]
      refine vp_callSi (W.runV (As := [.int (nI (((j % 8192) * (j % 8192) % tw_P k + tw_P k - 1) % tw_P k)), .int (nI ((1 + tw_D k * ((j % 8192) * (j % 8192) % tw_P k)) % tw_P k))]) (rest := [.ref mr]) ⟨hx, hb, hml, hown, ht⟩ (c_X2_over l D hk5 (a := ((j % 8192) * (j % 8192) % tw_P k + tw_P k - 1) % tw_P k) (b := (1 + tw_D k * ((j % 8192) * (j % 8192) % tw_P k)) % tw_P k) (Nat.mod_lt _ hP0) (Nat.mod_lt _ hP0)) (cwV 2 ht (tb_V kl_X2_52 ki_X2_over ks_X2_over kn_X2 kc_X2_over) rfl rfl rfl ⟨rfl, kd_X2_over⟩ ⟨Nat.le_of_ble_eq_true rfl, Nat.le_of_ble_eq_true rfl⟩) (ro_preV _ (hP.sub (ws' := [(m0, .inr (2, [.int th, .int (nI k), .int (nI (tw_P k)), .int (nI (tw_D k)), .int (nI (tw_I k)), .ref mx, .ref my, .ref mr, .ref mb, .int sx, .int sy]))]) [0] rfl) (hK.sub (tys' := []) [] rfl) (va_recv (ci := 2) (q0 := 0) hK hP rfl rfl)) rfl rfl hl.1 rfl (lv_room (Nat.le_of_ble_eq_true rfl)) dX2_xOf_70 ⟨Nat.zero_le _, Nat.zero_le _⟩) (fun r hr9 => ?_)
      subst hr9
      refine nv_iald (A := fun _ => True) (H0 := s.heap) hx hb hK hP 1 0 rfl rfl (Nat.lt_of_lt_of_le (Nat.mod_lt _ hP0) hP2) (by decide) dX2_xOf_73 ?_
      rw [hfr _ (Nat.mod_lt _ hP0)]
      refine lv_istore_n hx hb dX2_xOf_74 rfl hl (by decide) rfl (fun ls hl => ?_)
      have hl : lv_has ls 4 [(3, .int (tw_rv (tw_P k) (tw_w (tw_P k) (tw_D k) (j % 8192)))), (2, .int (nI (j % 8192))), (0, .ref m0), (1, .int (nI j))] := hl
      cases er : tw_rt (tw_P k) (tw_w (tw_P k) (tw_D k) (j % 8192)) with
      | none =>
        have e9 : tw_rv (tw_P k) (tw_w (tw_P k) (tw_D k) (j % 8192)) = -1 := by unfold tw_rv; rw [er]
        rw [e9] at hl
        have hrd2 : tw_rd (tw_P k) (tw_D k) j = none := by rw [hrd, show tw_rt (tw_P k) (tw_w (tw_P k) (tw_D k) (j % 2 ^ 13)) = none from er]
        refine lv_iload_n hx hb dX2_xOf_75 rfl (lv_at hl 0 rfl) ?_
        refine lv_iconst (v := (-1)) hx hb dX2_xOf_76 (by decide) ?_
        refine lv_icmp_eq (tgt := 91) hx hb dX2_xOf_77 (by decide) (fun _ => ?_) (fun c9 => absurd rfl c9)
        refine lv_iload_n hx hb dX2_xOf_91 rfl (lv_at hl 0 rfl) ?_
        exact W.iret hx hb hr (fun t ht hW => ⟨_, rfl, (tw_xr_none hrd2).symm, ht⟩) (fun q h => nomatch h) dX2_xOf_92
      | some r9 =>
        have e9 : tw_rv (tw_P k) (tw_w (tw_P k) (tw_D k) (j % 8192)) = nI r9 := by unfold tw_rv; rw [er]
        rw [e9] at hl
        have hr5 := tw_rt_some er
        have zr : r9 ≤ 8100 := by omega
        have hrd2 : tw_rd (tw_P k) (tw_D k) j = if r9 = 0 ∧ j / 8192 = 1 then none else if r9 % 2 = j / 8192 then some (r9, j % 8192) else some (tw_P k - r9, j % 8192) := by rw [hrd, show tw_rt (tw_P k) (tw_w (tw_P k) (tw_D k) (j % 2 ^ 13)) = some r9 from er]
        refine lv_iload_n hx hb dX2_xOf_75 rfl (lv_at hl 0 rfl) ?_
        refine lv_iconst (v := (-1)) hx hb dX2_xOf_76 (by decide) ?_
        refine lv_icmp_eq (tgt := 91) hx hb dX2_xOf_77 (by decide) (fun c9 => absurd c9 (nv_m1 (by omega))) (fun _ => ?_)
        refine lv_iload_n hx hb dX2_xOf_80 rfl (lv_at hl 0 rfl) ?_
        refine lv_iconst (v := (nI 2)) hx hb dX2_xOf_81 (by decide) ?_
        refine nv_irem hx hb dX2_xOf_82 (by decide) (nv_le (b := 8100) zr (by decide)) (nv_le (b := 2) (Nat.le_refl 2) (by decide)) ?_
        refine lv_iload_n hx hb dX2_xOf_83 rfl (lv_at hl 3 rfl) ?_
        refine lv_sipush (v := (nI 8192)) hx hb dX2_xOf_84 (by decide) ?_
        refine nv_idiv hx hb dX2_xOf_87 (by decide) (nv_le (b := 2147483647) zj (by decide)) (nv_le (b := 8192) (Nat.le_refl 8192) (by decide)) ?_
        refine nv_icmp_ne (tgt := 93) hx hb dX2_xOf_88 (by decide) (nv_le (b := 1) (nv_md (by decide) (Nat.le_refl 2)) (by decide)) (nv_le (b := 2147483647) (Nat.le_trans (Nat.div_le_self _ _) zj) (by decide)) (fun c88 => ?_) (fun c88 => ?_)
        · refine lv_iload_n hx hb dX2_xOf_93 rfl (lv_at hl 0 rfl) ?_
          refine nv_if_ne (tgt := 101) hx hb dX2_xOf_94 (by decide) (nv_le (b := 8100) zr (by decide)) (fun c94 => ?_) (fun c94 => ?_)
          · rw [if_neg (by omega), if_neg c88] at hrd2
            refine lv_aload_n hx hb dX2_xOf_101 rfl (lv_at hl 2 rfl) ?_
            refine va_get (D := D) (ci := 2) (v := .int (nI (tw_P k))) (C := RX2) (T := TX2) (N := 11) hx hb ht inX2 hown hK hP 0 rfl rfl 2 (by decide) (ht _ kf_X2_7) (fun _ h9 => h9) rfl dX2_xOf_102 ?_
            refine lv_iload_n hx hb dX2_xOf_105 rfl (lv_at hl 0 rfl) ?_
            refine nv_isub hx hb dX2_xOf_106 (Nat.le_of_lt hr5.1) ?_
            exact W.iret hx hb hr (fun t ht hW => ⟨_, rfl, (tw_xr_some hrd2).symm, ht⟩) (fun q h => nomatch h) dX2_xOf_107
          · rw [if_pos (by omega)] at hrd2
            refine lv_iconst (v := (-1)) hx hb dX2_xOf_97 (by decide) ?_
            refine lv_goto (tgt := 107) hx hb dX2_xOf_98 (by decide) ?_
            exact W.iret hx hb hr (fun t ht hW => ⟨_, rfl, (tw_xr_none hrd2).symm, ht⟩) (fun q h => nomatch h) dX2_xOf_107
        · rw [if_neg (by omega), if_pos c88] at hrd2
          refine lv_iload_n hx hb dX2_xOf_91 rfl (lv_at hl 0 rfl) ?_
          exact W.iret hx hb hr (fun t ht hW => ⟨_, rfl, (tw_xr_some hrd2).symm, ht⟩) (fun q h => nomatch h) dX2_xOf_92
    · refine lv_iconst (v := (-1)) hx hb dX2_xOf_23 (by decide) ?_
      exact W.iret hx hb hr (fun t ht hW => ⟨_, rfl, (tw_xr_none (tw_rd_big (Or.inr c20))).symm, ht⟩) (fun q h => nomatch h) dX2_xOf_24
set_option maxHeartbeats 4000000 in
set_option maxRecDepth 100000 in
theorem c_X2_xOfM (l : Launch) (D : va_G) {k : Nat} (hk5 : k < 5) {m0 mx my mr mb : Nat} {th sx sy : Int32} {cA : ClassId} {fr : Nat → Int32} (hfr : ∀ j, j < tw_P k → fr j = tw_rv (tw_P k) j) {z : Int32} (hz : z < 0) : Met l yX2_xOf wX2_xOf ({ frames := 2, cells := 0, slots := 0, locals := 49 }) (va_Pc [.ref m0, .int z] (fun U => va_P D vwCl [(m0, .inr (2, [.int th, .int (nI k), .int (nI (tw_P k)), .int (nI (tw_D k)), .int (nI (tw_I k)), .ref mx, .ref my, .ref mr, .ref mb, .int sx, .int sy])), (mr, .inl (cA, 8101, .inl fr))] U.heap ∧ va_K D vwCl [(cA, .int)] U)) (vp_Si (fun r => r = -1)) 0 0 (fun _ => False) := by
  refine Met.ofW (cc := cX2_xOf) (maxL := 4) (ret := (some .int)) (by decide) rfl ?_
  intro p e s m args below meth c s₁ B hml hv
  obtain ⟨rfl, hv⟩ := hv
  have hx := B.exec
  have hb := B.bytes
  have hr := B.returns
  have hts := atoms_spec (ws := wX2_xOf) B.pre
  have ht : ∀ w ∈ tb_all, w.before _ s = true := fun w h => hts w (List.mem_cons_of_mem _ h)
  have hown : s.vm.findClass RX2 = some m.cls := findClass_of_methodNamed B.named
  have hlocks := B.notSynchronized
  have hl := lv_entry ([.ref m0, .int z]) (n := 4) (Nat.le_of_ble_eq_true rfl)
  rw [lg_entry_eq]
  generalize (lg_sl ([.ref m0, .int z]) ++ List.replicate (4 - (lg_sl ([.ref m0, .int z])).length) Slot.unset).toArray = ls at hl ⊢
  have hl : lv_has ls 4 [(0, .ref m0), (1, .int z)] := hl
  refine lv_iload_n hx hb dX2_xOf_0 rfl (lv_at hl 1 rfl) ?_
  refine lv_if_lt (tgt := 23) hx hb dX2_xOf_1 (by decide) (fun _ => ?_) (fun c9 => absurd hz c9)
  refine lv_iconst (v := (-1)) hx hb dX2_xOf_23 (by decide) ?_
  exact W.iret hx hb hr (fun t ht hW => ⟨_, rfl, rfl, ht⟩) (fun q h => nomatch h) dX2_xOf_24
set_option maxHeartbeats 4000000 in
set_option maxRecDepth 100000 in
theorem c_X2_times (l : Launch) (D : va_G) {k : Nat} (hk5 : k < 5) {m0 mx my mr mb : Nat} {th sx sy : Int32} {p9 : Nat × Nat} (hp9 : tw_on (tw_P k) (tw_D k) p9) {m9 : Nat} (hm9 : m9 < 2 ^ 31) (sz : Nat) : Met l yX2_times wX2_times ({ frames := 3, cells := 0, slots := 0, locals := 73 }) (va_Pc [.ref m0, .long (lN m9), .int (nI p9.1), .int (nI p9.2)] (wd_pre D [] [(m0, .inr (2, [.int th, .int (nI k), .int (nI (tw_P k)), .int (nI (tw_D k)), .int (nI (tw_I k)), .ref mx, .ref my, .ref mr, .ref mb, .int sx, .int sy]))] sz)) (va_Qv (fun (u : Unit) => u = ()) (fun (u : Unit) t => wd_at D [] (va_A [(m0, .inr (2, [.int th, .int (nI k), .int (nI (tw_P k)), .int (nI (tw_D k)), .int (nI (tw_I k)), .ref mx, .ref my, .ref mr, .ref mb, .int sx, .int sy]))] sz) [(m0, .inr (2, [.int th, .int (nI k), .int (nI (tw_P k)), .int (nI (tw_D k)), .int (nI (tw_I k)), .ref mx, .ref my, .ref mr, .ref mb, .int (nI (tw_mu (tw_P k) (tw_D k) m9 p9).1), .int (nI (tw_mu (tw_P k) (tw_D k) m9 p9).2)]))] t) (va_A [(m0, .inr (2, [.int th, .int (nI k), .int (nI (tw_P k)), .int (nI (tw_D k)), .int (nI (tw_I k)), .ref mx, .ref my, .ref mr, .ref mb, .int sx, .int sy]))] sz)) 0 0 (va_A [(m0, .inr (2, [.int th, .int (nI k), .int (nI (tw_P k)), .int (nI (tw_D k)), .int (nI (tw_I k)), .ref mx, .ref my, .ref mr, .ref mb, .int sx, .int sy]))] sz) := by
  refine Met.ofW (cc := cX2_times) (maxL := 9) (ret := none) (by decide) rfl ?_
  intro p e s m args below meth c s₁ B hml hv
  obtain ⟨rfl, hsz, hP, hK, hD0⟩ := hv
  have hx := B.exec
  have hb := B.bytes
  have hr := B.returns
  have hts := atoms_spec (ws := wX2_times) B.pre
  have ht : ∀ w ∈ tb_all, w.before _ s = true := fun w h => hts w (List.mem_cons_of_mem _ h)
  have hown : s.vm.findClass RX2 = some m.cls := findClass_of_methodNamed B.named
  have hlocks := B.notSynchronized
  have hin : meth.name = "times" := (name_of_methodNamed B.named B.method).1
  subst hsz
  have hD := hD0.self (sz := s.heap.size)
  generalize hAe : va_A [(m0, .inr (2, [.int th, .int (nI k), .int (nI (tw_P k)), .int (nI (tw_D k)), .int (nI (tw_I k)), .ref mx, .ref my, .ref mr, .ref mb, .int sx, .int sy]))] s.heap.size = A at hD ⊢
  have hA : ∀ q : Nat, s.heap.size ≤ q → A q := fun q h => by rw [← hAe]; exact Or.inr h
  have hS : va_S A s.heap s.heap [] := va_S.rf
  have hl := lv_entry ([.ref m0, .long (lN m9), .int (nI p9.1), .int (nI p9.2)]) (n := 9) (Nat.le_of_ble_eq_true rfl)
  rw [lg_entry_eq]
  generalize (lg_sl ([.ref m0, .long (lN m9), .int (nI p9.1), .int (nI p9.2)]) ++ List.replicate (9 - (lg_sl ([.ref m0, .long (lN m9), .int (nI p9.1), .int (nI p9.2)])).length) Slot.unset).toArray = ls at hl ⊢
  have hl : lv_has ls 9 [(0, .ref m0), (1, .long (lN m9)), (3, .int (nI p9.1)), (4, .int (nI p9.2))] := hl
  obtain ⟨hP0, hP2, hD2, hI2, hDP⟩ := tw_kb hk5
  have hK0 := tw_kK k hk5
  have hP8 : tw_P k ≤ 8192 := by omega
  have hN := tw_kN k hk5
  have zk : k ≤ 4 := by omega
  have hx1 := hp9.1
  have hy1 := hp9.2.1
  have zx : p9.1 ≤ 8100 := by omega
  have zy : p9.2 ≤ 8100 := by omega
  have zm : m9 ≤ 2147483647 := Nat.le_of_lt_succ hm9
  refine lv_iconst (v := (nI 0)) hx hb dX2_times_0 (by decide) ?_
  refine lv_istore hx hb dX2_times_1 hl (by decide) rfl (fun ls hl => ?_)
  have hl : lv_has ls 9 [(5, .int (nI 0)), (0, .ref m0), (1, .long (lN m9)), (3, .int (nI p9.1)), (4, .int (nI p9.2))] := hl
  refine lv_iconst (v := (nI 1)) hx hb dX2_times_3 (by decide) ?_
  refine lv_istore hx hb dX2_times_4 hl (by decide) rfl (fun ls hl => ?_)
  have hl : lv_has ls 9 [(6, .int (nI 1)), (5, .int (nI 0)), (0, .ref m0), (1, .long (lN m9)), (3, .int (nI p9.1)), (4, .int (nI p9.2))] := hl
  refine lv_lconst (v := lN 0) hx hb dX2_times_6 (by decide) ?_
  refine lv_lstore hx hb dX2_times_7 hl (by decide) rfl (fun ls hl => ?_)
  have hl : lv_has ls 9 [(7, .long (lN 0)), (6, .int (nI 1)), (5, .int (nI 0)), (0, .ref m0), (1, .long (lN m9)), (3, .int (nI p9.1)), (4, .int (nI p9.2))] := hl
  have loop : ∀ (f9 i : Nat) (s1 s2 : Int32) (H : Heap) (locs : List Loc) (ls : Array Slot), m9 - i < f9 → i ≤ m9 → va_P D vwCl [(m0, .inr (2, [.int th, .int (nI k), .int (nI (tw_P k)), .int (nI (tw_D k)), .int (nI (tw_I k)), .ref mx, .ref my, .ref mr, .ref mb, .int s1, .int s2]))] H → va_D A [(m0, .inr (2, [.int th, .int (nI k), .int (nI (tw_P k)), .int (nI (tw_D k)), .int (nI (tw_I k)), .ref mx, .ref my, .ref mr, .ref mb, .int s1, .int s2]))] → va_S A s.heap H locs → lv_has ls 9 [(7, .long (lN i)), (6, .int (nI (tw_mu (tw_P k) (tw_D k) i p9).2)), (5, .int (nI (tw_mu (tw_P k) (tw_D k) i p9).1)), (0, .ref m0), (1, .long (lN m9)), (3, .int (nI p9.1)), (4, .int (nI p9.2))] → W p l e (headSpec wX2_times ({ frames := 3, cells := 0, slots := 0, locals := 73 })).room s m ([.ref m0, .long (lN m9), .int (nI p9.1), .int (nI p9.2)]).toArray below meth c H locs 0 0 (MQ below (va_Qv (fun (u : Unit) => u = ()) (fun (u : Unit) t => wd_at D [] (A) [(m0, .inr (2, [.int th, .int (nI k), .int (nI (tw_P k)), .int (nI (tw_D k)), .int (nI (tw_I k)), .ref mx, .ref my, .ref mr, .ref mb, .int (nI (tw_mu (tw_P k) (tw_D k) m9 p9).1), .int (nI (tw_mu (tw_P k) (tw_D k) m9 p9).2)]))] t) A) ([.ref m0, .long (lN m9), .int (nI p9.1), .int (nI p9.2)]).toArray s 0 0 A) (F0 m 9 ls []) := by
    intro f9
    induction f9 with
    | zero => intro i s1 s2 H locs ls h1; exact absurd h1 (Nat.not_lt_zero _)
    | succ f9 ih =>
      intro i s1 s2 H locs ls h1 h2 hP hD hS hl
      have zi : i ≤ 2147483647 := Nat.le_trans h2 zm
      have hmi := tw_mu_on hK0 hp9 i
      have zi1 : (tw_mu (tw_P k) (tw_D k) i p9).1 ≤ 8100 := by have := hmi.1; omega
      have zi2 : (tw_mu (tw_P k) (tw_D k) i p9).2 ≤ 8100 := by have := hmi.2.1; omega
      refine lv_lload hx hb dX2_times_9 (lv_at hl 0 rfl) ?_
      refine lv_lload_n hx hb dX2_times_11 rfl (lv_at hl 4 rfl) ?_
      refine W.lcmp hx hb dX2_times_12 ?_
      refine lv_if_ge (tgt := 48) hx hb dX2_times_13 (by decide) (fun c1 => ?_) (fun c1 => ?_)
      · have c2 : m9 ≤ i := (lN_le hm9 (by omega)).mp ((lg_cmp_ge _ _).mp c1)
        have e8 : i = m9 := Nat.le_antisymm h2 c2
        subst e8
        refine lv_aload_n hx hb dX2_times_48 rfl (lv_at hl 3 rfl) ?_
        refine lv_iload hx hb dX2_times_49 (lv_at hl 2 rfl) ?_
        refine va_put (D := D) (ci := 2) (v := .int (nI ((tw_mu (tw_P k) (tw_D k) i p9).1))) (ty := .int) (C := RX2) (T := TX2) (N := 11) hx hb ht inX2 tyX2 tyX2_ok nmX2 hown hK hP hD hS 0 rfl rfl 9 (by decide) (ht _ kf_X2_59) (fun _ h9 => h9) rfl (by decide +kernel) rfl rfl (Nat.le_of_ble_eq_true rfl) dX2_times_51 (fun H locs hP hD hS => ?_)
        have hP : va_P D vwCl [(m0, .inr (2, [.int th, .int (nI k), .int (nI (tw_P k)), .int (nI (tw_D k)), .int (nI (tw_I k)), .ref mx, .ref my, .ref mr, .ref mb, .int (nI (tw_mu (tw_P k) (tw_D k) i p9).1), .int s2]))] H := hP
        have hD : va_D A [(m0, .inr (2, [.int th, .int (nI k), .int (nI (tw_P k)), .int (nI (tw_D k)), .int (nI (tw_I k)), .ref mx, .ref my, .ref mr, .ref mb, .int (nI (tw_mu (tw_P k) (tw_D k) i p9).1), .int s2]))] := hD
        refine lv_aload_n hx hb dX2_times_54 rfl (lv_at hl 3 rfl) ?_
        refine lv_iload hx hb dX2_times_55 (lv_at hl 1 rfl) ?_
        refine va_put (D := D) (ci := 2) (v := .int (nI ((tw_mu (tw_P k) (tw_D k) i p9).2))) (ty := .int) (C := RX2) (T := TX2) (N := 11) hx hb ht inX2 tyX2 tyX2_ok nmX2 hown hK hP hD hS 0 rfl rfl 10 (by decide) (ht _ kf_X2_56) (fun _ h9 => h9) rfl (by decide +kernel) rfl rfl (Nat.le_of_ble_eq_true rfl) dX2_times_57 (fun H locs hP hD hS => ?_)
        have hP : va_P D vwCl [(m0, .inr (2, [.int th, .int (nI k), .int (nI (tw_P k)), .int (nI (tw_D k)), .int (nI (tw_I k)), .ref mx, .ref my, .ref mr, .ref mb, .int (nI (tw_mu (tw_P k) (tw_D k) i p9).1), .int (nI (tw_mu (tw_P k) (tw_D k) i p9).2)]))] H := hP
        have hD : va_D A [(m0, .inr (2, [.int th, .int (nI k), .int (nI (tw_P k)), .int (nI (tw_D k)), .int (nI (tw_I k)), .ref mx, .ref my, .ref mr, .ref mb, .int (nI (tw_mu (tw_P k) (tw_D k) i p9).1), .int (nI (tw_mu (tw_P k) (tw_D k) i p9).2)]))] := hD
        exact W.vret hx hb hr (fun t ht9 hW => ⟨⟨(), rfl, rfl, by rw [ht9]; exact hP, va_K.moved hW.alike hK, hD⟩, hS.F ht9⟩) hS.2.2 dX2_times_60
      · have c2 : i < m9 := Nat.lt_of_not_le (fun z => c1 ((lg_cmp_ge _ _).mpr ((lN_le hm9 (by omega)).mpr z)))
        refine lv_aload_n hx hb dX2_times_16 rfl (lv_at hl 3 rfl) ?_
        refine lv_iload hx hb dX2_times_17 (lv_at hl 2 rfl) ?_
        refine lv_iload hx hb dX2_times_19 (lv_at hl 1 rfl) ?_
        refine lv_iload_n hx hb dX2_times_21 rfl (lv_at hl 5 rfl) ?_
        refine lv_iload hx hb dX2_times_22 (lv_at hl 6 rfl) ?_
        have hmj := tw_mu_on hK0 hp9 (i + 1)
        have zj1 : (tw_mu (tw_P k) (tw_D k) (i + 1) p9).1 ≤ 8100 := by have := hmj.1; omega
        have zj2 : (tw_mu (tw_P k) (tw_D k) (i + 1) p9).2 ≤ 8100 := by have := hmj.2.1; omega
        have hPc := hP.sub (ws' := [(m0, .inr (2, [.int th, .int (nI k), .int (nI (tw_P k)), .int (nI (tw_D k)), .int (nI (tw_I k)), .ref mx, .ref my, .ref mr, .ref mb, .int s1, .int s2]))]) [0] rfl
        have hDc := hD.sub (ws' := [(m0, .inr (2, [.int th, .int (nI k), .int (nI (tw_P k)), .int (nI (tw_D k)), .int (nI (tw_I k)), .ref mx, .ref my, .ref mr, .ref mb, .int s1, .int s2]))]) [0] (by decide) rfl
        have hFc := va_free (wc := [(m0, .inr (2, [.int th, .int (nI k), .int (nI (tw_P k)), .int (nI (tw_D k)), .int (nI (tw_I k)), .ref mx, .ref my, .ref mr, .ref mb, .int s1, .int s2]))]) hD hS hA [0] rfl
        refine va_callv (va_runV (As := [.int (nI ((tw_mu (tw_P k) (tw_D k) i p9).1)), .int (nI ((tw_mu (tw_P k) (tw_D k) i p9).2)), .int (nI p9.1), .int (nI p9.2)]) (rest := []) ⟨hx, hb, hml, hown, ht⟩ (c_X2_sum l D hk5 (x := (tw_mu (tw_P k) (tw_D k) i p9).1) (y := (tw_mu (tw_P k) (tw_D k) i p9).2) (x2 := p9.1) (y2 := p9.2) (hmi).1 (hmi).2.1 hx1 hy1 H.size) (cwV 4 ht (tb_V kl_X2_62 ki_X2_sum ks_X2_sum kn_X2 kc_X2_sum) rfl rfl rfl ⟨rfl, kd_X2_sum⟩ ⟨Nat.le_of_ble_eq_true rfl, Nat.le_of_ble_eq_true rfl⟩) (wd_preV _ hPc hK hDc (va_recv (ci := 2) (q0 := 0) hK hP rfl rfl)) rfl rfl hl.1 rfl (lv_room (Nat.le_of_ble_eq_true rfl)) dX2_times_24 ⟨Nat.le_of_ble_eq_true rfl, Nat.le_of_ble_eq_true rfl⟩) hS (fun q _ h => hFc q h) hFc (fun u9 t9 H1 locs ht9 hvm9 hw9 hB9 hz9 hk9 hS => ?_)
        obtain ⟨hP1, hK1, hD1⟩ := hB9
        rw [ht9] at hP1
        obtain ⟨hP, hD⟩ := va_join (wr := []) (w1 := [(m0, .inr (2, [.int th, .int (nI k), .int (nI (tw_P k)), .int (nI (tw_D k)), .int (nI (tw_I k)), .ref mx, .ref my, .ref mr, .ref mb, .int (nI (tw_mu (tw_P k) (tw_D k) (i + 1) p9).1), .int (nI (tw_mu (tw_P k) (tw_D k) (i + 1) p9).2)]))]) hP hD [0] [] rfl rfl (by decide) (by decide) hk9 hFc hP1 hD1
        have hP := hP.sub (ws' := [(m0, .inr (2, [.int th, .int (nI k), .int (nI (tw_P k)), .int (nI (tw_D k)), .int (nI (tw_I k)), .ref mx, .ref my, .ref mr, .ref mb, .int (nI (tw_mu (tw_P k) (tw_D k) (i + 1) p9).1), .int (nI (tw_mu (tw_P k) (tw_D k) (i + 1) p9).2)]))]) [0] rfl
        have hD := hD.sub (ws' := [(m0, .inr (2, [.int th, .int (nI k), .int (nI (tw_P k)), .int (nI (tw_D k)), .int (nI (tw_I k)), .ref mx, .ref my, .ref mr, .ref mb, .int (nI (tw_mu (tw_P k) (tw_D k) (i + 1) p9).1), .int (nI (tw_mu (tw_P k) (tw_D k) (i + 1) p9).2)]))]) [0] (by decide) rfl
        generalize H1 = H at hP hS hz9 ⊢
        refine lv_aload_n hx hb dX2_times_27 rfl (lv_at hl 3 rfl) ?_
        refine va_get (D := D) (ci := 2) (v := .int (nI ((tw_mu (tw_P k) (tw_D k) (i + 1) p9).1))) (C := RX2) (T := TX2) (N := 11) hx hb ht inX2 hown hK hP 0 rfl rfl 9 (by decide) (ht _ kf_X2_59) (fun _ h9 => h9) rfl dX2_times_28 ?_
        refine lv_istore hx hb dX2_times_31 hl (by decide) rfl (fun ls hl => ?_)
        have hl : lv_has ls 9 [(5, .int (nI ((tw_mu (tw_P k) (tw_D k) (i + 1) p9).1))), (7, .long (lN i)), (6, .int (nI ((tw_mu (tw_P k) (tw_D k) i p9).2))), (0, .ref m0), (1, .long (lN m9)), (3, .int (nI p9.1)), (4, .int (nI p9.2))] := hl
        refine lv_aload_n hx hb dX2_times_33 rfl (lv_at hl 3 rfl) ?_
        refine va_get (D := D) (ci := 2) (v := .int (nI ((tw_mu (tw_P k) (tw_D k) (i + 1) p9).2))) (C := RX2) (T := TX2) (N := 11) hx hb ht inX2 hown hK hP 0 rfl rfl 10 (by decide) (ht _ kf_X2_56) (fun _ h9 => h9) rfl dX2_times_34 ?_
        refine lv_istore hx hb dX2_times_37 hl (by decide) rfl (fun ls hl => ?_)
        have hl : lv_has ls 9 [(6, .int (nI ((tw_mu (tw_P k) (tw_D k) (i + 1) p9).2))), (5, .int (nI ((tw_mu (tw_P k) (tw_D k) (i + 1) p9).1))), (7, .long (lN i)), (0, .ref m0), (1, .long (lN m9)), (3, .int (nI p9.1)), (4, .int (nI p9.2))] := hl
        refine lv_lload hx hb dX2_times_39 (lv_at hl 2 rfl) ?_
        refine lv_lconst (v := lN 1) hx hb dX2_times_41 (by decide) ?_
        refine lv_ladd hx hb dX2_times_42 ?_
        rw [lN_add]
        refine lv_lstore hx hb dX2_times_43 hl (by decide) rfl (fun ls hl => ?_)
        have hl : lv_has ls 9 [(7, .long (lN (i + 1))), (6, .int (nI ((tw_mu (tw_P k) (tw_D k) (i + 1) p9).2))), (5, .int (nI ((tw_mu (tw_P k) (tw_D k) (i + 1) p9).1))), (0, .ref m0), (1, .long (lN m9)), (3, .int (nI p9.1)), (4, .int (nI p9.2))] := hl
        refine lv_goto (tgt := 9) hx hb dX2_times_45 (by decide) ?_
        exact ih (i + 1) _ _ H locs ls (by omega) (by omega) hP hD hS (lv_sub hl [0, 1, 2, 3, 4, 5, 6] rfl)
  exact loop (m9 + 1) 0 sx sy s.heap [] ls (by omega) (Nat.zero_le _) hP hD hS (lv_sub hl [0, 1, 2, 3, 4, 5, 6] rfl)
set_option maxHeartbeats 4000000 in
set_option maxRecDepth 100000 in
theorem c_X2_orderOf (l : Launch) (D : va_G) {k : Nat} (hk5 : k < 5) {m0 mx my mr mb : Nat} {th sx sy : Int32} {p9 : Nat × Nat} (hp9 : tw_on (tw_P k) (tw_D k) p9) (sz : Nat) : Met l yX2_orderOf wX2_orderOf ({ frames := 3, cells := 0, slots := 0, locals := 73 }) (va_Pc [.ref m0, .int (nI p9.1), .int (nI p9.2)] (wd_pre D [] [(m0, .inr (2, [.int th, .int (nI k), .int (nI (tw_P k)), .int (nI (tw_D k)), .int (nI (tw_I k)), .ref mx, .ref my, .ref mr, .ref mb, .int sx, .int sy]))] sz)) (va_Qi (fun (r : Int32) (u : Int32 × Int32) => r = nI (tw_od (tw_P k) (tw_D k) (tw_N k) p9)) (fun (u : Int32 × Int32) t => wd_at D [] (va_A [(m0, .inr (2, [.int th, .int (nI k), .int (nI (tw_P k)), .int (nI (tw_D k)), .int (nI (tw_I k)), .ref mx, .ref my, .ref mr, .ref mb, .int sx, .int sy]))] sz) [(m0, .inr (2, [.int th, .int (nI k), .int (nI (tw_P k)), .int (nI (tw_D k)), .int (nI (tw_I k)), .ref mx, .ref my, .ref mr, .ref mb, .int u.1, .int u.2]))] t) (va_A [(m0, .inr (2, [.int th, .int (nI k), .int (nI (tw_P k)), .int (nI (tw_D k)), .int (nI (tw_I k)), .ref mx, .ref my, .ref mr, .ref mb, .int sx, .int sy]))] sz)) 0 0 (va_A [(m0, .inr (2, [.int th, .int (nI k), .int (nI (tw_P k)), .int (nI (tw_D k)), .int (nI (tw_I k)), .ref mx, .ref my, .ref mr, .ref mb, .int sx, .int sy]))] sz) := by
  refine Met.ofW (cc := cX2_orderOf) (maxL := 6) (ret := (some .int)) (by decide) rfl ?_
  intro p e s m args below meth c s₁ B hml hv
  obtain ⟨rfl, hsz, hP, hK, hD0⟩ := hv
  have hx := B.exec
  have hb := B.bytes
  have hr := B.returns
  have hts := atoms_spec (ws := wX2_orderOf) B.pre
  have ht : ∀ w ∈ tb_all, w.before _ s = true := fun w h => hts w (List.mem_cons_of_mem _ h)
  have hown : s.vm.findClass RX2 = some m.cls := findClass_of_methodNamed B.named
  have hlocks := B.notSynchronized
  have hin : meth.name = "orderOf" := (name_of_methodNamed B.named B.method).1
  subst hsz
  have hD := hD0.self (sz := s.heap.size)
  generalize hAe : va_A [(m0, .inr (2, [.int th, .int (nI k), .int (nI (tw_P k)), .int (nI (tw_D k)), .int (nI (tw_I k)), .ref mx, .ref my, .ref mr, .ref mb, .int sx, .int sy]))] s.heap.size = A at hD ⊢
  have hA : ∀ q : Nat, s.heap.size ≤ q → A q := fun q h => by rw [← hAe]; exact Or.inr h
  have hS : va_S A s.heap s.heap [] := va_S.rf
  have hl := lv_entry ([.ref m0, .int (nI p9.1), .int (nI p9.2)]) (n := 6) (Nat.le_of_ble_eq_true rfl)
  rw [lg_entry_eq]
  generalize (lg_sl ([.ref m0, .int (nI p9.1), .int (nI p9.2)]) ++ List.replicate (6 - (lg_sl ([.ref m0, .int (nI p9.1), .int (nI p9.2)])).length) Slot.unset).toArray = ls at hl ⊢
  have hl : lv_has ls 6 [(0, .ref m0), (1, .int (nI p9.1)), (2, .int (nI p9.2))] := hl
  obtain ⟨hP0, hP2, hD2, hI2, hDP⟩ := tw_kb hk5
  have hK0 := tw_kK k hk5
  have hP8 : tw_P k ≤ 8192 := by omega
  have hN := tw_kN k hk5
  have zk : k ≤ 4 := by omega
  have hx1 := hp9.1
  have hy1 := hp9.2.1
  have zx : p9.1 ≤ 8100 := by omega
  have zy : p9.2 ≤ 8100 := by omega
  have hod := tw_od_spec (by omega) (tw_kM hk5 hp9)
  have zod : tw_od (tw_P k) (tw_D k) (tw_N k) p9 ≤ 8232 := Nat.le_trans hod.2.1 hN.2
  refine lv_iconst (v := (nI 1)) hx hb dX2_orderOf_0 (by decide) ?_
  refine lv_istore_n hx hb dX2_orderOf_1 rfl hl (by decide) rfl (fun ls hl => ?_)
  have hl : lv_has ls 6 [(3, .int (nI 1)), (0, .ref m0), (1, .int (nI p9.1)), (2, .int (nI p9.2))] := hl
  refine lv_iload_n hx hb dX2_orderOf_2 rfl (lv_at hl 2 rfl) ?_
  refine lv_istore hx hb dX2_orderOf_3 hl (by decide) rfl (fun ls hl => ?_)
  have hl : lv_has ls 6 [(4, .int (nI p9.1)), (3, .int (nI 1)), (0, .ref m0), (1, .int (nI p9.1)), (2, .int (nI p9.2))] := hl
  refine lv_iload_n hx hb dX2_orderOf_5 rfl (lv_at hl 4 rfl) ?_
  refine lv_istore hx hb dX2_orderOf_6 hl (by decide) rfl (fun ls hl => ?_)
  have hl : lv_has ls 6 [(5, .int (nI p9.2)), (4, .int (nI p9.1)), (3, .int (nI 1)), (0, .ref m0), (1, .int (nI p9.1)), (2, .int (nI p9.2))] := hl
  have loop : ∀ (f9 i : Nat) (s1 s2 : Int32) (H : Heap) (locs : List Loc) (ls : Array Slot), tw_od (tw_P k) (tw_D k) (tw_N k) p9 - i < f9 → 1 ≤ i → i ≤ tw_od (tw_P k) (tw_D k) (tw_N k) p9 → va_P D vwCl [(m0, .inr (2, [.int th, .int (nI k), .int (nI (tw_P k)), .int (nI (tw_D k)), .int (nI (tw_I k)), .ref mx, .ref my, .ref mr, .ref mb, .int s1, .int s2]))] H → va_D A [(m0, .inr (2, [.int th, .int (nI k), .int (nI (tw_P k)), .int (nI (tw_D k)), .int (nI (tw_I k)), .ref mx, .ref my, .ref mr, .ref mb, .int s1, .int s2]))] → va_S A s.heap H locs → lv_has ls 6 [(5, .int (nI (tw_mu (tw_P k) (tw_D k) i p9).2)), (4, .int (nI (tw_mu (tw_P k) (tw_D k) i p9).1)), (3, .int (nI i)), (0, .ref m0), (1, .int (nI p9.1)), (2, .int (nI p9.2))] → W p l e (headSpec wX2_orderOf ({ frames := 3, cells := 0, slots := 0, locals := 73 })).room s m ([.ref m0, .int (nI p9.1), .int (nI p9.2)]).toArray below meth c H locs 0 0 (MQ below (va_Qi (fun (r : Int32) (u : Int32 × Int32) => r = nI (tw_od (tw_P k) (tw_D k) (tw_N k) p9)) (fun (u : Int32 × Int32) t => wd_at D [] (A) [(m0, .inr (2, [.int th, .int (nI k), .int (nI (tw_P k)), .int (nI (tw_D k)), .int (nI (tw_I k)), .ref mx, .ref my, .ref mr, .ref mb, .int u.1, .int u.2]))] t) A) ([.ref m0, .int (nI p9.1), .int (nI p9.2)]).toArray s 0 0 A) (F0 m 8 ls []) := by
    intro f9
    induction f9 with
    | zero => intro i s1 s2 H locs ls h1; exact absurd h1 (Nat.not_lt_zero _)
    | succ f9 ih =>
      intro i s1 s2 H locs ls h1 h2 h3 hP hD hS hl
      have zi : i ≤ 8232 := Nat.le_trans h3 zod
      have hmi := tw_mu_on hK0 hp9 i
      have zi1 : (tw_mu (tw_P k) (tw_D k) i p9).1 ≤ 8100 := by have := hmi.1; omega
      have zi2 : (tw_mu (tw_P k) (tw_D k) i p9).2 ≤ 8100 := by have := hmi.2.1; omega
      have hmj := tw_mu_on hK0 hp9 (i + 1)
      have zj1 : (tw_mu (tw_P k) (tw_D k) (i + 1) p9).1 ≤ 8100 := by have := hmj.1; omega
      have zj2 : (tw_mu (tw_P k) (tw_D k) (i + 1) p9).2 ≤ 8100 := by have := hmj.2.1; omega
      have body : tw_mu (tw_P k) (tw_D k) i p9 ≠ (0, 1) → W p l e (headSpec wX2_orderOf ({ frames := 3, cells := 0, slots := 0, locals := 73 })).room s m ([.ref m0, .int (nI p9.1), .int (nI p9.2)]).toArray below meth c H locs 0 0 (MQ below (va_Qi (fun (r : Int32) (u : Int32 × Int32) => r = nI (tw_od (tw_P k) (tw_D k) (tw_N k) p9)) (fun (u : Int32 × Int32) t => wd_at D [] (A) [(m0, .inr (2, [.int th, .int (nI k), .int (nI (tw_P k)), .int (nI (tw_D k)), .int (nI (tw_I k)), .ref mx, .ref my, .ref mr, .ref mb, .int u.1, .int u.2]))] t) A) ([.ref m0, .int (nI p9.1), .int (nI p9.2)]).toArray s 0 0 A) (F0 m 19 ls []) := by
        intro hne
        have hlt : i < tw_od (tw_P k) (tw_D k) (tw_N k) p9 := by
          refine Nat.lt_of_le_of_ne h3 (fun z => hne ?_)
          rw [z]
          exact hod.2.2.1
        refine lv_aload_n hx hb dX2_orderOf_19 rfl (lv_at hl 3 rfl) ?_
        refine lv_iload hx hb dX2_orderOf_20 (lv_at hl 1 rfl) ?_
        refine lv_iload hx hb dX2_orderOf_22 (lv_at hl 0 rfl) ?_
        refine lv_iload_n hx hb dX2_orderOf_24 rfl (lv_at hl 4 rfl) ?_
        refine lv_iload_n hx hb dX2_orderOf_25 rfl (lv_at hl 5 rfl) ?_
        have hPc := hP.sub (ws' := [(m0, .inr (2, [.int th, .int (nI k), .int (nI (tw_P k)), .int (nI (tw_D k)), .int (nI (tw_I k)), .ref mx, .ref my, .ref mr, .ref mb, .int s1, .int s2]))]) [0] rfl
        have hDc := hD.sub (ws' := [(m0, .inr (2, [.int th, .int (nI k), .int (nI (tw_P k)), .int (nI (tw_D k)), .int (nI (tw_I k)), .ref mx, .ref my, .ref mr, .ref mb, .int s1, .int s2]))]) [0] (by decide) rfl
        have hFc := va_free (wc := [(m0, .inr (2, [.int th, .int (nI k), .int (nI (tw_P k)), .int (nI (tw_D k)), .int (nI (tw_I k)), .ref mx, .ref my, .ref mr, .ref mb, .int s1, .int s2]))]) hD hS hA [0] rfl
        refine va_callv (va_runV (As := [.int (nI ((tw_mu (tw_P k) (tw_D k) i p9).1)), .int (nI ((tw_mu (tw_P k) (tw_D k) i p9).2)), .int (nI p9.1), .int (nI p9.2)]) (rest := []) ⟨hx, hb, hml, hown, ht⟩ (c_X2_sum l D hk5 (x := (tw_mu (tw_P k) (tw_D k) i p9).1) (y := (tw_mu (tw_P k) (tw_D k) i p9).2) (x2 := p9.1) (y2 := p9.2) (hmi).1 (hmi).2.1 hx1 hy1 H.size) (cwV 4 ht (tb_V kl_X2_62 ki_X2_sum ks_X2_sum kn_X2 kc_X2_sum) rfl rfl rfl ⟨rfl, kd_X2_sum⟩ ⟨Nat.le_of_ble_eq_true rfl, Nat.le_of_ble_eq_true rfl⟩) (wd_preV _ hPc hK hDc (va_recv (ci := 2) (q0 := 0) hK hP rfl rfl)) rfl rfl hl.1 rfl (lv_room (Nat.le_of_ble_eq_true rfl)) dX2_orderOf_26 ⟨Nat.le_of_ble_eq_true rfl, Nat.le_of_ble_eq_true rfl⟩) hS (fun q _ h => hFc q h) hFc (fun u9 t9 H1 locs ht9 hvm9 hw9 hB9 hz9 hk9 hS => ?_)
        obtain ⟨hP1, hK1, hD1⟩ := hB9
        rw [ht9] at hP1
        obtain ⟨hP, hD⟩ := va_join (wr := []) (w1 := [(m0, .inr (2, [.int th, .int (nI k), .int (nI (tw_P k)), .int (nI (tw_D k)), .int (nI (tw_I k)), .ref mx, .ref my, .ref mr, .ref mb, .int (nI (tw_mu (tw_P k) (tw_D k) (i + 1) p9).1), .int (nI (tw_mu (tw_P k) (tw_D k) (i + 1) p9).2)]))]) hP hD [0] [] rfl rfl (by decide) (by decide) hk9 hFc hP1 hD1
        have hP := hP.sub (ws' := [(m0, .inr (2, [.int th, .int (nI k), .int (nI (tw_P k)), .int (nI (tw_D k)), .int (nI (tw_I k)), .ref mx, .ref my, .ref mr, .ref mb, .int (nI (tw_mu (tw_P k) (tw_D k) (i + 1) p9).1), .int (nI (tw_mu (tw_P k) (tw_D k) (i + 1) p9).2)]))]) [0] rfl
        have hD := hD.sub (ws' := [(m0, .inr (2, [.int th, .int (nI k), .int (nI (tw_P k)), .int (nI (tw_D k)), .int (nI (tw_I k)), .ref mx, .ref my, .ref mr, .ref mb, .int (nI (tw_mu (tw_P k) (tw_D k) (i + 1) p9).1), .int (nI (tw_mu (tw_P k) (tw_D k) (i + 1) p9).2)]))]) [0] (by decide) rfl
        generalize H1 = H at hP hS hz9 ⊢
        refine lv_aload_n hx hb dX2_orderOf_29 rfl (lv_at hl 3 rfl) ?_
        refine va_get (D := D) (ci := 2) (v := .int (nI ((tw_mu (tw_P k) (tw_D k) (i + 1) p9).1))) (C := RX2) (T := TX2) (N := 11) hx hb ht inX2 hown hK hP 0 rfl rfl 9 (by decide) (ht _ kf_X2_59) (fun _ h9 => h9) rfl dX2_orderOf_30 ?_
        refine lv_istore hx hb dX2_orderOf_33 hl (by decide) rfl (fun ls hl => ?_)
        have hl : lv_has ls 6 [(4, .int (nI ((tw_mu (tw_P k) (tw_D k) (i + 1) p9).1))), (5, .int (nI ((tw_mu (tw_P k) (tw_D k) i p9).2))), (3, .int (nI i)), (0, .ref m0), (1, .int (nI p9.1)), (2, .int (nI p9.2))] := hl
        refine lv_aload_n hx hb dX2_orderOf_35 rfl (lv_at hl 3 rfl) ?_
        refine va_get (D := D) (ci := 2) (v := .int (nI ((tw_mu (tw_P k) (tw_D k) (i + 1) p9).2))) (C := RX2) (T := TX2) (N := 11) hx hb ht inX2 hown hK hP 0 rfl rfl 10 (by decide) (ht _ kf_X2_56) (fun _ h9 => h9) rfl dX2_orderOf_36 ?_
        refine lv_istore hx hb dX2_orderOf_39 hl (by decide) rfl (fun ls hl => ?_)
        have hl : lv_has ls 6 [(5, .int (nI ((tw_mu (tw_P k) (tw_D k) (i + 1) p9).2))), (4, .int (nI ((tw_mu (tw_P k) (tw_D k) (i + 1) p9).1))), (3, .int (nI i)), (0, .ref m0), (1, .int (nI p9.1)), (2, .int (nI p9.2))] := hl
        refine lv_iinc hx hb dX2_orderOf_41 hl (k := 2) rfl nv_inc (by decide) rfl (fun ls hl => ?_)
        have hl : lv_has ls 6 [(3, .int (nI (i + 1))), (5, .int (nI ((tw_mu (tw_P k) (tw_D k) (i + 1) p9).2))), (4, .int (nI ((tw_mu (tw_P k) (tw_D k) (i + 1) p9).1))), (0, .ref m0), (1, .int (nI p9.1)), (2, .int (nI p9.2))] := hl
        refine lv_goto (tgt := 8) hx hb dX2_orderOf_44 (by decide) ?_
        exact ih (i + 1) _ _ H locs ls (by omega) (by omega) hlt hP hD hS (lv_sub hl [1, 2, 0, 3, 4, 5] rfl)
      refine lv_iload hx hb dX2_orderOf_8 (lv_at hl 1 rfl) ?_
      refine nv_if_ne (tgt := 19) hx hb dX2_orderOf_10 (by decide) (nv_le (b := 8100) zi1 (by decide)) (fun c10 => ?_) (fun c10 => ?_)
      · exact body (fun z => by rw [z] at c10; exact absurd c10 (by decide))
      · refine lv_iload hx hb dX2_orderOf_13 (lv_at hl 0 rfl) ?_
        refine lv_iconst (v := (nI 1)) hx hb dX2_orderOf_15 (by decide) ?_
        refine nv_icmp_eq (tgt := 47) hx hb dX2_orderOf_16 (by decide) (nv_le (b := 8100) zi2 (by decide)) (nv_le (b := 1) (Nat.le_refl 1) (by decide)) (fun c16 => ?_) (fun c16 => ?_)
        · have e8 : tw_mu (tw_P k) (tw_D k) i p9 = (0, 1) := Prod.ext c10 c16
          have e9 : i = tw_od (tw_P k) (tw_D k) (tw_N k) p9 := Nat.le_antisymm h3 (Nat.le_of_not_lt (fun z => hod.2.2.2 i h2 z e8))
          refine lv_iload_n hx hb dX2_orderOf_47 rfl (lv_at hl 2 rfl) ?_
          exact W.iret hx hb hr (fun t ht9 hW => ⟨⟨_, (s1, s2), rfl, by rw [← e9], by rw [ht9]; exact hP, va_K.moved hW.alike hK, hD⟩, hS.F ht9⟩) hS.2.2 dX2_orderOf_48
        · exact body (fun z => c16 (by rw [z]))
  refine loop (tw_od (tw_P k) (tw_D k) (tw_N k) p9) 1 sx sy s.heap [] ls (by omega) (Nat.le_refl 1) hod.1 hP hD hS ?_
  rw [tw_mu_1 hK0 hp9]
  exact lv_sub hl [0, 1, 2, 3, 4, 5] rfl
set_option maxHeartbeats 4000000 in
set_option maxRecDepth 100000 in
theorem c_X2_often (l : Launch) (D : va_G) {k : Nat} (hk5 : k < 5) {m0 mx my mr mb : Nat} {th sx sy : Int32} {p9 : Nat × Nat} (hp9 : tw_on (tw_P k) (tw_D k) p9) (z : Int64) (sz : Nat) : Met l yX2_often wX2_often ({ frames := 4, cells := 0, slots := 0, locals := 101 }) (va_Pc [.ref m0, .long z, .int (nI p9.1), .int (nI p9.2)] (wd_pre D [] [(m0, .inr (2, [.int th, .int (nI k), .int (nI (tw_P k)), .int (nI (tw_D k)), .int (nI (tw_I k)), .ref mx, .ref my, .ref mr, .ref mb, .int sx, .int sy]))] sz)) (va_Qv (fun (u : Unit) => u = ()) (fun (u : Unit) t => wd_at D [] (va_A [(m0, .inr (2, [.int th, .int (nI k), .int (nI (tw_P k)), .int (nI (tw_D k)), .int (nI (tw_I k)), .ref mx, .ref my, .ref mr, .ref mb, .int sx, .int sy]))] sz) [(m0, .inr (2, [.int th, .int (nI k), .int (nI (tw_P k)), .int (nI (tw_D k)), .int (nI (tw_I k)), .ref mx, .ref my, .ref mr, .ref mb, .int (nI (tw_mu (tw_P k) (tw_D k) (z.toInt % (tw_N k : Int)).toNat p9).1), .int (nI (tw_mu (tw_P k) (tw_D k) (z.toInt % (tw_N k : Int)).toNat p9).2)]))] t) (va_A [(m0, .inr (2, [.int th, .int (nI k), .int (nI (tw_P k)), .int (nI (tw_D k)), .int (nI (tw_I k)), .ref mx, .ref my, .ref mr, .ref mb, .int sx, .int sy]))] sz)) 0 0 (va_A [(m0, .inr (2, [.int th, .int (nI k), .int (nI (tw_P k)), .int (nI (tw_D k)), .int (nI (tw_I k)), .ref mx, .ref my, .ref mr, .ref mb, .int sx, .int sy]))] sz) := by
  refine Met.ofW (cc := cX2_often) (maxL := 5) (ret := none) (by decide) rfl ?_
  intro p e s m args below meth c s₁ B hml hv
  obtain ⟨rfl, hsz, hP, hK, hD0⟩ := hv
  have hx := B.exec
  have hb := B.bytes
  have hr := B.returns
  have hts := atoms_spec (ws := wX2_often) B.pre
  have ht : ∀ w ∈ tb_all, w.before _ s = true := fun w h => hts w (List.mem_cons_of_mem _ h)
  have hown : s.vm.findClass RX2 = some m.cls := findClass_of_methodNamed B.named
  have hlocks := B.notSynchronized
  have hin : meth.name = "often" := (name_of_methodNamed B.named B.method).1
  subst hsz
  have hD := hD0.self (sz := s.heap.size)
  generalize hAe : va_A [(m0, .inr (2, [.int th, .int (nI k), .int (nI (tw_P k)), .int (nI (tw_D k)), .int (nI (tw_I k)), .ref mx, .ref my, .ref mr, .ref mb, .int sx, .int sy]))] s.heap.size = A at hD ⊢
  have hA : ∀ q : Nat, s.heap.size ≤ q → A q := fun q h => by rw [← hAe]; exact Or.inr h
  have hS : va_S A s.heap s.heap [] := va_S.rf
  have hl := lv_entry ([.ref m0, .long z, .int (nI p9.1), .int (nI p9.2)]) (n := 5) (Nat.le_of_ble_eq_true rfl)
  rw [lg_entry_eq]
  generalize (lg_sl ([.ref m0, .long z, .int (nI p9.1), .int (nI p9.2)]) ++ List.replicate (5 - (lg_sl ([.ref m0, .long z, .int (nI p9.1), .int (nI p9.2)])).length) Slot.unset).toArray = ls at hl ⊢
  have hl : lv_has ls 5 [(0, .ref m0), (1, .long z), (3, .int (nI p9.1)), (4, .int (nI p9.2))] := hl
  obtain ⟨hP0, hP2, hD2, hI2, hDP⟩ := tw_kb hk5
  have hK0 := tw_kK k hk5
  have hP8 : tw_P k ≤ 8192 := by omega
  have hN := tw_kN k hk5
  have zk : k ≤ 4 := by omega
  have hx1 := hp9.1
  have hy1 := hp9.2.1
  have zx : p9.1 ≤ 8100 := by omega
  have zy : p9.2 ≤ 8100 := by omega
  have hod := tw_od_spec (by omega) (tw_kM hk5 hp9)
  have zod : tw_od (tw_P k) (tw_D k) (tw_N k) p9 ≤ 8232 := Nat.le_trans hod.2.1 hN.2
  have eml := tw_ml hK0 hp9 (by omega) (tw_kM hk5 hp9) z.toInt
  rw [eml]
  refine lv_aload_n hx hb dX2_often_0 rfl (lv_at hl 0 rfl) ?_
  refine lv_lload_n hx hb dX2_often_1 rfl (lv_at hl 1 rfl) ?_
  refine lv_aload_n hx hb dX2_often_2 rfl (lv_at hl 0 rfl) ?_
  refine lv_iload_n hx hb dX2_often_3 rfl (lv_at hl 2 rfl) ?_
  refine lv_iload hx hb dX2_often_4 (lv_at hl 3 rfl) ?_
  have hPc := hP.sub (ws' := [(m0, .inr (2, [.int th, .int (nI k), .int (nI (tw_P k)), .int (nI (tw_D k)), .int (nI (tw_I k)), .ref mx, .ref my, .ref mr, .ref mb, .int sx, .int sy]))]) [0] rfl
  have hDc := hD.sub (ws' := [(m0, .inr (2, [.int th, .int (nI k), .int (nI (tw_P k)), .int (nI (tw_D k)), .int (nI (tw_I k)), .ref mx, .ref my, .ref mr, .ref mb, .int sx, .int sy]))]) [0] (by decide) rfl
  have hFc := va_free (wc := [(m0, .inr (2, [.int th, .int (nI k), .int (nI (tw_P k)), .int (nI (tw_D k)), .int (nI (tw_I k)), .ref mx, .ref my, .ref mr, .ref mb, .int sx, .int sy]))]) hD hS hA [0] rfl
  refine va_calli (va_runV (As := [.int (nI p9.1), .int (nI p9.2)]) (rest := [.long z, .ref m0]) ⟨hx, hb, hml, hown, ht⟩ (c_X2_orderOf l D hk5 hp9 s.heap.size) (cwV 2 ht (tb_V kl_X2_66 ki_X2_orderOf ks_X2_orderOf kn_X2 kc_X2_orderOf) rfl rfl rfl ⟨rfl, kd_X2_orderOf⟩ ⟨Nat.le_of_ble_eq_true rfl, Nat.le_of_ble_eq_true rfl⟩) (wd_preV _ hPc hK hDc (va_recv (ci := 2) (q0 := 0) hK hP rfl rfl)) rfl rfl hl.1 rfl (lv_room (Nat.le_of_ble_eq_true rfl)) dX2_often_6 ⟨Nat.le_of_ble_eq_true rfl, Nat.le_of_ble_eq_true rfl⟩) hS (fun q _ h => hFc q h) hFc (fun r9 u9 t9 H1 locs ht9 hvm9 hw9 hB9 hz9 hk9 hS => ?_)
  obtain ⟨hP1, hK1, hD1⟩ := hB9
  rw [ht9] at hP1
  obtain ⟨hP, hD⟩ := va_join (wr := []) (w1 := [(m0, .inr (2, [.int th, .int (nI k), .int (nI (tw_P k)), .int (nI (tw_D k)), .int (nI (tw_I k)), .ref mx, .ref my, .ref mr, .ref mb, .int u9.1, .int u9.2]))]) hP hD [0] [] rfl rfl (by decide) (by decide) hk9 hFc hP1 hD1
  have hP := hP.sub (ws' := [(m0, .inr (2, [.int th, .int (nI k), .int (nI (tw_P k)), .int (nI (tw_D k)), .int (nI (tw_I k)), .ref mx, .ref my, .ref mr, .ref mb, .int u9.1, .int u9.2]))]) [0] rfl
  have hD := hD.sub (ws' := [(m0, .inr (2, [.int th, .int (nI k), .int (nI (tw_P k)), .int (nI (tw_D k)), .int (nI (tw_I k)), .ref mx, .ref my, .ref mr, .ref mb, .int u9.1, .int u9.2]))]) [0] (by decide) rfl
  generalize H1 = H at hP hS hz9 ⊢
  subst hw9
  refine lv_i2l (v := lN (tw_od (tw_P k) (tw_D k) (tw_N k) p9)) hx hb dX2_often_9 (nI_l (nv_le (b := 8232) zod (by decide))) ?_
  have zz : (z.toInt % (tw_od (tw_P k) (tw_D k) (tw_N k) p9 : Int)).toNat < 2 ^ 31 := by
    have a2 : z.toInt % (tw_od (tw_P k) (tw_D k) (tw_N k) p9 : Int) < tw_od (tw_P k) (tw_D k) (tw_N k) p9 := Int.emod_lt_of_pos _ (by omega)
    omega
  refine vp_callSl (W.runS (As := [.long z, .long (lN (tw_od (tw_P k) (tw_D k) (tw_N k) p9))]) (rest := [.ref m0]) ⟨hx, hb, hml, hown, ht⟩ (c_J9_floorMod l z (d := tw_od (tw_P k) (tw_D k) (tw_N k) p9) hod.1 (by omega)) (va_cwS 2 ht (tb_S kl_X2_42 kt_J9_floorMod kn_J9 kc_J9_floorMod) rfl rfl rfl kd_J9_floorMod ⟨Nat.le_of_ble_eq_true rfl, Nat.le_of_ble_eq_true rfl⟩) (st_pre _) rfl rfl hl.1 rfl (lv_room (Nat.le_of_ble_eq_true rfl)) dX2_often_10 ⟨Nat.zero_le _, Nat.zero_le _⟩) (fun r hr9 => ?_)
  subst hr9
  refine lv_iload_n hx hb dX2_often_13 rfl (lv_at hl 2 rfl) ?_
  refine lv_iload hx hb dX2_often_14 (lv_at hl 3 rfl) ?_
  have hPc := hP.sub (ws' := [(m0, .inr (2, [.int th, .int (nI k), .int (nI (tw_P k)), .int (nI (tw_D k)), .int (nI (tw_I k)), .ref mx, .ref my, .ref mr, .ref mb, .int u9.1, .int u9.2]))]) [0] rfl
  have hDc := hD.sub (ws' := [(m0, .inr (2, [.int th, .int (nI k), .int (nI (tw_P k)), .int (nI (tw_D k)), .int (nI (tw_I k)), .ref mx, .ref my, .ref mr, .ref mb, .int u9.1, .int u9.2]))]) [0] (by decide) rfl
  have hFc := va_free (wc := [(m0, .inr (2, [.int th, .int (nI k), .int (nI (tw_P k)), .int (nI (tw_D k)), .int (nI (tw_I k)), .ref mx, .ref my, .ref mr, .ref mb, .int u9.1, .int u9.2]))]) hD hS hA [0] rfl
  refine va_callv (va_runV (As := [.long (lN ((z.toInt % (tw_od (tw_P k) (tw_D k) (tw_N k) p9 : Int)).toNat)), .int (nI p9.1), .int (nI p9.2)]) (rest := []) ⟨hx, hb, hml, hown, ht⟩ (c_X2_times l D hk5 hp9 (m9 := (z.toInt % (tw_od (tw_P k) (tw_D k) (tw_N k) p9 : Int)).toNat) zz H.size) (cwV 3 ht (tb_V kl_X2_69 ki_X2_times ks_X2_times kn_X2 kc_X2_times) rfl rfl rfl ⟨rfl, kd_X2_times⟩ ⟨Nat.le_of_ble_eq_true rfl, Nat.le_of_ble_eq_true rfl⟩) (wd_preV _ hPc hK hDc (va_recv (ci := 2) (q0 := 0) hK hP rfl rfl)) rfl rfl hl.1 rfl (lv_room (Nat.le_of_ble_eq_true rfl)) dX2_often_16 ⟨Nat.le_of_ble_eq_true rfl, Nat.le_of_ble_eq_true rfl⟩) hS (fun q _ h => hFc q h) hFc (fun v9 t9 H1 locs ht9 hvm9 hw9 hB9 hz9 hk9 hS => ?_)
  obtain ⟨hP1, hK1, hD1⟩ := hB9
  rw [ht9] at hP1
  obtain ⟨hP, hD⟩ := va_join (wr := []) (w1 := [(m0, .inr (2, [.int th, .int (nI k), .int (nI (tw_P k)), .int (nI (tw_D k)), .int (nI (tw_I k)), .ref mx, .ref my, .ref mr, .ref mb, .int (nI (tw_mu (tw_P k) (tw_D k) (z.toInt % (tw_od (tw_P k) (tw_D k) (tw_N k) p9 : Int)).toNat p9).1), .int (nI (tw_mu (tw_P k) (tw_D k) (z.toInt % (tw_od (tw_P k) (tw_D k) (tw_N k) p9 : Int)).toNat p9).2)]))]) hP hD [0] [] rfl rfl (by decide) (by decide) hk9 hFc hP1 hD1
  have hP := hP.sub (ws' := [(m0, .inr (2, [.int th, .int (nI k), .int (nI (tw_P k)), .int (nI (tw_D k)), .int (nI (tw_I k)), .ref mx, .ref my, .ref mr, .ref mb, .int (nI (tw_mu (tw_P k) (tw_D k) (z.toInt % (tw_od (tw_P k) (tw_D k) (tw_N k) p9 : Int)).toNat p9).1), .int (nI (tw_mu (tw_P k) (tw_D k) (z.toInt % (tw_od (tw_P k) (tw_D k) (tw_N k) p9 : Int)).toNat p9).2)]))]) [0] rfl
  have hD := hD.sub (ws' := [(m0, .inr (2, [.int th, .int (nI k), .int (nI (tw_P k)), .int (nI (tw_D k)), .int (nI (tw_I k)), .ref mx, .ref my, .ref mr, .ref mb, .int (nI (tw_mu (tw_P k) (tw_D k) (z.toInt % (tw_od (tw_P k) (tw_D k) (tw_N k) p9 : Int)).toNat p9).1), .int (nI (tw_mu (tw_P k) (tw_D k) (z.toInt % (tw_od (tw_P k) (tw_D k) (tw_N k) p9 : Int)).toNat p9).2)]))]) [0] (by decide) rfl
  generalize H1 = H at hP hS hz9 ⊢
  exact W.vret hx hb hr (fun t ht9 hW => ⟨⟨(), rfl, rfl, by rw [ht9]; exact hP, va_K.moved hW.alike hK, hD⟩, hS.F ht9⟩) hS.2.2 dX2_often_19
