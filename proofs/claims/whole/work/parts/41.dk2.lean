/-! signing and verifying -/
def tw_nc (o k : Nat) : Nat := if k % o = 0 then (if (k + 1) % 2 ^ 31 % o = 0 then ((k + 1) % 2 ^ 31 + 1) % 2 ^ 31 else (k + 1) % 2 ^ 31) else k
theorem tw_nc_lt {o k : Nat} (h : k < 2 ^ 31) : tw_nc o k < 2 ^ 31 := by
  unfold tw_nc
  split
  · split <;> exact Nat.mod_lt _ (by decide)
  · exact h
theorem tw_mz {k : Nat} (hk : k < 5) {p : Nat × Nat} (hp : tw_on (tw_P k) (tw_D k) p) {m : Nat} (hm : m < 2 ^ 31) : tw_mu (tw_P k) (tw_D k) ((lN m).toInt % (tw_N k : Int)).toNat p = tw_mu (tw_P k) (tw_D k) m p := by
  rw [tw_lNm hm, tw_mN hk hp]
theorem tw_mz1 {k : Nat} (hk : k < 5) {p : Nat × Nat} (hp : tw_on (tw_P k) (tw_D k) p) (m : Nat) : tw_en (tw_mu (tw_P k) (tw_D k) m p) = 1 ↔ m % tw_od (tw_P k) (tw_D k) (tw_N k) p = 0 := by
  have hN := tw_kN k hk
  have hP := tw_kP k hk
  have hm := tw_mu_on (tw_kK k hk) hp m
  rw [tw_en_1 (by have := hm.2.1; omega), tw_od_dvd (tw_kK k hk) hp (by omega) (tw_kM hk hp)]
theorem lN_shr (z : Int64) : (z >>> ((nI 16).toInt64 &&& 63)).toInt = z.toInt / 65536 := by
  have e : (nI 16).toInt64 &&& 63 = 16 := by decide
  rw [e]
  show (z.toBitVec.sshiftRight ((16 : Int64).toBitVec.smod 64).toNat).toInt = _
  have e2 : ((16 : Int64).toBitVec.smod 64).toNat = 16 := by decide
  rw [e2, BitVec.toInt_sshiftRight, Int.shiftRight_eq_div_pow]
  rfl
theorem lN_shrN {g : Nat} (h : g < 2 ^ 63) : lN g >>> ((nI 16).toInt64 &&& 63) = lN (g / 2 ^ 16) := by
  apply Int64.toInt_inj.mp
  rw [lN_shr, pk_lT h, pk_lT (by omega)]
  omega
/-- what sign answers -/
def tw_sg (k : Nat) (R : Nat → Nat × Nat) (j key msg : Nat) : Nat := tw_pk (tw_mu (tw_P k) (tw_D k) (tw_nc (tw_od (tw_P k) (tw_D k) (tw_N k) (R j)) ((key + msg + 1) % 2 ^ 31)) (R j)) * 2 ^ 16 + (tw_nc (tw_od (tw_P k) (tw_D k) (tw_N k) (R j)) ((key + msg + 1) % 2 ^ 31) + ((tw_pk (tw_mu (tw_P k) (tw_D k) (tw_nc (tw_od (tw_P k) (tw_D k) (tw_N k) (R j)) ((key + msg + 1) % 2 ^ 31)) (R j)) + msg) % 2 ^ 20) * key) % tw_od (tw_P k) (tw_D k) (tw_N k) (R j)
/-- what verify answers to a signature from 0 on -/
def tw_vf (k : Nat) (R : Nat → Nat × Nat) (j j2 msg g : Nat) : Int32 := if 16384 ≤ g / 2 ^ 16 then 0 else match tw_rd (tw_P k) (tw_D k) (g / 2 ^ 16) with
  | none => 0
  | some q => if tw_mu (tw_P k) (tw_D k) (g % 2 ^ 16) (R j) = tw_add (tw_P k) (tw_D k) q (tw_mu (tw_P k) (tw_D k) ((g / 2 ^ 16 + msg) % 2 ^ 20) (R j2)) then 1 else 0
theorem tw_vf_b {k j j2 msg g : Nat} {R : Nat → Nat × Nat} (h : 16384 ≤ g / 2 ^ 16) : tw_vf k R j j2 msg g = 0 := if_pos h
theorem tw_vf_n {k j j2 msg g : Nat} {R : Nat → Nat × Nat} (h : g / 2 ^ 16 < 16384) (e : tw_rd (tw_P k) (tw_D k) (g / 2 ^ 16) = none) : tw_vf k R j j2 msg g = 0 := by
  unfold tw_vf
  rw [if_neg (by omega), e]
theorem tw_vf_s {k j j2 msg g : Nat} {R : Nat → Nat × Nat} {q : Nat × Nat} (h : g / 2 ^ 16 < 16384) (e : tw_rd (tw_P k) (tw_D k) (g / 2 ^ 16) = some q) : tw_vf k R j j2 msg g = if tw_mu (tw_P k) (tw_D k) (g % 2 ^ 16) (R j) = tw_add (tw_P k) (tw_D k) q (tw_mu (tw_P k) (tw_D k) ((g / 2 ^ 16 + msg) % 2 ^ 20) (R j2)) then 1 else 0 := by
  unfold tw_vf
  rw [if_neg (by omega), e]
set_option maxHeartbeats 4000000 in
set_option maxRecDepth 100000 in
theorem c_X1_nonce (l : Launch) (D : va_G) {k : Nat} (hk5 : k < 5) {d0 dc dr h0 ai ar af ap ah ac : Nat} {cA : ClassId} {hk : Int32} {rg fi fr ff fp fh fn : Nat → Int32} {R : Nat → Nat × Nat} (hok : cv_ok k fi fr ff) (hrg : ∀ j, j < 12 → tw_on (tw_P k) (tw_D k) (R j) ∧ rg j = nI (tw_en (R j))) {p9 : Nat × Nat} (hp9 : tw_on (tw_P k) (tw_D k) p9) {f9 : Nat} (hf9 : f9 ≤ 2147483649) : Met l yX1_nonce wX1_nonce ({ frames := 3, cells := 0, slots := 0, locals := 76 }) (va_Pc [.ref d0, .int (nI (tw_en p9)), .long (lN f9)] (fun U => va_P D vwCl [(d0, .inr (1, [.ref dc, .ref dr, .int (nI k), .ref h0])), (dr, .inl (cA, 12, .inl rg)), (h0, .inr (0, [.int (nI (tw_P k)), .int (nI (tw_D k)), .int (nI (tw_I k)), .int (nI (tw_N k)), .ref ai, .ref ar, .ref af, .ref ap, .ref ah, .ref ac, .int (nI ((tw_fs k).length)), .int hk])), (ai, .inl (cA, tw_P k, .inl fi)), (ar, .inl (cA, tw_P k, .inl fr)), (af, .inl (cA, 14, .inl ff)), (ap, .inl (cA, 2 * tw_P k, .inl fp)), (ah, .inl (cA, 2 * tw_P k, .inl fh)), (ac, .inl (cA, 2 * tw_P k, .inl fn))] U.heap ∧ va_K D vwCl [(cA, .int)] U)) (vp_Sl (fun r => r = lN (tw_nc (tw_od (tw_P k) (tw_D k) (tw_N k) p9) (f9 % 2 ^ 31)))) 0 0 (fun _ => False) := by
  refine Met.ofW (cc := cX1_nonce) (maxL := 7) (ret := (some .long)) (by decide) rfl ?_
  intro p e s m args below meth c s₁ B hml hv
  obtain ⟨rfl, hv⟩ := hv
  have hx := B.exec
  have hb := B.bytes
  have hr := B.returns
  have hts := atoms_spec (ws := wX1_nonce) B.pre
  have ht : ∀ w ∈ tb_all, w.before _ s = true := fun w h => hts w (List.mem_cons_of_mem _ h)
  have hown : s.vm.findClass RX1 = some m.cls := findClass_of_methodNamed B.named
  have hlocks := B.notSynchronized
  have hl := lv_entry ([.ref d0, .int (nI (tw_en p9)), .long (lN f9)]) (n := 7) (Nat.le_of_ble_eq_true rfl)
  rw [lg_entry_eq]
  generalize (lg_sl ([.ref d0, .int (nI (tw_en p9)), .long (lN f9)]) ++ List.replicate (7 - (lg_sl ([.ref d0, .int (nI (tw_en p9)), .long (lN f9)])).length) Slot.unset).toArray = ls at hl ⊢
  have hl : lv_has ls 7 [(0, .ref d0), (1, .int (nI (tw_en p9))), (2, .long (lN f9))] := hl
  obtain ⟨hP, hK⟩ := hv
  obtain ⟨hP0, hP2, hD2, hI2, hDP⟩ := tw_kb hk5
  have hK0 := tw_kK k hk5
  have hP8 : tw_P k ≤ 8192 := by omega
  have hN := tw_kN k hk5
  have zk : k ≤ 4 := by omega
  obtain ⟨hfi, hfr, hff⟩ := hok
  have zp := tw_en_le hP2 hp9
  have zf : f9 % 2 ^ 31 < 2 ^ 31 := Nat.mod_lt _ (by decide)
  refine lv_lload_n hx hb dX1_nonce_0 rfl (lv_at hl 2 rfl) ?_
  refine lv_ldc2 (v := lN 2147483647) hx hb hown (ht _ kv_X1_140) dX1_nonce_1 ?_
  refine lv_land hx hb dX1_nonce_4 ?_
  rw [lN_mask 31]
  refine lv_lstore hx hb dX1_nonce_5 hl (by decide) rfl (fun ls hl => ?_)
  have hl : lv_has ls 7 [(4, .long (lN (f9 % 2 ^ 31))), (0, .ref d0), (1, .int (nI (tw_en p9))), (2, .long (lN f9))] := hl
  refine lv_iconst (v := (nI 1)) hx hb dX1_nonce_7 (by decide) ?_
  refine lv_istore hx hb dX1_nonce_8 hl (by decide) rfl (fun ls hl => ?_)
  have hl : lv_has ls 7 [(6, .int (nI 1)), (4, .long (lN (f9 % 2 ^ 31))), (0, .ref d0), (1, .int (nI (tw_en p9))), (2, .long (lN f9))] := hl
  refine lv_iload hx hb dX1_nonce_10 (lv_at hl 0 rfl) ?_
  refine lv_iconst (v := (nI 3)) hx hb dX1_nonce_12 (by decide) ?_
  refine nv_icmp_ge (tgt := 46) hx hb dX1_nonce_13 (by decide) (nv_le (b := 1) (Nat.le_refl 1) (by decide)) (nv_le (b := 3) (Nat.le_refl 3) (by decide)) (fun c13 => ?_) (fun c13 => ?_)
  · exact absurd c13 (by decide)
  · refine lv_aload_n hx hb dX1_nonce_16 rfl (lv_at hl 2 rfl) ?_
    refine va_get (D := D) (ci := 1) (v := .ref h0) (C := RX1) (T := TX1) (N := 4) hx hb ht inX1 hown hK hP 0 rfl rfl 3 (by decide) (ht _ kf_X1_33) (fun _ h9 => h9) rfl dX1_nonce_17 ?_
    refine lv_lload hx hb dX1_nonce_20 (lv_at hl 1 rfl) ?_
    refine lv_iload_n hx hb dX1_nonce_22 rfl (lv_at hl 3 rfl) ?_
    have em1 := tw_mz hk5 hp9 (m := f9 % 2 ^ 31) (by omega)
    refine vp_callSi (W.runV (As := [.long (lN (f9 % 2 ^ 31)), .int (nI (tw_en p9))]) (rest := []) ⟨hx, hb, hml, hown, ht⟩ (c_X0_multiple l D hk5 (by omega) hN.2 (lN (f9 % 2 ^ 31)) hp9) (cwV 2 ht (tb_V kl_X1_78 ki_X0_multiple ks_X0_multiple kn_X0 kc_X0_multiple) rfl rfl rfl ⟨rfl, kd_X0_multiple⟩ ⟨Nat.le_of_ble_eq_true rfl, Nat.le_of_ble_eq_true rfl⟩) (cv_preH (hP.sub (ws' := [(h0, .inr (0, [.int (nI (tw_P k)), .int (nI (tw_D k)), .int (nI (tw_I k)), .int (nI (tw_N k)), .ref ai, .ref ar, .ref af, .ref ap, .ref ah, .ref ac, .int (nI ((tw_fs k).length)), .int hk])), (ai, .inl (cA, tw_P k, .inl fi)), (ar, .inl (cA, tw_P k, .inl fr)), (af, .inl (cA, 14, .inl ff)), (ap, .inl (cA, 2 * tw_P k, .inl fp)), (ah, .inl (cA, 2 * tw_P k, .inl fh)), (ac, .inl (cA, 2 * tw_P k, .inl fn))]) [2, 3, 4, 5, 6, 7, 8] rfl) hK hfi hfr _) rfl rfl hl.1 rfl (lv_room (Nat.le_of_ble_eq_true rfl)) dX1_nonce_23 ⟨Nat.zero_le _, Nat.zero_le _⟩) (fun r hr9 => ?_)
    subst hr9
    rw [em1]
    have e11 := tw_mz1 hk5 hp9 (f9 % 2 ^ 31)
    refine lv_iconst (v := (nI 1)) hx hb dX1_nonce_26 (by decide) ?_
    refine nv_icmp_ne (tgt := 46) hx hb dX1_nonce_27 (by decide) (nv_le (b := 67108863) (tw_en_le hP2 (tw_mu_on hK0 hp9 _)) (by decide)) (nv_le (b := 1) (Nat.le_refl 1) (by decide)) (fun c27 => ?_) (fun c27 => ?_)
    · refine lv_lload hx hb dX1_nonce_46 (lv_at hl 1 rfl) ?_
      exact W.lret hx hb hr (fun t ht hW => ⟨_, rfl, by unfold tw_nc; rw [if_neg (fun z => c27 (e11.mpr z))], ht⟩) (fun q h => nomatch h) dX1_nonce_48
    · have cc1 := e11.mp c27
      refine lv_lload hx hb dX1_nonce_30 (lv_at hl 1 rfl) ?_
      refine lv_lconst (v := lN 1) hx hb dX1_nonce_32 (by decide) ?_
      refine lv_ladd hx hb dX1_nonce_33 ?_
      rw [lN_add]
      refine lv_ldc2 (v := lN 2147483647) hx hb hown (ht _ kv_X1_140) dX1_nonce_34 ?_
      refine lv_land hx hb dX1_nonce_37 ?_
      rw [lN_mask 31]
      refine lv_lstore hx hb dX1_nonce_38 hl (by decide) rfl (fun ls hl => ?_)
      have hl : lv_has ls 7 [(4, .long (lN (((f9 % 2 ^ 31) + 1) % 2 ^ 31))), (6, .int (nI 1)), (0, .ref d0), (1, .int (nI (tw_en p9))), (2, .long (lN f9))] := hl
      refine lv_iinc hx hb dX1_nonce_40 hl (k := 1) rfl nv_inc (by decide) rfl (fun ls hl => ?_)
      have hl : lv_has ls 7 [(6, .int (nI (1 + 1))), (4, .long (lN (((f9 % 2 ^ 31) + 1) % 2 ^ 31))), (0, .ref d0), (1, .int (nI (tw_en p9))), (2, .long (lN f9))] := hl
      refine lv_goto (tgt := 10) hx hb dX1_nonce_43 (by decide) ?_
      refine lv_iload hx hb dX1_nonce_10 (lv_at hl 0 rfl) ?_
      refine lv_iconst (v := (nI 3)) hx hb dX1_nonce_12 (by decide) ?_
      refine nv_icmp_ge (tgt := 46) hx hb dX1_nonce_13 (by decide) (nv_le (b := 2) (Nat.succ_le_succ (Nat.le_refl 1)) (by decide)) (nv_le (b := 3) (Nat.le_refl 3) (by decide)) (fun c13 => ?_) (fun c13 => ?_)
      · exact absurd c13 (by decide)
      · refine lv_aload_n hx hb dX1_nonce_16 rfl (lv_at hl 2 rfl) ?_
        refine va_get (D := D) (ci := 1) (v := .ref h0) (C := RX1) (T := TX1) (N := 4) hx hb ht inX1 hown hK hP 0 rfl rfl 3 (by decide) (ht _ kf_X1_33) (fun _ h9 => h9) rfl dX1_nonce_17 ?_
        refine lv_lload hx hb dX1_nonce_20 (lv_at hl 1 rfl) ?_
        refine lv_iload_n hx hb dX1_nonce_22 rfl (lv_at hl 3 rfl) ?_
        have em2 := tw_mz hk5 hp9 (m := ((f9 % 2 ^ 31) + 1) % 2 ^ 31) (by omega)
        refine vp_callSi (W.runV (As := [.long (lN (((f9 % 2 ^ 31) + 1) % 2 ^ 31)), .int (nI (tw_en p9))]) (rest := []) ⟨hx, hb, hml, hown, ht⟩ (c_X0_multiple l D hk5 (by omega) hN.2 (lN (((f9 % 2 ^ 31) + 1) % 2 ^ 31)) hp9) (cwV 2 ht (tb_V kl_X1_78 ki_X0_multiple ks_X0_multiple kn_X0 kc_X0_multiple) rfl rfl rfl ⟨rfl, kd_X0_multiple⟩ ⟨Nat.le_of_ble_eq_true rfl, Nat.le_of_ble_eq_true rfl⟩) (cv_preH (hP.sub (ws' := [(h0, .inr (0, [.int (nI (tw_P k)), .int (nI (tw_D k)), .int (nI (tw_I k)), .int (nI (tw_N k)), .ref ai, .ref ar, .ref af, .ref ap, .ref ah, .ref ac, .int (nI ((tw_fs k).length)), .int hk])), (ai, .inl (cA, tw_P k, .inl fi)), (ar, .inl (cA, tw_P k, .inl fr)), (af, .inl (cA, 14, .inl ff)), (ap, .inl (cA, 2 * tw_P k, .inl fp)), (ah, .inl (cA, 2 * tw_P k, .inl fh)), (ac, .inl (cA, 2 * tw_P k, .inl fn))]) [2, 3, 4, 5, 6, 7, 8] rfl) hK hfi hfr _) rfl rfl hl.1 rfl (lv_room (Nat.le_of_ble_eq_true rfl)) dX1_nonce_23 ⟨Nat.zero_le _, Nat.zero_le _⟩) (fun r hr9 => ?_)
        subst hr9
        rw [em2]
        have e12 := tw_mz1 hk5 hp9 (((f9 % 2 ^ 31) + 1) % 2 ^ 31)
        refine lv_iconst (v := (nI 1)) hx hb dX1_nonce_26 (by decide) ?_
        refine nv_icmp_ne (tgt := 46) hx hb dX1_nonce_27 (by decide) (nv_le (b := 67108863) (tw_en_le hP2 (tw_mu_on hK0 hp9 _)) (by decide)) (nv_le (b := 1) (Nat.le_refl 1) (by decide)) (fun c27 => ?_) (fun c27 => ?_)
        · refine lv_lload hx hb dX1_nonce_46 (lv_at hl 1 rfl) ?_
          exact W.lret hx hb hr (fun t ht hW => ⟨_, rfl, by unfold tw_nc; rw [if_pos cc1, if_neg (fun z => c27 (e12.mpr z))], ht⟩) (fun q h => nomatch h) dX1_nonce_48
        · have cc2 := e12.mp c27
          refine lv_lload hx hb dX1_nonce_30 (lv_at hl 1 rfl) ?_
          refine lv_lconst (v := lN 1) hx hb dX1_nonce_32 (by decide) ?_
          refine lv_ladd hx hb dX1_nonce_33 ?_
          rw [lN_add]
          refine lv_ldc2 (v := lN 2147483647) hx hb hown (ht _ kv_X1_140) dX1_nonce_34 ?_
          refine lv_land hx hb dX1_nonce_37 ?_
          rw [lN_mask 31]
          refine lv_lstore hx hb dX1_nonce_38 hl (by decide) rfl (fun ls hl => ?_)
          have hl : lv_has ls 7 [(4, .long (lN (((((f9 % 2 ^ 31) + 1) % 2 ^ 31) + 1) % 2 ^ 31))), (6, .int (nI (1 + 1))), (0, .ref d0), (1, .int (nI (tw_en p9))), (2, .long (lN f9))] := hl
          refine lv_iinc hx hb dX1_nonce_40 hl (k := 1) rfl nv_inc (by decide) rfl (fun ls hl => ?_)
          have hl : lv_has ls 7 [(6, .int (nI ((1 + 1) + 1))), (4, .long (lN (((((f9 % 2 ^ 31) + 1) % 2 ^ 31) + 1) % 2 ^ 31))), (0, .ref d0), (1, .int (nI (tw_en p9))), (2, .long (lN f9))] := hl
          refine lv_goto (tgt := 10) hx hb dX1_nonce_43 (by decide) ?_
          refine lv_iload hx hb dX1_nonce_10 (lv_at hl 0 rfl) ?_
          refine lv_iconst (v := (nI 3)) hx hb dX1_nonce_12 (by decide) ?_
          refine nv_icmp_ge (tgt := 46) hx hb dX1_nonce_13 (by decide) (nv_le (b := 3) (Nat.succ_le_succ (Nat.succ_le_succ (Nat.le_refl 1))) (by decide)) (nv_le (b := 3) (Nat.le_refl 3) (by decide)) (fun c13 => ?_) (fun c13 => ?_)
          · refine lv_lload hx hb dX1_nonce_46 (lv_at hl 1 rfl) ?_
            exact W.lret hx hb hr (fun t ht hW => ⟨_, rfl, by unfold tw_nc; rw [if_pos cc1, if_pos cc2], ht⟩) (fun q h => nomatch h) dX1_nonce_48
          · exact absurd c13 (by decide)
set_option maxHeartbeats 4000000 in
set_option maxRecDepth 100000 in
theorem c_X1_sign (l : Launch) (D : va_G) {k : Nat} (hk5 : k < 5) {d0 dc dr h0 ai ar af ap ah ac : Nat} {cA : ClassId} {hk : Int32} {rg fi fr ff fp fh fn : Nat → Int32} {R : Nat → Nat × Nat} (hok : cv_ok k fi fr ff) (hrg : ∀ j, j < 12 → tw_on (tw_P k) (tw_D k) (R j) ∧ rg j = nI (tw_en (R j))) {j key msg : Nat} (hj : j < 12) (hkey : key ≤ 1073741824) (hmsg : msg ≤ 1073741824) (hne : R j ≠ (0, 1)) : Met l yX1_sign wX1_sign ({ frames := 4, cells := 0, slots := 0, locals := 102 }) (va_Pc [.ref d0, .int (nI j), .int (nI key), .int (nI msg)] (fun U => va_P D vwCl [(d0, .inr (1, [.ref dc, .ref dr, .int (nI k), .ref h0])), (dr, .inl (cA, 12, .inl rg)), (h0, .inr (0, [.int (nI (tw_P k)), .int (nI (tw_D k)), .int (nI (tw_I k)), .int (nI (tw_N k)), .ref ai, .ref ar, .ref af, .ref ap, .ref ah, .ref ac, .int (nI ((tw_fs k).length)), .int hk])), (ai, .inl (cA, tw_P k, .inl fi)), (ar, .inl (cA, tw_P k, .inl fr)), (af, .inl (cA, 14, .inl ff)), (ap, .inl (cA, 2 * tw_P k, .inl fp)), (ah, .inl (cA, 2 * tw_P k, .inl fh)), (ac, .inl (cA, 2 * tw_P k, .inl fn))] U.heap ∧ va_K D vwCl [(cA, .int)] U)) (vp_Sl (fun r => r = lN (tw_sg k R j key msg))) 0 0 (fun _ => False) := by
  refine Met.ofW (cc := cX1_sign) (maxL := 12) (ret := (some .long)) (by decide) rfl ?_
  intro p e s m args below meth c s₁ B hml hv
  obtain ⟨rfl, hv⟩ := hv
  have hx := B.exec
  have hb := B.bytes
  have hr := B.returns
  have hts := atoms_spec (ws := wX1_sign) B.pre
  have ht : ∀ w ∈ tb_all, w.before _ s = true := fun w h => hts w (List.mem_cons_of_mem _ h)
  have hown : s.vm.findClass RX1 = some m.cls := findClass_of_methodNamed B.named
  have hlocks := B.notSynchronized
  have hl := lv_entry ([.ref d0, .int (nI j), .int (nI key), .int (nI msg)]) (n := 12) (Nat.le_of_ble_eq_true rfl)
  rw [lg_entry_eq]
  generalize (lg_sl ([.ref d0, .int (nI j), .int (nI key), .int (nI msg)]) ++ List.replicate (12 - (lg_sl ([.ref d0, .int (nI j), .int (nI key), .int (nI msg)])).length) Slot.unset).toArray = ls at hl ⊢
  have hl : lv_has ls 12 [(0, .ref d0), (1, .int (nI j)), (2, .int (nI key)), (3, .int (nI msg))] := hl
  obtain ⟨hP, hK⟩ := hv
  obtain ⟨hP0, hP2, hD2, hI2, hDP⟩ := tw_kb hk5
  have hK0 := tw_kK k hk5
  have hP8 : tw_P k ≤ 8192 := by omega
  have hN := tw_kN k hk5
  have zk : k ≤ 4 := by omega
  obtain ⟨hfi, hfr, hff⟩ := hok
  have hon := (hrg j hj).1
  have hod := tw_od_spec (by omega) (tw_kM hk5 hon)
  refine lv_iload_n hx hb dX1_sign_0 rfl (lv_at hl 1 rfl) ?_
  refine va_csv (W.runS (As := [.int (nI j)]) (rest := []) ⟨hx, hb, hml, hown, ht⟩ (c_X1_needRegister l hj) (va_cwS 1 ht (tb_S kl_X1_41 kt_X1_needRegister kn_X1 kc_X1_needRegister) rfl rfl rfl kd_X1_needRegister ⟨Nat.le_of_ble_eq_true rfl, Nat.le_of_ble_eq_true rfl⟩) (st_pre _) rfl rfl hl.1 rfl (lv_room (Nat.le_of_ble_eq_true rfl)) dX1_sign_1 ⟨Nat.zero_le _, Nat.zero_le _⟩) (fun _ => ?_)
  refine lv_iload_n hx hb dX1_sign_4 rfl (lv_at hl 2 rfl) ?_
  refine va_csv (W.runS (As := [.int (nI key)]) (rest := []) ⟨hx, hb, hml, hown, ht⟩ (c_X1_needNumber l hkey) (va_cwS 1 ht (tb_S kl_X1_101 kt_X1_needNumber kn_X1 kc_X1_needNumber) rfl rfl rfl kd_X1_needNumber ⟨Nat.le_of_ble_eq_true rfl, Nat.le_of_ble_eq_true rfl⟩) (st_pre _) rfl rfl hl.1 rfl (lv_room (Nat.le_of_ble_eq_true rfl)) dX1_sign_5 ⟨Nat.zero_le _, Nat.zero_le _⟩) (fun _ => ?_)
  refine lv_iload_n hx hb dX1_sign_8 rfl (lv_at hl 3 rfl) ?_
  refine va_csv (W.runS (As := [.int (nI msg)]) (rest := []) ⟨hx, hb, hml, hown, ht⟩ (c_X1_needNumber l hmsg) (va_cwS 1 ht (tb_S kl_X1_101 kt_X1_needNumber kn_X1 kc_X1_needNumber) rfl rfl rfl kd_X1_needNumber ⟨Nat.le_of_ble_eq_true rfl, Nat.le_of_ble_eq_true rfl⟩) (st_pre _) rfl rfl hl.1 rfl (lv_room (Nat.le_of_ble_eq_true rfl)) dX1_sign_9 ⟨Nat.zero_le _, Nat.zero_le _⟩) (fun _ => ?_)
  refine lv_aload_n hx hb dX1_sign_12 rfl (lv_at hl 0 rfl) ?_
  refine va_get (D := D) (ci := 1) (v := .ref dr) (C := RX1) (T := TX1) (N := 4) hx hb ht inX1 hown hK hP 0 rfl rfl 1 (by decide) (ht _ kf_X1_19) (fun _ h9 => h9) rfl dX1_sign_13 ?_
  refine lv_iload_n hx hb dX1_sign_16 rfl (lv_at hl 1 rfl) ?_
  refine nv_iald (A := fun _ => True) (H0 := s.heap) hx hb hK hP 1 0 rfl rfl hj (by decide) dX1_sign_17 ?_
  rw [(hrg _ hj).2]
  refine lv_istore hx hb dX1_sign_18 hl (by decide) rfl (fun ls hl => ?_)
  have hl : lv_has ls 12 [(4, .int (nI (tw_en (R j)))), (0, .ref d0), (1, .int (nI j)), (2, .int (nI key)), (3, .int (nI msg))] := hl
  refine lv_iload hx hb dX1_sign_20 (lv_at hl 0 rfl) ?_
  refine lv_iconst (v := (nI 1)) hx hb dX1_sign_22 (by decide) ?_
  refine nv_icmp_ne (tgt := 36) hx hb dX1_sign_23 (by decide) (nv_le (b := 67108863) (tw_en_le hP2 (hrg _ hj).1) (by decide)) (nv_le (b := 1) (Nat.le_refl 1) (by decide)) (fun c23 => ?_) (fun c23 => ?_)
  · refine lv_aload_n hx hb dX1_sign_36 rfl (lv_at hl 1 rfl) ?_
    refine lv_iload hx hb dX1_sign_37 (lv_at hl 0 rfl) ?_
    refine lv_iload_n hx hb dX1_sign_39 rfl (lv_at hl 3 rfl) ?_
    refine lv_i2l (v := lN key) hx hb dX1_sign_40 (nI_l (nv_le (b := 1073741824) hkey (by decide))) ?_
    refine lv_iload_n hx hb dX1_sign_41 rfl (lv_at hl 4 rfl) ?_
    refine lv_i2l (v := lN msg) hx hb dX1_sign_42 (nI_l (nv_le (b := 1073741824) hmsg (by decide))) ?_
    refine lv_ladd hx hb dX1_sign_43 ?_
    rw [lN_add]
    refine lv_lconst (v := lN 1) hx hb dX1_sign_44 (by decide) ?_
    refine lv_ladd hx hb dX1_sign_45 ?_
    rw [lN_add]
    refine vp_callSl (W.runV (As := [.int (nI (tw_en (R j))), .long (lN ((key + msg) + 1))]) (rest := []) ⟨hx, hb, hml, hown, ht⟩ (c_X1_nonce l D hk5 ⟨hfi, hfr, hff⟩ hrg hon (f9 := key + msg + 1) (by omega)) (cwV 2 ht (tb_V kl_X1_109 ki_X1_nonce ks_X1_nonce kn_X1 kc_X1_nonce) rfl rfl rfl ⟨rfl, kd_X1_nonce⟩ ⟨Nat.le_of_ble_eq_true rfl, Nat.le_of_ble_eq_true rfl⟩) (ro_preV _ hP hK (va_recv (ci := 1) (q0 := 0) hK hP rfl rfl)) rfl rfl hl.1 rfl (lv_room (Nat.le_of_ble_eq_true rfl)) dX1_sign_46 ⟨Nat.zero_le _, Nat.zero_le _⟩) (fun r hr9 => ?_)
    subst hr9
    have zK1 : tw_nc (tw_od (tw_P k) (tw_D k) (tw_N k) (R j)) ((key + msg + 1) % 2 ^ 31) < 2 ^ 31 := tw_nc_lt (Nat.mod_lt _ (by decide))
    have zK : tw_nc (tw_od (tw_P k) (tw_D k) (tw_N k) (R j)) ((key + msg + 1) % 2 ^ 31) ≤ 2147483647 := Nat.le_of_lt_succ zK1
    refine lv_lstore hx hb dX1_sign_49 hl (by decide) rfl (fun ls hl => ?_)
    have hl : lv_has ls 12 [(5, .long (lN (tw_nc (tw_od (tw_P k) (tw_D k) (tw_N k) (R j)) ((key + msg + 1) % 2 ^ 31)))), (4, .int (nI (tw_en (R j)))), (0, .ref d0), (1, .int (nI j)), (2, .int (nI key)), (3, .int (nI msg))] := hl
    refine lv_aload_n hx hb dX1_sign_51 rfl (lv_at hl 2 rfl) ?_
    refine va_get (D := D) (ci := 1) (v := .ref h0) (C := RX1) (T := TX1) (N := 4) hx hb ht inX1 hown hK hP 0 rfl rfl 3 (by decide) (ht _ kf_X1_33) (fun _ h9 => h9) rfl dX1_sign_52 ?_
    refine lv_lload hx hb dX1_sign_55 (lv_at hl 0 rfl) ?_
    refine lv_iload hx hb dX1_sign_57 (lv_at hl 1 rfl) ?_
    have hmu := tw_mu_on hK0 hon (tw_nc (tw_od (tw_P k) (tw_D k) (tw_N k) (R j)) ((key + msg + 1) % 2 ^ 31))
    refine vp_callSi (W.runV (As := [.long (lN (tw_nc (tw_od (tw_P k) (tw_D k) (tw_N k) (R j)) ((key + msg + 1) % 2 ^ 31))), .int (nI (tw_en (R j)))]) (rest := []) ⟨hx, hb, hml, hown, ht⟩ (c_X0_multiple l D hk5 (by omega) hN.2 (lN (tw_nc (tw_od (tw_P k) (tw_D k) (tw_N k) (R j)) ((key + msg + 1) % 2 ^ 31))) hon) (cwV 2 ht (tb_V kl_X1_78 ki_X0_multiple ks_X0_multiple kn_X0 kc_X0_multiple) rfl rfl rfl ⟨rfl, kd_X0_multiple⟩ ⟨Nat.le_of_ble_eq_true rfl, Nat.le_of_ble_eq_true rfl⟩) (cv_preH (hP.sub (ws' := [(h0, .inr (0, [.int (nI (tw_P k)), .int (nI (tw_D k)), .int (nI (tw_I k)), .int (nI (tw_N k)), .ref ai, .ref ar, .ref af, .ref ap, .ref ah, .ref ac, .int (nI ((tw_fs k).length)), .int hk])), (ai, .inl (cA, tw_P k, .inl fi)), (ar, .inl (cA, tw_P k, .inl fr)), (af, .inl (cA, 14, .inl ff)), (ap, .inl (cA, 2 * tw_P k, .inl fp)), (ah, .inl (cA, 2 * tw_P k, .inl fh)), (ac, .inl (cA, 2 * tw_P k, .inl fn))]) [2, 3, 4, 5, 6, 7, 8] rfl) hK hfi hfr _) rfl rfl hl.1 rfl (lv_room (Nat.le_of_ble_eq_true rfl)) dX1_sign_59 ⟨Nat.zero_le _, Nat.zero_le _⟩) (fun r hr9 => ?_)
    subst hr9
    rw [tw_mz hk5 hon zK1]
    refine vp_callSi (W.runS (As := [.int (nI (tw_en (tw_mu (tw_P k) (tw_D k) (tw_nc (tw_od (tw_P k) (tw_D k) (tw_N k) (R j)) ((key + msg + 1) % 2 ^ 31)) (R j))))]) (rest := []) ⟨hx, hb, hml, hown, ht⟩ (c_X0_compress l (x := (tw_mu (tw_P k) (tw_D k) (tw_nc (tw_od (tw_P k) (tw_D k) (tw_N k) (R j)) ((key + msg + 1) % 2 ^ 31)) (R j)).1) (y := (tw_mu (tw_P k) (tw_D k) (tw_nc (tw_od (tw_P k) (tw_D k) (tw_N k) (R j)) ((key + msg + 1) % 2 ^ 31)) (R j)).2) (by have := (hmu).1; omega) (by have := (hmu).2.1; omega)) (va_cwS 1 ht (tb_S kl_X1_60 kt_X0_compress kn_X0 kc_X0_compress) rfl rfl rfl kd_X0_compress ⟨Nat.le_of_ble_eq_true rfl, Nat.le_of_ble_eq_true rfl⟩) (st_pre _) rfl rfl hl.1 rfl (lv_room (Nat.le_of_ble_eq_true rfl)) dX1_sign_62 ⟨Nat.zero_le _, Nat.zero_le _⟩) (fun r hr9 => ?_)
    subst hr9
    refine lv_istore hx hb dX1_sign_65 hl (by decide) rfl (fun ls hl => ?_)
    have hl : lv_has ls 12 [(7, .int (nI (tw_pk (tw_mu (tw_P k) (tw_D k) (tw_nc (tw_od (tw_P k) (tw_D k) (tw_N k) (R j)) ((key + msg + 1) % 2 ^ 31)) (R j))))), (5, .long (lN (tw_nc (tw_od (tw_P k) (tw_D k) (tw_N k) (R j)) ((key + msg + 1) % 2 ^ 31)))), (4, .int (nI (tw_en (R j)))), (0, .ref d0), (1, .int (nI j)), (2, .int (nI key)), (3, .int (nI msg))] := hl
    refine lv_iload hx hb dX1_sign_67 (lv_at hl 0 rfl) ?_
    refine lv_iload_n hx hb dX1_sign_69 rfl (lv_at hl 6 rfl) ?_
    have zpk := tw_pk_le (p := tw_mu (tw_P k) (tw_D k) (tw_nc (tw_od (tw_P k) (tw_D k) (tw_N k) (R j)) ((key + msg + 1) % 2 ^ 31)) (R j)) (by have := hmu.2.1; omega)
    refine vp_callSi (W.runS (As := [.int (nI (tw_pk (tw_mu (tw_P k) (tw_D k) (tw_nc (tw_od (tw_P k) (tw_D k) (tw_N k) (R j)) ((key + msg + 1) % 2 ^ 31)) (R j)))), .int (nI msg)]) (rest := []) ⟨hx, hb, hml, hown, ht⟩ (c_X1_hash l zpk hmsg) (va_cwS 2 ht (tb_S kl_X1_113 kt_X1_hash kn_X1 kc_X1_hash) rfl rfl rfl kd_X1_hash ⟨Nat.le_of_ble_eq_true rfl, Nat.le_of_ble_eq_true rfl⟩) (st_pre _) rfl rfl hl.1 rfl (lv_room (Nat.le_of_ble_eq_true rfl)) dX1_sign_70 ⟨Nat.zero_le _, Nat.zero_le _⟩) (fun r hr9 => ?_)
    subst hr9
    refine lv_i2l (v := lN ((tw_pk (tw_mu (tw_P k) (tw_D k) (tw_nc (tw_od (tw_P k) (tw_D k) (tw_N k) (R j)) ((key + msg + 1) % 2 ^ 31)) (R j)) + msg) % 2 ^ 20)) hx hb dX1_sign_73 (nI_l (nv_le (b := 1048575) (Nat.le_of_lt_succ (Nat.mod_lt _ (by decide))) (by decide))) ?_
    refine lv_lstore hx hb dX1_sign_74 hl (by decide) rfl (fun ls hl => ?_)
    have hl : lv_has ls 12 [(8, .long (lN ((tw_pk (tw_mu (tw_P k) (tw_D k) (tw_nc (tw_od (tw_P k) (tw_D k) (tw_N k) (R j)) ((key + msg + 1) % 2 ^ 31)) (R j)) + msg) % 2 ^ 20))), (7, .int (nI (tw_pk (tw_mu (tw_P k) (tw_D k) (tw_nc (tw_od (tw_P k) (tw_D k) (tw_N k) (R j)) ((key + msg + 1) % 2 ^ 31)) (R j))))), (5, .long (lN (tw_nc (tw_od (tw_P k) (tw_D k) (tw_N k) (R j)) ((key + msg + 1) % 2 ^ 31)))), (4, .int (nI (tw_en (R j)))), (0, .ref d0), (1, .int (nI j)), (2, .int (nI key)), (3, .int (nI msg))] := hl
    refine lv_lload hx hb dX1_sign_76 (lv_at hl 2 rfl) ?_
    refine lv_lload hx hb dX1_sign_78 (lv_at hl 0 rfl) ?_
    refine lv_iload_n hx hb dX1_sign_80 rfl (lv_at hl 6 rfl) ?_
    refine lv_i2l (v := lN key) hx hb dX1_sign_81 (nI_l (nv_le (b := 1073741824) hkey (by decide))) ?_
    refine lv_lmul hx hb dX1_sign_82 ?_
    rw [lN_mul]
    refine lv_ladd hx hb dX1_sign_83 ?_
    rw [lN_add]
    refine lv_aload_n hx hb dX1_sign_84 rfl (lv_at hl 4 rfl) ?_
    refine va_get (D := D) (ci := 1) (v := .ref h0) (C := RX1) (T := TX1) (N := 4) hx hb ht inX1 hown hK hP 0 rfl rfl 3 (by decide) (ht _ kf_X1_33) (fun _ h9 => h9) rfl dX1_sign_85 ?_
    refine lv_iload hx hb dX1_sign_88 (lv_at hl 3 rfl) ?_
    refine vp_callSi (W.runV (As := [.int (nI (tw_en (R j)))]) (rest := [.long (lN ((tw_nc (tw_od (tw_P k) (tw_D k) (tw_N k) (R j)) ((key + msg + 1) % 2 ^ 31)) + (((tw_pk (tw_mu (tw_P k) (tw_D k) (tw_nc (tw_od (tw_P k) (tw_D k) (tw_N k) (R j)) ((key + msg + 1) % 2 ^ 31)) (R j)) + msg) % 2 ^ 20) * key)))]) ⟨hx, hb, hml, hown, ht⟩ (c_X0_orderOf l D hk5 hff hon) (cwV 1 ht (tb_V kl_X1_82 ki_X0_orderOf ks_X0_orderOf kn_X0 kc_X0_orderOf) rfl rfl rfl ⟨rfl, kd_X0_orderOf⟩ ⟨Nat.le_of_ble_eq_true rfl, Nat.le_of_ble_eq_true rfl⟩) (cv_preH (hP.sub (ws' := [(h0, .inr (0, [.int (nI (tw_P k)), .int (nI (tw_D k)), .int (nI (tw_I k)), .int (nI (tw_N k)), .ref ai, .ref ar, .ref af, .ref ap, .ref ah, .ref ac, .int (nI ((tw_fs k).length)), .int hk])), (ai, .inl (cA, tw_P k, .inl fi)), (ar, .inl (cA, tw_P k, .inl fr)), (af, .inl (cA, 14, .inl ff)), (ap, .inl (cA, 2 * tw_P k, .inl fp)), (ah, .inl (cA, 2 * tw_P k, .inl fh)), (ac, .inl (cA, 2 * tw_P k, .inl fn))]) [2, 3, 4, 5, 6, 7, 8] rfl) hK hfi hfr _) rfl rfl hl.1 rfl (lv_room (Nat.le_of_ble_eq_true rfl)) dX1_sign_90 ⟨Nat.zero_le _, Nat.zero_le _⟩) (fun r hr9 => ?_)
    subst hr9
    have zod : tw_od (tw_P k) (tw_D k) (tw_N k) (R j) ≤ 8232 := Nat.le_trans hod.2.1 hN.2
    refine lv_i2l (v := lN (tw_od (tw_P k) (tw_D k) (tw_N k) (R j))) hx hb dX1_sign_93 (nI_l (nv_le (b := 8232) zod (by decide))) ?_
    refine lv_lrem hx hb dX1_sign_94 (fm_ne hod.1 (nv_le (b := 8232) zod (by decide))) ?_
    rw [pk_lRem (Nat.lt_of_le_of_lt (m := 1125900980584447) (Nat.add_le_add zK (Nat.mul_le_mul (Nat.le_of_lt_succ (Nat.mod_lt _ (by decide))) hkey)) (by decide)) hod.1 (Nat.lt_of_le_of_lt (m := 8232) zod (by decide))]
    refine lv_lstore hx hb dX1_sign_95 hl (by decide) rfl (fun ls hl => ?_)
    have hl : lv_has ls 12 [(10, .long (lN (((tw_nc (tw_od (tw_P k) (tw_D k) (tw_N k) (R j)) ((key + msg + 1) % 2 ^ 31)) + (((tw_pk (tw_mu (tw_P k) (tw_D k) (tw_nc (tw_od (tw_P k) (tw_D k) (tw_N k) (R j)) ((key + msg + 1) % 2 ^ 31)) (R j)) + msg) % 2 ^ 20) * key)) % (tw_od (tw_P k) (tw_D k) (tw_N k) (R j))))), (8, .long (lN ((tw_pk (tw_mu (tw_P k) (tw_D k) (tw_nc (tw_od (tw_P k) (tw_D k) (tw_N k) (R j)) ((key + msg + 1) % 2 ^ 31)) (R j)) + msg) % 2 ^ 20))), (7, .int (nI (tw_pk (tw_mu (tw_P k) (tw_D k) (tw_nc (tw_od (tw_P k) (tw_D k) (tw_N k) (R j)) ((key + msg + 1) % 2 ^ 31)) (R j))))), (5, .long (lN (tw_nc (tw_od (tw_P k) (tw_D k) (tw_N k) (R j)) ((key + msg + 1) % 2 ^ 31)))), (4, .int (nI (tw_en (R j)))), (0, .ref d0), (1, .int (nI j)), (2, .int (nI key)), (3, .int (nI msg))] := hl
    refine lv_iload hx hb dX1_sign_97 (lv_at hl 2 rfl) ?_
    refine lv_i2l (v := lN (tw_pk (tw_mu (tw_P k) (tw_D k) (tw_nc (tw_od (tw_P k) (tw_D k) (tw_N k) (R j)) ((key + msg + 1) % 2 ^ 31)) (R j)))) hx hb dX1_sign_99 (nI_l (nv_le (b := 16383) (tw_pk_le (by have := (hmu).2.1; omega)) (by decide))) ?_
    refine lv_bipush (v := (nI 16)) hx hb dX1_sign_100 (by decide) ?_
    refine lv_lshl (v := lN ((tw_pk (tw_mu (tw_P k) (tw_D k) (tw_nc (tw_od (tw_P k) (tw_D k) (tw_N k) (R j)) ((key + msg + 1) % 2 ^ 31)) (R j))) * 2 ^ 16)) hx hb dX1_sign_102 (lN_shl16 _) ?_
    refine lv_lload hx hb dX1_sign_103 (lv_at hl 0 rfl) ?_
    refine lv_ladd hx hb dX1_sign_105 ?_
    rw [lN_add]
    exact W.lret hx hb hr (fun t ht hW => ⟨_, rfl, rfl, ht⟩) (fun q h => nomatch h) dX1_sign_106
  · exact absurd ((tw_en_1 (by have := hon.2.1; omega)).mp c23) hne
set_option maxHeartbeats 4000000 in
set_option maxRecDepth 100000 in
theorem c_X1_verifyM (l : Launch) (D : va_G) {k : Nat} (hk5 : k < 5) {d0 dc dr h0 ai ar af ap ah ac : Nat} {cA : ClassId} {hk : Int32} {rg fi fr ff fp fh fn : Nat → Int32} {R : Nat → Nat × Nat} (hok : cv_ok k fi fr ff) (hrg : ∀ j, j < 12 → tw_on (tw_P k) (tw_D k) (R j) ∧ rg j = nI (tw_en (R j))) {j j2 msg : Nat} (hj : j < 12) (hj2 : j2 < 12) (hmsg : msg ≤ 1073741824) {z : Int64} (hz : z.toInt < 0) : Met l yX1_verify wX1_verify ({ frames := 4, cells := 0, slots := 0, locals := 90 }) (va_Pc [.ref d0, .int (nI j), .int (nI j2), .int (nI msg), .long z] (fun U => va_P D vwCl [(d0, .inr (1, [.ref dc, .ref dr, .int (nI k), .ref h0])), (dr, .inl (cA, 12, .inl rg)), (h0, .inr (0, [.int (nI (tw_P k)), .int (nI (tw_D k)), .int (nI (tw_I k)), .int (nI (tw_N k)), .ref ai, .ref ar, .ref af, .ref ap, .ref ah, .ref ac, .int (nI ((tw_fs k).length)), .int hk])), (ai, .inl (cA, tw_P k, .inl fi)), (ar, .inl (cA, tw_P k, .inl fr)), (af, .inl (cA, 14, .inl ff)), (ap, .inl (cA, 2 * tw_P k, .inl fp)), (ah, .inl (cA, 2 * tw_P k, .inl fh)), (ac, .inl (cA, 2 * tw_P k, .inl fn))] U.heap ∧ va_K D vwCl [(cA, .int)] U)) (vp_Si (fun r => r = 0)) 0 0 (fun _ => False) := by
  refine Met.ofW (cc := cX1_verify) (maxL := 12) (ret := (some .boolean)) (by decide) rfl ?_
  intro p e s m args below meth c s₁ B hml hv
  obtain ⟨rfl, hv⟩ := hv
  have hx := B.exec
  have hb := B.bytes
  have hr := B.returns
  have hts := atoms_spec (ws := wX1_verify) B.pre
  have ht : ∀ w ∈ tb_all, w.before _ s = true := fun w h => hts w (List.mem_cons_of_mem _ h)
  have hown : s.vm.findClass RX1 = some m.cls := findClass_of_methodNamed B.named
  have hlocks := B.notSynchronized
  have hl := lv_entry ([.ref d0, .int (nI j), .int (nI j2), .int (nI msg), .long z]) (n := 12) (Nat.le_of_ble_eq_true rfl)
  rw [lg_entry_eq]
  generalize (lg_sl ([.ref d0, .int (nI j), .int (nI j2), .int (nI msg), .long z]) ++ List.replicate (12 - (lg_sl ([.ref d0, .int (nI j), .int (nI j2), .int (nI msg), .long z])).length) Slot.unset).toArray = ls at hl ⊢
  have hl : lv_has ls 12 [(0, .ref d0), (1, .int (nI j)), (2, .int (nI j2)), (3, .int (nI msg)), (4, .long z)] := hl
  obtain ⟨hP, hK⟩ := hv
  obtain ⟨hP0, hP2, hD2, hI2, hDP⟩ := tw_kb hk5
  have hK0 := tw_kK k hk5
  have hP8 : tw_P k ≤ 8192 := by omega
  have hN := tw_kN k hk5
  have zk : k ≤ 4 := by omega
  obtain ⟨hfi, hfr, hff⟩ := hok
  refine lv_iload_n hx hb dX1_verify_0 rfl (lv_at hl 1 rfl) ?_
  refine va_csv (W.runS (As := [.int (nI j)]) (rest := []) ⟨hx, hb, hml, hown, ht⟩ (c_X1_needRegister l hj) (va_cwS 1 ht (tb_S kl_X1_41 kt_X1_needRegister kn_X1 kc_X1_needRegister) rfl rfl rfl kd_X1_needRegister ⟨Nat.le_of_ble_eq_true rfl, Nat.le_of_ble_eq_true rfl⟩) (st_pre _) rfl rfl hl.1 rfl (lv_room (Nat.le_of_ble_eq_true rfl)) dX1_verify_1 ⟨Nat.zero_le _, Nat.zero_le _⟩) (fun _ => ?_)
  refine lv_iload_n hx hb dX1_verify_4 rfl (lv_at hl 2 rfl) ?_
  refine va_csv (W.runS (As := [.int (nI j2)]) (rest := []) ⟨hx, hb, hml, hown, ht⟩ (c_X1_needRegister l hj2) (va_cwS 1 ht (tb_S kl_X1_41 kt_X1_needRegister kn_X1 kc_X1_needRegister) rfl rfl rfl kd_X1_needRegister ⟨Nat.le_of_ble_eq_true rfl, Nat.le_of_ble_eq_true rfl⟩) (st_pre _) rfl rfl hl.1 rfl (lv_room (Nat.le_of_ble_eq_true rfl)) dX1_verify_5 ⟨Nat.zero_le _, Nat.zero_le _⟩) (fun _ => ?_)
  refine lv_iload_n hx hb dX1_verify_8 rfl (lv_at hl 3 rfl) ?_
  refine va_csv (W.runS (As := [.int (nI msg)]) (rest := []) ⟨hx, hb, hml, hown, ht⟩ (c_X1_needNumber l hmsg) (va_cwS 1 ht (tb_S kl_X1_101 kt_X1_needNumber kn_X1 kc_X1_needNumber) rfl rfl rfl kd_X1_needNumber ⟨Nat.le_of_ble_eq_true rfl, Nat.le_of_ble_eq_true rfl⟩) (st_pre _) rfl rfl hl.1 rfl (lv_room (Nat.le_of_ble_eq_true rfl)) dX1_verify_9 ⟨Nat.zero_le _, Nat.zero_le _⟩) (fun _ => ?_)
  refine lv_lload hx hb dX1_verify_12 (lv_at hl 4 rfl) ?_
  refine lv_bipush (v := (nI 16)) hx hb dX1_verify_14 (by decide) ?_
  refine lv_lshr (v := z >>> ((nI 16).toInt64 &&& 63)) hx hb dX1_verify_16 rfl ?_
  refine lv_lstore hx hb dX1_verify_17 hl (by decide) rfl (fun ls hl => ?_)
  have hl : lv_has ls 12 [(6, .long (z >>> ((nI 16).toInt64 &&& 63))), (0, .ref d0), (1, .int (nI j)), (2, .int (nI j2)), (3, .int (nI msg)), (4, .long z)] := hl
  refine lv_lload hx hb dX1_verify_19 (lv_at hl 0 rfl) ?_
  refine lv_lconst (v := lN 0) hx hb dX1_verify_21 (by decide) ?_
  refine W.lcmp hx hb dX1_verify_22 ?_
  refine lv_if_lt (tgt := 35) hx hb dX1_verify_23 (by decide) (fun _ => ?_) (fun c9 => absurd ((lg_cmp_lt _ _).mpr ?_) c9)
  · refine lv_iconst (v := (nI 0)) hx hb dX1_verify_35 (by decide) ?_
    exact W.zret hx hb hr rfl (fun t ht hW => ⟨_, rfl, rfl, ht⟩) (fun q h => nomatch h) dX1_verify_36
  · rw [Int64.lt_iff_toInt_lt, lN_shr]
    have e0 : (lN 0).toInt = 0 := by decide
    omega
set_option maxHeartbeats 4000000 in
set_option maxRecDepth 100000 in
theorem c_X1_verify (l : Launch) (D : va_G) {k : Nat} (hk5 : k < 5) {d0 dc dr h0 ai ar af ap ah ac : Nat} {cA : ClassId} {hk : Int32} {rg fi fr ff fp fh fn : Nat → Int32} {R : Nat → Nat × Nat} (hok : cv_ok k fi fr ff) (hrg : ∀ j, j < 12 → tw_on (tw_P k) (tw_D k) (R j) ∧ rg j = nI (tw_en (R j))) {j j2 msg : Nat} (hj : j < 12) (hj2 : j2 < 12) (hmsg : msg ≤ 1073741824) {g : Nat} (hg : g < 2 ^ 63) : Met l yX1_verify wX1_verify ({ frames := 4, cells := 0, slots := 0, locals := 90 }) (va_Pc [.ref d0, .int (nI j), .int (nI j2), .int (nI msg), .long (lN g)] (fun U => va_P D vwCl [(d0, .inr (1, [.ref dc, .ref dr, .int (nI k), .ref h0])), (dr, .inl (cA, 12, .inl rg)), (h0, .inr (0, [.int (nI (tw_P k)), .int (nI (tw_D k)), .int (nI (tw_I k)), .int (nI (tw_N k)), .ref ai, .ref ar, .ref af, .ref ap, .ref ah, .ref ac, .int (nI ((tw_fs k).length)), .int hk])), (ai, .inl (cA, tw_P k, .inl fi)), (ar, .inl (cA, tw_P k, .inl fr)), (af, .inl (cA, 14, .inl ff)), (ap, .inl (cA, 2 * tw_P k, .inl fp)), (ah, .inl (cA, 2 * tw_P k, .inl fh)), (ac, .inl (cA, 2 * tw_P k, .inl fn))] U.heap ∧ va_K D vwCl [(cA, .int)] U)) (vp_Si (fun r => r = tw_vf k R j j2 msg g)) 0 0 (fun _ => False) := by
  refine Met.ofW (cc := cX1_verify) (maxL := 12) (ret := (some .boolean)) (by decide) rfl ?_
  intro p e s m args below meth c s₁ B hml hv
  obtain ⟨rfl, hv⟩ := hv
  have hx := B.exec
  have hb := B.bytes
  have hr := B.returns
  have hts := atoms_spec (ws := wX1_verify) B.pre
  have ht : ∀ w ∈ tb_all, w.before _ s = true := fun w h => hts w (List.mem_cons_of_mem _ h)
  have hown : s.vm.findClass RX1 = some m.cls := findClass_of_methodNamed B.named
  have hlocks := B.notSynchronized
  have hl := lv_entry ([.ref d0, .int (nI j), .int (nI j2), .int (nI msg), .long (lN g)]) (n := 12) (Nat.le_of_ble_eq_true rfl)
  rw [lg_entry_eq]
  generalize (lg_sl ([.ref d0, .int (nI j), .int (nI j2), .int (nI msg), .long (lN g)]) ++ List.replicate (12 - (lg_sl ([.ref d0, .int (nI j), .int (nI j2), .int (nI msg), .long (lN g)])).length) Slot.unset).toArray = ls at hl ⊢
  have hl : lv_has ls 12 [(0, .ref d0), (1, .int (nI j)), (2, .int (nI j2)), (3, .int (nI msg)), (4, .long (lN g))] := hl
  obtain ⟨hP, hK⟩ := hv
  obtain ⟨hP0, hP2, hD2, hI2, hDP⟩ := tw_kb hk5
  have hK0 := tw_kK k hk5
  have hP8 : tw_P k ≤ 8192 := by omega
  have hN := tw_kN k hk5
  have zk : k ≤ 4 := by omega
  obtain ⟨hfi, hfr, hff⟩ := hok
  refine lv_iload_n hx hb dX1_verify_0 rfl (lv_at hl 1 rfl) ?_
  refine va_csv (W.runS (As := [.int (nI j)]) (rest := []) ⟨hx, hb, hml, hown, ht⟩ (c_X1_needRegister l hj) (va_cwS 1 ht (tb_S kl_X1_41 kt_X1_needRegister kn_X1 kc_X1_needRegister) rfl rfl rfl kd_X1_needRegister ⟨Nat.le_of_ble_eq_true rfl, Nat.le_of_ble_eq_true rfl⟩) (st_pre _) rfl rfl hl.1 rfl (lv_room (Nat.le_of_ble_eq_true rfl)) dX1_verify_1 ⟨Nat.zero_le _, Nat.zero_le _⟩) (fun _ => ?_)
  refine lv_iload_n hx hb dX1_verify_4 rfl (lv_at hl 2 rfl) ?_
  refine va_csv (W.runS (As := [.int (nI j2)]) (rest := []) ⟨hx, hb, hml, hown, ht⟩ (c_X1_needRegister l hj2) (va_cwS 1 ht (tb_S kl_X1_41 kt_X1_needRegister kn_X1 kc_X1_needRegister) rfl rfl rfl kd_X1_needRegister ⟨Nat.le_of_ble_eq_true rfl, Nat.le_of_ble_eq_true rfl⟩) (st_pre _) rfl rfl hl.1 rfl (lv_room (Nat.le_of_ble_eq_true rfl)) dX1_verify_5 ⟨Nat.zero_le _, Nat.zero_le _⟩) (fun _ => ?_)
  refine lv_iload_n hx hb dX1_verify_8 rfl (lv_at hl 3 rfl) ?_
  refine va_csv (W.runS (As := [.int (nI msg)]) (rest := []) ⟨hx, hb, hml, hown, ht⟩ (c_X1_needNumber l hmsg) (va_cwS 1 ht (tb_S kl_X1_101 kt_X1_needNumber kn_X1 kc_X1_needNumber) rfl rfl rfl kd_X1_needNumber ⟨Nat.le_of_ble_eq_true rfl, Nat.le_of_ble_eq_true rfl⟩) (st_pre _) rfl rfl hl.1 rfl (lv_room (Nat.le_of_ble_eq_true rfl)) dX1_verify_9 ⟨Nat.zero_le _, Nat.zero_le _⟩) (fun _ => ?_)
  refine lv_lload hx hb dX1_verify_12 (lv_at hl 4 rfl) ?_
  refine lv_bipush (v := (nI 16)) hx hb dX1_verify_14 (by decide) ?_
  refine lv_lshr (v := lN (g / 2 ^ 16)) hx hb dX1_verify_16 (lN_shrN hg) ?_
  refine lv_lstore hx hb dX1_verify_17 hl (by decide) rfl (fun ls hl => ?_)
  have hl : lv_has ls 12 [(6, .long (lN (g / 2 ^ 16))), (0, .ref d0), (1, .int (nI j)), (2, .int (nI j2)), (3, .int (nI msg)), (4, .long (lN g))] := hl
  refine lv_lload hx hb dX1_verify_19 (lv_at hl 0 rfl) ?_
  refine lv_lconst (v := lN 0) hx hb dX1_verify_21 (by decide) ?_
  refine W.lcmp hx hb dX1_verify_22 ?_
  refine lv_if_lt (tgt := 35) hx hb dX1_verify_23 (by decide) (fun c9 => absurd ((lg_cmp_lt _ _).mp c9) ?_) (fun _ => ?_)
  · rw [Int64.lt_iff_toInt_lt, pk_lT (by omega)]
    have e0 : (lN 0).toInt = 0 := by decide
    omega
  · refine lv_lload hx hb dX1_verify_26 (lv_at hl 0 rfl) ?_
    refine lv_ldc2 (v := lN 16384) hx hb hown (ht _ kv_X1_116) dX1_verify_28 ?_
    refine W.lcmp hx hb dX1_verify_31 ?_
    refine lv_if_lt (tgt := 37) hx hb dX1_verify_32 (by decide) (fun c1 => ?_) (fun c1 => ?_)
    · have c2 : g / 2 ^ 16 < 16384 := (pk_lLT (by omega) (by decide)).mp ((lg_cmp_lt _ _).mp c1)
      refine lv_lload hx hb dX1_verify_37 (lv_at hl 0 rfl) ?_
      refine lv_l2i (v := nI (g / 2 ^ 16)) hx hb dX1_verify_39 (lN_i _) ?_
      refine lv_istore hx hb dX1_verify_40 hl (by decide) rfl (fun ls hl => ?_)
      have hl : lv_has ls 12 [(8, .int (nI (g / 2 ^ 16))), (6, .long (lN (g / 2 ^ 16))), (0, .ref d0), (1, .int (nI j)), (2, .int (nI j2)), (3, .int (nI msg)), (4, .long (lN g))] := hl
      refine lv_aload_n hx hb dX1_verify_42 rfl (lv_at hl 2 rfl) ?_
      refine va_get (D := D) (ci := 1) (v := .ref h0) (C := RX1) (T := TX1) (N := 4) hx hb ht inX1 hown hK hP 0 rfl rfl 3 (by decide) (ht _ kf_X1_33) (fun _ h9 => h9) rfl dX1_verify_43 ?_
      refine lv_iload hx hb dX1_verify_46 (lv_at hl 0 rfl) ?_
      refine vp_callSi (W.runV (As := [.int (nI (g / 2 ^ 16))]) (rest := []) ⟨hx, hb, hml, hown, ht⟩ (c_X0_read l D hk5 (j := g / 2 ^ 16) (by omega)) (cwV 1 ht (tb_V kl_X1_54 ki_X0_read ks_X0_read kn_X0 kc_X0_read) rfl rfl rfl ⟨rfl, kd_X0_read⟩ ⟨Nat.le_of_ble_eq_true rfl, Nat.le_of_ble_eq_true rfl⟩) (cv_preH (hP.sub (ws' := [(h0, .inr (0, [.int (nI (tw_P k)), .int (nI (tw_D k)), .int (nI (tw_I k)), .int (nI (tw_N k)), .ref ai, .ref ar, .ref af, .ref ap, .ref ah, .ref ac, .int (nI ((tw_fs k).length)), .int hk])), (ai, .inl (cA, tw_P k, .inl fi)), (ar, .inl (cA, tw_P k, .inl fr)), (af, .inl (cA, 14, .inl ff)), (ap, .inl (cA, 2 * tw_P k, .inl fp)), (ah, .inl (cA, 2 * tw_P k, .inl fh)), (ac, .inl (cA, 2 * tw_P k, .inl fn))]) [2, 3, 4, 5, 6, 7, 8] rfl) hK hfi hfr _) rfl rfl hl.1 rfl (lv_room (Nat.le_of_ble_eq_true rfl)) dX1_verify_48 ⟨Nat.zero_le _, Nat.zero_le _⟩) (fun r hr9 => ?_)
      subst hr9
      refine lv_istore hx hb dX1_verify_51 hl (by decide) rfl (fun ls hl => ?_)
      have hl : lv_has ls 12 [(9, .int (tw_rr (tw_P k) (tw_D k) (g / 2 ^ 16))), (8, .int (nI (g / 2 ^ 16))), (6, .long (lN (g / 2 ^ 16))), (0, .ref d0), (1, .int (nI j)), (2, .int (nI j2)), (3, .int (nI msg)), (4, .long (lN g))] := hl
      cases er : tw_rd (tw_P k) (tw_D k) (g / 2 ^ 16) with
      | none =>
        rw [tw_rr_none er] at hl
        refine lv_iload hx hb dX1_verify_53 (lv_at hl 0 rfl) ?_
        refine lv_iconst (v := (-1)) hx hb dX1_verify_55 (by decide) ?_
        refine lv_icmp_ne (tgt := 61) hx hb dX1_verify_56 (by decide) (fun c9 => absurd rfl c9) (fun _ => ?_)
        refine lv_iconst (v := (nI 0)) hx hb dX1_verify_59 (by decide) ?_
        exact W.zret hx hb hr rfl (fun t ht hW => ⟨_, rfl, (tw_vf_n c2 er).symm, ht⟩) (fun q h => nomatch h) dX1_verify_60
      | some q =>
        rw [tw_rr_some er] at hl
        have hq9 := (tw_rd_some hK0 er).1
        have zq := tw_en_le hP2 hq9
        have hvf := tw_vf_s (k := k) (R := R) (j := j) (j2 := j2) (msg := msg) c2 er
        refine lv_iload hx hb dX1_verify_53 (lv_at hl 0 rfl) ?_
        refine lv_iconst (v := (-1)) hx hb dX1_verify_55 (by decide) ?_
        refine lv_icmp_ne (tgt := 61) hx hb dX1_verify_56 (by decide) (fun _ => ?_) (fun c9 => absurd c9 (nv_m1 (by omega)))
        have ho1 := (hrg j hj).1
        have ho2 := (hrg j2 hj2).1
        refine lv_aload_n hx hb dX1_verify_61 rfl (lv_at hl 3 rfl) ?_
        refine va_get (D := D) (ci := 1) (v := .ref h0) (C := RX1) (T := TX1) (N := 4) hx hb ht inX1 hown hK hP 0 rfl rfl 3 (by decide) (ht _ kf_X1_33) (fun _ h9 => h9) rfl dX1_verify_62 ?_
        refine lv_lload hx hb dX1_verify_65 (lv_at hl 7 rfl) ?_
        refine lv_ldc2 (v := lN 65535) hx hb hown (ht _ kv_X1_118) dX1_verify_67 ?_
        refine lv_land hx hb dX1_verify_70 ?_
        rw [lN_mask 16]
        refine lv_aload_n hx hb dX1_verify_71 rfl (lv_at hl 3 rfl) ?_
        refine va_get (D := D) (ci := 1) (v := .ref dr) (C := RX1) (T := TX1) (N := 4) hx hb ht inX1 hown hK hP 0 rfl rfl 1 (by decide) (ht _ kf_X1_19) (fun _ h9 => h9) rfl dX1_verify_72 ?_
        refine lv_iload_n hx hb dX1_verify_75 rfl (lv_at hl 4 rfl) ?_
        refine nv_iald (A := fun _ => True) (H0 := s.heap) hx hb hK hP 1 0 rfl rfl hj (by decide) dX1_verify_76 ?_
        rw [(hrg _ hj).2]
        have hm1 := tw_mu_on hK0 ho1 (g % 2 ^ 16)
        have hm2 := tw_mu_on hK0 ho2 ((g / 2 ^ 16 + msg) % 2 ^ 20)
        have hs2 := tw_clo hK0 hq9 hm2
        refine vp_callSi (W.runV (As := [.long (lN (g % 2 ^ 16)), .int (nI (tw_en (R j)))]) (rest := []) ⟨hx, hb, hml, hown, ht⟩ (c_X0_multiple l D hk5 (by omega) hN.2 (lN (g % 2 ^ 16)) ho1) (cwV 2 ht (tb_V kl_X1_78 ki_X0_multiple ks_X0_multiple kn_X0 kc_X0_multiple) rfl rfl rfl ⟨rfl, kd_X0_multiple⟩ ⟨Nat.le_of_ble_eq_true rfl, Nat.le_of_ble_eq_true rfl⟩) (cv_preH (hP.sub (ws' := [(h0, .inr (0, [.int (nI (tw_P k)), .int (nI (tw_D k)), .int (nI (tw_I k)), .int (nI (tw_N k)), .ref ai, .ref ar, .ref af, .ref ap, .ref ah, .ref ac, .int (nI ((tw_fs k).length)), .int hk])), (ai, .inl (cA, tw_P k, .inl fi)), (ar, .inl (cA, tw_P k, .inl fr)), (af, .inl (cA, 14, .inl ff)), (ap, .inl (cA, 2 * tw_P k, .inl fp)), (ah, .inl (cA, 2 * tw_P k, .inl fh)), (ac, .inl (cA, 2 * tw_P k, .inl fn))]) [2, 3, 4, 5, 6, 7, 8] rfl) hK hfi hfr _) rfl rfl hl.1 rfl (lv_room (Nat.le_of_ble_eq_true rfl)) dX1_verify_77 ⟨Nat.zero_le _, Nat.zero_le _⟩) (fun r hr9 => ?_)
        subst hr9
        rw [tw_mz hk5 ho1 (by omega)]
        refine lv_istore hx hb dX1_verify_80 hl (by decide) rfl (fun ls hl => ?_)
        have hl : lv_has ls 12 [(10, .int (nI (tw_en (tw_mu (tw_P k) (tw_D k) (g % 2 ^ 16) (R j))))), (9, .int (nI (tw_en q))), (8, .int (nI (g / 2 ^ 16))), (6, .long (lN (g / 2 ^ 16))), (0, .ref d0), (1, .int (nI j)), (2, .int (nI j2)), (3, .int (nI msg)), (4, .long (lN g))] := hl
        refine lv_aload_n hx hb dX1_verify_82 rfl (lv_at hl 4 rfl) ?_
        refine va_get (D := D) (ci := 1) (v := .ref h0) (C := RX1) (T := TX1) (N := 4) hx hb ht inX1 hown hK hP 0 rfl rfl 3 (by decide) (ht _ kf_X1_33) (fun _ h9 => h9) rfl dX1_verify_83 ?_
        refine lv_iload hx hb dX1_verify_86 (lv_at hl 2 rfl) ?_
        refine lv_iload_n hx hb dX1_verify_88 rfl (lv_at hl 7 rfl) ?_
        refine vp_callSi (W.runS (As := [.int (nI (g / 2 ^ 16)), .int (nI msg)]) (rest := [.ref h0]) ⟨hx, hb, hml, hown, ht⟩ (c_X1_hash l (a := g / 2 ^ 16) (b := msg) (by omega) hmsg) (va_cwS 2 ht (tb_S kl_X1_113 kt_X1_hash kn_X1 kc_X1_hash) rfl rfl rfl kd_X1_hash ⟨Nat.le_of_ble_eq_true rfl, Nat.le_of_ble_eq_true rfl⟩) (st_pre _) rfl rfl hl.1 rfl (lv_room (Nat.le_of_ble_eq_true rfl)) dX1_verify_89 ⟨Nat.zero_le _, Nat.zero_le _⟩) (fun r hr9 => ?_)
        subst hr9
        refine lv_i2l (v := lN ((g / 2 ^ 16 + msg) % 2 ^ 20)) hx hb dX1_verify_92 (nI_l (nv_le (b := 1048575) (Nat.le_of_lt_succ (Nat.mod_lt _ (by decide))) (by decide))) ?_
        refine lv_aload_n hx hb dX1_verify_93 rfl (lv_at hl 4 rfl) ?_
        refine va_get (D := D) (ci := 1) (v := .ref dr) (C := RX1) (T := TX1) (N := 4) hx hb ht inX1 hown hK hP 0 rfl rfl 1 (by decide) (ht _ kf_X1_19) (fun _ h9 => h9) rfl dX1_verify_94 ?_
        refine lv_iload_n hx hb dX1_verify_97 rfl (lv_at hl 6 rfl) ?_
        refine nv_iald (A := fun _ => True) (H0 := s.heap) hx hb hK hP 1 0 rfl rfl hj2 (by decide) dX1_verify_98 ?_
        rw [(hrg _ hj2).2]
        refine vp_callSi (W.runV (As := [.long (lN ((g / 2 ^ 16 + msg) % 2 ^ 20)), .int (nI (tw_en (R j2)))]) (rest := []) ⟨hx, hb, hml, hown, ht⟩ (c_X0_multiple l D hk5 (by omega) hN.2 (lN ((g / 2 ^ 16 + msg) % 2 ^ 20)) ho2) (cwV 2 ht (tb_V kl_X1_78 ki_X0_multiple ks_X0_multiple kn_X0 kc_X0_multiple) rfl rfl rfl ⟨rfl, kd_X0_multiple⟩ ⟨Nat.le_of_ble_eq_true rfl, Nat.le_of_ble_eq_true rfl⟩) (cv_preH (hP.sub (ws' := [(h0, .inr (0, [.int (nI (tw_P k)), .int (nI (tw_D k)), .int (nI (tw_I k)), .int (nI (tw_N k)), .ref ai, .ref ar, .ref af, .ref ap, .ref ah, .ref ac, .int (nI ((tw_fs k).length)), .int hk])), (ai, .inl (cA, tw_P k, .inl fi)), (ar, .inl (cA, tw_P k, .inl fr)), (af, .inl (cA, 14, .inl ff)), (ap, .inl (cA, 2 * tw_P k, .inl fp)), (ah, .inl (cA, 2 * tw_P k, .inl fh)), (ac, .inl (cA, 2 * tw_P k, .inl fn))]) [2, 3, 4, 5, 6, 7, 8] rfl) hK hfi hfr _) rfl rfl hl.1 rfl (lv_room (Nat.le_of_ble_eq_true rfl)) dX1_verify_99 ⟨Nat.zero_le _, Nat.zero_le _⟩) (fun r hr9 => ?_)
        subst hr9
        rw [tw_mz hk5 ho2 (by omega)]
        refine lv_istore hx hb dX1_verify_102 hl (by decide) rfl (fun ls hl => ?_)
        have hl : lv_has ls 12 [(11, .int (nI (tw_en (tw_mu (tw_P k) (tw_D k) ((g / 2 ^ 16 + msg) % 2 ^ 20) (R j2))))), (10, .int (nI (tw_en (tw_mu (tw_P k) (tw_D k) (g % 2 ^ 16) (R j))))), (9, .int (nI (tw_en q))), (8, .int (nI (g / 2 ^ 16))), (6, .long (lN (g / 2 ^ 16))), (0, .ref d0), (1, .int (nI j)), (2, .int (nI j2)), (3, .int (nI msg)), (4, .long (lN g))] := hl
        refine lv_iload hx hb dX1_verify_104 (lv_at hl 1 rfl) ?_
        refine lv_aload_n hx hb dX1_verify_106 rfl (lv_at hl 5 rfl) ?_
        refine va_get (D := D) (ci := 1) (v := .ref h0) (C := RX1) (T := TX1) (N := 4) hx hb ht inX1 hown hK hP 0 rfl rfl 3 (by decide) (ht _ kf_X1_33) (fun _ h9 => h9) rfl dX1_verify_107 ?_
        refine lv_iload hx hb dX1_verify_110 (lv_at hl 2 rfl) ?_
        refine lv_iload hx hb dX1_verify_112 (lv_at hl 0 rfl) ?_
        refine vp_callSi (W.runV (As := [.int (nI (tw_en q)), .int (nI (tw_en (tw_mu (tw_P k) (tw_D k) ((g / 2 ^ 16 + msg) % 2 ^ 20) (R j2))))]) (rest := [.int (nI (tw_en (tw_mu (tw_P k) (tw_D k) (g % 2 ^ 16) (R j))))]) ⟨hx, hb, hml, hown, ht⟩ (c_X0_sum l D hk5 (x := q.1) (y := q.2) (u := (tw_mu (tw_P k) (tw_D k) ((g / 2 ^ 16 + msg) % 2 ^ 20) (R j2)).1) (v := (tw_mu (tw_P k) (tw_D k) ((g / 2 ^ 16 + msg) % 2 ^ 20) (R j2)).2) hq9.1 hq9.2.1 hm2.1 hm2.2.1) (cwV 2 ht (tb_V kl_X1_72 ki_X0_sum ks_X0_sum kn_X0 kc_X0_sum) rfl rfl rfl ⟨rfl, kd_X0_sum⟩ ⟨Nat.le_of_ble_eq_true rfl, Nat.le_of_ble_eq_true rfl⟩) (cv_preH (hP.sub (ws' := [(h0, .inr (0, [.int (nI (tw_P k)), .int (nI (tw_D k)), .int (nI (tw_I k)), .int (nI (tw_N k)), .ref ai, .ref ar, .ref af, .ref ap, .ref ah, .ref ac, .int (nI ((tw_fs k).length)), .int hk])), (ai, .inl (cA, tw_P k, .inl fi)), (ar, .inl (cA, tw_P k, .inl fr)), (af, .inl (cA, 14, .inl ff)), (ap, .inl (cA, 2 * tw_P k, .inl fp)), (ah, .inl (cA, 2 * tw_P k, .inl fh)), (ac, .inl (cA, 2 * tw_P k, .inl fn))]) [2, 3, 4, 5, 6, 7, 8] rfl) hK hfi hfr _) rfl rfl hl.1 rfl (lv_room (Nat.le_of_ble_eq_true rfl)) dX1_verify_114 ⟨Nat.zero_le _, Nat.zero_le _⟩) (fun r hr9 => ?_)
        subst hr9
        refine nv_icmp_ne (tgt := 124) hx hb dX1_verify_117 (by decide) (nv_le (b := 67108863) (tw_en_le hP2 hm1) (by decide)) (nv_le (b := 67108863) (tw_en_le hP2 hs2) (by decide)) (fun c117 => ?_) (fun c117 => ?_)
        · refine lv_iconst (v := (nI 0)) hx hb dX1_verify_124 (by decide) ?_
          exact W.zret hx hb hr rfl (fun t ht hW => ⟨_, rfl, (hvf.trans (if_neg (fun z => c117 (congrArg tw_en z)))).symm, ht⟩) (fun q h => nomatch h) dX1_verify_125
        · have c118 := tw_en_inj (by have := hm1.2.1; omega) (by have := hs2.2.1; omega) (show tw_en (tw_mu (tw_P k) (tw_D k) (g % 2 ^ 16) (R j)) = tw_en (tw_add (tw_P k) (tw_D k) q (tw_mu (tw_P k) (tw_D k) ((g / 2 ^ 16 + msg) % 2 ^ 20) (R j2))) from c117)
          refine lv_iconst (v := (nI 1)) hx hb dX1_verify_120 (by decide) ?_
          refine lv_goto (tgt := 125) hx hb dX1_verify_121 (by decide) ?_
          exact W.zret hx hb hr rfl (fun t ht hW => ⟨_, rfl, (hvf.trans (if_pos c118)).symm, ht⟩) (fun q h => nomatch h) dX1_verify_125
    · have c2 : 16384 ≤ g / 2 ^ 16 := Nat.le_of_not_lt (fun z => c1 ((lg_cmp_lt _ _).mpr ((pk_lLT (by omega) (by decide)).mpr z)))
      refine lv_iconst (v := (nI 0)) hx hb dX1_verify_35 (by decide) ?_
      exact W.zret hx hb hr rfl (fun t ht hW => ⟨_, rfl, (tw_vf_b c2).symm, ht⟩) (fun q h => nomatch h) dX1_verify_36
