/-! the law, the other cases -/
theorem lx_pS (A B C O M Q T : va_W) : List.Perm ((A ++ (B ++ (C ++ O))) ++ (M ++ (Q ++ T))) ((A ++ (Q ++ (B ++ (C ++ O)))) ++ (M ++ T)) := lx_cnt (fun _ _ x => by simp only [List.count_append]; omega)
theorem lx_pN (A B C O M Q T : va_W) : List.Perm ((A ++ (B ++ (C ++ O))) ++ (M ++ (Q ++ T))) ((A ++ (Q ++ (B ++ O))) ++ (C ++ (M ++ T))) := lx_cnt (fun _ _ x => by simp only [List.count_append]; omega)
theorem lx_pT (A B C O M Q : va_W) {T C1 T1 : va_W} (h : List.Perm T (C1 ++ T1)) : List.Perm ((A ++ (B ++ (C ++ O))) ++ (M ++ (Q ++ T))) ((A ++ (Q ++ (B ++ (C1 ++ O)))) ++ (C ++ (M ++ T1))) := lx_cnt (fun _ _ x => by
  have e := h.count_eq x
  simp only [List.count_append] at e ⊢
  omega)
theorem lx_pB (A Q B C1 O C M T : va_W) : List.Perm ((A ++ (Q ++ (B ++ (C1 ++ O)))) ++ (C ++ (M ++ T))) ((A ++ (B ++ (C1 ++ O))) ++ (M ++ (Q ++ (C ++ T)))) := lx_cnt (fun _ _ x => by simp only [List.count_append]; omega)
set_option maxHeartbeats 8000000 in
set_option maxRecDepth 100000 in
theorem lc_1 {p : Program} {l : Launch} {e : Env} {s : State} {m : MethodId} {below : List Frame} {meth : Method} {c : Code} {Q : State → Prop} {b L : Nat} {xs : Nat → Int32} {gs : Nat → Nat} {tp : Nat} {D : va_G} {d0 dc dr ou m0 mx my mr mb : Nat} {cA cQ cL : ClassId} (C : lx_C p l s m c b L xs gs tp D cA cQ cL) {i : Nat} (hi : i + 8 ≤ L) {F : Nat → Option Nat} {H : Heap} {locs : List Loc} {ls : Array Slot} (hl : lv_has ls 8 [(4, .int (nI i)), (3, .ref ou), (2, .ref m0), (1, .ref d0), (0, .ref b)]) (hI : lx_I D d0 dc dr ou m0 mx my mr mb cA cQ cL (fun q => s.heap.size ≤ q) F H) (hS : va_S (fun q => s.heap.size ≤ q) s.heap H locs) (kk : (∀ (F : Nat → Option Nat) (H : Heap) (locs : List Loc) (ls : Array Slot), lv_has ls 8 [(4, .int (nI i)), (3, .ref ou), (2, .ref m0), (1, .ref d0), (0, .ref b)] → lx_I D d0 dc dr ou m0 mx my mr mb cA cQ cL (fun q => s.heap.size ≤ q) F H → va_S (fun q => s.heap.size ≤ q) s.heap H locs → W p l e room_1 s m #[Value.ref b] below meth c H locs (20 + lx_n F + (i + 8)) (9000 + lx_c F + 6 * (i + 8)) Q (F0 m 1269 ls []))) : W p l e room_1 s m #[Value.ref b] below meth c H locs (20 + lx_n F + i) (9000 + lx_c F + 6 * i) Q (F0 m 176 ls []) := by
  obtain ⟨hx, hb, hml, hown, ht, hX, hbl, hZ, hT, hK, hL⟩ := C
  obtain ⟨k, R, h0, ai, ar, af, ap, ah, ac, hk, rg, fi, fr, ff, fp, fh, fn, fo, th, sx, sy, fx, fy, fm, fb, oth, hP, hD, hk5, hF, hok, hhv, hrg, hR, hfm, hB, hO⟩ := hI
  have hbA : ¬ s.heap.size ≤ b := Nat.not_le.mpr hbl
  have hA : ∀ q, s.heap.size ≤ q → s.heap.size ≤ q := fun _ h => h
  have zi : i ≤ 4088 := by omega
  have zn := lx_n_le F
  have zc := lx_c_le F
  have hK0 := tw_kK k hk5
  by_cases b1 : md_bad (xs (i + 1))
  · refine lv_aload_n hx hb dL_law_176 rfl (lv_at hl 3 rfl) ?_
    refine lv_aload_n hx hb dL_law_177 rfl (lv_at hl 4 rfl) ?_
    refine lv_iload hx hb dL_law_178 (lv_at hl 0 rfl) ?_
    refine lv_iconst (v := (nI 1)) hx hb dL_law_180 (by decide) ?_
    refine nv_iadd hx hb dL_law_181 ?_
    refine va_sld hx hb hX hbl hbA hS (nv_in (by omega) (by omega)) dL_law_182 ?_
    rw [nI_clamp (by omega)]
    refine lv_aload_n hx hb dL_law_183 rfl (lv_at hl 4 rfl) ?_
    refine lv_iload hx hb dL_law_184 (lv_at hl 0 rfl) ?_
    refine lv_iconst (v := (nI 2)) hx hb dL_law_186 (by decide) ?_
    refine nv_iadd hx hb dL_law_187 ?_
    refine va_sld hx hb hX hbl hbA hS (nv_in (by omega) (by omega)) dL_law_188 ?_
    rw [nI_clamp (by omega)]
    refine lv_aload_n hx hb dL_law_189 rfl (lv_at hl 4 rfl) ?_
    refine lv_iload hx hb dL_law_190 (lv_at hl 0 rfl) ?_
    refine lv_iconst (v := (nI 3)) hx hb dL_law_192 (by decide) ?_
    refine nv_iadd hx hb dL_law_193 ?_
    refine va_sld hx hb hX hbl hbA hS (nv_in (by omega) (by omega)) dL_law_194 ?_
    rw [nI_clamp (by omega)]
    refine va_calli (vx_runSW (As := [.ref d0, .int (xs (i + 1)), .int (xs (i + 2)), .int (xs (i + 3))]) (rest := []) ⟨hx, hb, hml, hown, ht⟩ (c_L_putR (ou := 0) l gs b1) (vx_cwSW 4 ht (tb_S kl_L_78 kt_L_put kn_L kc_L_put) rfl rfl rfl kd_L_put ⟨Nat.le_of_ble_eq_true rfl, Nat.le_of_ble_eq_true rfl⟩) (nx_preSR _ hZ hS (va_recv (ci := 1) (q0 := 0) hK hP rfl rfl)) rfl rfl hl.1 rfl (lv_room (Nat.le_of_ble_eq_true rfl)) dL_law_195 ⟨by show 20 + lx_n F + i + 1 ≤ 601024; omega, by show 9000 + lx_c F + 6 * i + 6 ≤ 7293033; omega⟩) hS (fun _ _ h => h.elim) (fun _ h => h.elim) (fun r9 u9 t9 H locs ht9 hvm9 hw9 hB9 hz9 hk9 hS => ?_)
    have hP := lx_kp hP hk9
    subst hw9
    have hP : va_P D vwCl ((lw_U d0 dc dr h0 ai ar af ap ah ac ou cA cL k hk rg fi fr ff fp fh fn fo) ++ ((lw_M m0 mx my mr mb cA k th sx sy fx fy fm fb) ++ ((dc, .inl (cQ, 5, .inr (.inr (.inr (.inr F))))) :: oth))) H := hP
    have hD : va_D (fun q => s.heap.size ≤ q) ((lw_U d0 dc dr h0 ai ar af ap ah ac ou cA cL k hk rg fi fr ff fp fh fn fo) ++ ((lw_M m0 mx my mr mb cA k th sx sy fx fy fm fb) ++ ((dc, .inl (cQ, 5, .inr (.inr (.inr (.inr F))))) :: oth))) := hD
    refine lv_istore hx hb dL_law_198 hl (by decide) rfl (fun ls hl => ?_)
    have hl : lv_has ls 8 [(5, .int (nI 1)), (4, .int (nI i)), (3, .ref ou), (2, .ref m0), (1, .ref d0), (0, .ref b)] := hl
    refine lv_aload_n hx hb dL_law_200 rfl (lv_at hl 3 rfl) ?_
    refine lv_aload_n hx hb dL_law_201 rfl (lv_at hl 5 rfl) ?_
    refine lv_iload hx hb dL_law_202 (lv_at hl 1 rfl) ?_
    refine lv_iconst (v := (nI 1)) hx hb dL_law_204 (by decide) ?_
    refine nv_iadd hx hb dL_law_205 ?_
    refine va_sld hx hb hX hbl hbA hS (nv_in (by omega) (by omega)) dL_law_206 ?_
    rw [nI_clamp (by omega)]
    refine lv_aload_n hx hb dL_law_207 rfl (lv_at hl 5 rfl) ?_
    refine lv_iload hx hb dL_law_208 (lv_at hl 1 rfl) ?_
    refine lv_iconst (v := (nI 2)) hx hb dL_law_210 (by decide) ?_
    refine nv_iadd hx hb dL_law_211 ?_
    refine va_sld hx hb hX hbl hbA hS (nv_in (by omega) (by omega)) dL_law_212 ?_
    rw [nI_clamp (by omega)]
    refine lv_aload_n hx hb dL_law_213 rfl (lv_at hl 5 rfl) ?_
    refine lv_iload hx hb dL_law_214 (lv_at hl 1 rfl) ?_
    refine lv_iconst (v := (nI 3)) hx hb dL_law_216 (by decide) ?_
    refine nv_iadd hx hb dL_law_217 ?_
    refine va_sld hx hb hX hbl hbA hS (nv_in (by omega) (by omega)) dL_law_218 ?_
    rw [nI_clamp (by omega)]
    have hP := wp_P (List.perm_append_comm_assoc _ _ _) hP
    have hD := wp_D (List.perm_append_comm_assoc _ _ _) hD
    have hP : va_P D vwCl ((lw_M m0 mx my mr mb cA k th sx sy fx fy fm fb) ++ ((lw_U d0 dc dr h0 ai ar af ap ah ac ou cA cL k hk rg fi fr ff fp fh fn fo) ++ ((dc, .inl (cQ, 5, .inr (.inr (.inr (.inr F))))) :: oth))) H := hP
    have hD : va_D (fun q => s.heap.size ≤ q) ((lw_M m0 mx my mr mb cA k th sx sy fx fy fm fb) ++ ((lw_U d0 dc dr h0 ai ar af ap ah ac ou cA cL k hk rg fi fr ff fp fh fn fo) ++ ((dc, .inl (cQ, 5, .inr (.inr (.inr (.inr F))))) :: oth))) := hD
    have hFc := wp_free hD hS hA
    refine va_callv (va_runV (As := [.int (xs (i + 1)), .int (xs (i + 2)), .int (xs (i + 3))]) (rest := []) ⟨hx, hb, hml, hown, ht⟩ (c_X2_putR l D hk5 b1 H.size) (cwV 3 ht (tb_V kl_L_81 ki_X2_put ks_X2_put kn_X2 kc_X2_put) rfl rfl rfl ⟨rfl, kd_X2_put⟩ ⟨Nat.le_of_ble_eq_true rfl, Nat.le_of_ble_eq_true rfl⟩) (wd_preV _ (wp_Pl hP) (hK.sub (tys' := [(cA, .int)]) [0] rfl) (wp_Dl hD) (va_recv (ci := 2) (q0 := 0) hK hP rfl rfl)) rfl rfl hl.1 rfl (lv_room (Nat.le_of_ble_eq_true rfl)) dL_law_219 ⟨by show 20 + lx_n F + i + 1 + 0 ≤ 601024; omega, by show 9000 + lx_c F + 6 * i + 6 + 0 ≤ 7293033; omega⟩) hS (fun q _ h => hFc q h) hFc (fun u8 t8 H locs ht8 hvm8 hw8 hB8 hz8 hk8 hS => ?_)
    obtain ⟨hP1, hK1, hD1⟩ := hB8
    rw [ht8] at hP1
    obtain ⟨hP, hD⟩ := wp_join hP hD hk8 hFc hP1 hD1
    have hP : va_P D vwCl ((lw_M m0 mx my mr mb cA k (nI 1) sx sy fx fy fm fb) ++ ((lw_U d0 dc dr h0 ai ar af ap ah ac ou cA cL k hk rg fi fr ff fp fh fn fo) ++ ((dc, .inl (cQ, 5, .inr (.inr (.inr (.inr F))))) :: oth))) H := hP
    have hD : va_D (fun q => s.heap.size ≤ q) ((lw_M m0 mx my mr mb cA k (nI 1) sx sy fx fy fm fb) ++ ((lw_U d0 dc dr h0 ai ar af ap ah ac ou cA cL k hk rg fi fr ff fp fh fn fo) ++ ((dc, .inl (cQ, 5, .inr (.inr (.inr (.inr F))))) :: oth))) := hD
    refine lv_aload_n hx hb dL_law_222 rfl (lv_at hl 3 rfl) ?_
    refine vp_callSi (W.runV (As := []) (rest := []) ⟨hx, hb, hml, hown, ht⟩ (c_X2_thrown l D hk5) (cwV 0 ht (tb_V kl_L_74 ki_X2_thrown ks_X2_thrown kn_X2 kc_X2_thrown) rfl rfl rfl ⟨rfl, kd_X2_thrown⟩ ⟨Nat.le_of_ble_eq_true rfl, Nat.le_of_ble_eq_true rfl⟩) (ro_preV _ ((wp_Pl hP).sub (ws' := [(m0, .inr (2, [.int (nI 1), .int (nI k), .int (nI (tw_P k)), .int (nI (tw_D k)), .int (nI (tw_I k)), .ref mx, .ref my, .ref mr, .ref mb, .int sx, .int sy]))]) [0] rfl) (hK.sub (tys' := []) [] rfl) (va_recv (ci := 2) (q0 := 0) hK hP rfl rfl)) rfl rfl hl.1 rfl (lv_room (Nat.le_of_ble_eq_true rfl)) dL_law_223 ⟨by show 20 + lx_n F + i + 1 + 0 + 0 ≤ 601024; omega, by show 9000 + lx_c F + 6 * i + 6 + 0 + 0 ≤ 7293033; omega⟩) (fun r hr9 => ?_)
    subst hr9
    refine lv_iload hx hb dL_law_226 (lv_at hl 0 rfl) ?_
    refine lv_icmp_eq (tgt := 233) hx hb dL_law_228 (by decide) (fun _ => ?_) (fun c9 => absurd rfl c9)
    refine lv_goto (tgt := 1269) hx hb dL_law_233 (by decide) ?_
    have hP := wp_P (List.perm_append_comm_assoc _ _ _) hP
    have hD := wp_D (List.perm_append_comm_assoc _ _ _) hD
    have hP : va_P D vwCl ((lw_U d0 dc dr h0 ai ar af ap ah ac ou cA cL k hk rg fi fr ff fp fh fn fo) ++ ((lw_M m0 mx my mr mb cA k (nI 1) sx sy fx fy fm fb) ++ ((dc, .inl (cQ, 5, .inr (.inr (.inr (.inr F))))) :: oth))) H := hP
    have hD : va_D (fun q => s.heap.size ≤ q) ((lw_U d0 dc dr h0 ai ar af ap ah ac ou cA cL k hk rg fi fr ff fp fh fn fo) ++ ((lw_M m0 mx my mr mb cA k (nI 1) sx sy fx fy fm fb) ++ ((dc, .inl (cQ, 5, .inr (.inr (.inr (.inr F))))) :: oth))) := hD
    refine W.widen (k := 20 + lx_n F + (i + 8)) (n := 9000 + lx_c F + 6 * (i + 8)) (by omega) (by omega) ?_
    exact kk F H locs ls (lv_sub hl [1, 2, 3, 4, 5] rfl) (lx_mk hP hD ⟨hk5, hF, hok, hhv, hrg, hR, hfm, hB, hO⟩) hS
  · obtain ⟨j, hj, e1⟩ := md_good b1
    by_cases b2 : ∃ x y, (xs (i + 2)) = nI x ∧ (xs (i + 3)) = nI y ∧ tw_on (tw_P k) (tw_D k) (x, y)
    · obtain ⟨x, y, e2, e3, hon⟩ := b2
      refine lv_aload_n hx hb dL_law_176 rfl (lv_at hl 3 rfl) ?_
      refine lv_aload_n hx hb dL_law_177 rfl (lv_at hl 4 rfl) ?_
      refine lv_iload hx hb dL_law_178 (lv_at hl 0 rfl) ?_
      refine lv_iconst (v := (nI 1)) hx hb dL_law_180 (by decide) ?_
      refine nv_iadd hx hb dL_law_181 ?_
      refine va_sld hx hb hX hbl hbA hS (nv_in (by omega) (by omega)) dL_law_182 ?_
      rw [nI_clamp (by omega)]
      rw [e1]
      refine lv_aload_n hx hb dL_law_183 rfl (lv_at hl 4 rfl) ?_
      refine lv_iload hx hb dL_law_184 (lv_at hl 0 rfl) ?_
      refine lv_iconst (v := (nI 2)) hx hb dL_law_186 (by decide) ?_
      refine nv_iadd hx hb dL_law_187 ?_
      refine va_sld hx hb hX hbl hbA hS (nv_in (by omega) (by omega)) dL_law_188 ?_
      rw [nI_clamp (by omega)]
      rw [e2]
      refine lv_aload_n hx hb dL_law_189 rfl (lv_at hl 4 rfl) ?_
      refine lv_iload hx hb dL_law_190 (lv_at hl 0 rfl) ?_
      refine lv_iconst (v := (nI 3)) hx hb dL_law_192 (by decide) ?_
      refine nv_iadd hx hb dL_law_193 ?_
      refine va_sld hx hb hX hbl hbA hS (nv_in (by omega) (by omega)) dL_law_194 ?_
      rw [nI_clamp (by omega)]
      rw [e3]
      have hFc := wp_free hD hS hA
      refine va_calli (vx_runSW (As := [.ref d0, .int (nI j), .int (nI x), .int (nI y)]) (rest := []) ⟨hx, hb, hml, hown, ht⟩ (c_L_put l D hk5 hok hrg hj hon H.size) (vx_cwSW 4 ht (tb_S kl_L_78 kt_L_put kn_L kc_L_put) rfl rfl rfl kd_L_put ⟨Nat.le_of_ble_eq_true rfl, Nat.le_of_ble_eq_true rfl⟩) (wd_preS _ (wp_Pl hP) (hK.sub (tys' := [(cA, .int), (cL, .long)]) [0, 2] rfl) (wp_Dl hD)) rfl rfl hl.1 rfl (lv_room (Nat.le_of_ble_eq_true rfl)) dL_law_195 ⟨by show 20 + lx_n F + i + 0 ≤ 601024; omega, by show 9000 + lx_c F + 6 * i + 0 ≤ 7293033; omega⟩) hS (fun q _ h => hFc q h) hFc (fun r9 u9 t9 H locs ht9 hvm9 hw9 hB9 hz9 hk9 hS => ?_)
      obtain ⟨hP1, hK1, hD1⟩ := hB9
      rw [ht9] at hP1
      obtain ⟨hP, hD⟩ := wp_join hP hD hk9 hFc hP1 hD1
      obtain ⟨e9, q9⟩ := hw9
      subst e9
      rw [q9] at hP hD
      have hP : va_P D vwCl ((lw_U d0 dc dr h0 ai ar af ap ah ac ou cA cL k hk (upd rg j (nI (tw_en (x, y)))) fi fr ff fp fh fn fo) ++ ((lw_M m0 mx my mr mb cA k th sx sy fx fy fm fb) ++ ((dc, .inl (cQ, 5, .inr (.inr (.inr (.inr F))))) :: oth))) H := hP
      have hD : va_D (fun q => s.heap.size ≤ q) ((lw_U d0 dc dr h0 ai ar af ap ah ac ou cA cL k hk (upd rg j (nI (tw_en (x, y)))) fi fr ff fp fh fn fo) ++ ((lw_M m0 mx my mr mb cA k th sx sy fx fy fm fb) ++ ((dc, .inl (cQ, 5, .inr (.inr (.inr (.inr F))))) :: oth))) := hD
      refine lv_istore hx hb dL_law_198 hl (by decide) rfl (fun ls hl => ?_)
      have hl : lv_has ls 8 [(5, .int (nI 0)), (4, .int (nI i)), (3, .ref ou), (2, .ref m0), (1, .ref d0), (0, .ref b)] := hl
      refine lv_aload_n hx hb dL_law_200 rfl (lv_at hl 3 rfl) ?_
      refine lv_aload_n hx hb dL_law_201 rfl (lv_at hl 5 rfl) ?_
      refine lv_iload hx hb dL_law_202 (lv_at hl 1 rfl) ?_
      refine lv_iconst (v := (nI 1)) hx hb dL_law_204 (by decide) ?_
      refine nv_iadd hx hb dL_law_205 ?_
      refine va_sld hx hb hX hbl hbA hS (nv_in (by omega) (by omega)) dL_law_206 ?_
      rw [nI_clamp (by omega)]
      rw [e1]
      refine lv_aload_n hx hb dL_law_207 rfl (lv_at hl 5 rfl) ?_
      refine lv_iload hx hb dL_law_208 (lv_at hl 1 rfl) ?_
      refine lv_iconst (v := (nI 2)) hx hb dL_law_210 (by decide) ?_
      refine nv_iadd hx hb dL_law_211 ?_
      refine va_sld hx hb hX hbl hbA hS (nv_in (by omega) (by omega)) dL_law_212 ?_
      rw [nI_clamp (by omega)]
      rw [e2]
      refine lv_aload_n hx hb dL_law_213 rfl (lv_at hl 5 rfl) ?_
      refine lv_iload hx hb dL_law_214 (lv_at hl 1 rfl) ?_
      refine lv_iconst (v := (nI 3)) hx hb dL_law_216 (by decide) ?_
      refine nv_iadd hx hb dL_law_217 ?_
      refine va_sld hx hb hX hbl hbA hS (nv_in (by omega) (by omega)) dL_law_218 ?_
      rw [nI_clamp (by omega)]
      rw [e3]
      have hP := wp_P (List.perm_append_comm_assoc _ _ _) hP
      have hD := wp_D (List.perm_append_comm_assoc _ _ _) hD
      have hP : va_P D vwCl ((lw_M m0 mx my mr mb cA k th sx sy fx fy fm fb) ++ ((lw_U d0 dc dr h0 ai ar af ap ah ac ou cA cL k hk (upd rg j (nI (tw_en (x, y)))) fi fr ff fp fh fn fo) ++ ((dc, .inl (cQ, 5, .inr (.inr (.inr (.inr F))))) :: oth))) H := hP
      have hD : va_D (fun q => s.heap.size ≤ q) ((lw_M m0 mx my mr mb cA k th sx sy fx fy fm fb) ++ ((lw_U d0 dc dr h0 ai ar af ap ah ac ou cA cL k hk (upd rg j (nI (tw_en (x, y)))) fi fr ff fp fh fn fo) ++ ((dc, .inl (cQ, 5, .inr (.inr (.inr (.inr F))))) :: oth))) := hD
      have hFc := wp_free hD hS hA
      refine va_callv (va_runV (As := [.int (nI j), .int (nI x), .int (nI y)]) (rest := []) ⟨hx, hb, hml, hown, ht⟩ (c_X2_put l D hk5 hfm hR hj hon H.size) (cwV 3 ht (tb_V kl_L_81 ki_X2_put ks_X2_put kn_X2 kc_X2_put) rfl rfl rfl ⟨rfl, kd_X2_put⟩ ⟨Nat.le_of_ble_eq_true rfl, Nat.le_of_ble_eq_true rfl⟩) (wd_preV _ (wp_Pl hP) (hK.sub (tys' := [(cA, .int)]) [0] rfl) (wp_Dl hD) (va_recv (ci := 2) (q0 := 0) hK hP rfl rfl)) rfl rfl hl.1 rfl (lv_room (Nat.le_of_ble_eq_true rfl)) dL_law_219 ⟨by show 20 + lx_n F + i + 0 + 0 ≤ 601024; omega, by show 9000 + lx_c F + 6 * i + 0 + 0 ≤ 7293033; omega⟩) hS (fun q _ h => hFc q h) hFc (fun u8 t8 H locs ht8 hvm8 hw8 hB8 hz8 hk8 hS => ?_)
      obtain ⟨hP1, hK1, hD1⟩ := hB8
      rw [ht8] at hP1
      obtain ⟨hP, hD⟩ := wp_join hP hD hk8 hFc hP1 hD1
      have hP : va_P D vwCl ((lw_M m0 mx my mr mb cA k (nI 0) sx sy (upd fx j (nI x)) (upd fy j (nI y)) fm fb) ++ ((lw_U d0 dc dr h0 ai ar af ap ah ac ou cA cL k hk (upd rg j (nI (tw_en (x, y)))) fi fr ff fp fh fn fo) ++ ((dc, .inl (cQ, 5, .inr (.inr (.inr (.inr F))))) :: oth))) H := hP
      have hD : va_D (fun q => s.heap.size ≤ q) ((lw_M m0 mx my mr mb cA k (nI 0) sx sy (upd fx j (nI x)) (upd fy j (nI y)) fm fb) ++ ((lw_U d0 dc dr h0 ai ar af ap ah ac ou cA cL k hk (upd rg j (nI (tw_en (x, y)))) fi fr ff fp fh fn fo) ++ ((dc, .inl (cQ, 5, .inr (.inr (.inr (.inr F))))) :: oth))) := hD
      refine lv_aload_n hx hb dL_law_222 rfl (lv_at hl 3 rfl) ?_
      refine vp_callSi (W.runV (As := []) (rest := []) ⟨hx, hb, hml, hown, ht⟩ (c_X2_thrown l D hk5) (cwV 0 ht (tb_V kl_L_74 ki_X2_thrown ks_X2_thrown kn_X2 kc_X2_thrown) rfl rfl rfl ⟨rfl, kd_X2_thrown⟩ ⟨Nat.le_of_ble_eq_true rfl, Nat.le_of_ble_eq_true rfl⟩) (ro_preV _ ((wp_Pl hP).sub (ws' := [(m0, .inr (2, [.int (nI 0), .int (nI k), .int (nI (tw_P k)), .int (nI (tw_D k)), .int (nI (tw_I k)), .ref mx, .ref my, .ref mr, .ref mb, .int sx, .int sy]))]) [0] rfl) (hK.sub (tys' := []) [] rfl) (va_recv (ci := 2) (q0 := 0) hK hP rfl rfl)) rfl rfl hl.1 rfl (lv_room (Nat.le_of_ble_eq_true rfl)) dL_law_223 ⟨by show 20 + lx_n F + i + 0 + 0 + 0 ≤ 601024; omega, by show 9000 + lx_c F + 6 * i + 0 + 0 + 0 ≤ 7293033; omega⟩) (fun r hr9 => ?_)
      subst hr9
      refine lv_iload hx hb dL_law_226 (lv_at hl 0 rfl) ?_
      refine lv_icmp_eq (tgt := 233) hx hb dL_law_228 (by decide) (fun _ => ?_) (fun c9 => absurd rfl c9)
      refine lv_goto (tgt := 1269) hx hb dL_law_233 (by decide) ?_
      have hP := wp_P (List.perm_append_comm_assoc _ _ _) hP
      have hD := wp_D (List.perm_append_comm_assoc _ _ _) hD
      have hP : va_P D vwCl ((lw_U d0 dc dr h0 ai ar af ap ah ac ou cA cL k hk (upd rg j (nI (tw_en (x, y)))) fi fr ff fp fh fn fo) ++ ((lw_M m0 mx my mr mb cA k (nI 0) sx sy (upd fx j (nI x)) (upd fy j (nI y)) fm fb) ++ ((dc, .inl (cQ, 5, .inr (.inr (.inr (.inr F))))) :: oth))) H := hP
      have hD : va_D (fun q => s.heap.size ≤ q) ((lw_U d0 dc dr h0 ai ar af ap ah ac ou cA cL k hk (upd rg j (nI (tw_en (x, y)))) fi fr ff fp fh fn fo) ++ ((lw_M m0 mx my mr mb cA k (nI 0) sx sy (upd fx j (nI x)) (upd fy j (nI y)) fm fb) ++ ((dc, .inl (cQ, 5, .inr (.inr (.inr (.inr F))))) :: oth))) := hD
      refine W.widen (k := 20 + lx_n F + (i + 8)) (n := 9000 + lx_c F + 6 * (i + 8)) (by omega) (by omega) ?_
      exact kk F H locs ls (lv_sub hl [1, 2, 3, 4, 5] rfl) (lx_mk hP hD ⟨hk5, hF, hok, hhv, lx_rg hon hrg, lx_rR hon hR, hfm, hB, hO⟩) hS
    · have hzq : ∀ x y, (xs (i + 2)) = nI x → (xs (i + 3)) = nI y → ¬ tw_on (tw_P k) (tw_D k) (x, y) := fun x y e2 e3 h => b2 ⟨x, y, e2, e3, h⟩
      refine lv_aload_n hx hb dL_law_176 rfl (lv_at hl 3 rfl) ?_
      refine lv_aload_n hx hb dL_law_177 rfl (lv_at hl 4 rfl) ?_
      refine lv_iload hx hb dL_law_178 (lv_at hl 0 rfl) ?_
      refine lv_iconst (v := (nI 1)) hx hb dL_law_180 (by decide) ?_
      refine nv_iadd hx hb dL_law_181 ?_
      refine va_sld hx hb hX hbl hbA hS (nv_in (by omega) (by omega)) dL_law_182 ?_
      rw [nI_clamp (by omega)]
      rw [e1]
      refine lv_aload_n hx hb dL_law_183 rfl (lv_at hl 4 rfl) ?_
      refine lv_iload hx hb dL_law_184 (lv_at hl 0 rfl) ?_
      refine lv_iconst (v := (nI 2)) hx hb dL_law_186 (by decide) ?_
      refine nv_iadd hx hb dL_law_187 ?_
      refine va_sld hx hb hX hbl hbA hS (nv_in (by omega) (by omega)) dL_law_188 ?_
      rw [nI_clamp (by omega)]
      refine lv_aload_n hx hb dL_law_189 rfl (lv_at hl 4 rfl) ?_
      refine lv_iload hx hb dL_law_190 (lv_at hl 0 rfl) ?_
      refine lv_iconst (v := (nI 3)) hx hb dL_law_192 (by decide) ?_
      refine nv_iadd hx hb dL_law_193 ?_
      refine va_sld hx hb hX hbl hbA hS (nv_in (by omega) (by omega)) dL_law_194 ?_
      rw [nI_clamp (by omega)]
      refine va_calli (vx_runSW (As := [.ref d0, .int (nI j), .int (xs (i + 2)), .int (xs (i + 3))]) (rest := []) ⟨hx, hb, hml, hown, ht⟩ (c_L_putN (ou := 0) l gs D hk5 hok hrg hj hzq) (vx_cwSW 4 ht (tb_S kl_L_78 kt_L_put kn_L kc_L_put) rfl rfl rfl kd_L_put ⟨Nat.le_of_ble_eq_true rfl, Nat.le_of_ble_eq_true rfl⟩) (nx_preSW _ hZ hS (hP.sub (ws' := [(d0, .inr (1, [.ref dc, .ref dr, .int (nI k), .ref h0])), (dr, .inl (cA, 12, .inl rg)), (h0, .inr (0, [.int (nI (tw_P k)), .int (nI (tw_D k)), .int (nI (tw_I k)), .int (nI (tw_N k)), .ref ai, .ref ar, .ref af, .ref ap, .ref ah, .ref ac, .int (nI ((tw_fs k).length)), .int hk])), (ai, .inl (cA, tw_P k, .inl fi)), (ar, .inl (cA, tw_P k, .inl fr)), (af, .inl (cA, 14, .inl ff)), (ap, .inl (cA, 2 * tw_P k, .inl fp)), (ah, .inl (cA, 2 * tw_P k, .inl fh)), (ac, .inl (cA, 2 * tw_P k, .inl fn))]) [0, 1, 2, 3, 4, 5, 6, 7, 8] rfl) (hK.sub (tys' := [(cA, .int)]) [0] rfl)) rfl rfl hl.1 rfl (lv_room (Nat.le_of_ble_eq_true rfl)) dL_law_195 ⟨by show 20 + lx_n F + i + 1 ≤ 601024; omega, by show 9000 + lx_c F + 6 * i + 6 ≤ 7293033; omega⟩) hS (fun _ _ h => h.elim) (fun _ h => h.elim) (fun r9 u9 t9 H locs ht9 hvm9 hw9 hB9 hz9 hk9 hS => ?_)
      have hP := lx_kp hP hk9
      subst hw9
      have hP : va_P D vwCl ((lw_U d0 dc dr h0 ai ar af ap ah ac ou cA cL k hk rg fi fr ff fp fh fn fo) ++ ((lw_M m0 mx my mr mb cA k th sx sy fx fy fm fb) ++ ((dc, .inl (cQ, 5, .inr (.inr (.inr (.inr F))))) :: oth))) H := hP
      have hD : va_D (fun q => s.heap.size ≤ q) ((lw_U d0 dc dr h0 ai ar af ap ah ac ou cA cL k hk rg fi fr ff fp fh fn fo) ++ ((lw_M m0 mx my mr mb cA k th sx sy fx fy fm fb) ++ ((dc, .inl (cQ, 5, .inr (.inr (.inr (.inr F))))) :: oth))) := hD
      refine lv_istore hx hb dL_law_198 hl (by decide) rfl (fun ls hl => ?_)
      have hl : lv_has ls 8 [(5, .int (nI 2)), (4, .int (nI i)), (3, .ref ou), (2, .ref m0), (1, .ref d0), (0, .ref b)] := hl
      refine lv_aload_n hx hb dL_law_200 rfl (lv_at hl 3 rfl) ?_
      refine lv_aload_n hx hb dL_law_201 rfl (lv_at hl 5 rfl) ?_
      refine lv_iload hx hb dL_law_202 (lv_at hl 1 rfl) ?_
      refine lv_iconst (v := (nI 1)) hx hb dL_law_204 (by decide) ?_
      refine nv_iadd hx hb dL_law_205 ?_
      refine va_sld hx hb hX hbl hbA hS (nv_in (by omega) (by omega)) dL_law_206 ?_
      rw [nI_clamp (by omega)]
      rw [e1]
      refine lv_aload_n hx hb dL_law_207 rfl (lv_at hl 5 rfl) ?_
      refine lv_iload hx hb dL_law_208 (lv_at hl 1 rfl) ?_
      refine lv_iconst (v := (nI 2)) hx hb dL_law_210 (by decide) ?_
      refine nv_iadd hx hb dL_law_211 ?_
      refine va_sld hx hb hX hbl hbA hS (nv_in (by omega) (by omega)) dL_law_212 ?_
      rw [nI_clamp (by omega)]
      refine lv_aload_n hx hb dL_law_213 rfl (lv_at hl 5 rfl) ?_
      refine lv_iload hx hb dL_law_214 (lv_at hl 1 rfl) ?_
      refine lv_iconst (v := (nI 3)) hx hb dL_law_216 (by decide) ?_
      refine nv_iadd hx hb dL_law_217 ?_
      refine va_sld hx hb hX hbl hbA hS (nv_in (by omega) (by omega)) dL_law_218 ?_
      rw [nI_clamp (by omega)]
      have hP := wp_P (List.perm_append_comm_assoc _ _ _) hP
      have hD := wp_D (List.perm_append_comm_assoc _ _ _) hD
      have hP : va_P D vwCl ((lw_M m0 mx my mr mb cA k th sx sy fx fy fm fb) ++ ((lw_U d0 dc dr h0 ai ar af ap ah ac ou cA cL k hk rg fi fr ff fp fh fn fo) ++ ((dc, .inl (cQ, 5, .inr (.inr (.inr (.inr F))))) :: oth))) H := hP
      have hD : va_D (fun q => s.heap.size ≤ q) ((lw_M m0 mx my mr mb cA k th sx sy fx fy fm fb) ++ ((lw_U d0 dc dr h0 ai ar af ap ah ac ou cA cL k hk rg fi fr ff fp fh fn fo) ++ ((dc, .inl (cQ, 5, .inr (.inr (.inr (.inr F))))) :: oth))) := hD
      have hFc := wp_free hD hS hA
      refine va_callv (va_runV (As := [.int (nI j), .int (xs (i + 2)), .int (xs (i + 3))]) (rest := []) ⟨hx, hb, hml, hown, ht⟩ (c_X2_putN l D hk5 hj hzq H.size) (cwV 3 ht (tb_V kl_L_81 ki_X2_put ks_X2_put kn_X2 kc_X2_put) rfl rfl rfl ⟨rfl, kd_X2_put⟩ ⟨Nat.le_of_ble_eq_true rfl, Nat.le_of_ble_eq_true rfl⟩) (wd_preV _ (wp_Pl hP) (hK.sub (tys' := [(cA, .int)]) [0] rfl) (wp_Dl hD) (va_recv (ci := 2) (q0 := 0) hK hP rfl rfl)) rfl rfl hl.1 rfl (lv_room (Nat.le_of_ble_eq_true rfl)) dL_law_219 ⟨by show 20 + lx_n F + i + 1 + 0 ≤ 601024; omega, by show 9000 + lx_c F + 6 * i + 6 + 0 ≤ 7293033; omega⟩) hS (fun q _ h => hFc q h) hFc (fun u8 t8 H locs ht8 hvm8 hw8 hB8 hz8 hk8 hS => ?_)
      obtain ⟨hP1, hK1, hD1⟩ := hB8
      rw [ht8] at hP1
      obtain ⟨hP, hD⟩ := wp_join hP hD hk8 hFc hP1 hD1
      have hP : va_P D vwCl ((lw_M m0 mx my mr mb cA k (nI 2) sx sy fx fy fm fb) ++ ((lw_U d0 dc dr h0 ai ar af ap ah ac ou cA cL k hk rg fi fr ff fp fh fn fo) ++ ((dc, .inl (cQ, 5, .inr (.inr (.inr (.inr F))))) :: oth))) H := hP
      have hD : va_D (fun q => s.heap.size ≤ q) ((lw_M m0 mx my mr mb cA k (nI 2) sx sy fx fy fm fb) ++ ((lw_U d0 dc dr h0 ai ar af ap ah ac ou cA cL k hk rg fi fr ff fp fh fn fo) ++ ((dc, .inl (cQ, 5, .inr (.inr (.inr (.inr F))))) :: oth))) := hD
      refine lv_aload_n hx hb dL_law_222 rfl (lv_at hl 3 rfl) ?_
      refine vp_callSi (W.runV (As := []) (rest := []) ⟨hx, hb, hml, hown, ht⟩ (c_X2_thrown l D hk5) (cwV 0 ht (tb_V kl_L_74 ki_X2_thrown ks_X2_thrown kn_X2 kc_X2_thrown) rfl rfl rfl ⟨rfl, kd_X2_thrown⟩ ⟨Nat.le_of_ble_eq_true rfl, Nat.le_of_ble_eq_true rfl⟩) (ro_preV _ ((wp_Pl hP).sub (ws' := [(m0, .inr (2, [.int (nI 2), .int (nI k), .int (nI (tw_P k)), .int (nI (tw_D k)), .int (nI (tw_I k)), .ref mx, .ref my, .ref mr, .ref mb, .int sx, .int sy]))]) [0] rfl) (hK.sub (tys' := []) [] rfl) (va_recv (ci := 2) (q0 := 0) hK hP rfl rfl)) rfl rfl hl.1 rfl (lv_room (Nat.le_of_ble_eq_true rfl)) dL_law_223 ⟨by show 20 + lx_n F + i + 1 + 0 + 0 ≤ 601024; omega, by show 9000 + lx_c F + 6 * i + 6 + 0 + 0 ≤ 7293033; omega⟩) (fun r hr9 => ?_)
      subst hr9
      refine lv_iload hx hb dL_law_226 (lv_at hl 0 rfl) ?_
      refine lv_icmp_eq (tgt := 233) hx hb dL_law_228 (by decide) (fun _ => ?_) (fun c9 => absurd rfl c9)
      refine lv_goto (tgt := 1269) hx hb dL_law_233 (by decide) ?_
      have hP := wp_P (List.perm_append_comm_assoc _ _ _) hP
      have hD := wp_D (List.perm_append_comm_assoc _ _ _) hD
      have hP : va_P D vwCl ((lw_U d0 dc dr h0 ai ar af ap ah ac ou cA cL k hk rg fi fr ff fp fh fn fo) ++ ((lw_M m0 mx my mr mb cA k (nI 2) sx sy fx fy fm fb) ++ ((dc, .inl (cQ, 5, .inr (.inr (.inr (.inr F))))) :: oth))) H := hP
      have hD : va_D (fun q => s.heap.size ≤ q) ((lw_U d0 dc dr h0 ai ar af ap ah ac ou cA cL k hk rg fi fr ff fp fh fn fo) ++ ((lw_M m0 mx my mr mb cA k (nI 2) sx sy fx fy fm fb) ++ ((dc, .inl (cQ, 5, .inr (.inr (.inr (.inr F))))) :: oth))) := hD
      refine W.widen (k := 20 + lx_n F + (i + 8)) (n := 9000 + lx_c F + 6 * (i + 8)) (by omega) (by omega) ?_
      exact kk F H locs ls (lv_sub hl [1, 2, 3, 4, 5] rfl) (lx_mk hP hD ⟨hk5, hF, hok, hhv, hrg, hR, hfm, hB, hO⟩) hS
set_option maxHeartbeats 8000000 in
set_option maxRecDepth 100000 in
theorem lc_2 {p : Program} {l : Launch} {e : Env} {s : State} {m : MethodId} {below : List Frame} {meth : Method} {c : Code} {Q : State → Prop} {b L : Nat} {xs : Nat → Int32} {gs : Nat → Nat} {tp : Nat} {D : va_G} {d0 dc dr ou m0 mx my mr mb : Nat} {cA cQ cL : ClassId} (C : lx_C p l s m c b L xs gs tp D cA cQ cL) {i : Nat} (hi : i + 8 ≤ L) {F : Nat → Option Nat} {H : Heap} {locs : List Loc} {ls : Array Slot} (hl : lv_has ls 8 [(4, .int (nI i)), (3, .ref ou), (2, .ref m0), (1, .ref d0), (0, .ref b)]) (hI : lx_I D d0 dc dr ou m0 mx my mr mb cA cQ cL (fun q => s.heap.size ≤ q) F H) (hS : va_S (fun q => s.heap.size ≤ q) s.heap H locs) (kk : (∀ (F : Nat → Option Nat) (H : Heap) (locs : List Loc) (ls : Array Slot), lv_has ls 8 [(4, .int (nI i)), (3, .ref ou), (2, .ref m0), (1, .ref d0), (0, .ref b)] → lx_I D d0 dc dr ou m0 mx my mr mb cA cQ cL (fun q => s.heap.size ≤ q) F H → va_S (fun q => s.heap.size ≤ q) s.heap H locs → W p l e room_1 s m #[Value.ref b] below meth c H locs (20 + lx_n F + (i + 8)) (9000 + lx_c F + 6 * (i + 8)) Q (F0 m 1269 ls []))) : W p l e room_1 s m #[Value.ref b] below meth c H locs (20 + lx_n F + i) (9000 + lx_c F + 6 * i) Q (F0 m 236 ls []) := by
  obtain ⟨hx, hb, hml, hown, ht, hX, hbl, hZ, hT, hK, hL⟩ := C
  obtain ⟨k, R, h0, ai, ar, af, ap, ah, ac, hk, rg, fi, fr, ff, fp, fh, fn, fo, th, sx, sy, fx, fy, fm, fb, oth, hP, hD, hk5, hF, hok, hhv, hrg, hR, hfm, hB, hO⟩ := hI
  have hbA : ¬ s.heap.size ≤ b := Nat.not_le.mpr hbl
  have hA : ∀ q, s.heap.size ≤ q → s.heap.size ≤ q := fun _ h => h
  have zi : i ≤ 4088 := by omega
  have zn := lx_n_le F
  have zc := lx_c_le F
  have hK0 := tw_kK k hk5
  by_cases b1 : md_bad (xs (i + 1))
  · refine lv_aload_n hx hb dL_law_236 rfl (lv_at hl 3 rfl) ?_
    refine lv_aload_n hx hb dL_law_237 rfl (lv_at hl 4 rfl) ?_
    refine lv_iload hx hb dL_law_238 (lv_at hl 0 rfl) ?_
    refine lv_iconst (v := (nI 1)) hx hb dL_law_240 (by decide) ?_
    refine nv_iadd hx hb dL_law_241 ?_
    refine va_sld hx hb hX hbl hbA hS (nv_in (by omega) (by omega)) dL_law_242 ?_
    rw [nI_clamp (by omega)]
    refine lv_aload_n hx hb dL_law_243 rfl (lv_at hl 4 rfl) ?_
    refine lv_iload hx hb dL_law_244 (lv_at hl 0 rfl) ?_
    refine lv_iconst (v := (nI 2)) hx hb dL_law_246 (by decide) ?_
    refine nv_iadd hx hb dL_law_247 ?_
    refine va_sld hx hb hX hbl hbA hS (nv_in (by omega) (by omega)) dL_law_248 ?_
    rw [nI_clamp (by omega)]
    refine va_calli (vx_runSW (As := [.ref d0, .int (xs (i + 1)), .int (xs (i + 2))]) (rest := []) ⟨hx, hb, hml, hown, ht⟩ (c_L_unpackR (ou := 0) l gs b1) (vx_cwSW 3 ht (tb_S kl_L_82 kt_L_unpack kn_L kc_L_unpack) rfl rfl rfl kd_L_unpack ⟨Nat.le_of_ble_eq_true rfl, Nat.le_of_ble_eq_true rfl⟩) (nx_preSR _ hZ hS (va_recv (ci := 1) (q0 := 0) hK hP rfl rfl)) rfl rfl hl.1 rfl (lv_room (Nat.le_of_ble_eq_true rfl)) dL_law_249 ⟨by show 20 + lx_n F + i + 1 ≤ 601024; omega, by show 9000 + lx_c F + 6 * i + 6 ≤ 7293033; omega⟩) hS (fun _ _ h => h.elim) (fun _ h => h.elim) (fun r9 u9 t9 H locs ht9 hvm9 hw9 hB9 hz9 hk9 hS => ?_)
    have hP := lx_kp hP hk9
    subst hw9
    have hP : va_P D vwCl ((lw_U d0 dc dr h0 ai ar af ap ah ac ou cA cL k hk rg fi fr ff fp fh fn fo) ++ ((lw_M m0 mx my mr mb cA k th sx sy fx fy fm fb) ++ ((dc, .inl (cQ, 5, .inr (.inr (.inr (.inr F))))) :: oth))) H := hP
    have hD : va_D (fun q => s.heap.size ≤ q) ((lw_U d0 dc dr h0 ai ar af ap ah ac ou cA cL k hk rg fi fr ff fp fh fn fo) ++ ((lw_M m0 mx my mr mb cA k th sx sy fx fy fm fb) ++ ((dc, .inl (cQ, 5, .inr (.inr (.inr (.inr F))))) :: oth))) := hD
    refine lv_istore hx hb dL_law_252 hl (by decide) rfl (fun ls hl => ?_)
    have hl : lv_has ls 8 [(5, .int (nI 1)), (4, .int (nI i)), (3, .ref ou), (2, .ref m0), (1, .ref d0), (0, .ref b)] := hl
    refine lv_aload_n hx hb dL_law_254 rfl (lv_at hl 3 rfl) ?_
    refine lv_aload_n hx hb dL_law_255 rfl (lv_at hl 5 rfl) ?_
    refine lv_iload hx hb dL_law_256 (lv_at hl 1 rfl) ?_
    refine lv_iconst (v := (nI 1)) hx hb dL_law_258 (by decide) ?_
    refine nv_iadd hx hb dL_law_259 ?_
    refine va_sld hx hb hX hbl hbA hS (nv_in (by omega) (by omega)) dL_law_260 ?_
    rw [nI_clamp (by omega)]
    refine lv_aload_n hx hb dL_law_261 rfl (lv_at hl 5 rfl) ?_
    refine lv_iload hx hb dL_law_262 (lv_at hl 1 rfl) ?_
    refine lv_iconst (v := (nI 2)) hx hb dL_law_264 (by decide) ?_
    refine nv_iadd hx hb dL_law_265 ?_
    refine va_sld hx hb hX hbl hbA hS (nv_in (by omega) (by omega)) dL_law_266 ?_
    rw [nI_clamp (by omega)]
    have hP := wp_P (List.perm_append_comm_assoc _ _ _) hP
    have hD := wp_D (List.perm_append_comm_assoc _ _ _) hD
    have hP : va_P D vwCl ((lw_M m0 mx my mr mb cA k th sx sy fx fy fm fb) ++ ((lw_U d0 dc dr h0 ai ar af ap ah ac ou cA cL k hk rg fi fr ff fp fh fn fo) ++ ((dc, .inl (cQ, 5, .inr (.inr (.inr (.inr F))))) :: oth))) H := hP
    have hD : va_D (fun q => s.heap.size ≤ q) ((lw_M m0 mx my mr mb cA k th sx sy fx fy fm fb) ++ ((lw_U d0 dc dr h0 ai ar af ap ah ac ou cA cL k hk rg fi fr ff fp fh fn fo) ++ ((dc, .inl (cQ, 5, .inr (.inr (.inr (.inr F))))) :: oth))) := hD
    have hFc := wp_free hD hS hA
    refine va_callv (va_runV (As := [.int (xs (i + 1)), .int (xs (i + 2))]) (rest := []) ⟨hx, hb, hml, hown, ht⟩ (c_X2_unpackR l D hk5 b1 H.size) (cwV 2 ht (tb_V kl_L_85 ki_X2_unpack ks_X2_unpack kn_X2 kc_X2_unpack) rfl rfl rfl ⟨rfl, kd_X2_unpack⟩ ⟨Nat.le_of_ble_eq_true rfl, Nat.le_of_ble_eq_true rfl⟩) (wd_preV _ (wp_Pl hP) (hK.sub (tys' := [(cA, .int)]) [0] rfl) (wp_Dl hD) (va_recv (ci := 2) (q0 := 0) hK hP rfl rfl)) rfl rfl hl.1 rfl (lv_room (Nat.le_of_ble_eq_true rfl)) dL_law_267 ⟨by show 20 + lx_n F + i + 1 + 0 ≤ 601024; omega, by show 9000 + lx_c F + 6 * i + 6 + 0 ≤ 7293033; omega⟩) hS (fun q _ h => hFc q h) hFc (fun u8 t8 H locs ht8 hvm8 hw8 hB8 hz8 hk8 hS => ?_)
    obtain ⟨hP1, hK1, hD1⟩ := hB8
    rw [ht8] at hP1
    obtain ⟨hP, hD⟩ := wp_join hP hD hk8 hFc hP1 hD1
    have hP : va_P D vwCl ((lw_M m0 mx my mr mb cA k (nI 1) sx sy fx fy fm fb) ++ ((lw_U d0 dc dr h0 ai ar af ap ah ac ou cA cL k hk rg fi fr ff fp fh fn fo) ++ ((dc, .inl (cQ, 5, .inr (.inr (.inr (.inr F))))) :: oth))) H := hP
    have hD : va_D (fun q => s.heap.size ≤ q) ((lw_M m0 mx my mr mb cA k (nI 1) sx sy fx fy fm fb) ++ ((lw_U d0 dc dr h0 ai ar af ap ah ac ou cA cL k hk rg fi fr ff fp fh fn fo) ++ ((dc, .inl (cQ, 5, .inr (.inr (.inr (.inr F))))) :: oth))) := hD
    refine lv_aload_n hx hb dL_law_270 rfl (lv_at hl 3 rfl) ?_
    refine vp_callSi (W.runV (As := []) (rest := []) ⟨hx, hb, hml, hown, ht⟩ (c_X2_thrown l D hk5) (cwV 0 ht (tb_V kl_L_74 ki_X2_thrown ks_X2_thrown kn_X2 kc_X2_thrown) rfl rfl rfl ⟨rfl, kd_X2_thrown⟩ ⟨Nat.le_of_ble_eq_true rfl, Nat.le_of_ble_eq_true rfl⟩) (ro_preV _ ((wp_Pl hP).sub (ws' := [(m0, .inr (2, [.int (nI 1), .int (nI k), .int (nI (tw_P k)), .int (nI (tw_D k)), .int (nI (tw_I k)), .ref mx, .ref my, .ref mr, .ref mb, .int sx, .int sy]))]) [0] rfl) (hK.sub (tys' := []) [] rfl) (va_recv (ci := 2) (q0 := 0) hK hP rfl rfl)) rfl rfl hl.1 rfl (lv_room (Nat.le_of_ble_eq_true rfl)) dL_law_271 ⟨by show 20 + lx_n F + i + 1 + 0 + 0 ≤ 601024; omega, by show 9000 + lx_c F + 6 * i + 6 + 0 + 0 ≤ 7293033; omega⟩) (fun r hr9 => ?_)
    subst hr9
    refine lv_iload hx hb dL_law_274 (lv_at hl 0 rfl) ?_
    refine lv_icmp_eq (tgt := 281) hx hb dL_law_276 (by decide) (fun _ => ?_) (fun c9 => absurd rfl c9)
    refine lv_goto (tgt := 1269) hx hb dL_law_281 (by decide) ?_
    have hP := wp_P (List.perm_append_comm_assoc _ _ _) hP
    have hD := wp_D (List.perm_append_comm_assoc _ _ _) hD
    have hP : va_P D vwCl ((lw_U d0 dc dr h0 ai ar af ap ah ac ou cA cL k hk rg fi fr ff fp fh fn fo) ++ ((lw_M m0 mx my mr mb cA k (nI 1) sx sy fx fy fm fb) ++ ((dc, .inl (cQ, 5, .inr (.inr (.inr (.inr F))))) :: oth))) H := hP
    have hD : va_D (fun q => s.heap.size ≤ q) ((lw_U d0 dc dr h0 ai ar af ap ah ac ou cA cL k hk rg fi fr ff fp fh fn fo) ++ ((lw_M m0 mx my mr mb cA k (nI 1) sx sy fx fy fm fb) ++ ((dc, .inl (cQ, 5, .inr (.inr (.inr (.inr F))))) :: oth))) := hD
    refine W.widen (k := 20 + lx_n F + (i + 8)) (n := 9000 + lx_c F + 6 * (i + 8)) (by omega) (by omega) ?_
    exact kk F H locs ls (lv_sub hl [1, 2, 3, 4, 5] rfl) (lx_mk hP hD ⟨hk5, hF, hok, hhv, hrg, hR, hfm, hB, hO⟩) hS
  · obtain ⟨j, hj, e1⟩ := md_good b1
    by_cases b2 : ∃ m9 p9, m9 < 2 ^ 31 ∧ (xs (i + 2)) = nI m9 ∧ tw_rd (tw_P k) (tw_D k) m9 = some p9
    · obtain ⟨m9, p9, hm9, e2, hp9⟩ := b2
      have hon := (tw_rd_some hK0 hp9).1
      refine lv_aload_n hx hb dL_law_236 rfl (lv_at hl 3 rfl) ?_
      refine lv_aload_n hx hb dL_law_237 rfl (lv_at hl 4 rfl) ?_
      refine lv_iload hx hb dL_law_238 (lv_at hl 0 rfl) ?_
      refine lv_iconst (v := (nI 1)) hx hb dL_law_240 (by decide) ?_
      refine nv_iadd hx hb dL_law_241 ?_
      refine va_sld hx hb hX hbl hbA hS (nv_in (by omega) (by omega)) dL_law_242 ?_
      rw [nI_clamp (by omega)]
      rw [e1]
      refine lv_aload_n hx hb dL_law_243 rfl (lv_at hl 4 rfl) ?_
      refine lv_iload hx hb dL_law_244 (lv_at hl 0 rfl) ?_
      refine lv_iconst (v := (nI 2)) hx hb dL_law_246 (by decide) ?_
      refine nv_iadd hx hb dL_law_247 ?_
      refine va_sld hx hb hX hbl hbA hS (nv_in (by omega) (by omega)) dL_law_248 ?_
      rw [nI_clamp (by omega)]
      rw [e2]
      have hFc := wp_free hD hS hA
      refine va_calli (vx_runSW (As := [.ref d0, .int (nI j), .int (nI m9)]) (rest := []) ⟨hx, hb, hml, hown, ht⟩ (c_L_unpack l D hk5 hok hrg hj hm9 hp9 H.size) (vx_cwSW 3 ht (tb_S kl_L_82 kt_L_unpack kn_L kc_L_unpack) rfl rfl rfl kd_L_unpack ⟨Nat.le_of_ble_eq_true rfl, Nat.le_of_ble_eq_true rfl⟩) (wd_preS _ (wp_Pl hP) (hK.sub (tys' := [(cA, .int), (cL, .long)]) [0, 2] rfl) (wp_Dl hD)) rfl rfl hl.1 rfl (lv_room (Nat.le_of_ble_eq_true rfl)) dL_law_249 ⟨by show 20 + lx_n F + i + 0 ≤ 601024; omega, by show 9000 + lx_c F + 6 * i + 0 ≤ 7293033; omega⟩) hS (fun q _ h => hFc q h) hFc (fun r9 u9 t9 H locs ht9 hvm9 hw9 hB9 hz9 hk9 hS => ?_)
      obtain ⟨hP1, hK1, hD1⟩ := hB9
      rw [ht9] at hP1
      obtain ⟨hP, hD⟩ := wp_join hP hD hk9 hFc hP1 hD1
      obtain ⟨e9, q9⟩ := hw9
      subst e9
      rw [q9] at hP hD
      have hP : va_P D vwCl ((lw_U d0 dc dr h0 ai ar af ap ah ac ou cA cL k hk (upd rg j (nI (tw_en p9))) fi fr ff fp fh fn fo) ++ ((lw_M m0 mx my mr mb cA k th sx sy fx fy fm fb) ++ ((dc, .inl (cQ, 5, .inr (.inr (.inr (.inr F))))) :: oth))) H := hP
      have hD : va_D (fun q => s.heap.size ≤ q) ((lw_U d0 dc dr h0 ai ar af ap ah ac ou cA cL k hk (upd rg j (nI (tw_en p9))) fi fr ff fp fh fn fo) ++ ((lw_M m0 mx my mr mb cA k th sx sy fx fy fm fb) ++ ((dc, .inl (cQ, 5, .inr (.inr (.inr (.inr F))))) :: oth))) := hD
      refine lv_istore hx hb dL_law_252 hl (by decide) rfl (fun ls hl => ?_)
      have hl : lv_has ls 8 [(5, .int (nI 0)), (4, .int (nI i)), (3, .ref ou), (2, .ref m0), (1, .ref d0), (0, .ref b)] := hl
      refine lv_aload_n hx hb dL_law_254 rfl (lv_at hl 3 rfl) ?_
      refine lv_aload_n hx hb dL_law_255 rfl (lv_at hl 5 rfl) ?_
      refine lv_iload hx hb dL_law_256 (lv_at hl 1 rfl) ?_
      refine lv_iconst (v := (nI 1)) hx hb dL_law_258 (by decide) ?_
      refine nv_iadd hx hb dL_law_259 ?_
      refine va_sld hx hb hX hbl hbA hS (nv_in (by omega) (by omega)) dL_law_260 ?_
      rw [nI_clamp (by omega)]
      rw [e1]
      refine lv_aload_n hx hb dL_law_261 rfl (lv_at hl 5 rfl) ?_
      refine lv_iload hx hb dL_law_262 (lv_at hl 1 rfl) ?_
      refine lv_iconst (v := (nI 2)) hx hb dL_law_264 (by decide) ?_
      refine nv_iadd hx hb dL_law_265 ?_
      refine va_sld hx hb hX hbl hbA hS (nv_in (by omega) (by omega)) dL_law_266 ?_
      rw [nI_clamp (by omega)]
      rw [e2]
      have hP := wp_P (List.perm_append_comm_assoc _ _ _) hP
      have hD := wp_D (List.perm_append_comm_assoc _ _ _) hD
      have hP : va_P D vwCl ((lw_M m0 mx my mr mb cA k th sx sy fx fy fm fb) ++ ((lw_U d0 dc dr h0 ai ar af ap ah ac ou cA cL k hk (upd rg j (nI (tw_en p9))) fi fr ff fp fh fn fo) ++ ((dc, .inl (cQ, 5, .inr (.inr (.inr (.inr F))))) :: oth))) H := hP
      have hD : va_D (fun q => s.heap.size ≤ q) ((lw_M m0 mx my mr mb cA k th sx sy fx fy fm fb) ++ ((lw_U d0 dc dr h0 ai ar af ap ah ac ou cA cL k hk (upd rg j (nI (tw_en p9))) fi fr ff fp fh fn fo) ++ ((dc, .inl (cQ, 5, .inr (.inr (.inr (.inr F))))) :: oth))) := hD
      have hFc := wp_free hD hS hA
      refine va_callv (va_runV (As := [.int (nI j), .int (nI m9)]) (rest := []) ⟨hx, hb, hml, hown, ht⟩ (c_X2_unpack l D hk5 hfm hR hj hm9 hp9 H.size) (cwV 2 ht (tb_V kl_L_85 ki_X2_unpack ks_X2_unpack kn_X2 kc_X2_unpack) rfl rfl rfl ⟨rfl, kd_X2_unpack⟩ ⟨Nat.le_of_ble_eq_true rfl, Nat.le_of_ble_eq_true rfl⟩) (wd_preV _ (wp_Pl hP) (hK.sub (tys' := [(cA, .int)]) [0] rfl) (wp_Dl hD) (va_recv (ci := 2) (q0 := 0) hK hP rfl rfl)) rfl rfl hl.1 rfl (lv_room (Nat.le_of_ble_eq_true rfl)) dL_law_267 ⟨by show 20 + lx_n F + i + 0 + 0 ≤ 601024; omega, by show 9000 + lx_c F + 6 * i + 0 + 0 ≤ 7293033; omega⟩) hS (fun q _ h => hFc q h) hFc (fun u8 t8 H locs ht8 hvm8 hw8 hB8 hz8 hk8 hS => ?_)
      obtain ⟨hP1, hK1, hD1⟩ := hB8
      rw [ht8] at hP1
      obtain ⟨hP, hD⟩ := wp_join hP hD hk8 hFc hP1 hD1
      have hP : va_P D vwCl ((lw_M m0 mx my mr mb cA k (nI 0) sx sy (upd fx j (nI p9.1)) (upd fy j (nI p9.2)) fm fb) ++ ((lw_U d0 dc dr h0 ai ar af ap ah ac ou cA cL k hk (upd rg j (nI (tw_en p9))) fi fr ff fp fh fn fo) ++ ((dc, .inl (cQ, 5, .inr (.inr (.inr (.inr F))))) :: oth))) H := hP
      have hD : va_D (fun q => s.heap.size ≤ q) ((lw_M m0 mx my mr mb cA k (nI 0) sx sy (upd fx j (nI p9.1)) (upd fy j (nI p9.2)) fm fb) ++ ((lw_U d0 dc dr h0 ai ar af ap ah ac ou cA cL k hk (upd rg j (nI (tw_en p9))) fi fr ff fp fh fn fo) ++ ((dc, .inl (cQ, 5, .inr (.inr (.inr (.inr F))))) :: oth))) := hD
      refine lv_aload_n hx hb dL_law_270 rfl (lv_at hl 3 rfl) ?_
      refine vp_callSi (W.runV (As := []) (rest := []) ⟨hx, hb, hml, hown, ht⟩ (c_X2_thrown l D hk5) (cwV 0 ht (tb_V kl_L_74 ki_X2_thrown ks_X2_thrown kn_X2 kc_X2_thrown) rfl rfl rfl ⟨rfl, kd_X2_thrown⟩ ⟨Nat.le_of_ble_eq_true rfl, Nat.le_of_ble_eq_true rfl⟩) (ro_preV _ ((wp_Pl hP).sub (ws' := [(m0, .inr (2, [.int (nI 0), .int (nI k), .int (nI (tw_P k)), .int (nI (tw_D k)), .int (nI (tw_I k)), .ref mx, .ref my, .ref mr, .ref mb, .int sx, .int sy]))]) [0] rfl) (hK.sub (tys' := []) [] rfl) (va_recv (ci := 2) (q0 := 0) hK hP rfl rfl)) rfl rfl hl.1 rfl (lv_room (Nat.le_of_ble_eq_true rfl)) dL_law_271 ⟨by show 20 + lx_n F + i + 0 + 0 + 0 ≤ 601024; omega, by show 9000 + lx_c F + 6 * i + 0 + 0 + 0 ≤ 7293033; omega⟩) (fun r hr9 => ?_)
      subst hr9
      refine lv_iload hx hb dL_law_274 (lv_at hl 0 rfl) ?_
      refine lv_icmp_eq (tgt := 281) hx hb dL_law_276 (by decide) (fun _ => ?_) (fun c9 => absurd rfl c9)
      refine lv_goto (tgt := 1269) hx hb dL_law_281 (by decide) ?_
      have hP := wp_P (List.perm_append_comm_assoc _ _ _) hP
      have hD := wp_D (List.perm_append_comm_assoc _ _ _) hD
      have hP : va_P D vwCl ((lw_U d0 dc dr h0 ai ar af ap ah ac ou cA cL k hk (upd rg j (nI (tw_en p9))) fi fr ff fp fh fn fo) ++ ((lw_M m0 mx my mr mb cA k (nI 0) sx sy (upd fx j (nI p9.1)) (upd fy j (nI p9.2)) fm fb) ++ ((dc, .inl (cQ, 5, .inr (.inr (.inr (.inr F))))) :: oth))) H := hP
      have hD : va_D (fun q => s.heap.size ≤ q) ((lw_U d0 dc dr h0 ai ar af ap ah ac ou cA cL k hk (upd rg j (nI (tw_en p9))) fi fr ff fp fh fn fo) ++ ((lw_M m0 mx my mr mb cA k (nI 0) sx sy (upd fx j (nI p9.1)) (upd fy j (nI p9.2)) fm fb) ++ ((dc, .inl (cQ, 5, .inr (.inr (.inr (.inr F))))) :: oth))) := hD
      refine W.widen (k := 20 + lx_n F + (i + 8)) (n := 9000 + lx_c F + 6 * (i + 8)) (by omega) (by omega) ?_
      exact kk F H locs ls (lv_sub hl [1, 2, 3, 4, 5] rfl) (lx_mk hP hD ⟨hk5, hF, hok, hhv, lx_rg hon hrg, lx_rR hon hR, hfm, hB, hO⟩) hS
    · have hzq : (xs (i + 2)) < 0 ∨ ∃ m9, m9 < 2 ^ 31 ∧ (xs (i + 2)) = nI m9 ∧ tw_rd (tw_P k) (tw_D k) m9 = none := by
        by_cases c2 : (xs (i + 2)) < 0
        · exact Or.inl c2
        · obtain ⟨m9, hm9, e2⟩ := lx_nn c2
          refine Or.inr ⟨m9, hm9, e2, ?_⟩
          cases hp9 : tw_rd (tw_P k) (tw_D k) m9 with
          | none => rfl
          | some p9 => exact absurd ⟨m9, p9, hm9, e2, hp9⟩ b2
      refine lv_aload_n hx hb dL_law_236 rfl (lv_at hl 3 rfl) ?_
      refine lv_aload_n hx hb dL_law_237 rfl (lv_at hl 4 rfl) ?_
      refine lv_iload hx hb dL_law_238 (lv_at hl 0 rfl) ?_
      refine lv_iconst (v := (nI 1)) hx hb dL_law_240 (by decide) ?_
      refine nv_iadd hx hb dL_law_241 ?_
      refine va_sld hx hb hX hbl hbA hS (nv_in (by omega) (by omega)) dL_law_242 ?_
      rw [nI_clamp (by omega)]
      rw [e1]
      refine lv_aload_n hx hb dL_law_243 rfl (lv_at hl 4 rfl) ?_
      refine lv_iload hx hb dL_law_244 (lv_at hl 0 rfl) ?_
      refine lv_iconst (v := (nI 2)) hx hb dL_law_246 (by decide) ?_
      refine nv_iadd hx hb dL_law_247 ?_
      refine va_sld hx hb hX hbl hbA hS (nv_in (by omega) (by omega)) dL_law_248 ?_
      rw [nI_clamp (by omega)]
      refine va_calli (vx_runSW (As := [.ref d0, .int (nI j), .int (xs (i + 2))]) (rest := []) ⟨hx, hb, hml, hown, ht⟩ (c_L_unpackN (ou := 0) l gs D hk5 hok hrg hj hzq) (vx_cwSW 3 ht (tb_S kl_L_82 kt_L_unpack kn_L kc_L_unpack) rfl rfl rfl kd_L_unpack ⟨Nat.le_of_ble_eq_true rfl, Nat.le_of_ble_eq_true rfl⟩) (nx_preSW _ hZ hS (hP.sub (ws' := [(d0, .inr (1, [.ref dc, .ref dr, .int (nI k), .ref h0])), (dr, .inl (cA, 12, .inl rg)), (h0, .inr (0, [.int (nI (tw_P k)), .int (nI (tw_D k)), .int (nI (tw_I k)), .int (nI (tw_N k)), .ref ai, .ref ar, .ref af, .ref ap, .ref ah, .ref ac, .int (nI ((tw_fs k).length)), .int hk])), (ai, .inl (cA, tw_P k, .inl fi)), (ar, .inl (cA, tw_P k, .inl fr)), (af, .inl (cA, 14, .inl ff)), (ap, .inl (cA, 2 * tw_P k, .inl fp)), (ah, .inl (cA, 2 * tw_P k, .inl fh)), (ac, .inl (cA, 2 * tw_P k, .inl fn))]) [0, 1, 2, 3, 4, 5, 6, 7, 8] rfl) (hK.sub (tys' := [(cA, .int)]) [0] rfl)) rfl rfl hl.1 rfl (lv_room (Nat.le_of_ble_eq_true rfl)) dL_law_249 ⟨by show 20 + lx_n F + i + 1 ≤ 601024; omega, by show 9000 + lx_c F + 6 * i + 6 ≤ 7293033; omega⟩) hS (fun _ _ h => h.elim) (fun _ h => h.elim) (fun r9 u9 t9 H locs ht9 hvm9 hw9 hB9 hz9 hk9 hS => ?_)
      have hP := lx_kp hP hk9
      subst hw9
      have hP : va_P D vwCl ((lw_U d0 dc dr h0 ai ar af ap ah ac ou cA cL k hk rg fi fr ff fp fh fn fo) ++ ((lw_M m0 mx my mr mb cA k th sx sy fx fy fm fb) ++ ((dc, .inl (cQ, 5, .inr (.inr (.inr (.inr F))))) :: oth))) H := hP
      have hD : va_D (fun q => s.heap.size ≤ q) ((lw_U d0 dc dr h0 ai ar af ap ah ac ou cA cL k hk rg fi fr ff fp fh fn fo) ++ ((lw_M m0 mx my mr mb cA k th sx sy fx fy fm fb) ++ ((dc, .inl (cQ, 5, .inr (.inr (.inr (.inr F))))) :: oth))) := hD
      refine lv_istore hx hb dL_law_252 hl (by decide) rfl (fun ls hl => ?_)
      have hl : lv_has ls 8 [(5, .int (nI 2)), (4, .int (nI i)), (3, .ref ou), (2, .ref m0), (1, .ref d0), (0, .ref b)] := hl
      refine lv_aload_n hx hb dL_law_254 rfl (lv_at hl 3 rfl) ?_
      refine lv_aload_n hx hb dL_law_255 rfl (lv_at hl 5 rfl) ?_
      refine lv_iload hx hb dL_law_256 (lv_at hl 1 rfl) ?_
      refine lv_iconst (v := (nI 1)) hx hb dL_law_258 (by decide) ?_
      refine nv_iadd hx hb dL_law_259 ?_
      refine va_sld hx hb hX hbl hbA hS (nv_in (by omega) (by omega)) dL_law_260 ?_
      rw [nI_clamp (by omega)]
      rw [e1]
      refine lv_aload_n hx hb dL_law_261 rfl (lv_at hl 5 rfl) ?_
      refine lv_iload hx hb dL_law_262 (lv_at hl 1 rfl) ?_
      refine lv_iconst (v := (nI 2)) hx hb dL_law_264 (by decide) ?_
      refine nv_iadd hx hb dL_law_265 ?_
      refine va_sld hx hb hX hbl hbA hS (nv_in (by omega) (by omega)) dL_law_266 ?_
      rw [nI_clamp (by omega)]
      have hP := wp_P (List.perm_append_comm_assoc _ _ _) hP
      have hD := wp_D (List.perm_append_comm_assoc _ _ _) hD
      have hP : va_P D vwCl ((lw_M m0 mx my mr mb cA k th sx sy fx fy fm fb) ++ ((lw_U d0 dc dr h0 ai ar af ap ah ac ou cA cL k hk rg fi fr ff fp fh fn fo) ++ ((dc, .inl (cQ, 5, .inr (.inr (.inr (.inr F))))) :: oth))) H := hP
      have hD : va_D (fun q => s.heap.size ≤ q) ((lw_M m0 mx my mr mb cA k th sx sy fx fy fm fb) ++ ((lw_U d0 dc dr h0 ai ar af ap ah ac ou cA cL k hk rg fi fr ff fp fh fn fo) ++ ((dc, .inl (cQ, 5, .inr (.inr (.inr (.inr F))))) :: oth))) := hD
      have hFc := wp_free hD hS hA
      refine va_callv (va_runV (As := [.int (nI j), .int (xs (i + 2))]) (rest := []) ⟨hx, hb, hml, hown, ht⟩ (c_X2_unpackN l D hk5 hfm hR hj hzq H.size) (cwV 2 ht (tb_V kl_L_85 ki_X2_unpack ks_X2_unpack kn_X2 kc_X2_unpack) rfl rfl rfl ⟨rfl, kd_X2_unpack⟩ ⟨Nat.le_of_ble_eq_true rfl, Nat.le_of_ble_eq_true rfl⟩) (wd_preV _ (wp_Pl hP) (hK.sub (tys' := [(cA, .int)]) [0] rfl) (wp_Dl hD) (va_recv (ci := 2) (q0 := 0) hK hP rfl rfl)) rfl rfl hl.1 rfl (lv_room (Nat.le_of_ble_eq_true rfl)) dL_law_267 ⟨by show 20 + lx_n F + i + 1 + 0 ≤ 601024; omega, by show 9000 + lx_c F + 6 * i + 6 + 0 ≤ 7293033; omega⟩) hS (fun q _ h => hFc q h) hFc (fun u8 t8 H locs ht8 hvm8 hw8 hB8 hz8 hk8 hS => ?_)
      obtain ⟨hP1, hK1, hD1⟩ := hB8
      rw [ht8] at hP1
      obtain ⟨hP, hD⟩ := wp_join hP hD hk8 hFc hP1 hD1
      have hP : va_P D vwCl ((lw_M m0 mx my mr mb cA k (nI 2) sx sy fx fy fm fb) ++ ((lw_U d0 dc dr h0 ai ar af ap ah ac ou cA cL k hk rg fi fr ff fp fh fn fo) ++ ((dc, .inl (cQ, 5, .inr (.inr (.inr (.inr F))))) :: oth))) H := hP
      have hD : va_D (fun q => s.heap.size ≤ q) ((lw_M m0 mx my mr mb cA k (nI 2) sx sy fx fy fm fb) ++ ((lw_U d0 dc dr h0 ai ar af ap ah ac ou cA cL k hk rg fi fr ff fp fh fn fo) ++ ((dc, .inl (cQ, 5, .inr (.inr (.inr (.inr F))))) :: oth))) := hD
      refine lv_aload_n hx hb dL_law_270 rfl (lv_at hl 3 rfl) ?_
      refine vp_callSi (W.runV (As := []) (rest := []) ⟨hx, hb, hml, hown, ht⟩ (c_X2_thrown l D hk5) (cwV 0 ht (tb_V kl_L_74 ki_X2_thrown ks_X2_thrown kn_X2 kc_X2_thrown) rfl rfl rfl ⟨rfl, kd_X2_thrown⟩ ⟨Nat.le_of_ble_eq_true rfl, Nat.le_of_ble_eq_true rfl⟩) (ro_preV _ ((wp_Pl hP).sub (ws' := [(m0, .inr (2, [.int (nI 2), .int (nI k), .int (nI (tw_P k)), .int (nI (tw_D k)), .int (nI (tw_I k)), .ref mx, .ref my, .ref mr, .ref mb, .int sx, .int sy]))]) [0] rfl) (hK.sub (tys' := []) [] rfl) (va_recv (ci := 2) (q0 := 0) hK hP rfl rfl)) rfl rfl hl.1 rfl (lv_room (Nat.le_of_ble_eq_true rfl)) dL_law_271 ⟨by show 20 + lx_n F + i + 1 + 0 + 0 ≤ 601024; omega, by show 9000 + lx_c F + 6 * i + 6 + 0 + 0 ≤ 7293033; omega⟩) (fun r hr9 => ?_)
      subst hr9
      refine lv_iload hx hb dL_law_274 (lv_at hl 0 rfl) ?_
      refine lv_icmp_eq (tgt := 281) hx hb dL_law_276 (by decide) (fun _ => ?_) (fun c9 => absurd rfl c9)
      refine lv_goto (tgt := 1269) hx hb dL_law_281 (by decide) ?_
      have hP := wp_P (List.perm_append_comm_assoc _ _ _) hP
      have hD := wp_D (List.perm_append_comm_assoc _ _ _) hD
      have hP : va_P D vwCl ((lw_U d0 dc dr h0 ai ar af ap ah ac ou cA cL k hk rg fi fr ff fp fh fn fo) ++ ((lw_M m0 mx my mr mb cA k (nI 2) sx sy fx fy fm fb) ++ ((dc, .inl (cQ, 5, .inr (.inr (.inr (.inr F))))) :: oth))) H := hP
      have hD : va_D (fun q => s.heap.size ≤ q) ((lw_U d0 dc dr h0 ai ar af ap ah ac ou cA cL k hk rg fi fr ff fp fh fn fo) ++ ((lw_M m0 mx my mr mb cA k (nI 2) sx sy fx fy fm fb) ++ ((dc, .inl (cQ, 5, .inr (.inr (.inr (.inr F))))) :: oth))) := hD
      refine W.widen (k := 20 + lx_n F + (i + 8)) (n := 9000 + lx_c F + 6 * (i + 8)) (by omega) (by omega) ?_
      exact kk F H locs ls (lv_sub hl [1, 2, 3, 4, 5] rfl) (lx_mk hP hD ⟨hk5, hF, hok, hhv, hrg, hR, hfm, hB, hO⟩) hS
set_option maxHeartbeats 8000000 in
set_option maxRecDepth 100000 in
theorem lc_9 {p : Program} {l : Launch} {e : Env} {s : State} {m : MethodId} {below : List Frame} {meth : Method} {c : Code} {Q : State → Prop} {b L : Nat} {xs : Nat → Int32} {gs : Nat → Nat} {tp : Nat} {D : va_G} {d0 dc dr ou m0 mx my mr mb : Nat} {cA cQ cL : ClassId} (C : lx_C p l s m c b L xs gs tp D cA cQ cL) {i : Nat} (hi : i + 8 ≤ L) {F : Nat → Option Nat} {H : Heap} {locs : List Loc} {ls : Array Slot} (hl : lv_has ls 8 [(4, .int (nI i)), (3, .ref ou), (2, .ref m0), (1, .ref d0), (0, .ref b)]) (hI : lx_I D d0 dc dr ou m0 mx my mr mb cA cQ cL (fun q => s.heap.size ≤ q) F H) (hS : va_S (fun q => s.heap.size ≤ q) s.heap H locs) (kk : (∀ (F : Nat → Option Nat) (H : Heap) (locs : List Loc) (ls : Array Slot), lv_has ls 8 [(4, .int (nI i)), (3, .ref ou), (2, .ref m0), (1, .ref d0), (0, .ref b)] → lx_I D d0 dc dr ou m0 mx my mr mb cA cQ cL (fun q => s.heap.size ≤ q) F H → va_S (fun q => s.heap.size ≤ q) s.heap H locs → W p l e room_1 s m #[Value.ref b] below meth c H locs (20 + lx_n F + (i + 8)) (9000 + lx_c F + 6 * (i + 8)) Q (F0 m 1269 ls []))) : W p l e room_1 s m #[Value.ref b] below meth c H locs (20 + lx_n F + i) (9000 + lx_c F + 6 * i) Q (F0 m 872 ls []) := by
  obtain ⟨hx, hb, hml, hown, ht, hX, hbl, hZ, hT, hK, hL⟩ := C
  obtain ⟨k, R, h0, ai, ar, af, ap, ah, ac, hk, rg, fi, fr, ff, fp, fh, fn, fo, th, sx, sy, fx, fy, fm, fb, oth, hP, hD, hk5, hF, hok, hhv, hrg, hR, hfm, hB, hO⟩ := hI
  have hbA : ¬ s.heap.size ≤ b := Nat.not_le.mpr hbl
  have hA : ∀ q, s.heap.size ≤ q → s.heap.size ≤ q := fun _ h => h
  have zi : i ≤ 4088 := by omega
  have zn := lx_n_le F
  have zc := lx_c_le F
  have hK0 := tw_kK k hk5
  refine lv_aload_n hx hb dL_law_872 rfl (lv_at hl 3 rfl) ?_
  refine vp_callSi (W.runV (As := []) (rest := []) ⟨hx, hb, hml, hown, ht⟩ (c_X1_points l D hk5 hok hrg) (cwV 0 ht (tb_V kl_L_110 ki_X1_points ks_X1_points kn_X1 kc_X1_points) rfl rfl rfl ⟨rfl, kd_X1_points⟩ ⟨Nat.le_of_ble_eq_true rfl, Nat.le_of_ble_eq_true rfl⟩) (ro_preV _ (hP.sub (ws' := [(d0, .inr (1, [.ref dc, .ref dr, .int (nI k), .ref h0])), (dr, .inl (cA, 12, .inl rg)), (h0, .inr (0, [.int (nI (tw_P k)), .int (nI (tw_D k)), .int (nI (tw_I k)), .int (nI (tw_N k)), .ref ai, .ref ar, .ref af, .ref ap, .ref ah, .ref ac, .int (nI ((tw_fs k).length)), .int hk])), (ai, .inl (cA, tw_P k, .inl fi)), (ar, .inl (cA, tw_P k, .inl fr)), (af, .inl (cA, 14, .inl ff)), (ap, .inl (cA, 2 * tw_P k, .inl fp)), (ah, .inl (cA, 2 * tw_P k, .inl fh)), (ac, .inl (cA, 2 * tw_P k, .inl fn))]) [0, 1, 2, 3, 4, 5, 6, 7, 8] rfl) (hK.sub (tys' := [(cA, .int)]) [0] rfl) (va_recv (ci := 1) (q0 := 0) hK hP rfl rfl)) rfl rfl hl.1 rfl (lv_room (Nat.le_of_ble_eq_true rfl)) dL_law_873 ⟨by show 20 + lx_n F + i + 0 ≤ 601024; omega, by show 9000 + lx_c F + 6 * i + 0 ≤ 7293033; omega⟩) (fun r hr9 => ?_)
  subst hr9
  refine lv_aload_n hx hb dL_law_876 rfl (lv_at hl 2 rfl) ?_
  have hP := wp_P (List.perm_append_comm_assoc _ _ _) hP
  have hD := wp_D (List.perm_append_comm_assoc _ _ _) hD
  have hP : va_P D vwCl ((lw_M m0 mx my mr mb cA k th sx sy fx fy fm fb) ++ ((lw_U d0 dc dr h0 ai ar af ap ah ac ou cA cL k hk rg fi fr ff fp fh fn fo) ++ ((dc, .inl (cQ, 5, .inr (.inr (.inr (.inr F))))) :: oth))) H := hP
  have hD : va_D (fun q => s.heap.size ≤ q) ((lw_M m0 mx my mr mb cA k th sx sy fx fy fm fb) ++ ((lw_U d0 dc dr h0 ai ar af ap ah ac ou cA cL k hk rg fi fr ff fp fh fn fo) ++ ((dc, .inl (cQ, 5, .inr (.inr (.inr (.inr F))))) :: oth))) := hD
  have hFc := wp_free hD hS hA
  refine va_calli (va_runV (As := []) (rest := [.int (nI (tw_N k))]) ⟨hx, hb, hml, hown, ht⟩ (c_X2_points l D hk5 hfm hR H.size) (cwV 0 ht (tb_V kl_L_113 ki_X2_points ks_X2_points kn_X2 kc_X2_points) rfl rfl rfl ⟨rfl, kd_X2_points⟩ ⟨Nat.le_of_ble_eq_true rfl, Nat.le_of_ble_eq_true rfl⟩) (wd_preV _ (wp_Pl hP) (hK.sub (tys' := [(cA, .int)]) [0] rfl) (wp_Dl hD) (va_recv (ci := 2) (q0 := 0) hK hP rfl rfl)) rfl rfl hl.1 rfl (lv_room (Nat.le_of_ble_eq_true rfl)) dL_law_877 ⟨by show 20 + lx_n F + i + 0 ≤ 601024; omega, by show 9000 + lx_c F + 6 * i + 0 ≤ 7293033; omega⟩) hS (fun q _ h => hFc q h) hFc (fun r8 u8 t8 H locs ht8 hvm8 hw8 hB8 hz8 hk8 hS => ?_)
  obtain ⟨hP1, hK1, hD1⟩ := hB8
  rw [ht8] at hP1
  obtain ⟨hP, hD⟩ := wp_join hP hD hk8 hFc hP1 hD1
  have hP : va_P D vwCl ((lw_M m0 mx my mr mb cA k (nI 0) sx sy fx fy fm fb) ++ ((lw_U d0 dc dr h0 ai ar af ap ah ac ou cA cL k hk rg fi fr ff fp fh fn fo) ++ ((dc, .inl (cQ, 5, .inr (.inr (.inr (.inr F))))) :: oth))) H := hP
  have hD : va_D (fun q => s.heap.size ≤ q) ((lw_M m0 mx my mr mb cA k (nI 0) sx sy fx fy fm fb) ++ ((lw_U d0 dc dr h0 ai ar af ap ah ac ou cA cL k hk rg fi fr ff fp fh fn fo) ++ ((dc, .inl (cQ, 5, .inr (.inr (.inr (.inr F))))) :: oth))) := hD
  subst hw8
  refine lv_icmp_eq (tgt := 1269) hx hb dL_law_880 (by decide) (fun _ => ?_) (fun c9 => absurd rfl c9)
  have hP := wp_P (List.perm_append_comm_assoc _ _ _) hP
  have hD := wp_D (List.perm_append_comm_assoc _ _ _) hD
  have hP : va_P D vwCl ((lw_U d0 dc dr h0 ai ar af ap ah ac ou cA cL k hk rg fi fr ff fp fh fn fo) ++ ((lw_M m0 mx my mr mb cA k (nI 0) sx sy fx fy fm fb) ++ ((dc, .inl (cQ, 5, .inr (.inr (.inr (.inr F))))) :: oth))) H := hP
  have hD : va_D (fun q => s.heap.size ≤ q) ((lw_U d0 dc dr h0 ai ar af ap ah ac ou cA cL k hk rg fi fr ff fp fh fn fo) ++ ((lw_M m0 mx my mr mb cA k (nI 0) sx sy fx fy fm fb) ++ ((dc, .inl (cQ, 5, .inr (.inr (.inr (.inr F))))) :: oth))) := hD
  refine W.widen (k := 20 + lx_n F + (i + 8)) (n := 9000 + lx_c F + 6 * (i + 8)) (by omega) (by omega) ?_
  exact kk F H locs ls (lv_sub hl [0, 1, 2, 3, 4] rfl) (lx_mk hP hD ⟨hk5, hF, hok, hhv, hrg, hR, hfm, hB, hO⟩) hS
set_option maxHeartbeats 8000000 in
set_option maxRecDepth 100000 in
theorem lc_10 {p : Program} {l : Launch} {e : Env} {s : State} {m : MethodId} {below : List Frame} {meth : Method} {c : Code} {Q : State → Prop} {b L : Nat} {xs : Nat → Int32} {gs : Nat → Nat} {tp : Nat} {D : va_G} {d0 dc dr ou m0 mx my mr mb : Nat} {cA cQ cL : ClassId} (C : lx_C p l s m c b L xs gs tp D cA cQ cL) {i : Nat} (hi : i + 8 ≤ L) {F : Nat → Option Nat} {H : Heap} {locs : List Loc} {ls : Array Slot} (hl : lv_has ls 8 [(4, .int (nI i)), (3, .ref ou), (2, .ref m0), (1, .ref d0), (0, .ref b)]) (hI : lx_I D d0 dc dr ou m0 mx my mr mb cA cQ cL (fun q => s.heap.size ≤ q) F H) (hS : va_S (fun q => s.heap.size ≤ q) s.heap H locs) (kk : (∀ (F : Nat → Option Nat) (H : Heap) (locs : List Loc) (ls : Array Slot), lv_has ls 8 [(4, .int (nI i)), (3, .ref ou), (2, .ref m0), (1, .ref d0), (0, .ref b)] → lx_I D d0 dc dr ou m0 mx my mr mb cA cQ cL (fun q => s.heap.size ≤ q) F H → va_S (fun q => s.heap.size ≤ q) s.heap H locs → W p l e room_1 s m #[Value.ref b] below meth c H locs (20 + lx_n F + (i + 8)) (9000 + lx_c F + 6 * (i + 8)) Q (F0 m 1269 ls []))) : W p l e room_1 s m #[Value.ref b] below meth c H locs (20 + lx_n F + i) (9000 + lx_c F + 6 * i) Q (F0 m 885 ls []) := by
  obtain ⟨hx, hb, hml, hown, ht, hX, hbl, hZ, hT, hK, hL⟩ := C
  obtain ⟨k, R, h0, ai, ar, af, ap, ah, ac, hk, rg, fi, fr, ff, fp, fh, fn, fo, th, sx, sy, fx, fy, fm, fb, oth, hP, hD, hk5, hF, hok, hhv, hrg, hR, hfm, hB, hO⟩ := hI
  have hbA : ¬ s.heap.size ≤ b := Nat.not_le.mpr hbl
  have hA : ∀ q, s.heap.size ≤ q → s.heap.size ≤ q := fun _ h => h
  have zi : i ≤ 4088 := by omega
  have zn := lx_n_le F
  have zc := lx_c_le F
  have hK0 := tw_kK k hk5
  refine lv_aload_n hx hb dL_law_885 rfl (lv_at hl 3 rfl) ?_
  refine vp_callSi (W.runV (As := []) (rest := []) ⟨hx, hb, hml, hown, ht⟩ (c_X1_base l D hk5 hok hrg) (cwV 0 ht (tb_V kl_L_114 ki_X1_base ks_X1_base kn_X1 kc_X1_base) rfl rfl rfl ⟨rfl, kd_X1_base⟩ ⟨Nat.le_of_ble_eq_true rfl, Nat.le_of_ble_eq_true rfl⟩) (ro_preV _ (hP.sub (ws' := [(d0, .inr (1, [.ref dc, .ref dr, .int (nI k), .ref h0])), (dr, .inl (cA, 12, .inl rg)), (h0, .inr (0, [.int (nI (tw_P k)), .int (nI (tw_D k)), .int (nI (tw_I k)), .int (nI (tw_N k)), .ref ai, .ref ar, .ref af, .ref ap, .ref ah, .ref ac, .int (nI ((tw_fs k).length)), .int hk])), (ai, .inl (cA, tw_P k, .inl fi)), (ar, .inl (cA, tw_P k, .inl fr)), (af, .inl (cA, 14, .inl ff)), (ap, .inl (cA, 2 * tw_P k, .inl fp)), (ah, .inl (cA, 2 * tw_P k, .inl fh)), (ac, .inl (cA, 2 * tw_P k, .inl fn))]) [0, 1, 2, 3, 4, 5, 6, 7, 8] rfl) (hK.sub (tys' := [(cA, .int)]) [0] rfl) (va_recv (ci := 1) (q0 := 0) hK hP rfl rfl)) rfl rfl hl.1 rfl (lv_room (Nat.le_of_ble_eq_true rfl)) dL_law_886 ⟨by show 20 + lx_n F + i + 0 ≤ 601024; omega, by show 9000 + lx_c F + 6 * i + 0 ≤ 7293033; omega⟩) (fun r hr9 => ?_)
  subst hr9
  refine lv_aload_n hx hb dL_law_889 rfl (lv_at hl 2 rfl) ?_
  obtain ⟨B0, hB0, hB2⟩ : ∃ B0, fb k = nI B0 ∧ (B0 = 0 ∨ B0 = (tw_bst (tw_P k) (tw_D k) (tw_N k) 16384).2) := by
    rcases hB k hk5 with q | q
    · exact ⟨0, q, Or.inl rfl⟩
    · exact ⟨_, q, Or.inr rfl⟩
  have hP := wp_P (List.perm_append_comm_assoc _ _ _) hP
  have hD := wp_D (List.perm_append_comm_assoc _ _ _) hD
  have hP : va_P D vwCl ((lw_M m0 mx my mr mb cA k th sx sy fx fy fm fb) ++ ((lw_U d0 dc dr h0 ai ar af ap ah ac ou cA cL k hk rg fi fr ff fp fh fn fo) ++ ((dc, .inl (cQ, 5, .inr (.inr (.inr (.inr F))))) :: oth))) H := hP
  have hD : va_D (fun q => s.heap.size ≤ q) ((lw_M m0 mx my mr mb cA k th sx sy fx fy fm fb) ++ ((lw_U d0 dc dr h0 ai ar af ap ah ac ou cA cL k hk rg fi fr ff fp fh fn fo) ++ ((dc, .inl (cQ, 5, .inr (.inr (.inr (.inr F))))) :: oth))) := hD
  have hFc := wp_free hD hS hA
  refine va_calli (va_runV (As := []) (rest := [.int (nI (tw_bst (tw_P k) (tw_D k) (tw_N k) 16384).2)]) ⟨hx, hb, hml, hown, ht⟩ (c_X2_base l D hk5 hfm hR hB0 hB2 H.size) (cwV 0 ht (tb_V kl_L_117 ki_X2_base ks_X2_base kn_X2 kc_X2_base) rfl rfl rfl ⟨rfl, kd_X2_base⟩ ⟨Nat.le_of_ble_eq_true rfl, Nat.le_of_ble_eq_true rfl⟩) (wd_preV _ (wp_Pl hP) (hK.sub (tys' := [(cA, .int)]) [0] rfl) (wp_Dl hD) (va_recv (ci := 2) (q0 := 0) hK hP rfl rfl)) rfl rfl hl.1 rfl (lv_room (Nat.le_of_ble_eq_true rfl)) dL_law_890 ⟨by show 20 + lx_n F + i + 0 ≤ 601024; omega, by show 9000 + lx_c F + 6 * i + 0 ≤ 7293033; omega⟩) hS (fun q _ h => hFc q h) hFc (fun r8 u8 t8 H locs ht8 hvm8 hw8 hB8 hz8 hk8 hS => ?_)
  obtain ⟨hP1, hK1, hD1⟩ := hB8
  rw [ht8] at hP1
  obtain ⟨hP, hD⟩ := wp_join hP hD hk8 hFc hP1 hD1
  have hP : va_P D vwCl ((lw_M m0 mx my mr mb cA k (nI 0) u8.1 u8.2.1 fx fy fm u8.2.2) ++ ((lw_U d0 dc dr h0 ai ar af ap ah ac ou cA cL k hk rg fi fr ff fp fh fn fo) ++ ((dc, .inl (cQ, 5, .inr (.inr (.inr (.inr F))))) :: oth))) H := hP
  have hD : va_D (fun q => s.heap.size ≤ q) ((lw_M m0 mx my mr mb cA k (nI 0) u8.1 u8.2.1 fx fy fm u8.2.2) ++ ((lw_U d0 dc dr h0 ai ar af ap ah ac ou cA cL k hk rg fi fr ff fp fh fn fo) ++ ((dc, .inl (cQ, 5, .inr (.inr (.inr (.inr F))))) :: oth))) := hD
  obtain ⟨e8, q1, q2⟩ := hw8
  subst e8
  refine lv_icmp_eq (tgt := 1269) hx hb dL_law_893 (by decide) (fun _ => ?_) (fun c9 => absurd rfl c9)
  have hB9 : lx_B u8.2.2 := by
    intro i9 hi9
    by_cases e : i9 = k
    · subst e; exact Or.inr q1
    · rw [q2 i9 e]; exact hB i9 hi9
  have hP := wp_P (List.perm_append_comm_assoc _ _ _) hP
  have hD := wp_D (List.perm_append_comm_assoc _ _ _) hD
  have hP : va_P D vwCl ((lw_U d0 dc dr h0 ai ar af ap ah ac ou cA cL k hk rg fi fr ff fp fh fn fo) ++ ((lw_M m0 mx my mr mb cA k (nI 0) u8.1 u8.2.1 fx fy fm u8.2.2) ++ ((dc, .inl (cQ, 5, .inr (.inr (.inr (.inr F))))) :: oth))) H := hP
  have hD : va_D (fun q => s.heap.size ≤ q) ((lw_U d0 dc dr h0 ai ar af ap ah ac ou cA cL k hk rg fi fr ff fp fh fn fo) ++ ((lw_M m0 mx my mr mb cA k (nI 0) u8.1 u8.2.1 fx fy fm u8.2.2) ++ ((dc, .inl (cQ, 5, .inr (.inr (.inr (.inr F))))) :: oth))) := hD
  refine W.widen (k := 20 + lx_n F + (i + 8)) (n := 9000 + lx_c F + 6 * (i + 8)) (by omega) (by omega) ?_
  exact kk F H locs ls (lv_sub hl [0, 1, 2, 3, 4] rfl) (lx_mk hP hD ⟨hk5, hF, hok, hhv, hrg, hR, hfm, hB9, hO⟩) hS
set_option maxHeartbeats 8000000 in
set_option maxRecDepth 100000 in
theorem lc_15 {p : Program} {l : Launch} {e : Env} {s : State} {m : MethodId} {below : List Frame} {meth : Method} {c : Code} {Q : State → Prop} {b L : Nat} {xs : Nat → Int32} {gs : Nat → Nat} {tp : Nat} {D : va_G} {d0 dc dr ou m0 mx my mr mb : Nat} {cA cQ cL : ClassId} (C : lx_C p l s m c b L xs gs tp D cA cQ cL) {i : Nat} (hi : i + 8 ≤ L) {F : Nat → Option Nat} {H : Heap} {locs : List Loc} {ls : Array Slot} (hl : lv_has ls 8 [(4, .int (nI i)), (3, .ref ou), (2, .ref m0), (1, .ref d0), (0, .ref b)]) (hI : lx_I D d0 dc dr ou m0 mx my mr mb cA cQ cL (fun q => s.heap.size ≤ q) F H) (hS : va_S (fun q => s.heap.size ≤ q) s.heap H locs) (kk : (∀ (F : Nat → Option Nat) (H : Heap) (locs : List Loc) (ls : Array Slot), lv_has ls 8 [(4, .int (nI i)), (3, .ref ou), (2, .ref m0), (1, .ref d0), (0, .ref b)] → lx_I D d0 dc dr ou m0 mx my mr mb cA cQ cL (fun q => s.heap.size ≤ q) F H → va_S (fun q => s.heap.size ≤ q) s.heap H locs → W p l e room_1 s m #[Value.ref b] below meth c H locs (20 + lx_n F + (i + 8)) (9000 + lx_c F + 6 * (i + 8)) Q (F0 m 1269 ls []))) : W p l e room_1 s m #[Value.ref b] below meth c H locs (20 + lx_n F + i) (9000 + lx_c F + 6 * i) Q (F0 m 1244 ls []) := by
  obtain ⟨hx, hb, hml, hown, ht, hX, hbl, hZ, hT, hK, hL⟩ := C
  obtain ⟨k, R, h0, ai, ar, af, ap, ah, ac, hk, rg, fi, fr, ff, fp, fh, fn, fo, th, sx, sy, fx, fy, fm, fb, oth, hP, hD, hk5, hF, hok, hhv, hrg, hR, hfm, hB, hO⟩ := hI
  have hbA : ¬ s.heap.size ≤ b := Nat.not_le.mpr hbl
  have hA : ∀ q, s.heap.size ≤ q → s.heap.size ≤ q := fun _ h => h
  have zi : i ≤ 4088 := by omega
  have zn := lx_n_le F
  have zc := lx_c_le F
  have hK0 := tw_kK k hk5
  by_cases b1 : (xs (i + 1)).toInt < 0 ∨ 4 < (xs (i + 1)).toInt
  · refine lv_aload_n hx hb dL_law_1244 rfl (lv_at hl 3 rfl) ?_
    refine lv_aload_n hx hb dL_law_1245 rfl (lv_at hl 4 rfl) ?_
    refine lv_iload hx hb dL_law_1246 (lv_at hl 0 rfl) ?_
    refine lv_iconst (v := (nI 1)) hx hb dL_law_1248 (by decide) ?_
    refine nv_iadd hx hb dL_law_1249 ?_
    refine va_sld hx hb hX hbl hbA hS (nv_in (by omega) (by omega)) dL_law_1250 ?_
    rw [nI_clamp (by omega)]
    refine vp_callSi (W.runV (As := [.int (xs (i + 1))]) (rest := []) ⟨hx, hb, hml, hown, ht⟩ (c_X1_countM l D hk5 hok hrg b1) (cwV 1 ht (tb_V kl_L_133 ki_X1_count ks_X1_count kn_X1 kc_X1_count) rfl rfl rfl ⟨rfl, kd_X1_count⟩ ⟨Nat.le_of_ble_eq_true rfl, Nat.le_of_ble_eq_true rfl⟩) (ro_preV _ (hP.sub (ws' := [(d0, .inr (1, [.ref dc, .ref dr, .int (nI k), .ref h0])), (dr, .inl (cA, 12, .inl rg)), (h0, .inr (0, [.int (nI (tw_P k)), .int (nI (tw_D k)), .int (nI (tw_I k)), .int (nI (tw_N k)), .ref ai, .ref ar, .ref af, .ref ap, .ref ah, .ref ac, .int (nI ((tw_fs k).length)), .int hk])), (ai, .inl (cA, tw_P k, .inl fi)), (ar, .inl (cA, tw_P k, .inl fr)), (af, .inl (cA, 14, .inl ff)), (ap, .inl (cA, 2 * tw_P k, .inl fp)), (ah, .inl (cA, 2 * tw_P k, .inl fh)), (ac, .inl (cA, 2 * tw_P k, .inl fn))]) [0, 1, 2, 3, 4, 5, 6, 7, 8] rfl) (hK.sub (tys' := [(cA, .int)]) [0] rfl) (va_recv (ci := 1) (q0 := 0) hK hP rfl rfl)) rfl rfl hl.1 rfl (lv_room (Nat.le_of_ble_eq_true rfl)) dL_law_1251 ⟨by show 20 + lx_n F + i + 0 ≤ 601024; omega, by show 9000 + lx_c F + 6 * i + 0 ≤ 7293033; omega⟩) (fun r hr9 => ?_)
    subst hr9
    refine lv_aload_n hx hb dL_law_1254 rfl (lv_at hl 2 rfl) ?_
    refine lv_aload_n hx hb dL_law_1255 rfl (lv_at hl 4 rfl) ?_
    refine lv_iload hx hb dL_law_1256 (lv_at hl 0 rfl) ?_
    refine lv_iconst (v := (nI 1)) hx hb dL_law_1258 (by decide) ?_
    refine nv_iadd hx hb dL_law_1259 ?_
    refine va_sld hx hb hX hbl hbA hS (nv_in (by omega) (by omega)) dL_law_1260 ?_
    rw [nI_clamp (by omega)]
    have hP := wp_P (List.perm_append_comm_assoc _ _ _) hP
    have hD := wp_D (List.perm_append_comm_assoc _ _ _) hD
    have hP : va_P D vwCl ((lw_M m0 mx my mr mb cA k th sx sy fx fy fm fb) ++ ((lw_U d0 dc dr h0 ai ar af ap ah ac ou cA cL k hk rg fi fr ff fp fh fn fo) ++ ((dc, .inl (cQ, 5, .inr (.inr (.inr (.inr F))))) :: oth))) H := hP
    have hD : va_D (fun q => s.heap.size ≤ q) ((lw_M m0 mx my mr mb cA k th sx sy fx fy fm fb) ++ ((lw_U d0 dc dr h0 ai ar af ap ah ac ou cA cL k hk rg fi fr ff fp fh fn fo) ++ ((dc, .inl (cQ, 5, .inr (.inr (.inr (.inr F))))) :: oth))) := hD
    have hFc := wp_free hD hS hA
    refine va_calli (va_runV (As := [.int (xs (i + 1))]) (rest := [.int (-1)]) ⟨hx, hb, hml, hown, ht⟩ (c_X2_countM l D hk5 hfm hR b1 H.size) (cwV 1 ht (tb_V kl_L_136 ki_X2_count ks_X2_count kn_X2 kc_X2_count) rfl rfl rfl ⟨rfl, kd_X2_count⟩ ⟨Nat.le_of_ble_eq_true rfl, Nat.le_of_ble_eq_true rfl⟩) (wd_preV _ (wp_Pl hP) (hK.sub (tys' := [(cA, .int)]) [0] rfl) (wp_Dl hD) (va_recv (ci := 2) (q0 := 0) hK hP rfl rfl)) rfl rfl hl.1 rfl (lv_room (Nat.le_of_ble_eq_true rfl)) dL_law_1261 ⟨by show 20 + lx_n F + i + 0 ≤ 601024; omega, by show 9000 + lx_c F + 6 * i + 0 ≤ 7293033; omega⟩) hS (fun q _ h => hFc q h) hFc (fun r8 u8 t8 H locs ht8 hvm8 hw8 hB8 hz8 hk8 hS => ?_)
    obtain ⟨hP1, hK1, hD1⟩ := hB8
    rw [ht8] at hP1
    obtain ⟨hP, hD⟩ := wp_join hP hD hk8 hFc hP1 hD1
    have hP : va_P D vwCl ((lw_M m0 mx my mr mb cA k (nI 0) sx sy fx fy fm fb) ++ ((lw_U d0 dc dr h0 ai ar af ap ah ac ou cA cL k hk rg fi fr ff fp fh fn fo) ++ ((dc, .inl (cQ, 5, .inr (.inr (.inr (.inr F))))) :: oth))) H := hP
    have hD : va_D (fun q => s.heap.size ≤ q) ((lw_M m0 mx my mr mb cA k (nI 0) sx sy fx fy fm fb) ++ ((lw_U d0 dc dr h0 ai ar af ap ah ac ou cA cL k hk rg fi fr ff fp fh fn fo) ++ ((dc, .inl (cQ, 5, .inr (.inr (.inr (.inr F))))) :: oth))) := hD
    subst hw8
    refine lv_icmp_eq (tgt := 1269) hx hb dL_law_1264 (by decide) (fun _ => ?_) (fun c9 => absurd rfl c9)
    have hP := wp_P (List.perm_append_comm_assoc _ _ _) hP
    have hD := wp_D (List.perm_append_comm_assoc _ _ _) hD
    have hP : va_P D vwCl ((lw_U d0 dc dr h0 ai ar af ap ah ac ou cA cL k hk rg fi fr ff fp fh fn fo) ++ ((lw_M m0 mx my mr mb cA k (nI 0) sx sy fx fy fm fb) ++ ((dc, .inl (cQ, 5, .inr (.inr (.inr (.inr F))))) :: oth))) H := hP
    have hD : va_D (fun q => s.heap.size ≤ q) ((lw_U d0 dc dr h0 ai ar af ap ah ac ou cA cL k hk rg fi fr ff fp fh fn fo) ++ ((lw_M m0 mx my mr mb cA k (nI 0) sx sy fx fy fm fb) ++ ((dc, .inl (cQ, 5, .inr (.inr (.inr (.inr F))))) :: oth))) := hD
    refine W.widen (k := 20 + lx_n F + (i + 8)) (n := 9000 + lx_c F + 6 * (i + 8)) (by omega) (by omega) ?_
    exact kk F H locs ls (lv_sub hl [0, 1, 2, 3, 4] rfl) (lx_mk hP hD ⟨hk5, hF, hok, hhv, hrg, hR, hfm, hB, hO⟩) hS
  · obtain ⟨w9, hw, e1⟩ := lx_w b1
    refine lv_aload_n hx hb dL_law_1244 rfl (lv_at hl 3 rfl) ?_
    refine lv_aload_n hx hb dL_law_1245 rfl (lv_at hl 4 rfl) ?_
    refine lv_iload hx hb dL_law_1246 (lv_at hl 0 rfl) ?_
    refine lv_iconst (v := (nI 1)) hx hb dL_law_1248 (by decide) ?_
    refine nv_iadd hx hb dL_law_1249 ?_
    refine va_sld hx hb hX hbl hbA hS (nv_in (by omega) (by omega)) dL_law_1250 ?_
    rw [nI_clamp (by omega)]
    rw [e1]
    refine vp_callSi (W.runV (As := [.int (nI w9)]) (rest := []) ⟨hx, hb, hml, hown, ht⟩ (c_X1_count l D hk5 hok hrg hw) (cwV 1 ht (tb_V kl_L_133 ki_X1_count ks_X1_count kn_X1 kc_X1_count) rfl rfl rfl ⟨rfl, kd_X1_count⟩ ⟨Nat.le_of_ble_eq_true rfl, Nat.le_of_ble_eq_true rfl⟩) (ro_preV _ (hP.sub (ws' := [(d0, .inr (1, [.ref dc, .ref dr, .int (nI k), .ref h0])), (dr, .inl (cA, 12, .inl rg)), (h0, .inr (0, [.int (nI (tw_P k)), .int (nI (tw_D k)), .int (nI (tw_I k)), .int (nI (tw_N k)), .ref ai, .ref ar, .ref af, .ref ap, .ref ah, .ref ac, .int (nI ((tw_fs k).length)), .int hk])), (ai, .inl (cA, tw_P k, .inl fi)), (ar, .inl (cA, tw_P k, .inl fr)), (af, .inl (cA, 14, .inl ff)), (ap, .inl (cA, 2 * tw_P k, .inl fp)), (ah, .inl (cA, 2 * tw_P k, .inl fh)), (ac, .inl (cA, 2 * tw_P k, .inl fn))]) [0, 1, 2, 3, 4, 5, 6, 7, 8] rfl) (hK.sub (tys' := [(cA, .int)]) [0] rfl) (va_recv (ci := 1) (q0 := 0) hK hP rfl rfl)) rfl rfl hl.1 rfl (lv_room (Nat.le_of_ble_eq_true rfl)) dL_law_1251 ⟨by show 20 + lx_n F + i + 0 ≤ 601024; omega, by show 9000 + lx_c F + 6 * i + 0 ≤ 7293033; omega⟩) (fun r hr9 => ?_)
    subst hr9
    refine lv_aload_n hx hb dL_law_1254 rfl (lv_at hl 2 rfl) ?_
    refine lv_aload_n hx hb dL_law_1255 rfl (lv_at hl 4 rfl) ?_
    refine lv_iload hx hb dL_law_1256 (lv_at hl 0 rfl) ?_
    refine lv_iconst (v := (nI 1)) hx hb dL_law_1258 (by decide) ?_
    refine nv_iadd hx hb dL_law_1259 ?_
    refine va_sld hx hb hX hbl hbA hS (nv_in (by omega) (by omega)) dL_law_1260 ?_
    rw [nI_clamp (by omega)]
    rw [e1]
    have hP := wp_P (List.perm_append_comm_assoc _ _ _) hP
    have hD := wp_D (List.perm_append_comm_assoc _ _ _) hD
    have hP : va_P D vwCl ((lw_M m0 mx my mr mb cA k th sx sy fx fy fm fb) ++ ((lw_U d0 dc dr h0 ai ar af ap ah ac ou cA cL k hk rg fi fr ff fp fh fn fo) ++ ((dc, .inl (cQ, 5, .inr (.inr (.inr (.inr F))))) :: oth))) H := hP
    have hD : va_D (fun q => s.heap.size ≤ q) ((lw_M m0 mx my mr mb cA k th sx sy fx fy fm fb) ++ ((lw_U d0 dc dr h0 ai ar af ap ah ac ou cA cL k hk rg fi fr ff fp fh fn fo) ++ ((dc, .inl (cQ, 5, .inr (.inr (.inr (.inr F))))) :: oth))) := hD
    have hFc := wp_free hD hS hA
    refine va_calli (va_runV (As := [.int (nI w9)]) (rest := [.int (nI (tw_ct k R w9))]) ⟨hx, hb, hml, hown, ht⟩ (c_X2_count l D hk5 hfm hR hw H.size) (cwV 1 ht (tb_V kl_L_136 ki_X2_count ks_X2_count kn_X2 kc_X2_count) rfl rfl rfl ⟨rfl, kd_X2_count⟩ ⟨Nat.le_of_ble_eq_true rfl, Nat.le_of_ble_eq_true rfl⟩) (wd_preV _ (wp_Pl hP) (hK.sub (tys' := [(cA, .int)]) [0] rfl) (wp_Dl hD) (va_recv (ci := 2) (q0 := 0) hK hP rfl rfl)) rfl rfl hl.1 rfl (lv_room (Nat.le_of_ble_eq_true rfl)) dL_law_1261 ⟨by show 20 + lx_n F + i + 0 ≤ 601024; omega, by show 9000 + lx_c F + 6 * i + 0 ≤ 7293033; omega⟩) hS (fun q _ h => hFc q h) hFc (fun r8 u8 t8 H locs ht8 hvm8 hw8 hB8 hz8 hk8 hS => ?_)
    obtain ⟨hP1, hK1, hD1⟩ := hB8
    rw [ht8] at hP1
    obtain ⟨hP, hD⟩ := wp_join hP hD hk8 hFc hP1 hD1
    have hP : va_P D vwCl ((lw_M m0 mx my mr mb cA k (nI 0) sx sy fx fy fm fb) ++ ((lw_U d0 dc dr h0 ai ar af ap ah ac ou cA cL k hk rg fi fr ff fp fh fn fo) ++ ((dc, .inl (cQ, 5, .inr (.inr (.inr (.inr F))))) :: oth))) H := hP
    have hD : va_D (fun q => s.heap.size ≤ q) ((lw_M m0 mx my mr mb cA k (nI 0) sx sy fx fy fm fb) ++ ((lw_U d0 dc dr h0 ai ar af ap ah ac ou cA cL k hk rg fi fr ff fp fh fn fo) ++ ((dc, .inl (cQ, 5, .inr (.inr (.inr (.inr F))))) :: oth))) := hD
    subst hw8
    refine lv_icmp_eq (tgt := 1269) hx hb dL_law_1264 (by decide) (fun _ => ?_) (fun c9 => absurd rfl c9)
    have hP := wp_P (List.perm_append_comm_assoc _ _ _) hP
    have hD := wp_D (List.perm_append_comm_assoc _ _ _) hD
    have hP : va_P D vwCl ((lw_U d0 dc dr h0 ai ar af ap ah ac ou cA cL k hk rg fi fr ff fp fh fn fo) ++ ((lw_M m0 mx my mr mb cA k (nI 0) sx sy fx fy fm fb) ++ ((dc, .inl (cQ, 5, .inr (.inr (.inr (.inr F))))) :: oth))) H := hP
    have hD : va_D (fun q => s.heap.size ≤ q) ((lw_U d0 dc dr h0 ai ar af ap ah ac ou cA cL k hk rg fi fr ff fp fh fn fo) ++ ((lw_M m0 mx my mr mb cA k (nI 0) sx sy fx fy fm fb) ++ ((dc, .inl (cQ, 5, .inr (.inr (.inr (.inr F))))) :: oth))) := hD
    refine W.widen (k := 20 + lx_n F + (i + 8)) (n := 9000 + lx_c F + 6 * (i + 8)) (by omega) (by omega) ?_
    exact kk F H locs ls (lv_sub hl [0, 1, 2, 3, 4] rfl) (lx_mk hP hD ⟨hk5, hF, hok, hhv, hrg, hR, hfm, hB, hO⟩) hS
set_option maxHeartbeats 8000000 in
set_option maxRecDepth 100000 in
theorem lc_13 {p : Program} {l : Launch} {e : Env} {s : State} {m : MethodId} {below : List Frame} {meth : Method} {c : Code} {Q : State → Prop} {b L : Nat} {xs : Nat → Int32} {gs : Nat → Nat} {tp : Nat} {D : va_G} {d0 dc dr ou m0 mx my mr mb : Nat} {cA cQ cL : ClassId} (C : lx_C p l s m c b L xs gs tp D cA cQ cL) {i : Nat} (hi : i + 8 ≤ L) {F : Nat → Option Nat} {H : Heap} {locs : List Loc} {ls : Array Slot} (hl : lv_has ls 8 [(4, .int (nI i)), (3, .ref ou), (2, .ref m0), (1, .ref d0), (0, .ref b)]) (hI : lx_I D d0 dc dr ou m0 mx my mr mb cA cQ cL (fun q => s.heap.size ≤ q) F H) (hS : va_S (fun q => s.heap.size ≤ q) s.heap H locs) (kk : (∀ (F : Nat → Option Nat) (H : Heap) (locs : List Loc) (ls : Array Slot), lv_has ls 8 [(4, .int (nI i)), (3, .ref ou), (2, .ref m0), (1, .ref d0), (0, .ref b)] → lx_I D d0 dc dr ou m0 mx my mr mb cA cQ cL (fun q => s.heap.size ≤ q) F H → va_S (fun q => s.heap.size ≤ q) s.heap H locs → W p l e room_1 s m #[Value.ref b] below meth c H locs (20 + lx_n F + (i + 8)) (9000 + lx_c F + 6 * (i + 8)) Q (F0 m 1269 ls []))) : W p l e room_1 s m #[Value.ref b] below meth c H locs (20 + lx_n F + i) (9000 + lx_c F + 6 * i) Q (F0 m 1034 ls []) := by
  obtain ⟨hx, hb, hml, hown, ht, hX, hbl, hZ, hT, hK, hL⟩ := C
  obtain ⟨k, R, h0, ai, ar, af, ap, ah, ac, hk, rg, fi, fr, ff, fp, fh, fn, fo, th, sx, sy, fx, fy, fm, fb, oth, hP, hD, hk5, hF, hok, hhv, hrg, hR, hfm, hB, hO⟩ := hI
  have hbA : ¬ s.heap.size ≤ b := Nat.not_le.mpr hbl
  have hA : ∀ q, s.heap.size ≤ q → s.heap.size ≤ q := fun _ h => h
  have zi : i ≤ 4088 := by omega
  have zn := lx_n_le F
  have zc := lx_c_le F
  have hK0 := tw_kK k hk5
  by_cases b1 : md_bad (xs (i + 1))
  · refine lv_aload_n hx hb dL_law_1034 rfl (lv_at hl 3 rfl) ?_
    refine lv_aload_n hx hb dL_law_1035 rfl (lv_at hl 4 rfl) ?_
    refine lv_iload hx hb dL_law_1036 (lv_at hl 0 rfl) ?_
    refine lv_iconst (v := (nI 1)) hx hb dL_law_1038 (by decide) ?_
    refine nv_iadd hx hb dL_law_1039 ?_
    refine va_sld hx hb hX hbl hbA hS (nv_in (by omega) (by omega)) dL_law_1040 ?_
    rw [nI_clamp (by omega)]
    refine lv_aload_n hx hb dL_law_1041 rfl (lv_at hl 4 rfl) ?_
    refine lv_iload hx hb dL_law_1042 (lv_at hl 0 rfl) ?_
    refine lv_iconst (v := (nI 2)) hx hb dL_law_1044 (by decide) ?_
    refine nv_iadd hx hb dL_law_1045 ?_
    refine va_sld hx hb hX hbl hbA hS (nv_in (by omega) (by omega)) dL_law_1046 ?_
    rw [nI_clamp (by omega)]
    refine lv_aload_n hx hb dL_law_1047 rfl (lv_at hl 4 rfl) ?_
    refine lv_iload hx hb dL_law_1048 (lv_at hl 0 rfl) ?_
    refine lv_iconst (v := (nI 3)) hx hb dL_law_1050 (by decide) ?_
    refine nv_iadd hx hb dL_law_1051 ?_
    refine va_sld hx hb hX hbl hbA hS (nv_in (by omega) (by omega)) dL_law_1052 ?_
    rw [nI_clamp (by omega)]
    refine lv_aload_n hx hb dL_law_1053 rfl (lv_at hl 1 rfl) ?_
    refine va_calli (vx_runSW (As := [.ref d0, .int (xs (i + 1)), .int (xs (i + 2)), .int (xs (i + 3)), .ref ou]) (rest := []) ⟨hx, hb, hml, hown, ht⟩ (c_L_signR l gs b1) (vx_cwSW 5 ht (tb_S kl_L_125 kt_L_sign kn_L kc_L_sign) rfl rfl rfl kd_L_sign ⟨Nat.le_of_ble_eq_true rfl, Nat.le_of_ble_eq_true rfl⟩) (nx_preSR _ hZ hS (va_recv (ci := 1) (q0 := 0) hK hP rfl rfl)) rfl rfl hl.1 rfl (lv_room (Nat.le_of_ble_eq_true rfl)) dL_law_1054 ⟨by show 20 + lx_n F + i + 1 ≤ 601024; omega, by show 9000 + lx_c F + 6 * i + 6 ≤ 7293033; omega⟩) hS (fun _ _ h => h.elim) (fun _ h => h.elim) (fun r9 u9 t9 H locs ht9 hvm9 hw9 hB9 hz9 hk9 hS => ?_)
    have hP := lx_kp hP hk9
    subst hw9
    have hP : va_P D vwCl ((lw_U d0 dc dr h0 ai ar af ap ah ac ou cA cL k hk rg fi fr ff fp fh fn fo) ++ ((lw_M m0 mx my mr mb cA k th sx sy fx fy fm fb) ++ ((dc, .inl (cQ, 5, .inr (.inr (.inr (.inr F))))) :: oth))) H := hP
    have hD : va_D (fun q => s.heap.size ≤ q) ((lw_U d0 dc dr h0 ai ar af ap ah ac ou cA cL k hk rg fi fr ff fp fh fn fo) ++ ((lw_M m0 mx my mr mb cA k th sx sy fx fy fm fb) ++ ((dc, .inl (cQ, 5, .inr (.inr (.inr (.inr F))))) :: oth))) := hD
    refine lv_istore hx hb dL_law_1057 hl (by decide) rfl (fun ls hl => ?_)
    have hl : lv_has ls 8 [(5, .int (nI 1)), (4, .int (nI i)), (3, .ref ou), (2, .ref m0), (1, .ref d0), (0, .ref b)] := hl
    refine lv_aload_n hx hb dL_law_1059 rfl (lv_at hl 3 rfl) ?_
    refine lv_aload_n hx hb dL_law_1060 rfl (lv_at hl 5 rfl) ?_
    refine lv_iload hx hb dL_law_1061 (lv_at hl 1 rfl) ?_
    refine lv_iconst (v := (nI 1)) hx hb dL_law_1063 (by decide) ?_
    refine nv_iadd hx hb dL_law_1064 ?_
    refine va_sld hx hb hX hbl hbA hS (nv_in (by omega) (by omega)) dL_law_1065 ?_
    rw [nI_clamp (by omega)]
    refine lv_aload_n hx hb dL_law_1066 rfl (lv_at hl 5 rfl) ?_
    refine lv_iload hx hb dL_law_1067 (lv_at hl 1 rfl) ?_
    refine lv_iconst (v := (nI 2)) hx hb dL_law_1069 (by decide) ?_
    refine nv_iadd hx hb dL_law_1070 ?_
    refine va_sld hx hb hX hbl hbA hS (nv_in (by omega) (by omega)) dL_law_1071 ?_
    rw [nI_clamp (by omega)]
    refine lv_aload_n hx hb dL_law_1072 rfl (lv_at hl 5 rfl) ?_
    refine lv_iload hx hb dL_law_1073 (lv_at hl 1 rfl) ?_
    refine lv_iconst (v := (nI 3)) hx hb dL_law_1075 (by decide) ?_
    refine nv_iadd hx hb dL_law_1076 ?_
    refine va_sld hx hb hX hbl hbA hS (nv_in (by omega) (by omega)) dL_law_1077 ?_
    rw [nI_clamp (by omega)]
    have hP := wp_P (List.perm_append_comm_assoc _ _ _) hP
    have hD := wp_D (List.perm_append_comm_assoc _ _ _) hD
    have hP : va_P D vwCl ((lw_M m0 mx my mr mb cA k th sx sy fx fy fm fb) ++ ((lw_U d0 dc dr h0 ai ar af ap ah ac ou cA cL k hk rg fi fr ff fp fh fn fo) ++ ((dc, .inl (cQ, 5, .inr (.inr (.inr (.inr F))))) :: oth))) H := hP
    have hD : va_D (fun q => s.heap.size ≤ q) ((lw_M m0 mx my mr mb cA k th sx sy fx fy fm fb) ++ ((lw_U d0 dc dr h0 ai ar af ap ah ac ou cA cL k hk rg fi fr ff fp fh fn fo) ++ ((dc, .inl (cQ, 5, .inr (.inr (.inr (.inr F))))) :: oth))) := hD
    have hFc := wp_free hD hS hA
    refine va_calll (va_runV (As := [.int (xs (i + 1)), .int (xs (i + 2)), .int (xs (i + 3))]) (rest := []) ⟨hx, hb, hml, hown, ht⟩ (c_X2_signR l D hk5 b1 H.size) (cwV 3 ht (tb_V kl_L_128 ki_X2_sign ks_X2_sign kn_X2 kc_X2_sign) rfl rfl rfl ⟨rfl, kd_X2_sign⟩ ⟨Nat.le_of_ble_eq_true rfl, Nat.le_of_ble_eq_true rfl⟩) (wd_preV _ (wp_Pl hP) (hK.sub (tys' := [(cA, .int)]) [0] rfl) (wp_Dl hD) (va_recv (ci := 2) (q0 := 0) hK hP rfl rfl)) rfl rfl hl.1 rfl (lv_room (Nat.le_of_ble_eq_true rfl)) dL_law_1078 ⟨by show 20 + lx_n F + i + 1 + 0 ≤ 601024; omega, by show 9000 + lx_c F + 6 * i + 6 + 0 ≤ 7293033; omega⟩) hS (fun q _ h => hFc q h) hFc (fun r8 u8 t8 H locs ht8 hvm8 hw8 hB8 hz8 hk8 hS => ?_)
    obtain ⟨hP1, hK1, hD1⟩ := hB8
    rw [ht8] at hP1
    obtain ⟨hP, hD⟩ := wp_join hP hD hk8 hFc hP1 hD1
    have hP : va_P D vwCl ((lw_M m0 mx my mr mb cA k (nI 1) sx sy fx fy fm fb) ++ ((lw_U d0 dc dr h0 ai ar af ap ah ac ou cA cL k hk rg fi fr ff fp fh fn fo) ++ ((dc, .inl (cQ, 5, .inr (.inr (.inr (.inr F))))) :: oth))) H := hP
    have hD : va_D (fun q => s.heap.size ≤ q) ((lw_M m0 mx my mr mb cA k (nI 1) sx sy fx fy fm fb) ++ ((lw_U d0 dc dr h0 ai ar af ap ah ac ou cA cL k hk rg fi fr ff fp fh fn fo) ++ ((dc, .inl (cQ, 5, .inr (.inr (.inr (.inr F))))) :: oth))) := hD
    subst hw8
    refine lv_lstore hx hb dL_law_1081 hl (by decide) rfl (fun ls hl => ?_)
    have hl : lv_has ls 8 [(6, .long (lN 0)), (5, .int (nI 1)), (4, .int (nI i)), (3, .ref ou), (2, .ref m0), (1, .ref d0), (0, .ref b)] := hl
    refine lv_aload_n hx hb dL_law_1083 rfl (lv_at hl 4 rfl) ?_
    refine vp_callSi (W.runV (As := []) (rest := []) ⟨hx, hb, hml, hown, ht⟩ (c_X2_thrown l D hk5) (cwV 0 ht (tb_V kl_L_74 ki_X2_thrown ks_X2_thrown kn_X2 kc_X2_thrown) rfl rfl rfl ⟨rfl, kd_X2_thrown⟩ ⟨Nat.le_of_ble_eq_true rfl, Nat.le_of_ble_eq_true rfl⟩) (ro_preV _ ((wp_Pl hP).sub (ws' := [(m0, .inr (2, [.int (nI 1), .int (nI k), .int (nI (tw_P k)), .int (nI (tw_D k)), .int (nI (tw_I k)), .ref mx, .ref my, .ref mr, .ref mb, .int sx, .int sy]))]) [0] rfl) (hK.sub (tys' := []) [] rfl) (va_recv (ci := 2) (q0 := 0) hK hP rfl rfl)) rfl rfl hl.1 rfl (lv_room (Nat.le_of_ble_eq_true rfl)) dL_law_1084 ⟨by show 20 + lx_n F + i + 1 + 0 + 0 ≤ 601024; omega, by show 9000 + lx_c F + 6 * i + 6 + 0 + 0 ≤ 7293033; omega⟩) (fun r hr9 => ?_)
    subst hr9
    refine lv_iload hx hb dL_law_1087 (lv_at hl 1 rfl) ?_
    refine lv_icmp_eq (tgt := 1094) hx hb dL_law_1089 (by decide) (fun _ => ?_) (fun c9 => absurd rfl c9)
    refine lv_iload hx hb dL_law_1094 (lv_at hl 1 rfl) ?_
    refine lv_if_ne (tgt := 1110) hx hb dL_law_1096 (by decide) (fun _ => ?_) (fun c9 => absurd c9 (by decide))
    refine lv_goto (tgt := 1269) hx hb dL_law_1110 (by decide) ?_
    have hP := wp_P (List.perm_append_comm_assoc _ _ _) hP
    have hD := wp_D (List.perm_append_comm_assoc _ _ _) hD
    have hP : va_P D vwCl ((lw_U d0 dc dr h0 ai ar af ap ah ac ou cA cL k hk rg fi fr ff fp fh fn fo) ++ ((lw_M m0 mx my mr mb cA k (nI 1) sx sy fx fy fm fb) ++ ((dc, .inl (cQ, 5, .inr (.inr (.inr (.inr F))))) :: oth))) H := hP
    have hD : va_D (fun q => s.heap.size ≤ q) ((lw_U d0 dc dr h0 ai ar af ap ah ac ou cA cL k hk rg fi fr ff fp fh fn fo) ++ ((lw_M m0 mx my mr mb cA k (nI 1) sx sy fx fy fm fb) ++ ((dc, .inl (cQ, 5, .inr (.inr (.inr (.inr F))))) :: oth))) := hD
    refine W.widen (k := 20 + lx_n F + (i + 8)) (n := 9000 + lx_c F + 6 * (i + 8)) (by omega) (by omega) ?_
    exact kk F H locs ls (lv_sub hl [2, 3, 4, 5, 6] rfl) (lx_mk hP hD ⟨hk5, hF, hok, hhv, hrg, hR, hfm, hB, hO⟩) hS
  · obtain ⟨j, hj, e1⟩ := md_good b1
    by_cases b2 : md_nb (xs (i + 2)) ∨ md_nb (xs (i + 3))
    · refine lv_aload_n hx hb dL_law_1034 rfl (lv_at hl 3 rfl) ?_
      refine lv_aload_n hx hb dL_law_1035 rfl (lv_at hl 4 rfl) ?_
      refine lv_iload hx hb dL_law_1036 (lv_at hl 0 rfl) ?_
      refine lv_iconst (v := (nI 1)) hx hb dL_law_1038 (by decide) ?_
      refine nv_iadd hx hb dL_law_1039 ?_
      refine va_sld hx hb hX hbl hbA hS (nv_in (by omega) (by omega)) dL_law_1040 ?_
      rw [nI_clamp (by omega)]
      rw [e1]
      refine lv_aload_n hx hb dL_law_1041 rfl (lv_at hl 4 rfl) ?_
      refine lv_iload hx hb dL_law_1042 (lv_at hl 0 rfl) ?_
      refine lv_iconst (v := (nI 2)) hx hb dL_law_1044 (by decide) ?_
      refine nv_iadd hx hb dL_law_1045 ?_
      refine va_sld hx hb hX hbl hbA hS (nv_in (by omega) (by omega)) dL_law_1046 ?_
      rw [nI_clamp (by omega)]
      refine lv_aload_n hx hb dL_law_1047 rfl (lv_at hl 4 rfl) ?_
      refine lv_iload hx hb dL_law_1048 (lv_at hl 0 rfl) ?_
      refine lv_iconst (v := (nI 3)) hx hb dL_law_1050 (by decide) ?_
      refine nv_iadd hx hb dL_law_1051 ?_
      refine va_sld hx hb hX hbl hbA hS (nv_in (by omega) (by omega)) dL_law_1052 ?_
      rw [nI_clamp (by omega)]
      refine lv_aload_n hx hb dL_law_1053 rfl (lv_at hl 1 rfl) ?_
      refine va_calli (vx_runSW (As := [.ref d0, .int (nI j), .int (xs (i + 2)), .int (xs (i + 3)), .ref ou]) (rest := []) ⟨hx, hb, hml, hown, ht⟩ (c_L_signN l gs hj b2) (vx_cwSW 5 ht (tb_S kl_L_125 kt_L_sign kn_L kc_L_sign) rfl rfl rfl kd_L_sign ⟨Nat.le_of_ble_eq_true rfl, Nat.le_of_ble_eq_true rfl⟩) (nx_preSR _ hZ hS (va_recv (ci := 1) (q0 := 0) hK hP rfl rfl)) rfl rfl hl.1 rfl (lv_room (Nat.le_of_ble_eq_true rfl)) dL_law_1054 ⟨by show 20 + lx_n F + i + 1 ≤ 601024; omega, by show 9000 + lx_c F + 6 * i + 6 ≤ 7293033; omega⟩) hS (fun _ _ h => h.elim) (fun _ h => h.elim) (fun r9 u9 t9 H locs ht9 hvm9 hw9 hB9 hz9 hk9 hS => ?_)
      have hP := lx_kp hP hk9
      subst hw9
      have hP : va_P D vwCl ((lw_U d0 dc dr h0 ai ar af ap ah ac ou cA cL k hk rg fi fr ff fp fh fn fo) ++ ((lw_M m0 mx my mr mb cA k th sx sy fx fy fm fb) ++ ((dc, .inl (cQ, 5, .inr (.inr (.inr (.inr F))))) :: oth))) H := hP
      have hD : va_D (fun q => s.heap.size ≤ q) ((lw_U d0 dc dr h0 ai ar af ap ah ac ou cA cL k hk rg fi fr ff fp fh fn fo) ++ ((lw_M m0 mx my mr mb cA k th sx sy fx fy fm fb) ++ ((dc, .inl (cQ, 5, .inr (.inr (.inr (.inr F))))) :: oth))) := hD
      refine lv_istore hx hb dL_law_1057 hl (by decide) rfl (fun ls hl => ?_)
      have hl : lv_has ls 8 [(5, .int (nI 2)), (4, .int (nI i)), (3, .ref ou), (2, .ref m0), (1, .ref d0), (0, .ref b)] := hl
      refine lv_aload_n hx hb dL_law_1059 rfl (lv_at hl 3 rfl) ?_
      refine lv_aload_n hx hb dL_law_1060 rfl (lv_at hl 5 rfl) ?_
      refine lv_iload hx hb dL_law_1061 (lv_at hl 1 rfl) ?_
      refine lv_iconst (v := (nI 1)) hx hb dL_law_1063 (by decide) ?_
      refine nv_iadd hx hb dL_law_1064 ?_
      refine va_sld hx hb hX hbl hbA hS (nv_in (by omega) (by omega)) dL_law_1065 ?_
      rw [nI_clamp (by omega)]
      rw [e1]
      refine lv_aload_n hx hb dL_law_1066 rfl (lv_at hl 5 rfl) ?_
      refine lv_iload hx hb dL_law_1067 (lv_at hl 1 rfl) ?_
      refine lv_iconst (v := (nI 2)) hx hb dL_law_1069 (by decide) ?_
      refine nv_iadd hx hb dL_law_1070 ?_
      refine va_sld hx hb hX hbl hbA hS (nv_in (by omega) (by omega)) dL_law_1071 ?_
      rw [nI_clamp (by omega)]
      refine lv_aload_n hx hb dL_law_1072 rfl (lv_at hl 5 rfl) ?_
      refine lv_iload hx hb dL_law_1073 (lv_at hl 1 rfl) ?_
      refine lv_iconst (v := (nI 3)) hx hb dL_law_1075 (by decide) ?_
      refine nv_iadd hx hb dL_law_1076 ?_
      refine va_sld hx hb hX hbl hbA hS (nv_in (by omega) (by omega)) dL_law_1077 ?_
      rw [nI_clamp (by omega)]
      have hP := wp_P (List.perm_append_comm_assoc _ _ _) hP
      have hD := wp_D (List.perm_append_comm_assoc _ _ _) hD
      have hP : va_P D vwCl ((lw_M m0 mx my mr mb cA k th sx sy fx fy fm fb) ++ ((lw_U d0 dc dr h0 ai ar af ap ah ac ou cA cL k hk rg fi fr ff fp fh fn fo) ++ ((dc, .inl (cQ, 5, .inr (.inr (.inr (.inr F))))) :: oth))) H := hP
      have hD : va_D (fun q => s.heap.size ≤ q) ((lw_M m0 mx my mr mb cA k th sx sy fx fy fm fb) ++ ((lw_U d0 dc dr h0 ai ar af ap ah ac ou cA cL k hk rg fi fr ff fp fh fn fo) ++ ((dc, .inl (cQ, 5, .inr (.inr (.inr (.inr F))))) :: oth))) := hD
      have hFc := wp_free hD hS hA
      refine va_calll (va_runV (As := [.int (nI j), .int (xs (i + 2)), .int (xs (i + 3))]) (rest := []) ⟨hx, hb, hml, hown, ht⟩ (c_X2_signN l D hk5 hj b2 H.size) (cwV 3 ht (tb_V kl_L_128 ki_X2_sign ks_X2_sign kn_X2 kc_X2_sign) rfl rfl rfl ⟨rfl, kd_X2_sign⟩ ⟨Nat.le_of_ble_eq_true rfl, Nat.le_of_ble_eq_true rfl⟩) (wd_preV _ (wp_Pl hP) (hK.sub (tys' := [(cA, .int)]) [0] rfl) (wp_Dl hD) (va_recv (ci := 2) (q0 := 0) hK hP rfl rfl)) rfl rfl hl.1 rfl (lv_room (Nat.le_of_ble_eq_true rfl)) dL_law_1078 ⟨by show 20 + lx_n F + i + 1 + 0 ≤ 601024; omega, by show 9000 + lx_c F + 6 * i + 6 + 0 ≤ 7293033; omega⟩) hS (fun q _ h => hFc q h) hFc (fun r8 u8 t8 H locs ht8 hvm8 hw8 hB8 hz8 hk8 hS => ?_)
      obtain ⟨hP1, hK1, hD1⟩ := hB8
      rw [ht8] at hP1
      obtain ⟨hP, hD⟩ := wp_join hP hD hk8 hFc hP1 hD1
      have hP : va_P D vwCl ((lw_M m0 mx my mr mb cA k (nI 2) sx sy fx fy fm fb) ++ ((lw_U d0 dc dr h0 ai ar af ap ah ac ou cA cL k hk rg fi fr ff fp fh fn fo) ++ ((dc, .inl (cQ, 5, .inr (.inr (.inr (.inr F))))) :: oth))) H := hP
      have hD : va_D (fun q => s.heap.size ≤ q) ((lw_M m0 mx my mr mb cA k (nI 2) sx sy fx fy fm fb) ++ ((lw_U d0 dc dr h0 ai ar af ap ah ac ou cA cL k hk rg fi fr ff fp fh fn fo) ++ ((dc, .inl (cQ, 5, .inr (.inr (.inr (.inr F))))) :: oth))) := hD
      subst hw8
      refine lv_lstore hx hb dL_law_1081 hl (by decide) rfl (fun ls hl => ?_)
      have hl : lv_has ls 8 [(6, .long (lN 0)), (5, .int (nI 2)), (4, .int (nI i)), (3, .ref ou), (2, .ref m0), (1, .ref d0), (0, .ref b)] := hl
      refine lv_aload_n hx hb dL_law_1083 rfl (lv_at hl 4 rfl) ?_
      refine vp_callSi (W.runV (As := []) (rest := []) ⟨hx, hb, hml, hown, ht⟩ (c_X2_thrown l D hk5) (cwV 0 ht (tb_V kl_L_74 ki_X2_thrown ks_X2_thrown kn_X2 kc_X2_thrown) rfl rfl rfl ⟨rfl, kd_X2_thrown⟩ ⟨Nat.le_of_ble_eq_true rfl, Nat.le_of_ble_eq_true rfl⟩) (ro_preV _ ((wp_Pl hP).sub (ws' := [(m0, .inr (2, [.int (nI 2), .int (nI k), .int (nI (tw_P k)), .int (nI (tw_D k)), .int (nI (tw_I k)), .ref mx, .ref my, .ref mr, .ref mb, .int sx, .int sy]))]) [0] rfl) (hK.sub (tys' := []) [] rfl) (va_recv (ci := 2) (q0 := 0) hK hP rfl rfl)) rfl rfl hl.1 rfl (lv_room (Nat.le_of_ble_eq_true rfl)) dL_law_1084 ⟨by show 20 + lx_n F + i + 1 + 0 + 0 ≤ 601024; omega, by show 9000 + lx_c F + 6 * i + 6 + 0 + 0 ≤ 7293033; omega⟩) (fun r hr9 => ?_)
      subst hr9
      refine lv_iload hx hb dL_law_1087 (lv_at hl 1 rfl) ?_
      refine lv_icmp_eq (tgt := 1094) hx hb dL_law_1089 (by decide) (fun _ => ?_) (fun c9 => absurd rfl c9)
      refine lv_iload hx hb dL_law_1094 (lv_at hl 1 rfl) ?_
      refine lv_if_ne (tgt := 1110) hx hb dL_law_1096 (by decide) (fun _ => ?_) (fun c9 => absurd c9 (by decide))
      refine lv_goto (tgt := 1269) hx hb dL_law_1110 (by decide) ?_
      have hP := wp_P (List.perm_append_comm_assoc _ _ _) hP
      have hD := wp_D (List.perm_append_comm_assoc _ _ _) hD
      have hP : va_P D vwCl ((lw_U d0 dc dr h0 ai ar af ap ah ac ou cA cL k hk rg fi fr ff fp fh fn fo) ++ ((lw_M m0 mx my mr mb cA k (nI 2) sx sy fx fy fm fb) ++ ((dc, .inl (cQ, 5, .inr (.inr (.inr (.inr F))))) :: oth))) H := hP
      have hD : va_D (fun q => s.heap.size ≤ q) ((lw_U d0 dc dr h0 ai ar af ap ah ac ou cA cL k hk rg fi fr ff fp fh fn fo) ++ ((lw_M m0 mx my mr mb cA k (nI 2) sx sy fx fy fm fb) ++ ((dc, .inl (cQ, 5, .inr (.inr (.inr (.inr F))))) :: oth))) := hD
      refine W.widen (k := 20 + lx_n F + (i + 8)) (n := 9000 + lx_c F + 6 * (i + 8)) (by omega) (by omega) ?_
      exact kk F H locs ls (lv_sub hl [2, 3, 4, 5, 6] rfl) (lx_mk hP hD ⟨hk5, hF, hok, hhv, hrg, hR, hfm, hB, hO⟩) hS
    · obtain ⟨key, hkey, e2⟩ := md_gn (fun q => b2 (Or.inl q))
      obtain ⟨msg, hmsg, e3⟩ := md_gn (fun q => b2 (Or.inr q))
      by_cases b3 : R j = (0, 1)
      · refine lv_aload_n hx hb dL_law_1034 rfl (lv_at hl 3 rfl) ?_
        refine lv_aload_n hx hb dL_law_1035 rfl (lv_at hl 4 rfl) ?_
        refine lv_iload hx hb dL_law_1036 (lv_at hl 0 rfl) ?_
        refine lv_iconst (v := (nI 1)) hx hb dL_law_1038 (by decide) ?_
        refine nv_iadd hx hb dL_law_1039 ?_
        refine va_sld hx hb hX hbl hbA hS (nv_in (by omega) (by omega)) dL_law_1040 ?_
        rw [nI_clamp (by omega)]
        rw [e1]
        refine lv_aload_n hx hb dL_law_1041 rfl (lv_at hl 4 rfl) ?_
        refine lv_iload hx hb dL_law_1042 (lv_at hl 0 rfl) ?_
        refine lv_iconst (v := (nI 2)) hx hb dL_law_1044 (by decide) ?_
        refine nv_iadd hx hb dL_law_1045 ?_
        refine va_sld hx hb hX hbl hbA hS (nv_in (by omega) (by omega)) dL_law_1046 ?_
        rw [nI_clamp (by omega)]
        rw [e2]
        refine lv_aload_n hx hb dL_law_1047 rfl (lv_at hl 4 rfl) ?_
        refine lv_iload hx hb dL_law_1048 (lv_at hl 0 rfl) ?_
        refine lv_iconst (v := (nI 3)) hx hb dL_law_1050 (by decide) ?_
        refine nv_iadd hx hb dL_law_1051 ?_
        refine va_sld hx hb hX hbl hbA hS (nv_in (by omega) (by omega)) dL_law_1052 ?_
        rw [nI_clamp (by omega)]
        rw [e3]
        refine lv_aload_n hx hb dL_law_1053 rfl (lv_at hl 1 rfl) ?_
        refine va_calli (vx_runSW (As := [.ref d0, .int (nI j), .int (nI key), .int (nI msg), .ref ou]) (rest := []) ⟨hx, hb, hml, hown, ht⟩ (c_L_signZ l gs D hk5 hok hrg hj hkey hmsg b3) (vx_cwSW 5 ht (tb_S kl_L_125 kt_L_sign kn_L kc_L_sign) rfl rfl rfl kd_L_sign ⟨Nat.le_of_ble_eq_true rfl, Nat.le_of_ble_eq_true rfl⟩) (nx_preSW _ hZ hS (hP.sub (ws' := [(d0, .inr (1, [.ref dc, .ref dr, .int (nI k), .ref h0])), (dr, .inl (cA, 12, .inl rg)), (h0, .inr (0, [.int (nI (tw_P k)), .int (nI (tw_D k)), .int (nI (tw_I k)), .int (nI (tw_N k)), .ref ai, .ref ar, .ref af, .ref ap, .ref ah, .ref ac, .int (nI ((tw_fs k).length)), .int hk])), (ai, .inl (cA, tw_P k, .inl fi)), (ar, .inl (cA, tw_P k, .inl fr)), (af, .inl (cA, 14, .inl ff)), (ap, .inl (cA, 2 * tw_P k, .inl fp)), (ah, .inl (cA, 2 * tw_P k, .inl fh)), (ac, .inl (cA, 2 * tw_P k, .inl fn))]) [0, 1, 2, 3, 4, 5, 6, 7, 8] rfl) (hK.sub (tys' := [(cA, .int)]) [0] rfl)) rfl rfl hl.1 rfl (lv_room (Nat.le_of_ble_eq_true rfl)) dL_law_1054 ⟨by show 20 + lx_n F + i + 1 ≤ 601024; omega, by show 9000 + lx_c F + 6 * i + 6 ≤ 7293033; omega⟩) hS (fun _ _ h => h.elim) (fun _ h => h.elim) (fun r9 u9 t9 H locs ht9 hvm9 hw9 hB9 hz9 hk9 hS => ?_)
        have hP := lx_kp hP hk9
        subst hw9
        have hP : va_P D vwCl ((lw_U d0 dc dr h0 ai ar af ap ah ac ou cA cL k hk rg fi fr ff fp fh fn fo) ++ ((lw_M m0 mx my mr mb cA k th sx sy fx fy fm fb) ++ ((dc, .inl (cQ, 5, .inr (.inr (.inr (.inr F))))) :: oth))) H := hP
        have hD : va_D (fun q => s.heap.size ≤ q) ((lw_U d0 dc dr h0 ai ar af ap ah ac ou cA cL k hk rg fi fr ff fp fh fn fo) ++ ((lw_M m0 mx my mr mb cA k th sx sy fx fy fm fb) ++ ((dc, .inl (cQ, 5, .inr (.inr (.inr (.inr F))))) :: oth))) := hD
        refine lv_istore hx hb dL_law_1057 hl (by decide) rfl (fun ls hl => ?_)
        have hl : lv_has ls 8 [(5, .int (nI 3)), (4, .int (nI i)), (3, .ref ou), (2, .ref m0), (1, .ref d0), (0, .ref b)] := hl
        refine lv_aload_n hx hb dL_law_1059 rfl (lv_at hl 3 rfl) ?_
        refine lv_aload_n hx hb dL_law_1060 rfl (lv_at hl 5 rfl) ?_
        refine lv_iload hx hb dL_law_1061 (lv_at hl 1 rfl) ?_
        refine lv_iconst (v := (nI 1)) hx hb dL_law_1063 (by decide) ?_
        refine nv_iadd hx hb dL_law_1064 ?_
        refine va_sld hx hb hX hbl hbA hS (nv_in (by omega) (by omega)) dL_law_1065 ?_
        rw [nI_clamp (by omega)]
        rw [e1]
        refine lv_aload_n hx hb dL_law_1066 rfl (lv_at hl 5 rfl) ?_
        refine lv_iload hx hb dL_law_1067 (lv_at hl 1 rfl) ?_
        refine lv_iconst (v := (nI 2)) hx hb dL_law_1069 (by decide) ?_
        refine nv_iadd hx hb dL_law_1070 ?_
        refine va_sld hx hb hX hbl hbA hS (nv_in (by omega) (by omega)) dL_law_1071 ?_
        rw [nI_clamp (by omega)]
        rw [e2]
        refine lv_aload_n hx hb dL_law_1072 rfl (lv_at hl 5 rfl) ?_
        refine lv_iload hx hb dL_law_1073 (lv_at hl 1 rfl) ?_
        refine lv_iconst (v := (nI 3)) hx hb dL_law_1075 (by decide) ?_
        refine nv_iadd hx hb dL_law_1076 ?_
        refine va_sld hx hb hX hbl hbA hS (nv_in (by omega) (by omega)) dL_law_1077 ?_
        rw [nI_clamp (by omega)]
        rw [e3]
        have hP := wp_P (List.perm_append_comm_assoc _ _ _) hP
        have hD := wp_D (List.perm_append_comm_assoc _ _ _) hD
        have hP : va_P D vwCl ((lw_M m0 mx my mr mb cA k th sx sy fx fy fm fb) ++ ((lw_U d0 dc dr h0 ai ar af ap ah ac ou cA cL k hk rg fi fr ff fp fh fn fo) ++ ((dc, .inl (cQ, 5, .inr (.inr (.inr (.inr F))))) :: oth))) H := hP
        have hD : va_D (fun q => s.heap.size ≤ q) ((lw_M m0 mx my mr mb cA k th sx sy fx fy fm fb) ++ ((lw_U d0 dc dr h0 ai ar af ap ah ac ou cA cL k hk rg fi fr ff fp fh fn fo) ++ ((dc, .inl (cQ, 5, .inr (.inr (.inr (.inr F))))) :: oth))) := hD
        have hFc := wp_free hD hS hA
        refine va_calll (va_runV (As := [.int (nI j), .int (nI key), .int (nI msg)]) (rest := []) ⟨hx, hb, hml, hown, ht⟩ (c_X2_signZ l D hk5 hfm hR hj hkey hmsg b3 H.size) (cwV 3 ht (tb_V kl_L_128 ki_X2_sign ks_X2_sign kn_X2 kc_X2_sign) rfl rfl rfl ⟨rfl, kd_X2_sign⟩ ⟨Nat.le_of_ble_eq_true rfl, Nat.le_of_ble_eq_true rfl⟩) (wd_preV _ (wp_Pl hP) (hK.sub (tys' := [(cA, .int)]) [0] rfl) (wp_Dl hD) (va_recv (ci := 2) (q0 := 0) hK hP rfl rfl)) rfl rfl hl.1 rfl (lv_room (Nat.le_of_ble_eq_true rfl)) dL_law_1078 ⟨by show 20 + lx_n F + i + 1 + 0 ≤ 601024; omega, by show 9000 + lx_c F + 6 * i + 6 + 0 ≤ 7293033; omega⟩) hS (fun q _ h => hFc q h) hFc (fun r8 u8 t8 H locs ht8 hvm8 hw8 hB8 hz8 hk8 hS => ?_)
        obtain ⟨hP1, hK1, hD1⟩ := hB8
        rw [ht8] at hP1
        obtain ⟨hP, hD⟩ := wp_join hP hD hk8 hFc hP1 hD1
        have hP : va_P D vwCl ((lw_M m0 mx my mr mb cA k (nI 3) sx sy fx fy fm fb) ++ ((lw_U d0 dc dr h0 ai ar af ap ah ac ou cA cL k hk rg fi fr ff fp fh fn fo) ++ ((dc, .inl (cQ, 5, .inr (.inr (.inr (.inr F))))) :: oth))) H := hP
        have hD : va_D (fun q => s.heap.size ≤ q) ((lw_M m0 mx my mr mb cA k (nI 3) sx sy fx fy fm fb) ++ ((lw_U d0 dc dr h0 ai ar af ap ah ac ou cA cL k hk rg fi fr ff fp fh fn fo) ++ ((dc, .inl (cQ, 5, .inr (.inr (.inr (.inr F))))) :: oth))) := hD
        subst hw8
        refine lv_lstore hx hb dL_law_1081 hl (by decide) rfl (fun ls hl => ?_)
        have hl : lv_has ls 8 [(6, .long (lN 0)), (5, .int (nI 3)), (4, .int (nI i)), (3, .ref ou), (2, .ref m0), (1, .ref d0), (0, .ref b)] := hl
        refine lv_aload_n hx hb dL_law_1083 rfl (lv_at hl 4 rfl) ?_
        refine vp_callSi (W.runV (As := []) (rest := []) ⟨hx, hb, hml, hown, ht⟩ (c_X2_thrown l D hk5) (cwV 0 ht (tb_V kl_L_74 ki_X2_thrown ks_X2_thrown kn_X2 kc_X2_thrown) rfl rfl rfl ⟨rfl, kd_X2_thrown⟩ ⟨Nat.le_of_ble_eq_true rfl, Nat.le_of_ble_eq_true rfl⟩) (ro_preV _ ((wp_Pl hP).sub (ws' := [(m0, .inr (2, [.int (nI 3), .int (nI k), .int (nI (tw_P k)), .int (nI (tw_D k)), .int (nI (tw_I k)), .ref mx, .ref my, .ref mr, .ref mb, .int sx, .int sy]))]) [0] rfl) (hK.sub (tys' := []) [] rfl) (va_recv (ci := 2) (q0 := 0) hK hP rfl rfl)) rfl rfl hl.1 rfl (lv_room (Nat.le_of_ble_eq_true rfl)) dL_law_1084 ⟨by show 20 + lx_n F + i + 1 + 0 + 0 ≤ 601024; omega, by show 9000 + lx_c F + 6 * i + 6 + 0 + 0 ≤ 7293033; omega⟩) (fun r hr9 => ?_)
        subst hr9
        refine lv_iload hx hb dL_law_1087 (lv_at hl 1 rfl) ?_
        refine lv_icmp_eq (tgt := 1094) hx hb dL_law_1089 (by decide) (fun _ => ?_) (fun c9 => absurd rfl c9)
        refine lv_iload hx hb dL_law_1094 (lv_at hl 1 rfl) ?_
        refine lv_if_ne (tgt := 1110) hx hb dL_law_1096 (by decide) (fun _ => ?_) (fun c9 => absurd c9 (by decide))
        refine lv_goto (tgt := 1269) hx hb dL_law_1110 (by decide) ?_
        have hP := wp_P (List.perm_append_comm_assoc _ _ _) hP
        have hD := wp_D (List.perm_append_comm_assoc _ _ _) hD
        have hP : va_P D vwCl ((lw_U d0 dc dr h0 ai ar af ap ah ac ou cA cL k hk rg fi fr ff fp fh fn fo) ++ ((lw_M m0 mx my mr mb cA k (nI 3) sx sy fx fy fm fb) ++ ((dc, .inl (cQ, 5, .inr (.inr (.inr (.inr F))))) :: oth))) H := hP
        have hD : va_D (fun q => s.heap.size ≤ q) ((lw_U d0 dc dr h0 ai ar af ap ah ac ou cA cL k hk rg fi fr ff fp fh fn fo) ++ ((lw_M m0 mx my mr mb cA k (nI 3) sx sy fx fy fm fb) ++ ((dc, .inl (cQ, 5, .inr (.inr (.inr (.inr F))))) :: oth))) := hD
        refine W.widen (k := 20 + lx_n F + (i + 8)) (n := 9000 + lx_c F + 6 * (i + 8)) (by omega) (by omega) ?_
        exact kk F H locs ls (lv_sub hl [2, 3, 4, 5, 6] rfl) (lx_mk hP hD ⟨hk5, hF, hok, hhv, hrg, hR, hfm, hB, hO⟩) hS
      · refine lv_aload_n hx hb dL_law_1034 rfl (lv_at hl 3 rfl) ?_
        refine lv_aload_n hx hb dL_law_1035 rfl (lv_at hl 4 rfl) ?_
        refine lv_iload hx hb dL_law_1036 (lv_at hl 0 rfl) ?_
        refine lv_iconst (v := (nI 1)) hx hb dL_law_1038 (by decide) ?_
        refine nv_iadd hx hb dL_law_1039 ?_
        refine va_sld hx hb hX hbl hbA hS (nv_in (by omega) (by omega)) dL_law_1040 ?_
        rw [nI_clamp (by omega)]
        rw [e1]
        refine lv_aload_n hx hb dL_law_1041 rfl (lv_at hl 4 rfl) ?_
        refine lv_iload hx hb dL_law_1042 (lv_at hl 0 rfl) ?_
        refine lv_iconst (v := (nI 2)) hx hb dL_law_1044 (by decide) ?_
        refine nv_iadd hx hb dL_law_1045 ?_
        refine va_sld hx hb hX hbl hbA hS (nv_in (by omega) (by omega)) dL_law_1046 ?_
        rw [nI_clamp (by omega)]
        rw [e2]
        refine lv_aload_n hx hb dL_law_1047 rfl (lv_at hl 4 rfl) ?_
        refine lv_iload hx hb dL_law_1048 (lv_at hl 0 rfl) ?_
        refine lv_iconst (v := (nI 3)) hx hb dL_law_1050 (by decide) ?_
        refine nv_iadd hx hb dL_law_1051 ?_
        refine va_sld hx hb hX hbl hbA hS (nv_in (by omega) (by omega)) dL_law_1052 ?_
        rw [nI_clamp (by omega)]
        rw [e3]
        refine lv_aload_n hx hb dL_law_1053 rfl (lv_at hl 1 rfl) ?_
        have hFc := wp_free hD hS hA
        refine va_calli (vx_runSW (As := [.ref d0, .int (nI j), .int (nI key), .int (nI msg), .ref ou]) (rest := []) ⟨hx, hb, hml, hown, ht⟩ (c_L_sign l D hk5 hok hrg hj hkey hmsg b3 H.size) (vx_cwSW 5 ht (tb_S kl_L_125 kt_L_sign kn_L kc_L_sign) rfl rfl rfl kd_L_sign ⟨Nat.le_of_ble_eq_true rfl, Nat.le_of_ble_eq_true rfl⟩) (wd_preS _ (wp_Pl hP) (hK.sub (tys' := [(cA, .int), (cL, .long)]) [0, 2] rfl) (wp_Dl hD)) rfl rfl hl.1 rfl (lv_room (Nat.le_of_ble_eq_true rfl)) dL_law_1054 ⟨by show 20 + lx_n F + i + 0 ≤ 601024; omega, by show 9000 + lx_c F + 6 * i + 0 ≤ 7293033; omega⟩) hS (fun q _ h => hFc q h) hFc (fun r9 u9 t9 H locs ht9 hvm9 hw9 hB9 hz9 hk9 hS => ?_)
        obtain ⟨hP1, hK1, hD1⟩ := hB9
        rw [ht9] at hP1
        obtain ⟨hP, hD⟩ := wp_join hP hD hk9 hFc hP1 hD1
        obtain ⟨e9, w9⟩ := hw9
        subst e9
        have hP : va_P D vwCl ((lw_U d0 dc dr h0 ai ar af ap ah ac ou cA cL k hk rg fi fr ff fp fh fn u9) ++ ((lw_M m0 mx my mr mb cA k th sx sy fx fy fm fb) ++ ((dc, .inl (cQ, 5, .inr (.inr (.inr (.inr F))))) :: oth))) H := hP
        have hD : va_D (fun q => s.heap.size ≤ q) ((lw_U d0 dc dr h0 ai ar af ap ah ac ou cA cL k hk rg fi fr ff fp fh fn u9) ++ ((lw_M m0 mx my mr mb cA k th sx sy fx fy fm fb) ++ ((dc, .inl (cQ, 5, .inr (.inr (.inr (.inr F))))) :: oth))) := hD
        refine lv_istore hx hb dL_law_1057 hl (by decide) rfl (fun ls hl => ?_)
        have hl : lv_has ls 8 [(5, .int (nI 0)), (4, .int (nI i)), (3, .ref ou), (2, .ref m0), (1, .ref d0), (0, .ref b)] := hl
        refine lv_aload_n hx hb dL_law_1059 rfl (lv_at hl 3 rfl) ?_
        refine lv_aload_n hx hb dL_law_1060 rfl (lv_at hl 5 rfl) ?_
        refine lv_iload hx hb dL_law_1061 (lv_at hl 1 rfl) ?_
        refine lv_iconst (v := (nI 1)) hx hb dL_law_1063 (by decide) ?_
        refine nv_iadd hx hb dL_law_1064 ?_
        refine va_sld hx hb hX hbl hbA hS (nv_in (by omega) (by omega)) dL_law_1065 ?_
        rw [nI_clamp (by omega)]
        rw [e1]
        refine lv_aload_n hx hb dL_law_1066 rfl (lv_at hl 5 rfl) ?_
        refine lv_iload hx hb dL_law_1067 (lv_at hl 1 rfl) ?_
        refine lv_iconst (v := (nI 2)) hx hb dL_law_1069 (by decide) ?_
        refine nv_iadd hx hb dL_law_1070 ?_
        refine va_sld hx hb hX hbl hbA hS (nv_in (by omega) (by omega)) dL_law_1071 ?_
        rw [nI_clamp (by omega)]
        rw [e2]
        refine lv_aload_n hx hb dL_law_1072 rfl (lv_at hl 5 rfl) ?_
        refine lv_iload hx hb dL_law_1073 (lv_at hl 1 rfl) ?_
        refine lv_iconst (v := (nI 3)) hx hb dL_law_1075 (by decide) ?_
        refine nv_iadd hx hb dL_law_1076 ?_
        refine va_sld hx hb hX hbl hbA hS (nv_in (by omega) (by omega)) dL_law_1077 ?_
        rw [nI_clamp (by omega)]
        rw [e3]
        have hP := wp_P (List.perm_append_comm_assoc _ _ _) hP
        have hD := wp_D (List.perm_append_comm_assoc _ _ _) hD
        have hP : va_P D vwCl ((lw_M m0 mx my mr mb cA k th sx sy fx fy fm fb) ++ ((lw_U d0 dc dr h0 ai ar af ap ah ac ou cA cL k hk rg fi fr ff fp fh fn u9) ++ ((dc, .inl (cQ, 5, .inr (.inr (.inr (.inr F))))) :: oth))) H := hP
        have hD : va_D (fun q => s.heap.size ≤ q) ((lw_M m0 mx my mr mb cA k th sx sy fx fy fm fb) ++ ((lw_U d0 dc dr h0 ai ar af ap ah ac ou cA cL k hk rg fi fr ff fp fh fn u9) ++ ((dc, .inl (cQ, 5, .inr (.inr (.inr (.inr F))))) :: oth))) := hD
        have hFc := wp_free hD hS hA
        refine va_calll (va_runV (As := [.int (nI j), .int (nI key), .int (nI msg)]) (rest := []) ⟨hx, hb, hml, hown, ht⟩ (c_X2_sign l D hk5 hfm hR hj hkey hmsg b3 H.size) (cwV 3 ht (tb_V kl_L_128 ki_X2_sign ks_X2_sign kn_X2 kc_X2_sign) rfl rfl rfl ⟨rfl, kd_X2_sign⟩ ⟨Nat.le_of_ble_eq_true rfl, Nat.le_of_ble_eq_true rfl⟩) (wd_preV _ (wp_Pl hP) (hK.sub (tys' := [(cA, .int)]) [0] rfl) (wp_Dl hD) (va_recv (ci := 2) (q0 := 0) hK hP rfl rfl)) rfl rfl hl.1 rfl (lv_room (Nat.le_of_ble_eq_true rfl)) dL_law_1078 ⟨by show 20 + lx_n F + i + 0 + 0 ≤ 601024; omega, by show 9000 + lx_c F + 6 * i + 0 + 0 ≤ 7293033; omega⟩) hS (fun q _ h => hFc q h) hFc (fun r8 u8 t8 H locs ht8 hvm8 hw8 hB8 hz8 hk8 hS => ?_)
        obtain ⟨hP1, hK1, hD1⟩ := hB8
        rw [ht8] at hP1
        obtain ⟨hP, hD⟩ := wp_join hP hD hk8 hFc hP1 hD1
        have hP : va_P D vwCl ((lw_M m0 mx my mr mb cA k (nI 0) u8.1 u8.2 fx fy fm fb) ++ ((lw_U d0 dc dr h0 ai ar af ap ah ac ou cA cL k hk rg fi fr ff fp fh fn u9) ++ ((dc, .inl (cQ, 5, .inr (.inr (.inr (.inr F))))) :: oth))) H := hP
        have hD : va_D (fun q => s.heap.size ≤ q) ((lw_M m0 mx my mr mb cA k (nI 0) u8.1 u8.2 fx fy fm fb) ++ ((lw_U d0 dc dr h0 ai ar af ap ah ac ou cA cL k hk rg fi fr ff fp fh fn u9) ++ ((dc, .inl (cQ, 5, .inr (.inr (.inr (.inr F))))) :: oth))) := hD
        subst hw8
        refine lv_lstore hx hb dL_law_1081 hl (by decide) rfl (fun ls hl => ?_)
        have hl : lv_has ls 8 [(6, .long (lN (tw_sg k R j key msg))), (5, .int (nI 0)), (4, .int (nI i)), (3, .ref ou), (2, .ref m0), (1, .ref d0), (0, .ref b)] := hl
        refine lv_aload_n hx hb dL_law_1083 rfl (lv_at hl 4 rfl) ?_
        refine vp_callSi (W.runV (As := []) (rest := []) ⟨hx, hb, hml, hown, ht⟩ (c_X2_thrown l D hk5) (cwV 0 ht (tb_V kl_L_74 ki_X2_thrown ks_X2_thrown kn_X2 kc_X2_thrown) rfl rfl rfl ⟨rfl, kd_X2_thrown⟩ ⟨Nat.le_of_ble_eq_true rfl, Nat.le_of_ble_eq_true rfl⟩) (ro_preV _ ((wp_Pl hP).sub (ws' := [(m0, .inr (2, [.int (nI 0), .int (nI k), .int (nI (tw_P k)), .int (nI (tw_D k)), .int (nI (tw_I k)), .ref mx, .ref my, .ref mr, .ref mb, .int u8.1, .int u8.2]))]) [0] rfl) (hK.sub (tys' := []) [] rfl) (va_recv (ci := 2) (q0 := 0) hK hP rfl rfl)) rfl rfl hl.1 rfl (lv_room (Nat.le_of_ble_eq_true rfl)) dL_law_1084 ⟨by show 20 + lx_n F + i + 0 + 0 + 0 ≤ 601024; omega, by show 9000 + lx_c F + 6 * i + 0 + 0 + 0 ≤ 7293033; omega⟩) (fun r hr9 => ?_)
        subst hr9
        refine lv_iload hx hb dL_law_1087 (lv_at hl 1 rfl) ?_
        refine lv_icmp_eq (tgt := 1094) hx hb dL_law_1089 (by decide) (fun _ => ?_) (fun c9 => absurd rfl c9)
        refine lv_iload hx hb dL_law_1094 (lv_at hl 1 rfl) ?_
        refine lv_if_ne (tgt := 1110) hx hb dL_law_1096 (by decide) (fun c9 => absurd rfl c9) (fun _ => ?_)
        refine lv_aload_n hx hb dL_law_1099 rfl (lv_at hl 3 rfl) ?_
        refine lv_iconst (v := (nI 0)) hx hb dL_law_1100 (by decide) ?_
        have hP := wp_P (List.perm_append_comm_assoc _ _ _) hP
        have hD := wp_D (List.perm_append_comm_assoc _ _ _) hD
        have hP : va_P D vwCl ((lw_U d0 dc dr h0 ai ar af ap ah ac ou cA cL k hk rg fi fr ff fp fh fn u9) ++ ((lw_M m0 mx my mr mb cA k (nI 0) u8.1 u8.2 fx fy fm fb) ++ ((dc, .inl (cQ, 5, .inr (.inr (.inr (.inr F))))) :: oth))) H := hP
        have hD : va_D (fun q => s.heap.size ≤ q) ((lw_U d0 dc dr h0 ai ar af ap ah ac ou cA cL k hk rg fi fr ff fp fh fn u9) ++ ((lw_M m0 mx my mr mb cA k (nI 0) u8.1 u8.2 fx fy fm fb) ++ ((dc, .inl (cQ, 5, .inr (.inr (.inr (.inr F))))) :: oth))) := hD
        refine va_lald hx hb hK hP 9 2 rfl rfl (nv_in (a := 0) (n := 1) (by decide) (by decide)) dL_law_1101 ?_
        rw [nI_clamp (n := 0) (by decide), w9]
        refine lv_lload hx hb dL_law_1102 (lv_at hl 0 rfl) ?_
        refine lx_lcmp hx hb dL_law_1104 ?_
        refine lv_if_eq (tgt := 1110) hx hb dL_law_1105 (by decide) (fun _ => ?_) (fun c9 => absurd rfl c9)
        refine lv_goto (tgt := 1269) hx hb dL_law_1110 (by decide) ?_
        refine W.widen (k := 20 + lx_n F + (i + 8)) (n := 9000 + lx_c F + 6 * (i + 8)) (by omega) (by omega) ?_
        exact kk F H locs ls (lv_sub hl [2, 3, 4, 5, 6] rfl) (lx_mk hP hD ⟨hk5, hF, hok, hhv, hrg, hR, hfm, hB, hO⟩) hS
set_option maxHeartbeats 8000000 in
set_option maxRecDepth 100000 in
theorem lc_14 {p : Program} {l : Launch} {e : Env} {s : State} {m : MethodId} {below : List Frame} {meth : Method} {c : Code} {Q : State → Prop} {b L : Nat} {xs : Nat → Int32} {gs : Nat → Nat} {tp : Nat} {D : va_G} {d0 dc dr ou m0 mx my mr mb : Nat} {cA cQ cL : ClassId} (C : lx_C p l s m c b L xs gs tp D cA cQ cL) {i : Nat} (hi : i + 8 ≤ L) {F : Nat → Option Nat} {H : Heap} {locs : List Loc} {ls : Array Slot} (hl : lv_has ls 8 [(4, .int (nI i)), (3, .ref ou), (2, .ref m0), (1, .ref d0), (0, .ref b)]) (hI : lx_I D d0 dc dr ou m0 mx my mr mb cA cQ cL (fun q => s.heap.size ≤ q) F H) (hS : va_S (fun q => s.heap.size ≤ q) s.heap H locs) (kk : (∀ (F : Nat → Option Nat) (H : Heap) (locs : List Loc) (ls : Array Slot), lv_has ls 8 [(4, .int (nI i)), (3, .ref ou), (2, .ref m0), (1, .ref d0), (0, .ref b)] → lx_I D d0 dc dr ou m0 mx my mr mb cA cQ cL (fun q => s.heap.size ≤ q) F H → va_S (fun q => s.heap.size ≤ q) s.heap H locs → W p l e room_1 s m #[Value.ref b] below meth c H locs (20 + lx_n F + (i + 8)) (9000 + lx_c F + 6 * (i + 8)) Q (F0 m 1269 ls []))) : W p l e room_1 s m #[Value.ref b] below meth c H locs (20 + lx_n F + i) (9000 + lx_c F + 6 * i) Q (F0 m 1113 ls []) := by
  obtain ⟨hx, hb, hml, hown, ht, hX, hbl, hZ, hT, hK, hL⟩ := C
  obtain ⟨k, R, h0, ai, ar, af, ap, ah, ac, hk, rg, fi, fr, ff, fp, fh, fn, fo, th, sx, sy, fx, fy, fm, fb, oth, hP, hD, hk5, hF, hok, hhv, hrg, hR, hfm, hB, hO⟩ := hI
  have hbA : ¬ s.heap.size ≤ b := Nat.not_le.mpr hbl
  have hA : ∀ q, s.heap.size ≤ q → s.heap.size ≤ q := fun _ h => h
  have zi : i ≤ 4088 := by omega
  have zn := lx_n_le F
  have zc := lx_c_le F
  have hK0 := tw_kK k hk5
  by_cases b1 : md_bad (xs (i + 1)) ∨ md_bad (xs (i + 2))
  · refine lv_aload_n hx hb dL_law_1113 rfl (lv_at hl 3 rfl) ?_
    refine lv_aload_n hx hb dL_law_1114 rfl (lv_at hl 4 rfl) ?_
    refine lv_iload hx hb dL_law_1115 (lv_at hl 0 rfl) ?_
    refine lv_iconst (v := (nI 1)) hx hb dL_law_1117 (by decide) ?_
    refine nv_iadd hx hb dL_law_1118 ?_
    refine va_sld hx hb hX hbl hbA hS (nv_in (by omega) (by omega)) dL_law_1119 ?_
    rw [nI_clamp (by omega)]
    refine lv_aload_n hx hb dL_law_1120 rfl (lv_at hl 4 rfl) ?_
    refine lv_iload hx hb dL_law_1121 (lv_at hl 0 rfl) ?_
    refine lv_iconst (v := (nI 2)) hx hb dL_law_1123 (by decide) ?_
    refine nv_iadd hx hb dL_law_1124 ?_
    refine va_sld hx hb hX hbl hbA hS (nv_in (by omega) (by omega)) dL_law_1125 ?_
    rw [nI_clamp (by omega)]
    refine lv_aload_n hx hb dL_law_1126 rfl (lv_at hl 4 rfl) ?_
    refine lv_iload hx hb dL_law_1127 (lv_at hl 0 rfl) ?_
    refine lv_iconst (v := (nI 3)) hx hb dL_law_1129 (by decide) ?_
    refine nv_iadd hx hb dL_law_1130 ?_
    refine va_sld hx hb hX hbl hbA hS (nv_in (by omega) (by omega)) dL_law_1131 ?_
    rw [nI_clamp (by omega)]
    refine lv_aload_n hx hb dL_law_1132 rfl (lv_at hl 4 rfl) ?_
    refine lv_iload hx hb dL_law_1133 (lv_at hl 0 rfl) ?_
    refine lv_iconst (v := (nI 4)) hx hb dL_law_1135 (by decide) ?_
    refine nv_iadd hx hb dL_law_1136 ?_
    refine va_sld hx hb hX hbl hbA hS (nv_in (by omega) (by omega)) dL_law_1137 ?_
    rw [nI_clamp (by omega)]
    refine lv_i2l (v := (xs (i + 4)).toInt64) hx hb dL_law_1138 rfl ?_
    refine lv_bipush (v := (nI 32)) hx hb dL_law_1139 (by decide) ?_
    refine lv_lshl (v := (xs (i + 4)).toInt64 <<< ((nI 32).toInt64 &&& 63)) hx hb dL_law_1141 rfl ?_
    refine lv_aload_n hx hb dL_law_1142 rfl (lv_at hl 4 rfl) ?_
    refine lv_iload hx hb dL_law_1143 (lv_at hl 0 rfl) ?_
    refine lv_iconst (v := (nI 5)) hx hb dL_law_1145 (by decide) ?_
    refine nv_iadd hx hb dL_law_1146 ?_
    refine va_sld hx hb hX hbl hbA hS (nv_in (by omega) (by omega)) dL_law_1147 ?_
    rw [nI_clamp (by omega)]
    refine lv_i2l (v := (xs (i + 5)).toInt64) hx hb dL_law_1148 rfl ?_
    refine lv_ldc2 (v := lN 4294967295) hx hb hown (ht _ kv_L_97) dL_law_1149 ?_
    refine lv_land hx hb dL_law_1152 ?_
    refine lx_lor (v := (lx_lg (xs (i + 4)) (xs (i + 5)))) hx hb dL_law_1153 rfl ?_
    refine lv_aload_n hx hb dL_law_1154 rfl (lv_at hl 1 rfl) ?_
    refine va_calli (vx_runSW (As := [.ref d0, .int (xs (i + 1)), .int (xs (i + 2)), .int (xs (i + 3)), .long (lx_lg (xs (i + 4)) (xs (i + 5))), .ref ou]) (rest := []) ⟨hx, hb, hml, hown, ht⟩ (c_L_verifyR l gs b1) (vx_cwSW 6 ht (tb_S kl_L_129 kt_L_verify kn_L kc_L_verify) rfl rfl rfl kd_L_verify ⟨Nat.le_of_ble_eq_true rfl, Nat.le_of_ble_eq_true rfl⟩) (nx_preSR _ hZ hS (va_recv (ci := 1) (q0 := 0) hK hP rfl rfl)) rfl rfl hl.1 rfl (lv_room (Nat.le_of_ble_eq_true rfl)) dL_law_1155 ⟨by show 20 + lx_n F + i + 1 ≤ 601024; omega, by show 9000 + lx_c F + 6 * i + 6 ≤ 7293033; omega⟩) hS (fun _ _ h => h.elim) (fun _ h => h.elim) (fun r9 u9 t9 H locs ht9 hvm9 hw9 hB9 hz9 hk9 hS => ?_)
    have hP := lx_kp hP hk9
    subst hw9
    have hP : va_P D vwCl ((lw_U d0 dc dr h0 ai ar af ap ah ac ou cA cL k hk rg fi fr ff fp fh fn fo) ++ ((lw_M m0 mx my mr mb cA k th sx sy fx fy fm fb) ++ ((dc, .inl (cQ, 5, .inr (.inr (.inr (.inr F))))) :: oth))) H := hP
    have hD : va_D (fun q => s.heap.size ≤ q) ((lw_U d0 dc dr h0 ai ar af ap ah ac ou cA cL k hk rg fi fr ff fp fh fn fo) ++ ((lw_M m0 mx my mr mb cA k th sx sy fx fy fm fb) ++ ((dc, .inl (cQ, 5, .inr (.inr (.inr (.inr F))))) :: oth))) := hD
    refine lv_istore hx hb dL_law_1158 hl (by decide) rfl (fun ls hl => ?_)
    have hl : lv_has ls 8 [(5, .int (nI 1)), (4, .int (nI i)), (3, .ref ou), (2, .ref m0), (1, .ref d0), (0, .ref b)] := hl
    refine lv_aload_n hx hb dL_law_1160 rfl (lv_at hl 3 rfl) ?_
    refine lv_aload_n hx hb dL_law_1161 rfl (lv_at hl 5 rfl) ?_
    refine lv_iload hx hb dL_law_1162 (lv_at hl 1 rfl) ?_
    refine lv_iconst (v := (nI 1)) hx hb dL_law_1164 (by decide) ?_
    refine nv_iadd hx hb dL_law_1165 ?_
    refine va_sld hx hb hX hbl hbA hS (nv_in (by omega) (by omega)) dL_law_1166 ?_
    rw [nI_clamp (by omega)]
    refine lv_aload_n hx hb dL_law_1167 rfl (lv_at hl 5 rfl) ?_
    refine lv_iload hx hb dL_law_1168 (lv_at hl 1 rfl) ?_
    refine lv_iconst (v := (nI 2)) hx hb dL_law_1170 (by decide) ?_
    refine nv_iadd hx hb dL_law_1171 ?_
    refine va_sld hx hb hX hbl hbA hS (nv_in (by omega) (by omega)) dL_law_1172 ?_
    rw [nI_clamp (by omega)]
    refine lv_aload_n hx hb dL_law_1173 rfl (lv_at hl 5 rfl) ?_
    refine lv_iload hx hb dL_law_1174 (lv_at hl 1 rfl) ?_
    refine lv_iconst (v := (nI 3)) hx hb dL_law_1176 (by decide) ?_
    refine nv_iadd hx hb dL_law_1177 ?_
    refine va_sld hx hb hX hbl hbA hS (nv_in (by omega) (by omega)) dL_law_1178 ?_
    rw [nI_clamp (by omega)]
    refine lv_aload_n hx hb dL_law_1179 rfl (lv_at hl 5 rfl) ?_
    refine lv_iload hx hb dL_law_1180 (lv_at hl 1 rfl) ?_
    refine lv_iconst (v := (nI 4)) hx hb dL_law_1182 (by decide) ?_
    refine nv_iadd hx hb dL_law_1183 ?_
    refine va_sld hx hb hX hbl hbA hS (nv_in (by omega) (by omega)) dL_law_1184 ?_
    rw [nI_clamp (by omega)]
    refine lv_i2l (v := (xs (i + 4)).toInt64) hx hb dL_law_1185 rfl ?_
    refine lv_bipush (v := (nI 32)) hx hb dL_law_1186 (by decide) ?_
    refine lv_lshl (v := (xs (i + 4)).toInt64 <<< ((nI 32).toInt64 &&& 63)) hx hb dL_law_1188 rfl ?_
    refine lv_aload_n hx hb dL_law_1189 rfl (lv_at hl 5 rfl) ?_
    refine lv_iload hx hb dL_law_1190 (lv_at hl 1 rfl) ?_
    refine lv_iconst (v := (nI 5)) hx hb dL_law_1192 (by decide) ?_
    refine nv_iadd hx hb dL_law_1193 ?_
    refine va_sld hx hb hX hbl hbA hS (nv_in (by omega) (by omega)) dL_law_1194 ?_
    rw [nI_clamp (by omega)]
    refine lv_i2l (v := (xs (i + 5)).toInt64) hx hb dL_law_1195 rfl ?_
    refine lv_ldc2 (v := lN 4294967295) hx hb hown (ht _ kv_L_97) dL_law_1196 ?_
    refine lv_land hx hb dL_law_1199 ?_
    refine lx_lor (v := (lx_lg (xs (i + 4)) (xs (i + 5)))) hx hb dL_law_1200 rfl ?_
    have hP := wp_P (List.perm_append_comm_assoc _ _ _) hP
    have hD := wp_D (List.perm_append_comm_assoc _ _ _) hD
    have hP : va_P D vwCl ((lw_M m0 mx my mr mb cA k th sx sy fx fy fm fb) ++ ((lw_U d0 dc dr h0 ai ar af ap ah ac ou cA cL k hk rg fi fr ff fp fh fn fo) ++ ((dc, .inl (cQ, 5, .inr (.inr (.inr (.inr F))))) :: oth))) H := hP
    have hD : va_D (fun q => s.heap.size ≤ q) ((lw_M m0 mx my mr mb cA k th sx sy fx fy fm fb) ++ ((lw_U d0 dc dr h0 ai ar af ap ah ac ou cA cL k hk rg fi fr ff fp fh fn fo) ++ ((dc, .inl (cQ, 5, .inr (.inr (.inr (.inr F))))) :: oth))) := hD
    have hFc := wp_free hD hS hA
    refine va_calli (va_runV (As := [.int (xs (i + 1)), .int (xs (i + 2)), .int (xs (i + 3)), .long (lx_lg (xs (i + 4)) (xs (i + 5)))]) (rest := []) ⟨hx, hb, hml, hown, ht⟩ (c_X2_verifyR l D hk5 b1 H.size) (cwV 4 ht (tb_V kl_L_132 ki_X2_verify ks_X2_verify kn_X2 kc_X2_verify) rfl rfl rfl ⟨rfl, kd_X2_verify⟩ ⟨Nat.le_of_ble_eq_true rfl, Nat.le_of_ble_eq_true rfl⟩) (wd_preV _ (wp_Pl hP) (hK.sub (tys' := [(cA, .int)]) [0] rfl) (wp_Dl hD) (va_recv (ci := 2) (q0 := 0) hK hP rfl rfl)) rfl rfl hl.1 rfl (lv_room (Nat.le_of_ble_eq_true rfl)) dL_law_1201 ⟨by show 20 + lx_n F + i + 1 + 0 ≤ 601024; omega, by show 9000 + lx_c F + 6 * i + 6 + 0 ≤ 7293033; omega⟩) hS (fun q _ h => hFc q h) hFc (fun r8 u8 t8 H locs ht8 hvm8 hw8 hB8 hz8 hk8 hS => ?_)
    obtain ⟨hP1, hK1, hD1⟩ := hB8
    rw [ht8] at hP1
    obtain ⟨hP, hD⟩ := wp_join hP hD hk8 hFc hP1 hD1
    have hP : va_P D vwCl ((lw_M m0 mx my mr mb cA k (nI 1) sx sy fx fy fm fb) ++ ((lw_U d0 dc dr h0 ai ar af ap ah ac ou cA cL k hk rg fi fr ff fp fh fn fo) ++ ((dc, .inl (cQ, 5, .inr (.inr (.inr (.inr F))))) :: oth))) H := hP
    have hD : va_D (fun q => s.heap.size ≤ q) ((lw_M m0 mx my mr mb cA k (nI 1) sx sy fx fy fm fb) ++ ((lw_U d0 dc dr h0 ai ar af ap ah ac ou cA cL k hk rg fi fr ff fp fh fn fo) ++ ((dc, .inl (cQ, 5, .inr (.inr (.inr (.inr F))))) :: oth))) := hD
    subst hw8
    refine lv_istore hx hb dL_law_1204 hl (by decide) rfl (fun ls hl => ?_)
    have hl : lv_has ls 8 [(6, .int 0), (5, .int (nI 1)), (4, .int (nI i)), (3, .ref ou), (2, .ref m0), (1, .ref d0), (0, .ref b)] := hl
    refine lv_aload_n hx hb dL_law_1206 rfl (lv_at hl 4 rfl) ?_
    refine vp_callSi (W.runV (As := []) (rest := []) ⟨hx, hb, hml, hown, ht⟩ (c_X2_thrown l D hk5) (cwV 0 ht (tb_V kl_L_74 ki_X2_thrown ks_X2_thrown kn_X2 kc_X2_thrown) rfl rfl rfl ⟨rfl, kd_X2_thrown⟩ ⟨Nat.le_of_ble_eq_true rfl, Nat.le_of_ble_eq_true rfl⟩) (ro_preV _ ((wp_Pl hP).sub (ws' := [(m0, .inr (2, [.int (nI 1), .int (nI k), .int (nI (tw_P k)), .int (nI (tw_D k)), .int (nI (tw_I k)), .ref mx, .ref my, .ref mr, .ref mb, .int sx, .int sy]))]) [0] rfl) (hK.sub (tys' := []) [] rfl) (va_recv (ci := 2) (q0 := 0) hK hP rfl rfl)) rfl rfl hl.1 rfl (lv_room (Nat.le_of_ble_eq_true rfl)) dL_law_1207 ⟨by show 20 + lx_n F + i + 1 + 0 + 0 ≤ 601024; omega, by show 9000 + lx_c F + 6 * i + 6 + 0 + 0 ≤ 7293033; omega⟩) (fun r hr9 => ?_)
    subst hr9
    refine lv_iload hx hb dL_law_1210 (lv_at hl 1 rfl) ?_
    refine lv_icmp_eq (tgt := 1217) hx hb dL_law_1212 (by decide) (fun _ => ?_) (fun c9 => absurd rfl c9)
    refine lv_iload hx hb dL_law_1217 (lv_at hl 1 rfl) ?_
    refine lv_if_ne (tgt := 1241) hx hb dL_law_1219 (by decide) (fun _ => ?_) (fun c9 => absurd c9 (by decide))
    refine lv_goto (tgt := 1269) hx hb dL_law_1241 (by decide) ?_
    have hP := wp_P (List.perm_append_comm_assoc _ _ _) hP
    have hD := wp_D (List.perm_append_comm_assoc _ _ _) hD
    have hP : va_P D vwCl ((lw_U d0 dc dr h0 ai ar af ap ah ac ou cA cL k hk rg fi fr ff fp fh fn fo) ++ ((lw_M m0 mx my mr mb cA k (nI 1) sx sy fx fy fm fb) ++ ((dc, .inl (cQ, 5, .inr (.inr (.inr (.inr F))))) :: oth))) H := hP
    have hD : va_D (fun q => s.heap.size ≤ q) ((lw_U d0 dc dr h0 ai ar af ap ah ac ou cA cL k hk rg fi fr ff fp fh fn fo) ++ ((lw_M m0 mx my mr mb cA k (nI 1) sx sy fx fy fm fb) ++ ((dc, .inl (cQ, 5, .inr (.inr (.inr (.inr F))))) :: oth))) := hD
    refine W.widen (k := 20 + lx_n F + (i + 8)) (n := 9000 + lx_c F + 6 * (i + 8)) (by omega) (by omega) ?_
    exact kk F H locs ls (lv_sub hl [2, 3, 4, 5, 6] rfl) (lx_mk hP hD ⟨hk5, hF, hok, hhv, hrg, hR, hfm, hB, hO⟩) hS
  · obtain ⟨j, hj, e1⟩ := md_good (fun q => b1 (Or.inl q))
    obtain ⟨j2, hj2, e2⟩ := md_good (fun q => b1 (Or.inr q))
    by_cases b2 : md_nb (xs (i + 3))
    · refine lv_aload_n hx hb dL_law_1113 rfl (lv_at hl 3 rfl) ?_
      refine lv_aload_n hx hb dL_law_1114 rfl (lv_at hl 4 rfl) ?_
      refine lv_iload hx hb dL_law_1115 (lv_at hl 0 rfl) ?_
      refine lv_iconst (v := (nI 1)) hx hb dL_law_1117 (by decide) ?_
      refine nv_iadd hx hb dL_law_1118 ?_
      refine va_sld hx hb hX hbl hbA hS (nv_in (by omega) (by omega)) dL_law_1119 ?_
      rw [nI_clamp (by omega)]
      rw [e1]
      refine lv_aload_n hx hb dL_law_1120 rfl (lv_at hl 4 rfl) ?_
      refine lv_iload hx hb dL_law_1121 (lv_at hl 0 rfl) ?_
      refine lv_iconst (v := (nI 2)) hx hb dL_law_1123 (by decide) ?_
      refine nv_iadd hx hb dL_law_1124 ?_
      refine va_sld hx hb hX hbl hbA hS (nv_in (by omega) (by omega)) dL_law_1125 ?_
      rw [nI_clamp (by omega)]
      rw [e2]
      refine lv_aload_n hx hb dL_law_1126 rfl (lv_at hl 4 rfl) ?_
      refine lv_iload hx hb dL_law_1127 (lv_at hl 0 rfl) ?_
      refine lv_iconst (v := (nI 3)) hx hb dL_law_1129 (by decide) ?_
      refine nv_iadd hx hb dL_law_1130 ?_
      refine va_sld hx hb hX hbl hbA hS (nv_in (by omega) (by omega)) dL_law_1131 ?_
      rw [nI_clamp (by omega)]
      refine lv_aload_n hx hb dL_law_1132 rfl (lv_at hl 4 rfl) ?_
      refine lv_iload hx hb dL_law_1133 (lv_at hl 0 rfl) ?_
      refine lv_iconst (v := (nI 4)) hx hb dL_law_1135 (by decide) ?_
      refine nv_iadd hx hb dL_law_1136 ?_
      refine va_sld hx hb hX hbl hbA hS (nv_in (by omega) (by omega)) dL_law_1137 ?_
      rw [nI_clamp (by omega)]
      refine lv_i2l (v := (xs (i + 4)).toInt64) hx hb dL_law_1138 rfl ?_
      refine lv_bipush (v := (nI 32)) hx hb dL_law_1139 (by decide) ?_
      refine lv_lshl (v := (xs (i + 4)).toInt64 <<< ((nI 32).toInt64 &&& 63)) hx hb dL_law_1141 rfl ?_
      refine lv_aload_n hx hb dL_law_1142 rfl (lv_at hl 4 rfl) ?_
      refine lv_iload hx hb dL_law_1143 (lv_at hl 0 rfl) ?_
      refine lv_iconst (v := (nI 5)) hx hb dL_law_1145 (by decide) ?_
      refine nv_iadd hx hb dL_law_1146 ?_
      refine va_sld hx hb hX hbl hbA hS (nv_in (by omega) (by omega)) dL_law_1147 ?_
      rw [nI_clamp (by omega)]
      refine lv_i2l (v := (xs (i + 5)).toInt64) hx hb dL_law_1148 rfl ?_
      refine lv_ldc2 (v := lN 4294967295) hx hb hown (ht _ kv_L_97) dL_law_1149 ?_
      refine lv_land hx hb dL_law_1152 ?_
      refine lx_lor (v := (lx_lg (xs (i + 4)) (xs (i + 5)))) hx hb dL_law_1153 rfl ?_
      refine lv_aload_n hx hb dL_law_1154 rfl (lv_at hl 1 rfl) ?_
      refine va_calli (vx_runSW (As := [.ref d0, .int (nI j), .int (nI j2), .int (xs (i + 3)), .long (lx_lg (xs (i + 4)) (xs (i + 5))), .ref ou]) (rest := []) ⟨hx, hb, hml, hown, ht⟩ (c_L_verifyN l gs hj hj2 b2) (vx_cwSW 6 ht (tb_S kl_L_129 kt_L_verify kn_L kc_L_verify) rfl rfl rfl kd_L_verify ⟨Nat.le_of_ble_eq_true rfl, Nat.le_of_ble_eq_true rfl⟩) (nx_preSR _ hZ hS (va_recv (ci := 1) (q0 := 0) hK hP rfl rfl)) rfl rfl hl.1 rfl (lv_room (Nat.le_of_ble_eq_true rfl)) dL_law_1155 ⟨by show 20 + lx_n F + i + 1 ≤ 601024; omega, by show 9000 + lx_c F + 6 * i + 6 ≤ 7293033; omega⟩) hS (fun _ _ h => h.elim) (fun _ h => h.elim) (fun r9 u9 t9 H locs ht9 hvm9 hw9 hB9 hz9 hk9 hS => ?_)
      have hP := lx_kp hP hk9
      subst hw9
      have hP : va_P D vwCl ((lw_U d0 dc dr h0 ai ar af ap ah ac ou cA cL k hk rg fi fr ff fp fh fn fo) ++ ((lw_M m0 mx my mr mb cA k th sx sy fx fy fm fb) ++ ((dc, .inl (cQ, 5, .inr (.inr (.inr (.inr F))))) :: oth))) H := hP
      have hD : va_D (fun q => s.heap.size ≤ q) ((lw_U d0 dc dr h0 ai ar af ap ah ac ou cA cL k hk rg fi fr ff fp fh fn fo) ++ ((lw_M m0 mx my mr mb cA k th sx sy fx fy fm fb) ++ ((dc, .inl (cQ, 5, .inr (.inr (.inr (.inr F))))) :: oth))) := hD
      refine lv_istore hx hb dL_law_1158 hl (by decide) rfl (fun ls hl => ?_)
      have hl : lv_has ls 8 [(5, .int (nI 2)), (4, .int (nI i)), (3, .ref ou), (2, .ref m0), (1, .ref d0), (0, .ref b)] := hl
      refine lv_aload_n hx hb dL_law_1160 rfl (lv_at hl 3 rfl) ?_
      refine lv_aload_n hx hb dL_law_1161 rfl (lv_at hl 5 rfl) ?_
      refine lv_iload hx hb dL_law_1162 (lv_at hl 1 rfl) ?_
      refine lv_iconst (v := (nI 1)) hx hb dL_law_1164 (by decide) ?_
      refine nv_iadd hx hb dL_law_1165 ?_
      refine va_sld hx hb hX hbl hbA hS (nv_in (by omega) (by omega)) dL_law_1166 ?_
      rw [nI_clamp (by omega)]
      rw [e1]
      refine lv_aload_n hx hb dL_law_1167 rfl (lv_at hl 5 rfl) ?_
      refine lv_iload hx hb dL_law_1168 (lv_at hl 1 rfl) ?_
      refine lv_iconst (v := (nI 2)) hx hb dL_law_1170 (by decide) ?_
      refine nv_iadd hx hb dL_law_1171 ?_
      refine va_sld hx hb hX hbl hbA hS (nv_in (by omega) (by omega)) dL_law_1172 ?_
      rw [nI_clamp (by omega)]
      rw [e2]
      refine lv_aload_n hx hb dL_law_1173 rfl (lv_at hl 5 rfl) ?_
      refine lv_iload hx hb dL_law_1174 (lv_at hl 1 rfl) ?_
      refine lv_iconst (v := (nI 3)) hx hb dL_law_1176 (by decide) ?_
      refine nv_iadd hx hb dL_law_1177 ?_
      refine va_sld hx hb hX hbl hbA hS (nv_in (by omega) (by omega)) dL_law_1178 ?_
      rw [nI_clamp (by omega)]
      refine lv_aload_n hx hb dL_law_1179 rfl (lv_at hl 5 rfl) ?_
      refine lv_iload hx hb dL_law_1180 (lv_at hl 1 rfl) ?_
      refine lv_iconst (v := (nI 4)) hx hb dL_law_1182 (by decide) ?_
      refine nv_iadd hx hb dL_law_1183 ?_
      refine va_sld hx hb hX hbl hbA hS (nv_in (by omega) (by omega)) dL_law_1184 ?_
      rw [nI_clamp (by omega)]
      refine lv_i2l (v := (xs (i + 4)).toInt64) hx hb dL_law_1185 rfl ?_
      refine lv_bipush (v := (nI 32)) hx hb dL_law_1186 (by decide) ?_
      refine lv_lshl (v := (xs (i + 4)).toInt64 <<< ((nI 32).toInt64 &&& 63)) hx hb dL_law_1188 rfl ?_
      refine lv_aload_n hx hb dL_law_1189 rfl (lv_at hl 5 rfl) ?_
      refine lv_iload hx hb dL_law_1190 (lv_at hl 1 rfl) ?_
      refine lv_iconst (v := (nI 5)) hx hb dL_law_1192 (by decide) ?_
      refine nv_iadd hx hb dL_law_1193 ?_
      refine va_sld hx hb hX hbl hbA hS (nv_in (by omega) (by omega)) dL_law_1194 ?_
      rw [nI_clamp (by omega)]
      refine lv_i2l (v := (xs (i + 5)).toInt64) hx hb dL_law_1195 rfl ?_
      refine lv_ldc2 (v := lN 4294967295) hx hb hown (ht _ kv_L_97) dL_law_1196 ?_
      refine lv_land hx hb dL_law_1199 ?_
      refine lx_lor (v := (lx_lg (xs (i + 4)) (xs (i + 5)))) hx hb dL_law_1200 rfl ?_
      have hP := wp_P (List.perm_append_comm_assoc _ _ _) hP
      have hD := wp_D (List.perm_append_comm_assoc _ _ _) hD
      have hP : va_P D vwCl ((lw_M m0 mx my mr mb cA k th sx sy fx fy fm fb) ++ ((lw_U d0 dc dr h0 ai ar af ap ah ac ou cA cL k hk rg fi fr ff fp fh fn fo) ++ ((dc, .inl (cQ, 5, .inr (.inr (.inr (.inr F))))) :: oth))) H := hP
      have hD : va_D (fun q => s.heap.size ≤ q) ((lw_M m0 mx my mr mb cA k th sx sy fx fy fm fb) ++ ((lw_U d0 dc dr h0 ai ar af ap ah ac ou cA cL k hk rg fi fr ff fp fh fn fo) ++ ((dc, .inl (cQ, 5, .inr (.inr (.inr (.inr F))))) :: oth))) := hD
      have hFc := wp_free hD hS hA
      refine va_calli (va_runV (As := [.int (nI j), .int (nI j2), .int (xs (i + 3)), .long (lx_lg (xs (i + 4)) (xs (i + 5)))]) (rest := []) ⟨hx, hb, hml, hown, ht⟩ (c_X2_verifyN l D hk5 hj hj2 b2 H.size) (cwV 4 ht (tb_V kl_L_132 ki_X2_verify ks_X2_verify kn_X2 kc_X2_verify) rfl rfl rfl ⟨rfl, kd_X2_verify⟩ ⟨Nat.le_of_ble_eq_true rfl, Nat.le_of_ble_eq_true rfl⟩) (wd_preV _ (wp_Pl hP) (hK.sub (tys' := [(cA, .int)]) [0] rfl) (wp_Dl hD) (va_recv (ci := 2) (q0 := 0) hK hP rfl rfl)) rfl rfl hl.1 rfl (lv_room (Nat.le_of_ble_eq_true rfl)) dL_law_1201 ⟨by show 20 + lx_n F + i + 1 + 0 ≤ 601024; omega, by show 9000 + lx_c F + 6 * i + 6 + 0 ≤ 7293033; omega⟩) hS (fun q _ h => hFc q h) hFc (fun r8 u8 t8 H locs ht8 hvm8 hw8 hB8 hz8 hk8 hS => ?_)
      obtain ⟨hP1, hK1, hD1⟩ := hB8
      rw [ht8] at hP1
      obtain ⟨hP, hD⟩ := wp_join hP hD hk8 hFc hP1 hD1
      have hP : va_P D vwCl ((lw_M m0 mx my mr mb cA k (nI 2) sx sy fx fy fm fb) ++ ((lw_U d0 dc dr h0 ai ar af ap ah ac ou cA cL k hk rg fi fr ff fp fh fn fo) ++ ((dc, .inl (cQ, 5, .inr (.inr (.inr (.inr F))))) :: oth))) H := hP
      have hD : va_D (fun q => s.heap.size ≤ q) ((lw_M m0 mx my mr mb cA k (nI 2) sx sy fx fy fm fb) ++ ((lw_U d0 dc dr h0 ai ar af ap ah ac ou cA cL k hk rg fi fr ff fp fh fn fo) ++ ((dc, .inl (cQ, 5, .inr (.inr (.inr (.inr F))))) :: oth))) := hD
      subst hw8
      refine lv_istore hx hb dL_law_1204 hl (by decide) rfl (fun ls hl => ?_)
      have hl : lv_has ls 8 [(6, .int 0), (5, .int (nI 2)), (4, .int (nI i)), (3, .ref ou), (2, .ref m0), (1, .ref d0), (0, .ref b)] := hl
      refine lv_aload_n hx hb dL_law_1206 rfl (lv_at hl 4 rfl) ?_
      refine vp_callSi (W.runV (As := []) (rest := []) ⟨hx, hb, hml, hown, ht⟩ (c_X2_thrown l D hk5) (cwV 0 ht (tb_V kl_L_74 ki_X2_thrown ks_X2_thrown kn_X2 kc_X2_thrown) rfl rfl rfl ⟨rfl, kd_X2_thrown⟩ ⟨Nat.le_of_ble_eq_true rfl, Nat.le_of_ble_eq_true rfl⟩) (ro_preV _ ((wp_Pl hP).sub (ws' := [(m0, .inr (2, [.int (nI 2), .int (nI k), .int (nI (tw_P k)), .int (nI (tw_D k)), .int (nI (tw_I k)), .ref mx, .ref my, .ref mr, .ref mb, .int sx, .int sy]))]) [0] rfl) (hK.sub (tys' := []) [] rfl) (va_recv (ci := 2) (q0 := 0) hK hP rfl rfl)) rfl rfl hl.1 rfl (lv_room (Nat.le_of_ble_eq_true rfl)) dL_law_1207 ⟨by show 20 + lx_n F + i + 1 + 0 + 0 ≤ 601024; omega, by show 9000 + lx_c F + 6 * i + 6 + 0 + 0 ≤ 7293033; omega⟩) (fun r hr9 => ?_)
      subst hr9
      refine lv_iload hx hb dL_law_1210 (lv_at hl 1 rfl) ?_
      refine lv_icmp_eq (tgt := 1217) hx hb dL_law_1212 (by decide) (fun _ => ?_) (fun c9 => absurd rfl c9)
      refine lv_iload hx hb dL_law_1217 (lv_at hl 1 rfl) ?_
      refine lv_if_ne (tgt := 1241) hx hb dL_law_1219 (by decide) (fun _ => ?_) (fun c9 => absurd c9 (by decide))
      refine lv_goto (tgt := 1269) hx hb dL_law_1241 (by decide) ?_
      have hP := wp_P (List.perm_append_comm_assoc _ _ _) hP
      have hD := wp_D (List.perm_append_comm_assoc _ _ _) hD
      have hP : va_P D vwCl ((lw_U d0 dc dr h0 ai ar af ap ah ac ou cA cL k hk rg fi fr ff fp fh fn fo) ++ ((lw_M m0 mx my mr mb cA k (nI 2) sx sy fx fy fm fb) ++ ((dc, .inl (cQ, 5, .inr (.inr (.inr (.inr F))))) :: oth))) H := hP
      have hD : va_D (fun q => s.heap.size ≤ q) ((lw_U d0 dc dr h0 ai ar af ap ah ac ou cA cL k hk rg fi fr ff fp fh fn fo) ++ ((lw_M m0 mx my mr mb cA k (nI 2) sx sy fx fy fm fb) ++ ((dc, .inl (cQ, 5, .inr (.inr (.inr (.inr F))))) :: oth))) := hD
      refine W.widen (k := 20 + lx_n F + (i + 8)) (n := 9000 + lx_c F + 6 * (i + 8)) (by omega) (by omega) ?_
      exact kk F H locs ls (lv_sub hl [2, 3, 4, 5, 6] rfl) (lx_mk hP hD ⟨hk5, hF, hok, hhv, hrg, hR, hfm, hB, hO⟩) hS
    · obtain ⟨msg, hmsg, e3⟩ := md_gn b2
      by_cases b3 : (lx_lg (xs (i + 4)) (xs (i + 5))).toInt < 0
      · refine lv_aload_n hx hb dL_law_1113 rfl (lv_at hl 3 rfl) ?_
        refine lv_aload_n hx hb dL_law_1114 rfl (lv_at hl 4 rfl) ?_
        refine lv_iload hx hb dL_law_1115 (lv_at hl 0 rfl) ?_
        refine lv_iconst (v := (nI 1)) hx hb dL_law_1117 (by decide) ?_
        refine nv_iadd hx hb dL_law_1118 ?_
        refine va_sld hx hb hX hbl hbA hS (nv_in (by omega) (by omega)) dL_law_1119 ?_
        rw [nI_clamp (by omega)]
        rw [e1]
        refine lv_aload_n hx hb dL_law_1120 rfl (lv_at hl 4 rfl) ?_
        refine lv_iload hx hb dL_law_1121 (lv_at hl 0 rfl) ?_
        refine lv_iconst (v := (nI 2)) hx hb dL_law_1123 (by decide) ?_
        refine nv_iadd hx hb dL_law_1124 ?_
        refine va_sld hx hb hX hbl hbA hS (nv_in (by omega) (by omega)) dL_law_1125 ?_
        rw [nI_clamp (by omega)]
        rw [e2]
        refine lv_aload_n hx hb dL_law_1126 rfl (lv_at hl 4 rfl) ?_
        refine lv_iload hx hb dL_law_1127 (lv_at hl 0 rfl) ?_
        refine lv_iconst (v := (nI 3)) hx hb dL_law_1129 (by decide) ?_
        refine nv_iadd hx hb dL_law_1130 ?_
        refine va_sld hx hb hX hbl hbA hS (nv_in (by omega) (by omega)) dL_law_1131 ?_
        rw [nI_clamp (by omega)]
        rw [e3]
        refine lv_aload_n hx hb dL_law_1132 rfl (lv_at hl 4 rfl) ?_
        refine lv_iload hx hb dL_law_1133 (lv_at hl 0 rfl) ?_
        refine lv_iconst (v := (nI 4)) hx hb dL_law_1135 (by decide) ?_
        refine nv_iadd hx hb dL_law_1136 ?_
        refine va_sld hx hb hX hbl hbA hS (nv_in (by omega) (by omega)) dL_law_1137 ?_
        rw [nI_clamp (by omega)]
        refine lv_i2l (v := (xs (i + 4)).toInt64) hx hb dL_law_1138 rfl ?_
        refine lv_bipush (v := (nI 32)) hx hb dL_law_1139 (by decide) ?_
        refine lv_lshl (v := (xs (i + 4)).toInt64 <<< ((nI 32).toInt64 &&& 63)) hx hb dL_law_1141 rfl ?_
        refine lv_aload_n hx hb dL_law_1142 rfl (lv_at hl 4 rfl) ?_
        refine lv_iload hx hb dL_law_1143 (lv_at hl 0 rfl) ?_
        refine lv_iconst (v := (nI 5)) hx hb dL_law_1145 (by decide) ?_
        refine nv_iadd hx hb dL_law_1146 ?_
        refine va_sld hx hb hX hbl hbA hS (nv_in (by omega) (by omega)) dL_law_1147 ?_
        rw [nI_clamp (by omega)]
        refine lv_i2l (v := (xs (i + 5)).toInt64) hx hb dL_law_1148 rfl ?_
        refine lv_ldc2 (v := lN 4294967295) hx hb hown (ht _ kv_L_97) dL_law_1149 ?_
        refine lv_land hx hb dL_law_1152 ?_
        refine lx_lor (v := (lx_lg (xs (i + 4)) (xs (i + 5)))) hx hb dL_law_1153 rfl ?_
        refine lv_aload_n hx hb dL_law_1154 rfl (lv_at hl 1 rfl) ?_
        have hFc := wp_free hD hS hA
        refine va_calli (vx_runSW (As := [.ref d0, .int (nI j), .int (nI j2), .int (nI msg), .long (lx_lg (xs (i + 4)) (xs (i + 5))), .ref ou]) (rest := []) ⟨hx, hb, hml, hown, ht⟩ (c_L_verifyM l D hk5 hok hrg hj hj2 hmsg b3 H.size) (vx_cwSW 6 ht (tb_S kl_L_129 kt_L_verify kn_L kc_L_verify) rfl rfl rfl kd_L_verify ⟨Nat.le_of_ble_eq_true rfl, Nat.le_of_ble_eq_true rfl⟩) (wd_preS _ (wp_Pl hP) (hK.sub (tys' := [(cA, .int), (cL, .long)]) [0, 2] rfl) (wp_Dl hD)) rfl rfl hl.1 rfl (lv_room (Nat.le_of_ble_eq_true rfl)) dL_law_1155 ⟨by show 20 + lx_n F + i + 0 ≤ 601024; omega, by show 9000 + lx_c F + 6 * i + 0 ≤ 7293033; omega⟩) hS (fun q _ h => hFc q h) hFc (fun r9 u9 t9 H locs ht9 hvm9 hw9 hB9 hz9 hk9 hS => ?_)
        obtain ⟨hP1, hK1, hD1⟩ := hB9
        rw [ht9] at hP1
        obtain ⟨hP, hD⟩ := wp_join hP hD hk9 hFc hP1 hD1
        obtain ⟨e9, w9⟩ := hw9
        subst e9
        have hP : va_P D vwCl ((lw_U d0 dc dr h0 ai ar af ap ah ac ou cA cL k hk rg fi fr ff fp fh fn u9) ++ ((lw_M m0 mx my mr mb cA k th sx sy fx fy fm fb) ++ ((dc, .inl (cQ, 5, .inr (.inr (.inr (.inr F))))) :: oth))) H := hP
        have hD : va_D (fun q => s.heap.size ≤ q) ((lw_U d0 dc dr h0 ai ar af ap ah ac ou cA cL k hk rg fi fr ff fp fh fn u9) ++ ((lw_M m0 mx my mr mb cA k th sx sy fx fy fm fb) ++ ((dc, .inl (cQ, 5, .inr (.inr (.inr (.inr F))))) :: oth))) := hD
        refine lv_istore hx hb dL_law_1158 hl (by decide) rfl (fun ls hl => ?_)
        have hl : lv_has ls 8 [(5, .int (nI 0)), (4, .int (nI i)), (3, .ref ou), (2, .ref m0), (1, .ref d0), (0, .ref b)] := hl
        refine lv_aload_n hx hb dL_law_1160 rfl (lv_at hl 3 rfl) ?_
        refine lv_aload_n hx hb dL_law_1161 rfl (lv_at hl 5 rfl) ?_
        refine lv_iload hx hb dL_law_1162 (lv_at hl 1 rfl) ?_
        refine lv_iconst (v := (nI 1)) hx hb dL_law_1164 (by decide) ?_
        refine nv_iadd hx hb dL_law_1165 ?_
        refine va_sld hx hb hX hbl hbA hS (nv_in (by omega) (by omega)) dL_law_1166 ?_
        rw [nI_clamp (by omega)]
        rw [e1]
        refine lv_aload_n hx hb dL_law_1167 rfl (lv_at hl 5 rfl) ?_
        refine lv_iload hx hb dL_law_1168 (lv_at hl 1 rfl) ?_
        refine lv_iconst (v := (nI 2)) hx hb dL_law_1170 (by decide) ?_
        refine nv_iadd hx hb dL_law_1171 ?_
        refine va_sld hx hb hX hbl hbA hS (nv_in (by omega) (by omega)) dL_law_1172 ?_
        rw [nI_clamp (by omega)]
        rw [e2]
        refine lv_aload_n hx hb dL_law_1173 rfl (lv_at hl 5 rfl) ?_
        refine lv_iload hx hb dL_law_1174 (lv_at hl 1 rfl) ?_
        refine lv_iconst (v := (nI 3)) hx hb dL_law_1176 (by decide) ?_
        refine nv_iadd hx hb dL_law_1177 ?_
        refine va_sld hx hb hX hbl hbA hS (nv_in (by omega) (by omega)) dL_law_1178 ?_
        rw [nI_clamp (by omega)]
        rw [e3]
        refine lv_aload_n hx hb dL_law_1179 rfl (lv_at hl 5 rfl) ?_
        refine lv_iload hx hb dL_law_1180 (lv_at hl 1 rfl) ?_
        refine lv_iconst (v := (nI 4)) hx hb dL_law_1182 (by decide) ?_
        refine nv_iadd hx hb dL_law_1183 ?_
        refine va_sld hx hb hX hbl hbA hS (nv_in (by omega) (by omega)) dL_law_1184 ?_
        rw [nI_clamp (by omega)]
        refine lv_i2l (v := (xs (i + 4)).toInt64) hx hb dL_law_1185 rfl ?_
        refine lv_bipush (v := (nI 32)) hx hb dL_law_1186 (by decide) ?_
        refine lv_lshl (v := (xs (i + 4)).toInt64 <<< ((nI 32).toInt64 &&& 63)) hx hb dL_law_1188 rfl ?_
        refine lv_aload_n hx hb dL_law_1189 rfl (lv_at hl 5 rfl) ?_
        refine lv_iload hx hb dL_law_1190 (lv_at hl 1 rfl) ?_
        refine lv_iconst (v := (nI 5)) hx hb dL_law_1192 (by decide) ?_
        refine nv_iadd hx hb dL_law_1193 ?_
        refine va_sld hx hb hX hbl hbA hS (nv_in (by omega) (by omega)) dL_law_1194 ?_
        rw [nI_clamp (by omega)]
        refine lv_i2l (v := (xs (i + 5)).toInt64) hx hb dL_law_1195 rfl ?_
        refine lv_ldc2 (v := lN 4294967295) hx hb hown (ht _ kv_L_97) dL_law_1196 ?_
        refine lv_land hx hb dL_law_1199 ?_
        refine lx_lor (v := (lx_lg (xs (i + 4)) (xs (i + 5)))) hx hb dL_law_1200 rfl ?_
        have hP := wp_P (List.perm_append_comm_assoc _ _ _) hP
        have hD := wp_D (List.perm_append_comm_assoc _ _ _) hD
        have hP : va_P D vwCl ((lw_M m0 mx my mr mb cA k th sx sy fx fy fm fb) ++ ((lw_U d0 dc dr h0 ai ar af ap ah ac ou cA cL k hk rg fi fr ff fp fh fn u9) ++ ((dc, .inl (cQ, 5, .inr (.inr (.inr (.inr F))))) :: oth))) H := hP
        have hD : va_D (fun q => s.heap.size ≤ q) ((lw_M m0 mx my mr mb cA k th sx sy fx fy fm fb) ++ ((lw_U d0 dc dr h0 ai ar af ap ah ac ou cA cL k hk rg fi fr ff fp fh fn u9) ++ ((dc, .inl (cQ, 5, .inr (.inr (.inr (.inr F))))) :: oth))) := hD
        have hFc := wp_free hD hS hA
        refine va_calli (va_runV (As := [.int (nI j), .int (nI j2), .int (nI msg), .long (lx_lg (xs (i + 4)) (xs (i + 5)))]) (rest := []) ⟨hx, hb, hml, hown, ht⟩ (c_X2_verifyM l D hk5 hfm hR hj hj2 hmsg b3 H.size) (cwV 4 ht (tb_V kl_L_132 ki_X2_verify ks_X2_verify kn_X2 kc_X2_verify) rfl rfl rfl ⟨rfl, kd_X2_verify⟩ ⟨Nat.le_of_ble_eq_true rfl, Nat.le_of_ble_eq_true rfl⟩) (wd_preV _ (wp_Pl hP) (hK.sub (tys' := [(cA, .int)]) [0] rfl) (wp_Dl hD) (va_recv (ci := 2) (q0 := 0) hK hP rfl rfl)) rfl rfl hl.1 rfl (lv_room (Nat.le_of_ble_eq_true rfl)) dL_law_1201 ⟨by show 20 + lx_n F + i + 0 + 0 ≤ 601024; omega, by show 9000 + lx_c F + 6 * i + 0 + 0 ≤ 7293033; omega⟩) hS (fun q _ h => hFc q h) hFc (fun r8 u8 t8 H locs ht8 hvm8 hw8 hB8 hz8 hk8 hS => ?_)
        obtain ⟨hP1, hK1, hD1⟩ := hB8
        rw [ht8] at hP1
        obtain ⟨hP, hD⟩ := wp_join hP hD hk8 hFc hP1 hD1
        have hP : va_P D vwCl ((lw_M m0 mx my mr mb cA k (nI 0) u8.1 u8.2 fx fy fm fb) ++ ((lw_U d0 dc dr h0 ai ar af ap ah ac ou cA cL k hk rg fi fr ff fp fh fn u9) ++ ((dc, .inl (cQ, 5, .inr (.inr (.inr (.inr F))))) :: oth))) H := hP
        have hD : va_D (fun q => s.heap.size ≤ q) ((lw_M m0 mx my mr mb cA k (nI 0) u8.1 u8.2 fx fy fm fb) ++ ((lw_U d0 dc dr h0 ai ar af ap ah ac ou cA cL k hk rg fi fr ff fp fh fn u9) ++ ((dc, .inl (cQ, 5, .inr (.inr (.inr (.inr F))))) :: oth))) := hD
        subst hw8
        refine lv_istore hx hb dL_law_1204 hl (by decide) rfl (fun ls hl => ?_)
        have hl : lv_has ls 8 [(6, .int (0 : Int32)), (5, .int (nI 0)), (4, .int (nI i)), (3, .ref ou), (2, .ref m0), (1, .ref d0), (0, .ref b)] := hl
        refine lv_aload_n hx hb dL_law_1206 rfl (lv_at hl 4 rfl) ?_
        refine vp_callSi (W.runV (As := []) (rest := []) ⟨hx, hb, hml, hown, ht⟩ (c_X2_thrown l D hk5) (cwV 0 ht (tb_V kl_L_74 ki_X2_thrown ks_X2_thrown kn_X2 kc_X2_thrown) rfl rfl rfl ⟨rfl, kd_X2_thrown⟩ ⟨Nat.le_of_ble_eq_true rfl, Nat.le_of_ble_eq_true rfl⟩) (ro_preV _ ((wp_Pl hP).sub (ws' := [(m0, .inr (2, [.int (nI 0), .int (nI k), .int (nI (tw_P k)), .int (nI (tw_D k)), .int (nI (tw_I k)), .ref mx, .ref my, .ref mr, .ref mb, .int u8.1, .int u8.2]))]) [0] rfl) (hK.sub (tys' := []) [] rfl) (va_recv (ci := 2) (q0 := 0) hK hP rfl rfl)) rfl rfl hl.1 rfl (lv_room (Nat.le_of_ble_eq_true rfl)) dL_law_1207 ⟨by show 20 + lx_n F + i + 0 + 0 + 0 ≤ 601024; omega, by show 9000 + lx_c F + 6 * i + 0 + 0 + 0 ≤ 7293033; omega⟩) (fun r hr9 => ?_)
        subst hr9
        refine lv_iload hx hb dL_law_1210 (lv_at hl 1 rfl) ?_
        refine lv_icmp_eq (tgt := 1217) hx hb dL_law_1212 (by decide) (fun _ => ?_) (fun c9 => absurd rfl c9)
        refine lv_iload hx hb dL_law_1217 (lv_at hl 1 rfl) ?_
        refine lv_if_ne (tgt := 1241) hx hb dL_law_1219 (by decide) (fun c9 => absurd rfl c9) (fun _ => ?_)
        refine lv_aload_n hx hb dL_law_1222 rfl (lv_at hl 3 rfl) ?_
        refine lv_iconst (v := (nI 0)) hx hb dL_law_1223 (by decide) ?_
        have hP := wp_P (List.perm_append_comm_assoc _ _ _) hP
        have hD := wp_D (List.perm_append_comm_assoc _ _ _) hD
        have hP : va_P D vwCl ((lw_U d0 dc dr h0 ai ar af ap ah ac ou cA cL k hk rg fi fr ff fp fh fn u9) ++ ((lw_M m0 mx my mr mb cA k (nI 0) u8.1 u8.2 fx fy fm fb) ++ ((dc, .inl (cQ, 5, .inr (.inr (.inr (.inr F))))) :: oth))) H := hP
        have hD : va_D (fun q => s.heap.size ≤ q) ((lw_U d0 dc dr h0 ai ar af ap ah ac ou cA cL k hk rg fi fr ff fp fh fn u9) ++ ((lw_M m0 mx my mr mb cA k (nI 0) u8.1 u8.2 fx fy fm fb) ++ ((dc, .inl (cQ, 5, .inr (.inr (.inr (.inr F))))) :: oth))) := hD
        refine va_lald hx hb hK hP 9 2 rfl rfl (nv_in (a := 0) (n := 1) (by decide) (by decide)) dL_law_1224 ?_
        rw [nI_clamp (n := 0) (by decide), w9]
        refine lv_iload hx hb dL_law_1225 (lv_at hl 0 rfl) ?_
        refine lv_if_eq (tgt := 1234) hx hb dL_law_1227 (by decide) (fun c9 => ?_) (fun c9 => ?_)
        · rw [if_pos c9]
          refine lv_lconst (v := lN 0) hx hb dL_law_1234 (by decide) ?_
          refine lx_lcmp hx hb dL_law_1235 ?_
          refine lv_if_eq (tgt := 1241) hx hb dL_law_1236 (by decide) (fun _ => ?_) (fun c9 => absurd rfl c9)
          refine lv_goto (tgt := 1269) hx hb dL_law_1241 (by decide) ?_
          refine W.widen (k := 20 + lx_n F + (i + 8)) (n := 9000 + lx_c F + 6 * (i + 8)) (by omega) (by omega) ?_
          exact kk F H locs ls (lv_sub hl [2, 3, 4, 5, 6] rfl) (lx_mk hP hD ⟨hk5, hF, hok, hhv, hrg, hR, hfm, hB, hO⟩) hS
        · rw [if_neg c9]
          refine lv_lconst (v := lN 1) hx hb dL_law_1230 (by decide) ?_
          refine lv_goto (tgt := 1235) hx hb dL_law_1231 (by decide) ?_
          refine lx_lcmp hx hb dL_law_1235 ?_
          refine lv_if_eq (tgt := 1241) hx hb dL_law_1236 (by decide) (fun _ => ?_) (fun c9 => absurd rfl c9)
          refine lv_goto (tgt := 1269) hx hb dL_law_1241 (by decide) ?_
          refine W.widen (k := 20 + lx_n F + (i + 8)) (n := 9000 + lx_c F + 6 * (i + 8)) (by omega) (by omega) ?_
          exact kk F H locs ls (lv_sub hl [2, 3, 4, 5, 6] rfl) (lx_mk hP hD ⟨hk5, hF, hok, hhv, hrg, hR, hfm, hB, hO⟩) hS
      · obtain ⟨g9, hg, eg⟩ := lx_ln b3
        refine lv_aload_n hx hb dL_law_1113 rfl (lv_at hl 3 rfl) ?_
        refine lv_aload_n hx hb dL_law_1114 rfl (lv_at hl 4 rfl) ?_
        refine lv_iload hx hb dL_law_1115 (lv_at hl 0 rfl) ?_
        refine lv_iconst (v := (nI 1)) hx hb dL_law_1117 (by decide) ?_
        refine nv_iadd hx hb dL_law_1118 ?_
        refine va_sld hx hb hX hbl hbA hS (nv_in (by omega) (by omega)) dL_law_1119 ?_
        rw [nI_clamp (by omega)]
        rw [e1]
        refine lv_aload_n hx hb dL_law_1120 rfl (lv_at hl 4 rfl) ?_
        refine lv_iload hx hb dL_law_1121 (lv_at hl 0 rfl) ?_
        refine lv_iconst (v := (nI 2)) hx hb dL_law_1123 (by decide) ?_
        refine nv_iadd hx hb dL_law_1124 ?_
        refine va_sld hx hb hX hbl hbA hS (nv_in (by omega) (by omega)) dL_law_1125 ?_
        rw [nI_clamp (by omega)]
        rw [e2]
        refine lv_aload_n hx hb dL_law_1126 rfl (lv_at hl 4 rfl) ?_
        refine lv_iload hx hb dL_law_1127 (lv_at hl 0 rfl) ?_
        refine lv_iconst (v := (nI 3)) hx hb dL_law_1129 (by decide) ?_
        refine nv_iadd hx hb dL_law_1130 ?_
        refine va_sld hx hb hX hbl hbA hS (nv_in (by omega) (by omega)) dL_law_1131 ?_
        rw [nI_clamp (by omega)]
        rw [e3]
        refine lv_aload_n hx hb dL_law_1132 rfl (lv_at hl 4 rfl) ?_
        refine lv_iload hx hb dL_law_1133 (lv_at hl 0 rfl) ?_
        refine lv_iconst (v := (nI 4)) hx hb dL_law_1135 (by decide) ?_
        refine nv_iadd hx hb dL_law_1136 ?_
        refine va_sld hx hb hX hbl hbA hS (nv_in (by omega) (by omega)) dL_law_1137 ?_
        rw [nI_clamp (by omega)]
        refine lv_i2l (v := (xs (i + 4)).toInt64) hx hb dL_law_1138 rfl ?_
        refine lv_bipush (v := (nI 32)) hx hb dL_law_1139 (by decide) ?_
        refine lv_lshl (v := (xs (i + 4)).toInt64 <<< ((nI 32).toInt64 &&& 63)) hx hb dL_law_1141 rfl ?_
        refine lv_aload_n hx hb dL_law_1142 rfl (lv_at hl 4 rfl) ?_
        refine lv_iload hx hb dL_law_1143 (lv_at hl 0 rfl) ?_
        refine lv_iconst (v := (nI 5)) hx hb dL_law_1145 (by decide) ?_
        refine nv_iadd hx hb dL_law_1146 ?_
        refine va_sld hx hb hX hbl hbA hS (nv_in (by omega) (by omega)) dL_law_1147 ?_
        rw [nI_clamp (by omega)]
        refine lv_i2l (v := (xs (i + 5)).toInt64) hx hb dL_law_1148 rfl ?_
        refine lv_ldc2 (v := lN 4294967295) hx hb hown (ht _ kv_L_97) dL_law_1149 ?_
        refine lv_land hx hb dL_law_1152 ?_
        refine lx_lor (v := (lN g9)) hx hb dL_law_1153 eg ?_
        refine lv_aload_n hx hb dL_law_1154 rfl (lv_at hl 1 rfl) ?_
        have hFc := wp_free hD hS hA
        refine va_calli (vx_runSW (As := [.ref d0, .int (nI j), .int (nI j2), .int (nI msg), .long (lN g9), .ref ou]) (rest := []) ⟨hx, hb, hml, hown, ht⟩ (c_L_verify l D hk5 hok hrg hj hj2 hmsg hg H.size) (vx_cwSW 6 ht (tb_S kl_L_129 kt_L_verify kn_L kc_L_verify) rfl rfl rfl kd_L_verify ⟨Nat.le_of_ble_eq_true rfl, Nat.le_of_ble_eq_true rfl⟩) (wd_preS _ (wp_Pl hP) (hK.sub (tys' := [(cA, .int), (cL, .long)]) [0, 2] rfl) (wp_Dl hD)) rfl rfl hl.1 rfl (lv_room (Nat.le_of_ble_eq_true rfl)) dL_law_1155 ⟨by show 20 + lx_n F + i + 0 ≤ 601024; omega, by show 9000 + lx_c F + 6 * i + 0 ≤ 7293033; omega⟩) hS (fun q _ h => hFc q h) hFc (fun r9 u9 t9 H locs ht9 hvm9 hw9 hB9 hz9 hk9 hS => ?_)
        obtain ⟨hP1, hK1, hD1⟩ := hB9
        rw [ht9] at hP1
        obtain ⟨hP, hD⟩ := wp_join hP hD hk9 hFc hP1 hD1
        obtain ⟨e9, w9⟩ := hw9
        subst e9
        have hP : va_P D vwCl ((lw_U d0 dc dr h0 ai ar af ap ah ac ou cA cL k hk rg fi fr ff fp fh fn u9) ++ ((lw_M m0 mx my mr mb cA k th sx sy fx fy fm fb) ++ ((dc, .inl (cQ, 5, .inr (.inr (.inr (.inr F))))) :: oth))) H := hP
        have hD : va_D (fun q => s.heap.size ≤ q) ((lw_U d0 dc dr h0 ai ar af ap ah ac ou cA cL k hk rg fi fr ff fp fh fn u9) ++ ((lw_M m0 mx my mr mb cA k th sx sy fx fy fm fb) ++ ((dc, .inl (cQ, 5, .inr (.inr (.inr (.inr F))))) :: oth))) := hD
        refine lv_istore hx hb dL_law_1158 hl (by decide) rfl (fun ls hl => ?_)
        have hl : lv_has ls 8 [(5, .int (nI 0)), (4, .int (nI i)), (3, .ref ou), (2, .ref m0), (1, .ref d0), (0, .ref b)] := hl
        refine lv_aload_n hx hb dL_law_1160 rfl (lv_at hl 3 rfl) ?_
        refine lv_aload_n hx hb dL_law_1161 rfl (lv_at hl 5 rfl) ?_
        refine lv_iload hx hb dL_law_1162 (lv_at hl 1 rfl) ?_
        refine lv_iconst (v := (nI 1)) hx hb dL_law_1164 (by decide) ?_
        refine nv_iadd hx hb dL_law_1165 ?_
        refine va_sld hx hb hX hbl hbA hS (nv_in (by omega) (by omega)) dL_law_1166 ?_
        rw [nI_clamp (by omega)]
        rw [e1]
        refine lv_aload_n hx hb dL_law_1167 rfl (lv_at hl 5 rfl) ?_
        refine lv_iload hx hb dL_law_1168 (lv_at hl 1 rfl) ?_
        refine lv_iconst (v := (nI 2)) hx hb dL_law_1170 (by decide) ?_
        refine nv_iadd hx hb dL_law_1171 ?_
        refine va_sld hx hb hX hbl hbA hS (nv_in (by omega) (by omega)) dL_law_1172 ?_
        rw [nI_clamp (by omega)]
        rw [e2]
        refine lv_aload_n hx hb dL_law_1173 rfl (lv_at hl 5 rfl) ?_
        refine lv_iload hx hb dL_law_1174 (lv_at hl 1 rfl) ?_
        refine lv_iconst (v := (nI 3)) hx hb dL_law_1176 (by decide) ?_
        refine nv_iadd hx hb dL_law_1177 ?_
        refine va_sld hx hb hX hbl hbA hS (nv_in (by omega) (by omega)) dL_law_1178 ?_
        rw [nI_clamp (by omega)]
        rw [e3]
        refine lv_aload_n hx hb dL_law_1179 rfl (lv_at hl 5 rfl) ?_
        refine lv_iload hx hb dL_law_1180 (lv_at hl 1 rfl) ?_
        refine lv_iconst (v := (nI 4)) hx hb dL_law_1182 (by decide) ?_
        refine nv_iadd hx hb dL_law_1183 ?_
        refine va_sld hx hb hX hbl hbA hS (nv_in (by omega) (by omega)) dL_law_1184 ?_
        rw [nI_clamp (by omega)]
        refine lv_i2l (v := (xs (i + 4)).toInt64) hx hb dL_law_1185 rfl ?_
        refine lv_bipush (v := (nI 32)) hx hb dL_law_1186 (by decide) ?_
        refine lv_lshl (v := (xs (i + 4)).toInt64 <<< ((nI 32).toInt64 &&& 63)) hx hb dL_law_1188 rfl ?_
        refine lv_aload_n hx hb dL_law_1189 rfl (lv_at hl 5 rfl) ?_
        refine lv_iload hx hb dL_law_1190 (lv_at hl 1 rfl) ?_
        refine lv_iconst (v := (nI 5)) hx hb dL_law_1192 (by decide) ?_
        refine nv_iadd hx hb dL_law_1193 ?_
        refine va_sld hx hb hX hbl hbA hS (nv_in (by omega) (by omega)) dL_law_1194 ?_
        rw [nI_clamp (by omega)]
        refine lv_i2l (v := (xs (i + 5)).toInt64) hx hb dL_law_1195 rfl ?_
        refine lv_ldc2 (v := lN 4294967295) hx hb hown (ht _ kv_L_97) dL_law_1196 ?_
        refine lv_land hx hb dL_law_1199 ?_
        refine lx_lor (v := (lN g9)) hx hb dL_law_1200 eg ?_
        have hP := wp_P (List.perm_append_comm_assoc _ _ _) hP
        have hD := wp_D (List.perm_append_comm_assoc _ _ _) hD
        have hP : va_P D vwCl ((lw_M m0 mx my mr mb cA k th sx sy fx fy fm fb) ++ ((lw_U d0 dc dr h0 ai ar af ap ah ac ou cA cL k hk rg fi fr ff fp fh fn u9) ++ ((dc, .inl (cQ, 5, .inr (.inr (.inr (.inr F))))) :: oth))) H := hP
        have hD : va_D (fun q => s.heap.size ≤ q) ((lw_M m0 mx my mr mb cA k th sx sy fx fy fm fb) ++ ((lw_U d0 dc dr h0 ai ar af ap ah ac ou cA cL k hk rg fi fr ff fp fh fn u9) ++ ((dc, .inl (cQ, 5, .inr (.inr (.inr (.inr F))))) :: oth))) := hD
        have hFc := wp_free hD hS hA
        refine va_calli (va_runV (As := [.int (nI j), .int (nI j2), .int (nI msg), .long (lN g9)]) (rest := []) ⟨hx, hb, hml, hown, ht⟩ (c_X2_verify l D hk5 hfm hR hj hj2 hmsg hg H.size) (cwV 4 ht (tb_V kl_L_132 ki_X2_verify ks_X2_verify kn_X2 kc_X2_verify) rfl rfl rfl ⟨rfl, kd_X2_verify⟩ ⟨Nat.le_of_ble_eq_true rfl, Nat.le_of_ble_eq_true rfl⟩) (wd_preV _ (wp_Pl hP) (hK.sub (tys' := [(cA, .int)]) [0] rfl) (wp_Dl hD) (va_recv (ci := 2) (q0 := 0) hK hP rfl rfl)) rfl rfl hl.1 rfl (lv_room (Nat.le_of_ble_eq_true rfl)) dL_law_1201 ⟨by show 20 + lx_n F + i + 0 + 0 ≤ 601024; omega, by show 9000 + lx_c F + 6 * i + 0 + 0 ≤ 7293033; omega⟩) hS (fun q _ h => hFc q h) hFc (fun r8 u8 t8 H locs ht8 hvm8 hw8 hB8 hz8 hk8 hS => ?_)
        obtain ⟨hP1, hK1, hD1⟩ := hB8
        rw [ht8] at hP1
        obtain ⟨hP, hD⟩ := wp_join hP hD hk8 hFc hP1 hD1
        have hP : va_P D vwCl ((lw_M m0 mx my mr mb cA k (nI 0) u8.1 u8.2 fx fy fm fb) ++ ((lw_U d0 dc dr h0 ai ar af ap ah ac ou cA cL k hk rg fi fr ff fp fh fn u9) ++ ((dc, .inl (cQ, 5, .inr (.inr (.inr (.inr F))))) :: oth))) H := hP
        have hD : va_D (fun q => s.heap.size ≤ q) ((lw_M m0 mx my mr mb cA k (nI 0) u8.1 u8.2 fx fy fm fb) ++ ((lw_U d0 dc dr h0 ai ar af ap ah ac ou cA cL k hk rg fi fr ff fp fh fn u9) ++ ((dc, .inl (cQ, 5, .inr (.inr (.inr (.inr F))))) :: oth))) := hD
        subst hw8
        refine lv_istore hx hb dL_law_1204 hl (by decide) rfl (fun ls hl => ?_)
        have hl : lv_has ls 8 [(6, .int (tw_vf k R j j2 msg g9)), (5, .int (nI 0)), (4, .int (nI i)), (3, .ref ou), (2, .ref m0), (1, .ref d0), (0, .ref b)] := hl
        refine lv_aload_n hx hb dL_law_1206 rfl (lv_at hl 4 rfl) ?_
        refine vp_callSi (W.runV (As := []) (rest := []) ⟨hx, hb, hml, hown, ht⟩ (c_X2_thrown l D hk5) (cwV 0 ht (tb_V kl_L_74 ki_X2_thrown ks_X2_thrown kn_X2 kc_X2_thrown) rfl rfl rfl ⟨rfl, kd_X2_thrown⟩ ⟨Nat.le_of_ble_eq_true rfl, Nat.le_of_ble_eq_true rfl⟩) (ro_preV _ ((wp_Pl hP).sub (ws' := [(m0, .inr (2, [.int (nI 0), .int (nI k), .int (nI (tw_P k)), .int (nI (tw_D k)), .int (nI (tw_I k)), .ref mx, .ref my, .ref mr, .ref mb, .int u8.1, .int u8.2]))]) [0] rfl) (hK.sub (tys' := []) [] rfl) (va_recv (ci := 2) (q0 := 0) hK hP rfl rfl)) rfl rfl hl.1 rfl (lv_room (Nat.le_of_ble_eq_true rfl)) dL_law_1207 ⟨by show 20 + lx_n F + i + 0 + 0 + 0 ≤ 601024; omega, by show 9000 + lx_c F + 6 * i + 0 + 0 + 0 ≤ 7293033; omega⟩) (fun r hr9 => ?_)
        subst hr9
        refine lv_iload hx hb dL_law_1210 (lv_at hl 1 rfl) ?_
        refine lv_icmp_eq (tgt := 1217) hx hb dL_law_1212 (by decide) (fun _ => ?_) (fun c9 => absurd rfl c9)
        refine lv_iload hx hb dL_law_1217 (lv_at hl 1 rfl) ?_
        refine lv_if_ne (tgt := 1241) hx hb dL_law_1219 (by decide) (fun c9 => absurd rfl c9) (fun _ => ?_)
        refine lv_aload_n hx hb dL_law_1222 rfl (lv_at hl 3 rfl) ?_
        refine lv_iconst (v := (nI 0)) hx hb dL_law_1223 (by decide) ?_
        have hP := wp_P (List.perm_append_comm_assoc _ _ _) hP
        have hD := wp_D (List.perm_append_comm_assoc _ _ _) hD
        have hP : va_P D vwCl ((lw_U d0 dc dr h0 ai ar af ap ah ac ou cA cL k hk rg fi fr ff fp fh fn u9) ++ ((lw_M m0 mx my mr mb cA k (nI 0) u8.1 u8.2 fx fy fm fb) ++ ((dc, .inl (cQ, 5, .inr (.inr (.inr (.inr F))))) :: oth))) H := hP
        have hD : va_D (fun q => s.heap.size ≤ q) ((lw_U d0 dc dr h0 ai ar af ap ah ac ou cA cL k hk rg fi fr ff fp fh fn u9) ++ ((lw_M m0 mx my mr mb cA k (nI 0) u8.1 u8.2 fx fy fm fb) ++ ((dc, .inl (cQ, 5, .inr (.inr (.inr (.inr F))))) :: oth))) := hD
        refine va_lald hx hb hK hP 9 2 rfl rfl (nv_in (a := 0) (n := 1) (by decide) (by decide)) dL_law_1224 ?_
        rw [nI_clamp (n := 0) (by decide), w9]
        refine lv_iload hx hb dL_law_1225 (lv_at hl 0 rfl) ?_
        refine lv_if_eq (tgt := 1234) hx hb dL_law_1227 (by decide) (fun c9 => ?_) (fun c9 => ?_)
        · rw [if_pos c9]
          refine lv_lconst (v := lN 0) hx hb dL_law_1234 (by decide) ?_
          refine lx_lcmp hx hb dL_law_1235 ?_
          refine lv_if_eq (tgt := 1241) hx hb dL_law_1236 (by decide) (fun _ => ?_) (fun c9 => absurd rfl c9)
          refine lv_goto (tgt := 1269) hx hb dL_law_1241 (by decide) ?_
          refine W.widen (k := 20 + lx_n F + (i + 8)) (n := 9000 + lx_c F + 6 * (i + 8)) (by omega) (by omega) ?_
          exact kk F H locs ls (lv_sub hl [2, 3, 4, 5, 6] rfl) (lx_mk hP hD ⟨hk5, hF, hok, hhv, hrg, hR, hfm, hB, hO⟩) hS
        · rw [if_neg c9]
          refine lv_lconst (v := lN 1) hx hb dL_law_1230 (by decide) ?_
          refine lv_goto (tgt := 1235) hx hb dL_law_1231 (by decide) ?_
          refine lx_lcmp hx hb dL_law_1235 ?_
          refine lv_if_eq (tgt := 1241) hx hb dL_law_1236 (by decide) (fun _ => ?_) (fun c9 => absurd rfl c9)
          refine lv_goto (tgt := 1269) hx hb dL_law_1241 (by decide) ?_
          refine W.widen (k := 20 + lx_n F + (i + 8)) (n := 9000 + lx_c F + 6 * (i + 8)) (by omega) (by omega) ?_
          exact kk F H locs ls (lv_sub hl [2, 3, 4, 5, 6] rfl) (lx_mk hP hD ⟨hk5, hF, hok, hhv, hrg, hR, hfm, hB, hO⟩) hS
set_option maxHeartbeats 8000000 in
set_option maxRecDepth 100000 in
theorem lc_0 {p : Program} {l : Launch} {e : Env} {s : State} {m : MethodId} {below : List Frame} {meth : Method} {c : Code} {Q : State → Prop} {b L : Nat} {xs : Nat → Int32} {gs : Nat → Nat} {tp : Nat} {D : va_G} {d0 dc dr ou m0 mx my mr mb : Nat} {cA cQ cL : ClassId} (C : lx_C p l s m c b L xs gs tp D cA cQ cL) {i : Nat} (hi : i + 8 ≤ L) {F : Nat → Option Nat} {H : Heap} {locs : List Loc} {ls : Array Slot} (hl : lv_has ls 8 [(4, .int (nI i)), (3, .ref ou), (2, .ref m0), (1, .ref d0), (0, .ref b)]) (hI : lx_I D d0 dc dr ou m0 mx my mr mb cA cQ cL (fun q => s.heap.size ≤ q) F H) (hS : va_S (fun q => s.heap.size ≤ q) s.heap H locs) (kk : (∀ (F : Nat → Option Nat) (H : Heap) (locs : List Loc) (ls : Array Slot), lv_has ls 8 [(4, .int (nI i)), (3, .ref ou), (2, .ref m0), (1, .ref d0), (0, .ref b)] → lx_I D d0 dc dr ou m0 mx my mr mb cA cQ cL (fun q => s.heap.size ≤ q) F H → va_S (fun q => s.heap.size ≤ q) s.heap H locs → W p l e room_1 s m #[Value.ref b] below meth c H locs (20 + lx_n F + (i + 8)) (9000 + lx_c F + 6 * (i + 8)) Q (F0 m 1269 ls []))) : W p l e room_1 s m #[Value.ref b] below meth c H locs (20 + lx_n F + i) (9000 + lx_c F + 6 * i) Q (F0 m 120 ls []) := by
  obtain ⟨hx, hb, hml, hown, ht, hX, hbl, hZ, hT, hK, hL⟩ := C
  obtain ⟨k, R, h0, ai, ar, af, ap, ah, ac, hk, rg, fi, fr, ff, fp, fh, fn, fo, th, sx, sy, fx, fy, fm, fb, oth, hP, hD, hk5, hF, hok, hhv, hrg, hR, hfm, hB, hO⟩ := hI
  have hbA : ¬ s.heap.size ≤ b := Nat.not_le.mpr hbl
  have hA : ∀ q, s.heap.size ≤ q → s.heap.size ≤ q := fun _ h => h
  have zi : i ≤ 4088 := by omega
  have zn := lx_n_le F
  have zc := lx_c_le F
  have hK0 := tw_kK k hk5
  by_cases b1 : (xs (i + 1)) < 0 ∨ nI 4 < (xs (i + 1))
  · refine lv_aload_n hx hb dL_law_120 rfl (lv_at hl 3 rfl) ?_
    refine lv_aload_n hx hb dL_law_121 rfl (lv_at hl 4 rfl) ?_
    refine lv_iload hx hb dL_law_122 (lv_at hl 0 rfl) ?_
    refine lv_iconst (v := (nI 1)) hx hb dL_law_124 (by decide) ?_
    refine nv_iadd hx hb dL_law_125 ?_
    refine va_sld hx hb hX hbl hbA hS (nv_in (by omega) (by omega)) dL_law_126 ?_
    rw [nI_clamp (by omega)]
    refine lv_aload_n hx hb dL_law_127 rfl (lv_at hl 1 rfl) ?_
    refine va_calli (vx_runSW (As := [.ref d0, .int (xs (i + 1)), .ref ou]) (rest := []) ⟨hx, hb, hml, hown, ht⟩ (c_L_beginR l gs b1) (vx_cwSW 3 ht (tb_S kl_L_68 kt_L_begin kn_L kc_L_begin) rfl rfl rfl kd_L_begin ⟨Nat.le_of_ble_eq_true rfl, Nat.le_of_ble_eq_true rfl⟩) (nx_preSZ _ hZ hT hS (va_recv (ci := 1) (q0 := 0) hK hP rfl rfl)) rfl rfl hl.1 rfl (lv_room (Nat.le_of_ble_eq_true rfl)) dL_law_128 ⟨by show 20 + lx_n F + i + 1 ≤ 601024; omega, by show 9000 + lx_c F + 6 * i + 6 ≤ 7293033; omega⟩) hS (fun _ _ h => h.elim) (fun _ h => h.elim) (fun r9 u9 t9 H locs ht9 hvm9 hw9 hB9 hz9 hk9 hS => ?_)
    have hP := lx_kp hP hk9
    subst hw9
    have hP : va_P D vwCl ((lw_U d0 dc dr h0 ai ar af ap ah ac ou cA cL k hk rg fi fr ff fp fh fn fo) ++ ((lw_M m0 mx my mr mb cA k th sx sy fx fy fm fb) ++ ((dc, .inl (cQ, 5, .inr (.inr (.inr (.inr F))))) :: oth))) H := hP
    have hD : va_D (fun q => s.heap.size ≤ q) ((lw_U d0 dc dr h0 ai ar af ap ah ac ou cA cL k hk rg fi fr ff fp fh fn fo) ++ ((lw_M m0 mx my mr mb cA k th sx sy fx fy fm fb) ++ ((dc, .inl (cQ, 5, .inr (.inr (.inr (.inr F))))) :: oth))) := hD
    refine lv_istore hx hb dL_law_131 hl (by decide) rfl (fun ls hl => ?_)
    have hl : lv_has ls 8 [(5, .int (nI 1)), (4, .int (nI i)), (3, .ref ou), (2, .ref m0), (1, .ref d0), (0, .ref b)] := hl
    refine lv_aload_n hx hb dL_law_133 rfl (lv_at hl 3 rfl) ?_
    refine lv_aload_n hx hb dL_law_134 rfl (lv_at hl 5 rfl) ?_
    refine lv_iload hx hb dL_law_135 (lv_at hl 1 rfl) ?_
    refine lv_iconst (v := (nI 1)) hx hb dL_law_137 (by decide) ?_
    refine nv_iadd hx hb dL_law_138 ?_
    refine va_sld hx hb hX hbl hbA hS (nv_in (by omega) (by omega)) dL_law_139 ?_
    rw [nI_clamp (by omega)]
    have hP := wp_P (List.perm_append_comm_assoc _ _ _) hP
    have hD := wp_D (List.perm_append_comm_assoc _ _ _) hD
    have hP : va_P D vwCl ((lw_M m0 mx my mr mb cA k th sx sy fx fy fm fb) ++ ((lw_U d0 dc dr h0 ai ar af ap ah ac ou cA cL k hk rg fi fr ff fp fh fn fo) ++ ((dc, .inl (cQ, 5, .inr (.inr (.inr (.inr F))))) :: oth))) H := hP
    have hD : va_D (fun q => s.heap.size ≤ q) ((lw_M m0 mx my mr mb cA k th sx sy fx fy fm fb) ++ ((lw_U d0 dc dr h0 ai ar af ap ah ac ou cA cL k hk rg fi fr ff fp fh fn fo) ++ ((dc, .inl (cQ, 5, .inr (.inr (.inr (.inr F))))) :: oth))) := hD
    have hFc := wp_free hD hS hA
    refine va_calli (va_runV (As := [.int (xs (i + 1))]) (rest := []) ⟨hx, hb, hml, hown, ht⟩ (c_X2_beginR l D hk5 b1 H.size) (cwV 1 ht (tb_V kl_L_73 ki_X2_begin ks_X2_begin kn_X2 kc_X2_begin) rfl rfl rfl ⟨rfl, kd_X2_begin⟩ ⟨Nat.le_of_ble_eq_true rfl, Nat.le_of_ble_eq_true rfl⟩) (wd_preV _ (wp_Pl hP) (hK.sub (tys' := [(cA, .int)]) [0] rfl) (wp_Dl hD) (va_recv (ci := 2) (q0 := 0) hK hP rfl rfl)) rfl rfl hl.1 rfl (lv_room (Nat.le_of_ble_eq_true rfl)) dL_law_140 ⟨by show 20 + lx_n F + i + 1 + 0 ≤ 601024; omega, by show 9000 + lx_c F + 6 * i + 6 + 0 ≤ 7293033; omega⟩) hS (fun q _ h => hFc q h) hFc (fun r8 u8 t8 H locs ht8 hvm8 hw8 hB8 hz8 hk8 hS => ?_)
    obtain ⟨hP1, hK1, hD1⟩ := hB8
    rw [ht8] at hP1
    obtain ⟨hP, hD⟩ := wp_join hP hD hk8 hFc hP1 hD1
    have hP : va_P D vwCl ((lw_M m0 mx my mr mb cA k (nI 1) sx sy fx fy fm fb) ++ ((lw_U d0 dc dr h0 ai ar af ap ah ac ou cA cL k hk rg fi fr ff fp fh fn fo) ++ ((dc, .inl (cQ, 5, .inr (.inr (.inr (.inr F))))) :: oth))) H := hP
    have hD : va_D (fun q => s.heap.size ≤ q) ((lw_M m0 mx my mr mb cA k (nI 1) sx sy fx fy fm fb) ++ ((lw_U d0 dc dr h0 ai ar af ap ah ac ou cA cL k hk rg fi fr ff fp fh fn fo) ++ ((dc, .inl (cQ, 5, .inr (.inr (.inr (.inr F))))) :: oth))) := hD
    subst hw8
    refine lv_istore hx hb dL_law_143 hl (by decide) rfl (fun ls hl => ?_)
    have hl : lv_has ls 8 [(6, .int 0), (5, .int (nI 1)), (4, .int (nI i)), (3, .ref ou), (2, .ref m0), (1, .ref d0), (0, .ref b)] := hl
    refine lv_aload_n hx hb dL_law_145 rfl (lv_at hl 4 rfl) ?_
    refine vp_callSi (W.runV (As := []) (rest := []) ⟨hx, hb, hml, hown, ht⟩ (c_X2_thrown l D hk5) (cwV 0 ht (tb_V kl_L_74 ki_X2_thrown ks_X2_thrown kn_X2 kc_X2_thrown) rfl rfl rfl ⟨rfl, kd_X2_thrown⟩ ⟨Nat.le_of_ble_eq_true rfl, Nat.le_of_ble_eq_true rfl⟩) (ro_preV _ ((wp_Pl hP).sub (ws' := [(m0, .inr (2, [.int (nI 1), .int (nI k), .int (nI (tw_P k)), .int (nI (tw_D k)), .int (nI (tw_I k)), .ref mx, .ref my, .ref mr, .ref mb, .int sx, .int sy]))]) [0] rfl) (hK.sub (tys' := []) [] rfl) (va_recv (ci := 2) (q0 := 0) hK hP rfl rfl)) rfl rfl hl.1 rfl (lv_room (Nat.le_of_ble_eq_true rfl)) dL_law_146 ⟨by show 20 + lx_n F + i + 1 + 0 + 0 ≤ 601024; omega, by show 9000 + lx_c F + 6 * i + 6 + 0 + 0 ≤ 7293033; omega⟩) (fun r hr9 => ?_)
    subst hr9
    refine lv_iload hx hb dL_law_149 (lv_at hl 1 rfl) ?_
    refine lv_icmp_eq (tgt := 156) hx hb dL_law_151 (by decide) (fun _ => ?_) (fun c9 => absurd rfl c9)
    refine lv_iload hx hb dL_law_156 (lv_at hl 1 rfl) ?_
    refine lv_if_ne (tgt := 173) hx hb dL_law_158 (by decide) (fun _ => ?_) (fun c9 => absurd c9 (by decide))
    refine lv_goto (tgt := 1269) hx hb dL_law_173 (by decide) ?_
    have hP := wp_P (List.perm_append_comm_assoc _ _ _) hP
    have hD := wp_D (List.perm_append_comm_assoc _ _ _) hD
    have hP : va_P D vwCl ((lw_U d0 dc dr h0 ai ar af ap ah ac ou cA cL k hk rg fi fr ff fp fh fn fo) ++ ((lw_M m0 mx my mr mb cA k (nI 1) sx sy fx fy fm fb) ++ ((dc, .inl (cQ, 5, .inr (.inr (.inr (.inr F))))) :: oth))) H := hP
    have hD : va_D (fun q => s.heap.size ≤ q) ((lw_U d0 dc dr h0 ai ar af ap ah ac ou cA cL k hk rg fi fr ff fp fh fn fo) ++ ((lw_M m0 mx my mr mb cA k (nI 1) sx sy fx fy fm fb) ++ ((dc, .inl (cQ, 5, .inr (.inr (.inr (.inr F))))) :: oth))) := hD
    refine W.widen (k := 20 + lx_n F + (i + 8)) (n := 9000 + lx_c F + 6 * (i + 8)) (by omega) (by omega) ?_
    exact kk F H locs ls (lv_sub hl [2, 3, 4, 5, 6] rfl) (lx_mk hP hD ⟨hk5, hF, hok, hhv, hrg, hR, hfm, hB, hO⟩) hS
  · obtain ⟨k1, hk1, e1⟩ := lx_5 b1
    cases hF1 : F k1 with
    | none =>
      have hne : k1 ≠ k := fun q => by rw [q, hF] at hF1; cases hF1
      have zP := (tw_kb hk1).2.1
      refine lv_aload_n hx hb dL_law_120 rfl (lv_at hl 3 rfl) ?_
      refine lv_aload_n hx hb dL_law_121 rfl (lv_at hl 4 rfl) ?_
      refine lv_iload hx hb dL_law_122 (lv_at hl 0 rfl) ?_
      refine lv_iconst (v := (nI 1)) hx hb dL_law_124 (by decide) ?_
      refine nv_iadd hx hb dL_law_125 ?_
      refine va_sld hx hb hX hbl hbA hS (nv_in (by omega) (by omega)) dL_law_126 ?_
      rw [nI_clamp (by omega)]
      rw [e1]
      refine lv_aload_n hx hb dL_law_127 rfl (lv_at hl 1 rfl) ?_
      have hp9 : List.Perm ([(d0, .inr (1, [.ref dc, .ref dr, .int (nI k), .ref h0])), (dr, .inl (cA, 12, .inl rg)), (h0, .inr (0, [.int (nI (tw_P k)), .int (nI (tw_D k)), .int (nI (tw_I k)), .int (nI (tw_N k)), .ref ai, .ref ar, .ref af, .ref ap, .ref ah, .ref ac, .int (nI ((tw_fs k).length)), .int hk])), (ai, .inl (cA, tw_P k, .inl fi)), (ar, .inl (cA, tw_P k, .inl fr)), (af, .inl (cA, 14, .inl ff)), (ap, .inl (cA, 2 * tw_P k, .inl fp)), (ah, .inl (cA, 2 * tw_P k, .inl fh)), (ac, .inl (cA, 2 * tw_P k, .inl fn)), (ou, .inl (cL, 1, .inr (.inl fo)))] ++ ((lw_M m0 mx my mr mb cA k th sx sy fx fy fm fb) ++ ((dc, .inl (cQ, 5, .inr (.inr (.inr (.inr F))))) :: oth))) ([(d0, .inr (1, [.ref dc, .ref dr, .int (nI k), .ref h0])), (dc, .inl (cQ, 5, .inr (.inr (.inr (.inr F))))), (dr, .inl (cA, 12, .inl rg)), (ou, .inl (cL, 1, .inr (.inl fo)))] ++ ((cv_W h0 ai ar af ap ah ac cA k (tw_N k) (tw_fs k).length hk fi fr ff fp fh fn) ++ ((lw_M m0 mx my mr mb cA k th sx sy fx fy fm fb) ++ oth))) := lx_pN [(d0, .inr (1, [.ref dc, .ref dr, .int (nI k), .ref h0]))] [(dr, .inl (cA, 12, .inl rg))] (cv_W h0 ai ar af ap ah ac cA k (tw_N k) (tw_fs k).length hk fi fr ff fp fh fn) [(ou, .inl (cL, 1, .inr (.inl fo)))] (lw_M m0 mx my mr mb cA k th sx sy fx fy fm fb) [(dc, .inl (cQ, 5, .inr (.inr (.inr (.inr F)))))] oth
      have hP : va_P D vwCl ([(d0, .inr (1, [.ref dc, .ref dr, .int (nI k), .ref h0])), (dc, .inl (cQ, 5, .inr (.inr (.inr (.inr F))))), (dr, .inl (cA, 12, .inl rg)), (ou, .inl (cL, 1, .inr (.inl fo)))] ++ ((cv_W h0 ai ar af ap ah ac cA k (tw_N k) (tw_fs k).length hk fi fr ff fp fh fn) ++ ((lw_M m0 mx my mr mb cA k th sx sy fx fy fm fb) ++ oth))) H := wp_P hp9 hP
      have hD : va_D (fun q => s.heap.size ≤ q) ([(d0, .inr (1, [.ref dc, .ref dr, .int (nI k), .ref h0])), (dc, .inl (cQ, 5, .inr (.inr (.inr (.inr F))))), (dr, .inl (cA, 12, .inl rg)), (ou, .inl (cL, 1, .inr (.inl fo)))] ++ ((cv_W h0 ai ar af ap ah ac cA k (tw_N k) (tw_fs k).length hk fi fr ff fp fh fn) ++ ((lw_M m0 mx my mr mb cA k th sx sy fx fy fm fb) ++ oth))) := wp_D hp9 hD
      clear hp9
      have hFc := wp_free hD hS hA
      refine va_calli (vx_runSW (As := [.ref d0, .int (nI k1), .ref ou]) (rest := []) ⟨hx, hb, hml, hown, ht⟩ (c_L_beginN l tp D hk1 hF1 H.size) (vx_cwSW 3 ht (tb_S kl_L_68 kt_L_begin kn_L kc_L_begin) rfl rfl rfl kd_L_begin ⟨Nat.le_of_ble_eq_true rfl, Nat.le_of_ble_eq_true rfl⟩) (wz_preS _ (wp_Pl hP) hK (wp_Dl hD) hT hS hFc) rfl rfl hl.1 rfl (lv_room (Nat.le_of_ble_eq_true rfl)) dL_law_128 ⟨by show 20 + lx_n F + i + 7 ≤ 601024; omega, by show 9000 + lx_c F + 6 * i + (8 * tw_P k1 + 26) ≤ 7293033; omega⟩) hS (fun q _ h => hFc q h) hFc (fun r9 u9 t9 H locs ht9 hvm9 hw9 hB9 hz9 hk9x hS => ?_)
      obtain ⟨h1, bi, br, bf, bp, bh, bc, gi, gr, gf, ⟨hP1, hK1, hD1⟩, hok1⟩ := hB9
      rw [ht9] at hP1
      obtain ⟨hP, hD⟩ := wp_join hP hD hk9x hFc hP1 hD1
      obtain ⟨e9, w9, q9⟩ := hw9
      subst e9
      have hp9 : List.Perm ([(d0, .inr (1, [.ref dc, .ref dr, .int (nI k1), .ref h1])), (dc, .inl (cQ, 5, .inr (.inr (.inr (.inr (va_up F k1 (some h1))))))), (dr, .inl (cA, 12, .inl u9.1)), (h1, .inr (0, [.int (nI (tw_P k1)), .int (nI (tw_D k1)), .int (nI (tw_I k1)), .int (nI (tw_N k1)), .ref bi, .ref br, .ref bf, .ref bp, .ref bh, .ref bc, .int (nI ((tw_fs k1).length)), .int 0])), (bi, .inl (cA, tw_P k1, .inl gi)), (br, .inl (cA, tw_P k1, .inl gr)), (bf, .inl (cA, 14, .inl gf)), (bp, .inl (cA, 2 * tw_P k1, .inl (fun _ => 0))), (bh, .inl (cA, 2 * tw_P k1, .inl (fun _ => 0))), (bc, .inl (cA, 2 * tw_P k1, .inl (fun _ => 0))), (ou, .inl (cL, 1, .inr (.inl u9.2)))] ++ ((cv_W h0 ai ar af ap ah ac cA k (tw_N k) (tw_fs k).length hk fi fr ff fp fh fn) ++ ((lw_M m0 mx my mr mb cA k th sx sy fx fy fm fb) ++ oth))) ((lw_U d0 dc dr h1 bi br bf bp bh bc ou cA cL k1 0 u9.1 gi gr gf (fun _ => 0) (fun _ => 0) (fun _ => 0) u9.2) ++ ((lw_M m0 mx my mr mb cA k th sx sy fx fy fm fb) ++ ((dc, .inl (cQ, 5, .inr (.inr (.inr (.inr (va_up F k1 (some h1))))))) :: ((cv_W h0 ai ar af ap ah ac cA k (tw_N k) (tw_fs k).length hk fi fr ff fp fh fn) ++ oth)))) := lx_pB [(d0, .inr (1, [.ref dc, .ref dr, .int (nI k1), .ref h1]))] [(dc, .inl (cQ, 5, .inr (.inr (.inr (.inr (va_up F k1 (some h1)))))))] [(dr, .inl (cA, 12, .inl u9.1))] [(h1, .inr (0, [.int (nI (tw_P k1)), .int (nI (tw_D k1)), .int (nI (tw_I k1)), .int (nI (tw_N k1)), .ref bi, .ref br, .ref bf, .ref bp, .ref bh, .ref bc, .int (nI ((tw_fs k1).length)), .int 0])), (bi, .inl (cA, tw_P k1, .inl gi)), (br, .inl (cA, tw_P k1, .inl gr)), (bf, .inl (cA, 14, .inl gf)), (bp, .inl (cA, 2 * tw_P k1, .inl (fun _ => 0))), (bh, .inl (cA, 2 * tw_P k1, .inl (fun _ => 0))), (bc, .inl (cA, 2 * tw_P k1, .inl (fun _ => 0)))] [(ou, .inl (cL, 1, .inr (.inl u9.2)))] (cv_W h0 ai ar af ap ah ac cA k (tw_N k) (tw_fs k).length hk fi fr ff fp fh fn) (lw_M m0 mx my mr mb cA k th sx sy fx fy fm fb) oth
      have hP : va_P D vwCl ((lw_U d0 dc dr h1 bi br bf bp bh bc ou cA cL k1 0 u9.1 gi gr gf (fun _ => 0) (fun _ => 0) (fun _ => 0) u9.2) ++ ((lw_M m0 mx my mr mb cA k th sx sy fx fy fm fb) ++ ((dc, .inl (cQ, 5, .inr (.inr (.inr (.inr (va_up F k1 (some h1))))))) :: ((cv_W h0 ai ar af ap ah ac cA k (tw_N k) (tw_fs k).length hk fi fr ff fp fh fn) ++ oth)))) H := wp_P hp9 hP
      have hD : va_D (fun q => s.heap.size ≤ q) ((lw_U d0 dc dr h1 bi br bf bp bh bc ou cA cL k1 0 u9.1 gi gr gf (fun _ => 0) (fun _ => 0) (fun _ => 0) u9.2) ++ ((lw_M m0 mx my mr mb cA k th sx sy fx fy fm fb) ++ ((dc, .inl (cQ, 5, .inr (.inr (.inr (.inr (va_up F k1 (some h1))))))) :: ((cv_W h0 ai ar af ap ah ac cA k (tw_N k) (tw_fs k).length hk fi fr ff fp fh fn) ++ oth)))) := wp_D hp9 hD
      clear hp9
      refine lv_istore hx hb dL_law_131 hl (by decide) rfl (fun ls hl => ?_)
      have hl : lv_has ls 8 [(5, .int (nI 0)), (4, .int (nI i)), (3, .ref ou), (2, .ref m0), (1, .ref d0), (0, .ref b)] := hl
      refine lv_aload_n hx hb dL_law_133 rfl (lv_at hl 3 rfl) ?_
      refine lv_aload_n hx hb dL_law_134 rfl (lv_at hl 5 rfl) ?_
      refine lv_iload hx hb dL_law_135 (lv_at hl 1 rfl) ?_
      refine lv_iconst (v := (nI 1)) hx hb dL_law_137 (by decide) ?_
      refine nv_iadd hx hb dL_law_138 ?_
      refine va_sld hx hb hX hbl hbA hS (nv_in (by omega) (by omega)) dL_law_139 ?_
      rw [nI_clamp (by omega)]
      rw [e1]
      have hP := wp_P (List.perm_append_comm_assoc _ _ _) hP
      have hD := wp_D (List.perm_append_comm_assoc _ _ _) hD
      have hP : va_P D vwCl ((lw_M m0 mx my mr mb cA k th sx sy fx fy fm fb) ++ ((lw_U d0 dc dr h1 bi br bf bp bh bc ou cA cL k1 0 u9.1 gi gr gf (fun _ => 0) (fun _ => 0) (fun _ => 0) u9.2) ++ ((dc, .inl (cQ, 5, .inr (.inr (.inr (.inr (va_up F k1 (some h1))))))) :: ((cv_W h0 ai ar af ap ah ac cA k (tw_N k) (tw_fs k).length hk fi fr ff fp fh fn) ++ oth)))) H := hP
      have hD : va_D (fun q => s.heap.size ≤ q) ((lw_M m0 mx my mr mb cA k th sx sy fx fy fm fb) ++ ((lw_U d0 dc dr h1 bi br bf bp bh bc ou cA cL k1 0 u9.1 gi gr gf (fun _ => 0) (fun _ => 0) (fun _ => 0) u9.2) ++ ((dc, .inl (cQ, 5, .inr (.inr (.inr (.inr (va_up F k1 (some h1))))))) :: ((cv_W h0 ai ar af ap ah ac cA k (tw_N k) (tw_fs k).length hk fi fr ff fp fh fn) ++ oth)))) := hD
      have hFc := wp_free hD hS hA
      refine va_calli (va_runV (As := [.int (nI k1)]) (rest := []) ⟨hx, hb, hml, hown, ht⟩ (c_X2_begin l D hk1 H.size) (cwV 1 ht (tb_V kl_L_73 ki_X2_begin ks_X2_begin kn_X2 kc_X2_begin) rfl rfl rfl ⟨rfl, kd_X2_begin⟩ ⟨Nat.le_of_ble_eq_true rfl, Nat.le_of_ble_eq_true rfl⟩) (wd_preV _ (wp_Pl hP) (hK.sub (tys' := [(cA, .int)]) [0] rfl) (wp_Dl hD) (va_recv (ci := 2) (q0 := 0) hK hP rfl rfl)) rfl rfl hl.1 rfl (lv_room (Nat.le_of_ble_eq_true rfl)) dL_law_140 ⟨by show 20 + lx_n F + i + 7 + 0 ≤ 601024; omega, by show 9000 + lx_c F + 6 * i + (8 * tw_P k1 + 26) + 0 ≤ 7293033; omega⟩) hS (fun q _ h => hFc q h) hFc (fun r8 u8 t8 H locs ht8 hvm8 hw8 hB8 hz8 hk8 hS => ?_)
      obtain ⟨hP1, hK1, hD1⟩ := hB8
      rw [ht8] at hP1
      obtain ⟨hP, hD⟩ := wp_join hP hD hk8 hFc hP1 hD1
      have hP : va_P D vwCl ((lw_M m0 mx my mr mb cA k1 (nI 0) sx sy u8.1 u8.2.1 u8.2.2 fb) ++ ((lw_U d0 dc dr h1 bi br bf bp bh bc ou cA cL k1 0 u9.1 gi gr gf (fun _ => 0) (fun _ => 0) (fun _ => 0) u9.2) ++ ((dc, .inl (cQ, 5, .inr (.inr (.inr (.inr (va_up F k1 (some h1))))))) :: ((cv_W h0 ai ar af ap ah ac cA k (tw_N k) (tw_fs k).length hk fi fr ff fp fh fn) ++ oth)))) H := hP
      have hD : va_D (fun q => s.heap.size ≤ q) ((lw_M m0 mx my mr mb cA k1 (nI 0) sx sy u8.1 u8.2.1 u8.2.2 fb) ++ ((lw_U d0 dc dr h1 bi br bf bp bh bc ou cA cL k1 0 u9.1 gi gr gf (fun _ => 0) (fun _ => 0) (fun _ => 0) u9.2) ++ ((dc, .inl (cQ, 5, .inr (.inr (.inr (.inr (va_up F k1 (some h1))))))) :: ((cv_W h0 ai ar af ap ah ac cA k (tw_N k) (tw_fs k).length hk fi fr ff fp fh fn) ++ oth)))) := hD
      obtain ⟨e8, q1, q2⟩ := hw8
      subst e8
      refine lv_istore hx hb dL_law_143 hl (by decide) rfl (fun ls hl => ?_)
      have hl : lv_has ls 8 [(6, .int (nI (tw_P k1))), (5, .int (nI 0)), (4, .int (nI i)), (3, .ref ou), (2, .ref m0), (1, .ref d0), (0, .ref b)] := hl
      refine lv_aload_n hx hb dL_law_145 rfl (lv_at hl 4 rfl) ?_
      refine vp_callSi (W.runV (As := []) (rest := []) ⟨hx, hb, hml, hown, ht⟩ (c_X2_thrown l D hk1) (cwV 0 ht (tb_V kl_L_74 ki_X2_thrown ks_X2_thrown kn_X2 kc_X2_thrown) rfl rfl rfl ⟨rfl, kd_X2_thrown⟩ ⟨Nat.le_of_ble_eq_true rfl, Nat.le_of_ble_eq_true rfl⟩) (ro_preV _ ((wp_Pl hP).sub (ws' := [(m0, .inr (2, [.int (nI 0), .int (nI k1), .int (nI (tw_P k1)), .int (nI (tw_D k1)), .int (nI (tw_I k1)), .ref mx, .ref my, .ref mr, .ref mb, .int sx, .int sy]))]) [0] rfl) (hK.sub (tys' := []) [] rfl) (va_recv (ci := 2) (q0 := 0) hK hP rfl rfl)) rfl rfl hl.1 rfl (lv_room (Nat.le_of_ble_eq_true rfl)) dL_law_146 ⟨by show 20 + lx_n F + i + 7 + 0 + 0 ≤ 601024; omega, by show 9000 + lx_c F + 6 * i + (8 * tw_P k1 + 26) + 0 + 0 ≤ 7293033; omega⟩) (fun r hr9 => ?_)
      subst hr9
      refine lv_iload hx hb dL_law_149 (lv_at hl 1 rfl) ?_
      refine lv_icmp_eq (tgt := 156) hx hb dL_law_151 (by decide) (fun _ => ?_) (fun c9 => absurd rfl c9)
      refine lv_iload hx hb dL_law_156 (lv_at hl 1 rfl) ?_
      refine lv_if_ne (tgt := 173) hx hb dL_law_158 (by decide) (fun c9 => absurd rfl c9) (fun _ => ?_)
      refine lv_aload_n hx hb dL_law_161 rfl (lv_at hl 3 rfl) ?_
      refine lv_iconst (v := (nI 0)) hx hb dL_law_162 (by decide) ?_
      have hP := wp_P (List.perm_append_comm_assoc _ _ _) hP
      have hD := wp_D (List.perm_append_comm_assoc _ _ _) hD
      have hP : va_P D vwCl ((lw_U d0 dc dr h1 bi br bf bp bh bc ou cA cL k1 0 u9.1 gi gr gf (fun _ => 0) (fun _ => 0) (fun _ => 0) u9.2) ++ ((lw_M m0 mx my mr mb cA k1 (nI 0) sx sy u8.1 u8.2.1 u8.2.2 fb) ++ ((dc, .inl (cQ, 5, .inr (.inr (.inr (.inr (va_up F k1 (some h1))))))) :: ((cv_W h0 ai ar af ap ah ac cA k (tw_N k) (tw_fs k).length hk fi fr ff fp fh fn) ++ oth)))) H := hP
      have hD : va_D (fun q => s.heap.size ≤ q) ((lw_U d0 dc dr h1 bi br bf bp bh bc ou cA cL k1 0 u9.1 gi gr gf (fun _ => 0) (fun _ => 0) (fun _ => 0) u9.2) ++ ((lw_M m0 mx my mr mb cA k1 (nI 0) sx sy u8.1 u8.2.1 u8.2.2 fb) ++ ((dc, .inl (cQ, 5, .inr (.inr (.inr (.inr (va_up F k1 (some h1))))))) :: ((cv_W h0 ai ar af ap ah ac cA k (tw_N k) (tw_fs k).length hk fi fr ff fp fh fn) ++ oth)))) := hD
      refine va_lald hx hb hK hP 9 2 rfl rfl (nv_in (a := 0) (n := 1) (by decide) (by decide)) dL_law_163 ?_
      rw [nI_clamp (n := 0) (by decide), w9]
      refine lv_iload hx hb dL_law_164 (lv_at hl 0 rfl) ?_
      refine lv_i2l (v := (nI (tw_P k1)).toInt64) hx hb dL_law_166 rfl ?_
      refine lx_lcmp hx hb dL_law_167 ?_
      refine lv_if_eq (tgt := 173) hx hb dL_law_168 (by decide) (fun _ => ?_) (fun c9 => absurd rfl c9)
      have hrg9 : ∀ j, j < 12 → tw_on (tw_P k1) (tw_D k1) ((fun _ => (0, 1) : Nat → Nat × Nat) j) ∧ u9.1 j = nI (tw_en ((fun _ => (0, 1) : Nat → Nat × Nat) j)) := fun j hj => ⟨lx_one hk1, q9 j hj⟩
      have hR9 : ∀ j, j < 12 → tw_on (tw_P k1) (tw_D k1) ((fun _ => (0, 1) : Nat → Nat × Nat) j) ∧ u8.1 j = nI ((fun _ => (0, 1) : Nat → Nat × Nat) j).1 ∧ u8.2.1 j = nI ((fun _ => (0, 1) : Nat → Nat × Nat) j).2 := fun j hj => ⟨lx_one hk1, (q1 j hj).1, (q1 j hj).2⟩
      have zn1 := lx_n_up hk1 hF1 h1
      have zc1 := lx_c_up hk1 hF1 h1
      refine lv_goto (tgt := 1269) hx hb dL_law_173 (by decide) ?_
      refine W.widen (k := 20 + lx_n (va_up F k1 (some h1)) + (i + 8)) (n := 9000 + lx_c (va_up F k1 (some h1)) + 6 * (i + 8)) (by omega) (by omega) ?_
      exact kk (va_up F k1 (some h1)) H locs ls (lv_sub hl [2, 3, 4, 5, 6] rfl) (lx_mk hP hD ⟨hk1, va_up_self F k1 (some h1), hok1, Or.inl ⟨rfl, rfl, rfl⟩, hrg9, hR9, q2, hB, lx_O_new hk5 hk1 hne hO hF1 (Or.inr ⟨h0, ai, ar, af, ap, ah, ac, hk, fi, fr, ff, fp, fh, fn, hF, rfl, hok, hhv⟩) h1⟩) hS
    | some h1 =>
      by_cases hek : k1 = k
      · rw [hek] at e1
        refine lv_aload_n hx hb dL_law_120 rfl (lv_at hl 3 rfl) ?_
        refine lv_aload_n hx hb dL_law_121 rfl (lv_at hl 4 rfl) ?_
        refine lv_iload hx hb dL_law_122 (lv_at hl 0 rfl) ?_
        refine lv_iconst (v := (nI 1)) hx hb dL_law_124 (by decide) ?_
        refine nv_iadd hx hb dL_law_125 ?_
        refine va_sld hx hb hX hbl hbA hS (nv_in (by omega) (by omega)) dL_law_126 ?_
        rw [nI_clamp (by omega)]
        rw [e1]
        refine lv_aload_n hx hb dL_law_127 rfl (lv_at hl 1 rfl) ?_
        have hp9 : List.Perm ([(d0, .inr (1, [.ref dc, .ref dr, .int (nI k), .ref h0])), (dr, .inl (cA, 12, .inl rg)), (h0, .inr (0, [.int (nI (tw_P k)), .int (nI (tw_D k)), .int (nI (tw_I k)), .int (nI (tw_N k)), .ref ai, .ref ar, .ref af, .ref ap, .ref ah, .ref ac, .int (nI ((tw_fs k).length)), .int hk])), (ai, .inl (cA, tw_P k, .inl fi)), (ar, .inl (cA, tw_P k, .inl fr)), (af, .inl (cA, 14, .inl ff)), (ap, .inl (cA, 2 * tw_P k, .inl fp)), (ah, .inl (cA, 2 * tw_P k, .inl fh)), (ac, .inl (cA, 2 * tw_P k, .inl fn)), (ou, .inl (cL, 1, .inr (.inl fo)))] ++ ((lw_M m0 mx my mr mb cA k th sx sy fx fy fm fb) ++ ((dc, .inl (cQ, 5, .inr (.inr (.inr (.inr F))))) :: oth))) ([(d0, .inr (1, [.ref dc, .ref dr, .int (nI k), .ref h0])), (dc, .inl (cQ, 5, .inr (.inr (.inr (.inr F))))), (dr, .inl (cA, 12, .inl rg)), (h0, .inr (0, [.int (nI (tw_P k)), .int (nI (tw_D k)), .int (nI (tw_I k)), .int (nI (tw_N k)), .ref ai, .ref ar, .ref af, .ref ap, .ref ah, .ref ac, .int (nI ((tw_fs k).length)), .int hk])), (ai, .inl (cA, tw_P k, .inl fi)), (ar, .inl (cA, tw_P k, .inl fr)), (af, .inl (cA, 14, .inl ff)), (ap, .inl (cA, 2 * tw_P k, .inl fp)), (ah, .inl (cA, 2 * tw_P k, .inl fh)), (ac, .inl (cA, 2 * tw_P k, .inl fn)), (ou, .inl (cL, 1, .inr (.inl fo)))] ++ ((lw_M m0 mx my mr mb cA k th sx sy fx fy fm fb) ++ oth)) := lx_pS [(d0, .inr (1, [.ref dc, .ref dr, .int (nI k), .ref h0]))] [(dr, .inl (cA, 12, .inl rg))] (cv_W h0 ai ar af ap ah ac cA k (tw_N k) (tw_fs k).length hk fi fr ff fp fh fn) [(ou, .inl (cL, 1, .inr (.inl fo)))] (lw_M m0 mx my mr mb cA k th sx sy fx fy fm fb) [(dc, .inl (cQ, 5, .inr (.inr (.inr (.inr F)))))] oth
        have hP : va_P D vwCl ([(d0, .inr (1, [.ref dc, .ref dr, .int (nI k), .ref h0])), (dc, .inl (cQ, 5, .inr (.inr (.inr (.inr F))))), (dr, .inl (cA, 12, .inl rg)), (h0, .inr (0, [.int (nI (tw_P k)), .int (nI (tw_D k)), .int (nI (tw_I k)), .int (nI (tw_N k)), .ref ai, .ref ar, .ref af, .ref ap, .ref ah, .ref ac, .int (nI ((tw_fs k).length)), .int hk])), (ai, .inl (cA, tw_P k, .inl fi)), (ar, .inl (cA, tw_P k, .inl fr)), (af, .inl (cA, 14, .inl ff)), (ap, .inl (cA, 2 * tw_P k, .inl fp)), (ah, .inl (cA, 2 * tw_P k, .inl fh)), (ac, .inl (cA, 2 * tw_P k, .inl fn)), (ou, .inl (cL, 1, .inr (.inl fo)))] ++ ((lw_M m0 mx my mr mb cA k th sx sy fx fy fm fb) ++ oth)) H := wp_P hp9 hP
        have hD : va_D (fun q => s.heap.size ≤ q) ([(d0, .inr (1, [.ref dc, .ref dr, .int (nI k), .ref h0])), (dc, .inl (cQ, 5, .inr (.inr (.inr (.inr F))))), (dr, .inl (cA, 12, .inl rg)), (h0, .inr (0, [.int (nI (tw_P k)), .int (nI (tw_D k)), .int (nI (tw_I k)), .int (nI (tw_N k)), .ref ai, .ref ar, .ref af, .ref ap, .ref ah, .ref ac, .int (nI ((tw_fs k).length)), .int hk])), (ai, .inl (cA, tw_P k, .inl fi)), (ar, .inl (cA, tw_P k, .inl fr)), (af, .inl (cA, 14, .inl ff)), (ap, .inl (cA, 2 * tw_P k, .inl fp)), (ah, .inl (cA, 2 * tw_P k, .inl fh)), (ac, .inl (cA, 2 * tw_P k, .inl fn)), (ou, .inl (cL, 1, .inr (.inl fo)))] ++ ((lw_M m0 mx my mr mb cA k th sx sy fx fy fm fb) ++ oth)) := wp_D hp9 hD
        clear hp9
        have hFc := wp_free hD hS hA
        refine va_calli (vx_runSW (As := [.ref d0, .int (nI k), .ref ou]) (rest := []) ⟨hx, hb, hml, hown, ht⟩ (c_L_beginS l tp D hk5 hF H.size) (vx_cwSW 3 ht (tb_S kl_L_68 kt_L_begin kn_L kc_L_begin) rfl rfl rfl kd_L_begin ⟨Nat.le_of_ble_eq_true rfl, Nat.le_of_ble_eq_true rfl⟩) (wz_preS _ (wp_Pl hP) hK (wp_Dl hD) hT hS hFc) rfl rfl hl.1 rfl (lv_room (Nat.le_of_ble_eq_true rfl)) dL_law_128 ⟨by show 20 + lx_n F + i + 0 ≤ 601024; omega, by show 9000 + lx_c F + 6 * i + 0 ≤ 7293033; omega⟩) hS (fun q _ h => hFc q h) hFc (fun r9 u9 t9 H locs ht9 hvm9 hw9 hB9 hz9 hk9x hS => ?_)
        obtain ⟨hP1, hK1, hD1⟩ := hB9
        rw [ht9] at hP1
        obtain ⟨hP, hD⟩ := wp_join hP hD hk9x hFc hP1 hD1
        obtain ⟨e9, w9, q9⟩ := hw9
        subst e9
        have hp9 : List.Perm ([(d0, .inr (1, [.ref dc, .ref dr, .int (nI k), .ref h0])), (dc, .inl (cQ, 5, .inr (.inr (.inr (.inr F))))), (dr, .inl (cA, 12, .inl u9.1)), (h0, .inr (0, [.int (nI (tw_P k)), .int (nI (tw_D k)), .int (nI (tw_I k)), .int (nI (tw_N k)), .ref ai, .ref ar, .ref af, .ref ap, .ref ah, .ref ac, .int (nI ((tw_fs k).length)), .int hk])), (ai, .inl (cA, tw_P k, .inl fi)), (ar, .inl (cA, tw_P k, .inl fr)), (af, .inl (cA, 14, .inl ff)), (ap, .inl (cA, 2 * tw_P k, .inl fp)), (ah, .inl (cA, 2 * tw_P k, .inl fh)), (ac, .inl (cA, 2 * tw_P k, .inl fn)), (ou, .inl (cL, 1, .inr (.inl u9.2)))] ++ ((lw_M m0 mx my mr mb cA k th sx sy fx fy fm fb) ++ oth)) ((lw_U d0 dc dr h0 ai ar af ap ah ac ou cA cL k hk u9.1 fi fr ff fp fh fn u9.2) ++ ((lw_M m0 mx my mr mb cA k th sx sy fx fy fm fb) ++ ((dc, .inl (cQ, 5, .inr (.inr (.inr (.inr F))))) :: oth))) := (lx_pS [(d0, .inr (1, [.ref dc, .ref dr, .int (nI k), .ref h0]))] [(dr, .inl (cA, 12, .inl u9.1))] (cv_W h0 ai ar af ap ah ac cA k (tw_N k) (tw_fs k).length hk fi fr ff fp fh fn) [(ou, .inl (cL, 1, .inr (.inl u9.2)))] (lw_M m0 mx my mr mb cA k th sx sy fx fy fm fb) [(dc, .inl (cQ, 5, .inr (.inr (.inr (.inr F)))))] oth).symm
        have hP : va_P D vwCl ((lw_U d0 dc dr h0 ai ar af ap ah ac ou cA cL k hk u9.1 fi fr ff fp fh fn u9.2) ++ ((lw_M m0 mx my mr mb cA k th sx sy fx fy fm fb) ++ ((dc, .inl (cQ, 5, .inr (.inr (.inr (.inr F))))) :: oth))) H := wp_P hp9 hP
        have hD : va_D (fun q => s.heap.size ≤ q) ((lw_U d0 dc dr h0 ai ar af ap ah ac ou cA cL k hk u9.1 fi fr ff fp fh fn u9.2) ++ ((lw_M m0 mx my mr mb cA k th sx sy fx fy fm fb) ++ ((dc, .inl (cQ, 5, .inr (.inr (.inr (.inr F))))) :: oth))) := wp_D hp9 hD
        clear hp9
        refine lv_istore hx hb dL_law_131 hl (by decide) rfl (fun ls hl => ?_)
        have hl : lv_has ls 8 [(5, .int (nI 0)), (4, .int (nI i)), (3, .ref ou), (2, .ref m0), (1, .ref d0), (0, .ref b)] := hl
        refine lv_aload_n hx hb dL_law_133 rfl (lv_at hl 3 rfl) ?_
        refine lv_aload_n hx hb dL_law_134 rfl (lv_at hl 5 rfl) ?_
        refine lv_iload hx hb dL_law_135 (lv_at hl 1 rfl) ?_
        refine lv_iconst (v := (nI 1)) hx hb dL_law_137 (by decide) ?_
        refine nv_iadd hx hb dL_law_138 ?_
        refine va_sld hx hb hX hbl hbA hS (nv_in (by omega) (by omega)) dL_law_139 ?_
        rw [nI_clamp (by omega)]
        rw [e1]
        have hP := wp_P (List.perm_append_comm_assoc _ _ _) hP
        have hD := wp_D (List.perm_append_comm_assoc _ _ _) hD
        have hP : va_P D vwCl ((lw_M m0 mx my mr mb cA k th sx sy fx fy fm fb) ++ ((lw_U d0 dc dr h0 ai ar af ap ah ac ou cA cL k hk u9.1 fi fr ff fp fh fn u9.2) ++ ((dc, .inl (cQ, 5, .inr (.inr (.inr (.inr F))))) :: oth))) H := hP
        have hD : va_D (fun q => s.heap.size ≤ q) ((lw_M m0 mx my mr mb cA k th sx sy fx fy fm fb) ++ ((lw_U d0 dc dr h0 ai ar af ap ah ac ou cA cL k hk u9.1 fi fr ff fp fh fn u9.2) ++ ((dc, .inl (cQ, 5, .inr (.inr (.inr (.inr F))))) :: oth))) := hD
        have hFc := wp_free hD hS hA
        refine va_calli (va_runV (As := [.int (nI k)]) (rest := []) ⟨hx, hb, hml, hown, ht⟩ (c_X2_begin l D hk5 H.size) (cwV 1 ht (tb_V kl_L_73 ki_X2_begin ks_X2_begin kn_X2 kc_X2_begin) rfl rfl rfl ⟨rfl, kd_X2_begin⟩ ⟨Nat.le_of_ble_eq_true rfl, Nat.le_of_ble_eq_true rfl⟩) (wd_preV _ (wp_Pl hP) (hK.sub (tys' := [(cA, .int)]) [0] rfl) (wp_Dl hD) (va_recv (ci := 2) (q0 := 0) hK hP rfl rfl)) rfl rfl hl.1 rfl (lv_room (Nat.le_of_ble_eq_true rfl)) dL_law_140 ⟨by show 20 + lx_n F + i + 0 + 0 ≤ 601024; omega, by show 9000 + lx_c F + 6 * i + 0 + 0 ≤ 7293033; omega⟩) hS (fun q _ h => hFc q h) hFc (fun r8 u8 t8 H locs ht8 hvm8 hw8 hB8 hz8 hk8 hS => ?_)
        obtain ⟨hP1, hK1, hD1⟩ := hB8
        rw [ht8] at hP1
        obtain ⟨hP, hD⟩ := wp_join hP hD hk8 hFc hP1 hD1
        have hP : va_P D vwCl ((lw_M m0 mx my mr mb cA k (nI 0) sx sy u8.1 u8.2.1 u8.2.2 fb) ++ ((lw_U d0 dc dr h0 ai ar af ap ah ac ou cA cL k hk u9.1 fi fr ff fp fh fn u9.2) ++ ((dc, .inl (cQ, 5, .inr (.inr (.inr (.inr F))))) :: oth))) H := hP
        have hD : va_D (fun q => s.heap.size ≤ q) ((lw_M m0 mx my mr mb cA k (nI 0) sx sy u8.1 u8.2.1 u8.2.2 fb) ++ ((lw_U d0 dc dr h0 ai ar af ap ah ac ou cA cL k hk u9.1 fi fr ff fp fh fn u9.2) ++ ((dc, .inl (cQ, 5, .inr (.inr (.inr (.inr F))))) :: oth))) := hD
        obtain ⟨e8, q1, q2⟩ := hw8
        subst e8
        refine lv_istore hx hb dL_law_143 hl (by decide) rfl (fun ls hl => ?_)
        have hl : lv_has ls 8 [(6, .int (nI (tw_P k))), (5, .int (nI 0)), (4, .int (nI i)), (3, .ref ou), (2, .ref m0), (1, .ref d0), (0, .ref b)] := hl
        refine lv_aload_n hx hb dL_law_145 rfl (lv_at hl 4 rfl) ?_
        refine vp_callSi (W.runV (As := []) (rest := []) ⟨hx, hb, hml, hown, ht⟩ (c_X2_thrown l D hk5) (cwV 0 ht (tb_V kl_L_74 ki_X2_thrown ks_X2_thrown kn_X2 kc_X2_thrown) rfl rfl rfl ⟨rfl, kd_X2_thrown⟩ ⟨Nat.le_of_ble_eq_true rfl, Nat.le_of_ble_eq_true rfl⟩) (ro_preV _ ((wp_Pl hP).sub (ws' := [(m0, .inr (2, [.int (nI 0), .int (nI k), .int (nI (tw_P k)), .int (nI (tw_D k)), .int (nI (tw_I k)), .ref mx, .ref my, .ref mr, .ref mb, .int sx, .int sy]))]) [0] rfl) (hK.sub (tys' := []) [] rfl) (va_recv (ci := 2) (q0 := 0) hK hP rfl rfl)) rfl rfl hl.1 rfl (lv_room (Nat.le_of_ble_eq_true rfl)) dL_law_146 ⟨by show 20 + lx_n F + i + 0 + 0 + 0 ≤ 601024; omega, by show 9000 + lx_c F + 6 * i + 0 + 0 + 0 ≤ 7293033; omega⟩) (fun r hr9 => ?_)
        subst hr9
        refine lv_iload hx hb dL_law_149 (lv_at hl 1 rfl) ?_
        refine lv_icmp_eq (tgt := 156) hx hb dL_law_151 (by decide) (fun _ => ?_) (fun c9 => absurd rfl c9)
        refine lv_iload hx hb dL_law_156 (lv_at hl 1 rfl) ?_
        refine lv_if_ne (tgt := 173) hx hb dL_law_158 (by decide) (fun c9 => absurd rfl c9) (fun _ => ?_)
        refine lv_aload_n hx hb dL_law_161 rfl (lv_at hl 3 rfl) ?_
        refine lv_iconst (v := (nI 0)) hx hb dL_law_162 (by decide) ?_
        have hP := wp_P (List.perm_append_comm_assoc _ _ _) hP
        have hD := wp_D (List.perm_append_comm_assoc _ _ _) hD
        have hP : va_P D vwCl ((lw_U d0 dc dr h0 ai ar af ap ah ac ou cA cL k hk u9.1 fi fr ff fp fh fn u9.2) ++ ((lw_M m0 mx my mr mb cA k (nI 0) sx sy u8.1 u8.2.1 u8.2.2 fb) ++ ((dc, .inl (cQ, 5, .inr (.inr (.inr (.inr F))))) :: oth))) H := hP
        have hD : va_D (fun q => s.heap.size ≤ q) ((lw_U d0 dc dr h0 ai ar af ap ah ac ou cA cL k hk u9.1 fi fr ff fp fh fn u9.2) ++ ((lw_M m0 mx my mr mb cA k (nI 0) sx sy u8.1 u8.2.1 u8.2.2 fb) ++ ((dc, .inl (cQ, 5, .inr (.inr (.inr (.inr F))))) :: oth))) := hD
        refine va_lald hx hb hK hP 9 2 rfl rfl (nv_in (a := 0) (n := 1) (by decide) (by decide)) dL_law_163 ?_
        rw [nI_clamp (n := 0) (by decide), w9]
        refine lv_iload hx hb dL_law_164 (lv_at hl 0 rfl) ?_
        refine lv_i2l (v := (nI (tw_P k)).toInt64) hx hb dL_law_166 rfl ?_
        refine lx_lcmp hx hb dL_law_167 ?_
        refine lv_if_eq (tgt := 173) hx hb dL_law_168 (by decide) (fun _ => ?_) (fun c9 => absurd rfl c9)
        have hrg9 : ∀ j, j < 12 → tw_on (tw_P k) (tw_D k) ((fun _ => (0, 1) : Nat → Nat × Nat) j) ∧ u9.1 j = nI (tw_en ((fun _ => (0, 1) : Nat → Nat × Nat) j)) := fun j hj => ⟨lx_one hk5, q9 j hj⟩
        have hR9 : ∀ j, j < 12 → tw_on (tw_P k) (tw_D k) ((fun _ => (0, 1) : Nat → Nat × Nat) j) ∧ u8.1 j = nI ((fun _ => (0, 1) : Nat → Nat × Nat) j).1 ∧ u8.2.1 j = nI ((fun _ => (0, 1) : Nat → Nat × Nat) j).2 := fun j hj => ⟨lx_one hk5, (q1 j hj).1, (q1 j hj).2⟩
        refine lv_goto (tgt := 1269) hx hb dL_law_173 (by decide) ?_
        refine W.widen (k := 20 + lx_n F + (i + 8)) (n := 9000 + lx_c F + 6 * (i + 8)) (by omega) (by omega) ?_
        exact kk F H locs ls (lv_sub hl [2, 3, 4, 5, 6] rfl) (lx_mk hP hD ⟨hk5, hF, hok, hhv, hrg9, hR9, q2, hB, hO⟩) hS
      · refine lv_aload_n hx hb dL_law_120 rfl (lv_at hl 3 rfl) ?_
        refine lv_aload_n hx hb dL_law_121 rfl (lv_at hl 4 rfl) ?_
        refine lv_iload hx hb dL_law_122 (lv_at hl 0 rfl) ?_
        refine lv_iconst (v := (nI 1)) hx hb dL_law_124 (by decide) ?_
        refine nv_iadd hx hb dL_law_125 ?_
        refine va_sld hx hb hX hbl hbA hS (nv_in (by omega) (by omega)) dL_law_126 ?_
        rw [nI_clamp (by omega)]
        rw [e1]
        refine lv_aload_n hx hb dL_law_127 rfl (lv_at hl 1 rfl) ?_
        obtain ⟨bi, br, bf, bp, bh, bc, hk9, gi, gr, gf, gp, gh, gn, oth1, hok1, hhv1, hp1, hO1⟩ := lx_O_sw hk5 hk1 hek hO hF1 (c := cv_W h0 ai ar af ap ah ac cA k (tw_N k) (tw_fs k).length hk fi fr ff fp fh fn) (Or.inr ⟨h0, ai, ar, af, ap, ah, ac, hk, fi, fr, ff, fp, fh, fn, hF, rfl, hok, hhv⟩)
        have hp9 : List.Perm ([(d0, .inr (1, [.ref dc, .ref dr, .int (nI k), .ref h0])), (dr, .inl (cA, 12, .inl rg)), (h0, .inr (0, [.int (nI (tw_P k)), .int (nI (tw_D k)), .int (nI (tw_I k)), .int (nI (tw_N k)), .ref ai, .ref ar, .ref af, .ref ap, .ref ah, .ref ac, .int (nI ((tw_fs k).length)), .int hk])), (ai, .inl (cA, tw_P k, .inl fi)), (ar, .inl (cA, tw_P k, .inl fr)), (af, .inl (cA, 14, .inl ff)), (ap, .inl (cA, 2 * tw_P k, .inl fp)), (ah, .inl (cA, 2 * tw_P k, .inl fh)), (ac, .inl (cA, 2 * tw_P k, .inl fn)), (ou, .inl (cL, 1, .inr (.inl fo)))] ++ ((lw_M m0 mx my mr mb cA k th sx sy fx fy fm fb) ++ ((dc, .inl (cQ, 5, .inr (.inr (.inr (.inr F))))) :: oth))) ([(d0, .inr (1, [.ref dc, .ref dr, .int (nI k), .ref h0])), (dc, .inl (cQ, 5, .inr (.inr (.inr (.inr F))))), (dr, .inl (cA, 12, .inl rg)), (h1, .inr (0, [.int (nI (tw_P k1)), .int (nI (tw_D k1)), .int (nI (tw_I k1)), .int (nI (tw_N k1)), .ref bi, .ref br, .ref bf, .ref bp, .ref bh, .ref bc, .int (nI ((tw_fs k1).length)), .int hk9])), (bi, .inl (cA, tw_P k1, .inl gi)), (br, .inl (cA, tw_P k1, .inl gr)), (bf, .inl (cA, 14, .inl gf)), (bp, .inl (cA, 2 * tw_P k1, .inl gp)), (bh, .inl (cA, 2 * tw_P k1, .inl gh)), (bc, .inl (cA, 2 * tw_P k1, .inl gn)), (ou, .inl (cL, 1, .inr (.inl fo)))] ++ ((cv_W h0 ai ar af ap ah ac cA k (tw_N k) (tw_fs k).length hk fi fr ff fp fh fn) ++ ((lw_M m0 mx my mr mb cA k th sx sy fx fy fm fb) ++ oth1))) := lx_pT [(d0, .inr (1, [.ref dc, .ref dr, .int (nI k), .ref h0]))] [(dr, .inl (cA, 12, .inl rg))] (cv_W h0 ai ar af ap ah ac cA k (tw_N k) (tw_fs k).length hk fi fr ff fp fh fn) [(ou, .inl (cL, 1, .inr (.inl fo)))] (lw_M m0 mx my mr mb cA k th sx sy fx fy fm fb) [(dc, .inl (cQ, 5, .inr (.inr (.inr (.inr F)))))] hp1
        have hP : va_P D vwCl ([(d0, .inr (1, [.ref dc, .ref dr, .int (nI k), .ref h0])), (dc, .inl (cQ, 5, .inr (.inr (.inr (.inr F))))), (dr, .inl (cA, 12, .inl rg)), (h1, .inr (0, [.int (nI (tw_P k1)), .int (nI (tw_D k1)), .int (nI (tw_I k1)), .int (nI (tw_N k1)), .ref bi, .ref br, .ref bf, .ref bp, .ref bh, .ref bc, .int (nI ((tw_fs k1).length)), .int hk9])), (bi, .inl (cA, tw_P k1, .inl gi)), (br, .inl (cA, tw_P k1, .inl gr)), (bf, .inl (cA, 14, .inl gf)), (bp, .inl (cA, 2 * tw_P k1, .inl gp)), (bh, .inl (cA, 2 * tw_P k1, .inl gh)), (bc, .inl (cA, 2 * tw_P k1, .inl gn)), (ou, .inl (cL, 1, .inr (.inl fo)))] ++ ((cv_W h0 ai ar af ap ah ac cA k (tw_N k) (tw_fs k).length hk fi fr ff fp fh fn) ++ ((lw_M m0 mx my mr mb cA k th sx sy fx fy fm fb) ++ oth1))) H := wp_P hp9 hP
        have hD : va_D (fun q => s.heap.size ≤ q) ([(d0, .inr (1, [.ref dc, .ref dr, .int (nI k), .ref h0])), (dc, .inl (cQ, 5, .inr (.inr (.inr (.inr F))))), (dr, .inl (cA, 12, .inl rg)), (h1, .inr (0, [.int (nI (tw_P k1)), .int (nI (tw_D k1)), .int (nI (tw_I k1)), .int (nI (tw_N k1)), .ref bi, .ref br, .ref bf, .ref bp, .ref bh, .ref bc, .int (nI ((tw_fs k1).length)), .int hk9])), (bi, .inl (cA, tw_P k1, .inl gi)), (br, .inl (cA, tw_P k1, .inl gr)), (bf, .inl (cA, 14, .inl gf)), (bp, .inl (cA, 2 * tw_P k1, .inl gp)), (bh, .inl (cA, 2 * tw_P k1, .inl gh)), (bc, .inl (cA, 2 * tw_P k1, .inl gn)), (ou, .inl (cL, 1, .inr (.inl fo)))] ++ ((cv_W h0 ai ar af ap ah ac cA k (tw_N k) (tw_fs k).length hk fi fr ff fp fh fn) ++ ((lw_M m0 mx my mr mb cA k th sx sy fx fy fm fb) ++ oth1))) := wp_D hp9 hD
        clear hp9
        have hFc := wp_free hD hS hA
        refine va_calli (vx_runSW (As := [.ref d0, .int (nI k1), .ref ou]) (rest := []) ⟨hx, hb, hml, hown, ht⟩ (c_L_beginS l tp D hk1 hF1 H.size) (vx_cwSW 3 ht (tb_S kl_L_68 kt_L_begin kn_L kc_L_begin) rfl rfl rfl kd_L_begin ⟨Nat.le_of_ble_eq_true rfl, Nat.le_of_ble_eq_true rfl⟩) (wz_preS _ (wp_Pl hP) hK (wp_Dl hD) hT hS hFc) rfl rfl hl.1 rfl (lv_room (Nat.le_of_ble_eq_true rfl)) dL_law_128 ⟨by show 20 + lx_n F + i + 0 ≤ 601024; omega, by show 9000 + lx_c F + 6 * i + 0 ≤ 7293033; omega⟩) hS (fun q _ h => hFc q h) hFc (fun r9 u9 t9 H locs ht9 hvm9 hw9 hB9 hz9 hk9x hS => ?_)
        obtain ⟨hP1, hK1, hD1⟩ := hB9
        rw [ht9] at hP1
        obtain ⟨hP, hD⟩ := wp_join hP hD hk9x hFc hP1 hD1
        obtain ⟨e9, w9, q9⟩ := hw9
        subst e9
        have hp9 : List.Perm ([(d0, .inr (1, [.ref dc, .ref dr, .int (nI k1), .ref h1])), (dc, .inl (cQ, 5, .inr (.inr (.inr (.inr F))))), (dr, .inl (cA, 12, .inl u9.1)), (h1, .inr (0, [.int (nI (tw_P k1)), .int (nI (tw_D k1)), .int (nI (tw_I k1)), .int (nI (tw_N k1)), .ref bi, .ref br, .ref bf, .ref bp, .ref bh, .ref bc, .int (nI ((tw_fs k1).length)), .int hk9])), (bi, .inl (cA, tw_P k1, .inl gi)), (br, .inl (cA, tw_P k1, .inl gr)), (bf, .inl (cA, 14, .inl gf)), (bp, .inl (cA, 2 * tw_P k1, .inl gp)), (bh, .inl (cA, 2 * tw_P k1, .inl gh)), (bc, .inl (cA, 2 * tw_P k1, .inl gn)), (ou, .inl (cL, 1, .inr (.inl u9.2)))] ++ ((cv_W h0 ai ar af ap ah ac cA k (tw_N k) (tw_fs k).length hk fi fr ff fp fh fn) ++ ((lw_M m0 mx my mr mb cA k th sx sy fx fy fm fb) ++ oth1))) ((lw_U d0 dc dr h1 bi br bf bp bh bc ou cA cL k1 hk9 u9.1 gi gr gf gp gh gn u9.2) ++ ((lw_M m0 mx my mr mb cA k th sx sy fx fy fm fb) ++ ((dc, .inl (cQ, 5, .inr (.inr (.inr (.inr F))))) :: ((cv_W h0 ai ar af ap ah ac cA k (tw_N k) (tw_fs k).length hk fi fr ff fp fh fn) ++ oth1)))) := lx_pB [(d0, .inr (1, [.ref dc, .ref dr, .int (nI k1), .ref h1]))] [(dc, .inl (cQ, 5, .inr (.inr (.inr (.inr F)))))] [(dr, .inl (cA, 12, .inl u9.1))] (cv_W h1 bi br bf bp bh bc cA k1 (tw_N k1) (tw_fs k1).length hk9 gi gr gf gp gh gn) [(ou, .inl (cL, 1, .inr (.inl u9.2)))] (cv_W h0 ai ar af ap ah ac cA k (tw_N k) (tw_fs k).length hk fi fr ff fp fh fn) (lw_M m0 mx my mr mb cA k th sx sy fx fy fm fb) oth1
        have hP : va_P D vwCl ((lw_U d0 dc dr h1 bi br bf bp bh bc ou cA cL k1 hk9 u9.1 gi gr gf gp gh gn u9.2) ++ ((lw_M m0 mx my mr mb cA k th sx sy fx fy fm fb) ++ ((dc, .inl (cQ, 5, .inr (.inr (.inr (.inr F))))) :: ((cv_W h0 ai ar af ap ah ac cA k (tw_N k) (tw_fs k).length hk fi fr ff fp fh fn) ++ oth1)))) H := wp_P hp9 hP
        have hD : va_D (fun q => s.heap.size ≤ q) ((lw_U d0 dc dr h1 bi br bf bp bh bc ou cA cL k1 hk9 u9.1 gi gr gf gp gh gn u9.2) ++ ((lw_M m0 mx my mr mb cA k th sx sy fx fy fm fb) ++ ((dc, .inl (cQ, 5, .inr (.inr (.inr (.inr F))))) :: ((cv_W h0 ai ar af ap ah ac cA k (tw_N k) (tw_fs k).length hk fi fr ff fp fh fn) ++ oth1)))) := wp_D hp9 hD
        clear hp9
        refine lv_istore hx hb dL_law_131 hl (by decide) rfl (fun ls hl => ?_)
        have hl : lv_has ls 8 [(5, .int (nI 0)), (4, .int (nI i)), (3, .ref ou), (2, .ref m0), (1, .ref d0), (0, .ref b)] := hl
        refine lv_aload_n hx hb dL_law_133 rfl (lv_at hl 3 rfl) ?_
        refine lv_aload_n hx hb dL_law_134 rfl (lv_at hl 5 rfl) ?_
        refine lv_iload hx hb dL_law_135 (lv_at hl 1 rfl) ?_
        refine lv_iconst (v := (nI 1)) hx hb dL_law_137 (by decide) ?_
        refine nv_iadd hx hb dL_law_138 ?_
        refine va_sld hx hb hX hbl hbA hS (nv_in (by omega) (by omega)) dL_law_139 ?_
        rw [nI_clamp (by omega)]
        rw [e1]
        have hP := wp_P (List.perm_append_comm_assoc _ _ _) hP
        have hD := wp_D (List.perm_append_comm_assoc _ _ _) hD
        have hP : va_P D vwCl ((lw_M m0 mx my mr mb cA k th sx sy fx fy fm fb) ++ ((lw_U d0 dc dr h1 bi br bf bp bh bc ou cA cL k1 hk9 u9.1 gi gr gf gp gh gn u9.2) ++ ((dc, .inl (cQ, 5, .inr (.inr (.inr (.inr F))))) :: ((cv_W h0 ai ar af ap ah ac cA k (tw_N k) (tw_fs k).length hk fi fr ff fp fh fn) ++ oth1)))) H := hP
        have hD : va_D (fun q => s.heap.size ≤ q) ((lw_M m0 mx my mr mb cA k th sx sy fx fy fm fb) ++ ((lw_U d0 dc dr h1 bi br bf bp bh bc ou cA cL k1 hk9 u9.1 gi gr gf gp gh gn u9.2) ++ ((dc, .inl (cQ, 5, .inr (.inr (.inr (.inr F))))) :: ((cv_W h0 ai ar af ap ah ac cA k (tw_N k) (tw_fs k).length hk fi fr ff fp fh fn) ++ oth1)))) := hD
        have hFc := wp_free hD hS hA
        refine va_calli (va_runV (As := [.int (nI k1)]) (rest := []) ⟨hx, hb, hml, hown, ht⟩ (c_X2_begin l D hk1 H.size) (cwV 1 ht (tb_V kl_L_73 ki_X2_begin ks_X2_begin kn_X2 kc_X2_begin) rfl rfl rfl ⟨rfl, kd_X2_begin⟩ ⟨Nat.le_of_ble_eq_true rfl, Nat.le_of_ble_eq_true rfl⟩) (wd_preV _ (wp_Pl hP) (hK.sub (tys' := [(cA, .int)]) [0] rfl) (wp_Dl hD) (va_recv (ci := 2) (q0 := 0) hK hP rfl rfl)) rfl rfl hl.1 rfl (lv_room (Nat.le_of_ble_eq_true rfl)) dL_law_140 ⟨by show 20 + lx_n F + i + 0 + 0 ≤ 601024; omega, by show 9000 + lx_c F + 6 * i + 0 + 0 ≤ 7293033; omega⟩) hS (fun q _ h => hFc q h) hFc (fun r8 u8 t8 H locs ht8 hvm8 hw8 hB8 hz8 hk8 hS => ?_)
        obtain ⟨hP1, hK1, hD1⟩ := hB8
        rw [ht8] at hP1
        obtain ⟨hP, hD⟩ := wp_join hP hD hk8 hFc hP1 hD1
        have hP : va_P D vwCl ((lw_M m0 mx my mr mb cA k1 (nI 0) sx sy u8.1 u8.2.1 u8.2.2 fb) ++ ((lw_U d0 dc dr h1 bi br bf bp bh bc ou cA cL k1 hk9 u9.1 gi gr gf gp gh gn u9.2) ++ ((dc, .inl (cQ, 5, .inr (.inr (.inr (.inr F))))) :: ((cv_W h0 ai ar af ap ah ac cA k (tw_N k) (tw_fs k).length hk fi fr ff fp fh fn) ++ oth1)))) H := hP
        have hD : va_D (fun q => s.heap.size ≤ q) ((lw_M m0 mx my mr mb cA k1 (nI 0) sx sy u8.1 u8.2.1 u8.2.2 fb) ++ ((lw_U d0 dc dr h1 bi br bf bp bh bc ou cA cL k1 hk9 u9.1 gi gr gf gp gh gn u9.2) ++ ((dc, .inl (cQ, 5, .inr (.inr (.inr (.inr F))))) :: ((cv_W h0 ai ar af ap ah ac cA k (tw_N k) (tw_fs k).length hk fi fr ff fp fh fn) ++ oth1)))) := hD
        obtain ⟨e8, q1, q2⟩ := hw8
        subst e8
        refine lv_istore hx hb dL_law_143 hl (by decide) rfl (fun ls hl => ?_)
        have hl : lv_has ls 8 [(6, .int (nI (tw_P k1))), (5, .int (nI 0)), (4, .int (nI i)), (3, .ref ou), (2, .ref m0), (1, .ref d0), (0, .ref b)] := hl
        refine lv_aload_n hx hb dL_law_145 rfl (lv_at hl 4 rfl) ?_
        refine vp_callSi (W.runV (As := []) (rest := []) ⟨hx, hb, hml, hown, ht⟩ (c_X2_thrown l D hk1) (cwV 0 ht (tb_V kl_L_74 ki_X2_thrown ks_X2_thrown kn_X2 kc_X2_thrown) rfl rfl rfl ⟨rfl, kd_X2_thrown⟩ ⟨Nat.le_of_ble_eq_true rfl, Nat.le_of_ble_eq_true rfl⟩) (ro_preV _ ((wp_Pl hP).sub (ws' := [(m0, .inr (2, [.int (nI 0), .int (nI k1), .int (nI (tw_P k1)), .int (nI (tw_D k1)), .int (nI (tw_I k1)), .ref mx, .ref my, .ref mr, .ref mb, .int sx, .int sy]))]) [0] rfl) (hK.sub (tys' := []) [] rfl) (va_recv (ci := 2) (q0 := 0) hK hP rfl rfl)) rfl rfl hl.1 rfl (lv_room (Nat.le_of_ble_eq_true rfl)) dL_law_146 ⟨by show 20 + lx_n F + i + 0 + 0 + 0 ≤ 601024; omega, by show 9000 + lx_c F + 6 * i + 0 + 0 + 0 ≤ 7293033; omega⟩) (fun r hr9 => ?_)
        subst hr9
        refine lv_iload hx hb dL_law_149 (lv_at hl 1 rfl) ?_
        refine lv_icmp_eq (tgt := 156) hx hb dL_law_151 (by decide) (fun _ => ?_) (fun c9 => absurd rfl c9)
        refine lv_iload hx hb dL_law_156 (lv_at hl 1 rfl) ?_
        refine lv_if_ne (tgt := 173) hx hb dL_law_158 (by decide) (fun c9 => absurd rfl c9) (fun _ => ?_)
        refine lv_aload_n hx hb dL_law_161 rfl (lv_at hl 3 rfl) ?_
        refine lv_iconst (v := (nI 0)) hx hb dL_law_162 (by decide) ?_
        have hP := wp_P (List.perm_append_comm_assoc _ _ _) hP
        have hD := wp_D (List.perm_append_comm_assoc _ _ _) hD
        have hP : va_P D vwCl ((lw_U d0 dc dr h1 bi br bf bp bh bc ou cA cL k1 hk9 u9.1 gi gr gf gp gh gn u9.2) ++ ((lw_M m0 mx my mr mb cA k1 (nI 0) sx sy u8.1 u8.2.1 u8.2.2 fb) ++ ((dc, .inl (cQ, 5, .inr (.inr (.inr (.inr F))))) :: ((cv_W h0 ai ar af ap ah ac cA k (tw_N k) (tw_fs k).length hk fi fr ff fp fh fn) ++ oth1)))) H := hP
        have hD : va_D (fun q => s.heap.size ≤ q) ((lw_U d0 dc dr h1 bi br bf bp bh bc ou cA cL k1 hk9 u9.1 gi gr gf gp gh gn u9.2) ++ ((lw_M m0 mx my mr mb cA k1 (nI 0) sx sy u8.1 u8.2.1 u8.2.2 fb) ++ ((dc, .inl (cQ, 5, .inr (.inr (.inr (.inr F))))) :: ((cv_W h0 ai ar af ap ah ac cA k (tw_N k) (tw_fs k).length hk fi fr ff fp fh fn) ++ oth1)))) := hD
        refine va_lald hx hb hK hP 9 2 rfl rfl (nv_in (a := 0) (n := 1) (by decide) (by decide)) dL_law_163 ?_
        rw [nI_clamp (n := 0) (by decide), w9]
        refine lv_iload hx hb dL_law_164 (lv_at hl 0 rfl) ?_
        refine lv_i2l (v := (nI (tw_P k1)).toInt64) hx hb dL_law_166 rfl ?_
        refine lx_lcmp hx hb dL_law_167 ?_
        refine lv_if_eq (tgt := 173) hx hb dL_law_168 (by decide) (fun _ => ?_) (fun c9 => absurd rfl c9)
        have hrg9 : ∀ j, j < 12 → tw_on (tw_P k1) (tw_D k1) ((fun _ => (0, 1) : Nat → Nat × Nat) j) ∧ u9.1 j = nI (tw_en ((fun _ => (0, 1) : Nat → Nat × Nat) j)) := fun j hj => ⟨lx_one hk1, q9 j hj⟩
        have hR9 : ∀ j, j < 12 → tw_on (tw_P k1) (tw_D k1) ((fun _ => (0, 1) : Nat → Nat × Nat) j) ∧ u8.1 j = nI ((fun _ => (0, 1) : Nat → Nat × Nat) j).1 ∧ u8.2.1 j = nI ((fun _ => (0, 1) : Nat → Nat × Nat) j).2 := fun j hj => ⟨lx_one hk1, (q1 j hj).1, (q1 j hj).2⟩
        refine lv_goto (tgt := 1269) hx hb dL_law_173 (by decide) ?_
        refine W.widen (k := 20 + lx_n F + (i + 8)) (n := 9000 + lx_c F + 6 * (i + 8)) (by omega) (by omega) ?_
        exact kk F H locs ls (lv_sub hl [2, 3, 4, 5, 6] rfl) (lx_mk hP hD ⟨hk1, hF1, hok1, hhv1, hrg9, hR9, q2, hB, hO1⟩) hS
