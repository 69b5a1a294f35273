/-! the law, case by case -/
section LXB
variable {p : Program} {l : Launch} {e : Env} {R : Room} {s : State} {m : MethodId} {args : Array Value} {below : List Frame} {meth : Method} {c : Code} {H : Heap} {locs : List Loc} {cells slots : Nat} {Q : State → Prop} {cc : ByteArray} {pc : Nat} {ls : Array Slot} {rest : List Value}
theorem lx_bool (hexec : p.tables.exec = Jvm.exec) (hb : c.code = cc) {z : Int32} {b : Nat} (h0 : z = 0 → b = 0) (h1 : z ≠ 0 → b = 1) {o1 o2 : Int} (d0 : decode cc pc = .ok (.ifCond .eq o1, 3)) (d3 : decode cc (pc + 3) = .ok (.iconst 1, 1)) (d4 : decode cc (pc + 4) = .ok (.goto o2, 3)) (d7 : decode cc (pc + 7) = .ok (.iconst 0, 1)) (t1 : o1 = 7) (t2 : o2 = 4)
    (k : W p l e R s m args below meth c H locs cells slots Q (F0 m (pc + 8) ls (.int (nI b) :: rest))) : W p l e R s m args below meth c H locs cells slots Q (F0 m pc ls (.int z :: rest)) := by
  subst t1; subst t2
  refine lv_if_eq (tgt := pc + 7) hexec hb d0 (by omega) (fun q => ?_) (fun q => ?_)
  · rw [h0 q] at k
    exact lv_iconst (v := nI 0) hexec hb d7 (by decide) k
  · rw [h1 q] at k
    refine lv_iconst (v := nI 1) hexec hb d3 (by decide) ?_
    exact lv_goto (tgt := pc + 8) hexec hb d4 (by omega) k
end LXB
set_option maxHeartbeats 8000000 in
set_option maxRecDepth 100000 in
theorem lc_3 {p : Program} {l : Launch} {e : Env} {s : State} {m : MethodId} {below : List Frame} {meth : Method} {c : Code} {Q : State → Prop} {b L : Nat} {xs : Nat → Int32} {gs : Nat → Nat} {tp : Nat} {D : va_G} {d0 dc dr ou m0 mx my mr mb : Nat} {cA cQ cL : ClassId} (C : lx_C p l s m c b L xs gs tp D cA cQ cL) {i : Nat} (hi : i + 8 ≤ L) {F : Nat → Option Nat} {H : Heap} {locs : List Loc} {ls : Array Slot} (hl : lv_has ls 8 [(4, .int (nI i)), (3, .ref ou), (2, .ref m0), (1, .ref d0), (0, .ref b)]) (hI : lx_I D d0 dc dr ou m0 mx my mr mb cA cQ cL (fun q => s.heap.size ≤ q) F H) (hS : va_S (fun q => s.heap.size ≤ q) s.heap H locs) (kk : (∀ (F : Nat → Option Nat) (H : Heap) (locs : List Loc) (ls : Array Slot), lv_has ls 8 [(4, .int (nI i)), (3, .ref ou), (2, .ref m0), (1, .ref d0), (0, .ref b)] → lx_I D d0 dc dr ou m0 mx my mr mb cA cQ cL (fun q => s.heap.size ≤ q) F H → va_S (fun q => s.heap.size ≤ q) s.heap H locs → W p l e room_1 s m #[Value.ref b] below meth c H locs (20 + lx_n F + (i + 8)) (9000 + lx_c F + 6 * (i + 8)) Q (F0 m 1269 ls []))) : W p l e room_1 s m #[Value.ref b] below meth c H locs (20 + lx_n F + i) (9000 + lx_c F + 6 * i) Q (F0 m 284 ls []) := by
  obtain ⟨hx, hb, hml, hown, ht, hX, hbl, hZ, hT, hK, hL⟩ := C
  obtain ⟨k, R, h0, ai, ar, af, ap, ah, ac, hk, rg, fi, fr, ff, fp, fh, fn, fo, th, sx, sy, fx, fy, fm, fb, oth, hP, hD, hk5, hF, hok, hhv, hrg, hR, hfm, hB, hO⟩ := hI
  have hbA : ¬ s.heap.size ≤ b := Nat.not_le.mpr hbl
  have hA : ∀ q, s.heap.size ≤ q → s.heap.size ≤ q := fun _ h => h
  have zi : i ≤ 4088 := by omega
  have zn := lx_n_le F
  have zc := lx_c_le F
  have hK0 := tw_kK k hk5
  by_cases b1 : md_bad (xs (i + 1))
  · refine lv_aload_n hx hb dL_law_284 rfl (lv_at hl 3 rfl) ?_
    refine lv_aload_n hx hb dL_law_285 rfl (lv_at hl 4 rfl) ?_
    refine lv_iload hx hb dL_law_286 (lv_at hl 0 rfl) ?_
    refine lv_iconst (v := (nI 1)) hx hb dL_law_288 (by decide) ?_
    refine nv_iadd hx hb dL_law_289 ?_
    refine va_sld hx hb hX hbl hbA hS (nv_in (by omega) (by omega)) dL_law_290 ?_
    rw [nI_clamp (by omega)]
    refine lv_aload_n hx hb dL_law_291 rfl (lv_at hl 1 rfl) ?_
    refine va_calli (vx_runSW (As := [.ref d0, .int (xs (i + 1)), .ref ou]) (rest := []) ⟨hx, hb, hml, hown, ht⟩ (c_L_packedR l gs b1) (vx_cwSW 3 ht (tb_S kl_L_86 kt_L_packed kn_L kc_L_packed) rfl rfl rfl kd_L_packed ⟨Nat.le_of_ble_eq_true rfl, Nat.le_of_ble_eq_true rfl⟩) (nx_preSR _ hZ hS (va_recv (ci := 1) (q0 := 0) hK hP rfl rfl)) rfl rfl hl.1 rfl (lv_room (Nat.le_of_ble_eq_true rfl)) dL_law_292 ⟨by show 20 + lx_n F + i + 1 ≤ 601024; omega, by show 9000 + lx_c F + 6 * i + 6 ≤ 7293033; omega⟩) hS (fun _ _ h => h.elim) (fun _ h => h.elim) (fun r9 u9 t9 H locs ht9 hvm9 hw9 hB9 hz9 hk9 hS => ?_)
    have hP := lx_kp hP hk9
    subst hw9
    have hP : va_P D vwCl ((lw_U d0 dc dr h0 ai ar af ap ah ac ou cA cL k hk rg fi fr ff fp fh fn fo) ++ ((lw_M m0 mx my mr mb cA k th sx sy fx fy fm fb) ++ ((dc, .inl (cQ, 5, .inr (.inr (.inr (.inr F))))) :: oth))) H := hP
    have hD : va_D (fun q => s.heap.size ≤ q) ((lw_U d0 dc dr h0 ai ar af ap ah ac ou cA cL k hk rg fi fr ff fp fh fn fo) ++ ((lw_M m0 mx my mr mb cA k th sx sy fx fy fm fb) ++ ((dc, .inl (cQ, 5, .inr (.inr (.inr (.inr F))))) :: oth))) := hD
    refine lv_istore hx hb dL_law_295 hl (by decide) rfl (fun ls hl => ?_)
    have hl : lv_has ls 8 [(5, .int (nI 1)), (4, .int (nI i)), (3, .ref ou), (2, .ref m0), (1, .ref d0), (0, .ref b)] := hl
    refine lv_aload_n hx hb dL_law_297 rfl (lv_at hl 3 rfl) ?_
    refine lv_aload_n hx hb dL_law_298 rfl (lv_at hl 5 rfl) ?_
    refine lv_iload hx hb dL_law_299 (lv_at hl 1 rfl) ?_
    refine lv_iconst (v := (nI 1)) hx hb dL_law_301 (by decide) ?_
    refine nv_iadd hx hb dL_law_302 ?_
    refine va_sld hx hb hX hbl hbA hS (nv_in (by omega) (by omega)) dL_law_303 ?_
    rw [nI_clamp (by omega)]
    have hP := wp_P (List.perm_append_comm_assoc _ _ _) hP
    have hD := wp_D (List.perm_append_comm_assoc _ _ _) hD
    have hP : va_P D vwCl ((lw_M m0 mx my mr mb cA k th sx sy fx fy fm fb) ++ ((lw_U d0 dc dr h0 ai ar af ap ah ac ou cA cL k hk rg fi fr ff fp fh fn fo) ++ ((dc, .inl (cQ, 5, .inr (.inr (.inr (.inr F))))) :: oth))) H := hP
    have hD : va_D (fun q => s.heap.size ≤ q) ((lw_M m0 mx my mr mb cA k th sx sy fx fy fm fb) ++ ((lw_U d0 dc dr h0 ai ar af ap ah ac ou cA cL k hk rg fi fr ff fp fh fn fo) ++ ((dc, .inl (cQ, 5, .inr (.inr (.inr (.inr F))))) :: oth))) := hD
    have hFc := wp_free hD hS hA
    refine va_calli (va_runV (As := [.int (xs (i + 1))]) (rest := []) ⟨hx, hb, hml, hown, ht⟩ (c_X2_packedR l D hk5 b1 H.size) (cwV 1 ht (tb_V kl_L_88 ki_X2_packed ks_X2_packed kn_X2 kc_X2_packed) rfl rfl rfl ⟨rfl, kd_X2_packed⟩ ⟨Nat.le_of_ble_eq_true rfl, Nat.le_of_ble_eq_true rfl⟩) (wd_preV _ (wp_Pl hP) (hK.sub (tys' := [(cA, .int)]) [0] rfl) (wp_Dl hD) (va_recv (ci := 2) (q0 := 0) hK hP rfl rfl)) rfl rfl hl.1 rfl (lv_room (Nat.le_of_ble_eq_true rfl)) dL_law_304 ⟨by show 20 + lx_n F + i + 1 + 0 ≤ 601024; omega, by show 9000 + lx_c F + 6 * i + 6 + 0 ≤ 7293033; omega⟩) hS (fun q _ h => hFc q h) hFc (fun r8 u8 t8 H locs ht8 hvm8 hw8 hB8 hz8 hk8 hS => ?_)
    obtain ⟨hP1, hK1, hD1⟩ := hB8
    rw [ht8] at hP1
    obtain ⟨hP, hD⟩ := wp_join hP hD hk8 hFc hP1 hD1
    have hP : va_P D vwCl ((lw_M m0 mx my mr mb cA k (nI 1) sx sy fx fy fm fb) ++ ((lw_U d0 dc dr h0 ai ar af ap ah ac ou cA cL k hk rg fi fr ff fp fh fn fo) ++ ((dc, .inl (cQ, 5, .inr (.inr (.inr (.inr F))))) :: oth))) H := hP
    have hD : va_D (fun q => s.heap.size ≤ q) ((lw_M m0 mx my mr mb cA k (nI 1) sx sy fx fy fm fb) ++ ((lw_U d0 dc dr h0 ai ar af ap ah ac ou cA cL k hk rg fi fr ff fp fh fn fo) ++ ((dc, .inl (cQ, 5, .inr (.inr (.inr (.inr F))))) :: oth))) := hD
    subst hw8
    refine lv_istore hx hb dL_law_307 hl (by decide) rfl (fun ls hl => ?_)
    have hl : lv_has ls 8 [(6, .int 0), (5, .int (nI 1)), (4, .int (nI i)), (3, .ref ou), (2, .ref m0), (1, .ref d0), (0, .ref b)] := hl
    refine lv_aload_n hx hb dL_law_309 rfl (lv_at hl 4 rfl) ?_
    refine vp_callSi (W.runV (As := []) (rest := []) ⟨hx, hb, hml, hown, ht⟩ (c_X2_thrown l D hk5) (cwV 0 ht (tb_V kl_L_74 ki_X2_thrown ks_X2_thrown kn_X2 kc_X2_thrown) rfl rfl rfl ⟨rfl, kd_X2_thrown⟩ ⟨Nat.le_of_ble_eq_true rfl, Nat.le_of_ble_eq_true rfl⟩) (ro_preV _ ((wp_Pl hP).sub (ws' := [(m0, .inr (2, [.int (nI 1), .int (nI k), .int (nI (tw_P k)), .int (nI (tw_D k)), .int (nI (tw_I k)), .ref mx, .ref my, .ref mr, .ref mb, .int sx, .int sy]))]) [0] rfl) (hK.sub (tys' := []) [] rfl) (va_recv (ci := 2) (q0 := 0) hK hP rfl rfl)) rfl rfl hl.1 rfl (lv_room (Nat.le_of_ble_eq_true rfl)) dL_law_310 ⟨by show 20 + lx_n F + i + 1 + 0 + 0 ≤ 601024; omega, by show 9000 + lx_c F + 6 * i + 6 + 0 + 0 ≤ 7293033; omega⟩) (fun r hr9 => ?_)
    subst hr9
    refine lv_iload hx hb dL_law_313 (lv_at hl 1 rfl) ?_
    refine lv_icmp_eq (tgt := 320) hx hb dL_law_315 (by decide) (fun _ => ?_) (fun c9 => absurd rfl c9)
    refine lv_iload hx hb dL_law_320 (lv_at hl 1 rfl) ?_
    refine lv_if_ne (tgt := 337) hx hb dL_law_322 (by decide) (fun _ => ?_) (fun c9 => absurd c9 (by decide))
    refine lv_goto (tgt := 1269) hx hb dL_law_337 (by decide) ?_
    have hP := wp_P (List.perm_append_comm_assoc _ _ _) hP
    have hD := wp_D (List.perm_append_comm_assoc _ _ _) hD
    have hP : va_P D vwCl ((lw_U d0 dc dr h0 ai ar af ap ah ac ou cA cL k hk rg fi fr ff fp fh fn fo) ++ ((lw_M m0 mx my mr mb cA k (nI 1) sx sy fx fy fm fb) ++ ((dc, .inl (cQ, 5, .inr (.inr (.inr (.inr F))))) :: oth))) H := hP
    have hD : va_D (fun q => s.heap.size ≤ q) ((lw_U d0 dc dr h0 ai ar af ap ah ac ou cA cL k hk rg fi fr ff fp fh fn fo) ++ ((lw_M m0 mx my mr mb cA k (nI 1) sx sy fx fy fm fb) ++ ((dc, .inl (cQ, 5, .inr (.inr (.inr (.inr F))))) :: oth))) := hD
    refine W.widen (k := 20 + lx_n F + (i + 8)) (n := 9000 + lx_c F + 6 * (i + 8)) (by omega) (by omega) ?_
    exact kk F H locs ls (lv_sub hl [2, 3, 4, 5, 6] rfl) (lx_mk hP hD ⟨hk5, hF, hok, hhv, hrg, hR, hfm, hB, hO⟩) hS
  · obtain ⟨j, hj, e1⟩ := md_good b1
    refine lv_aload_n hx hb dL_law_284 rfl (lv_at hl 3 rfl) ?_
    refine lv_aload_n hx hb dL_law_285 rfl (lv_at hl 4 rfl) ?_
    refine lv_iload hx hb dL_law_286 (lv_at hl 0 rfl) ?_
    refine lv_iconst (v := (nI 1)) hx hb dL_law_288 (by decide) ?_
    refine nv_iadd hx hb dL_law_289 ?_
    refine va_sld hx hb hX hbl hbA hS (nv_in (by omega) (by omega)) dL_law_290 ?_
    rw [nI_clamp (by omega)]
    rw [e1]
    refine lv_aload_n hx hb dL_law_291 rfl (lv_at hl 1 rfl) ?_
    have hFc := wp_free hD hS hA
    refine va_calli (vx_runSW (As := [.ref d0, .int (nI j), .ref ou]) (rest := []) ⟨hx, hb, hml, hown, ht⟩ (c_L_packed l D hk5 hok hrg hj H.size) (vx_cwSW 3 ht (tb_S kl_L_86 kt_L_packed kn_L kc_L_packed) rfl rfl rfl kd_L_packed ⟨Nat.le_of_ble_eq_true rfl, Nat.le_of_ble_eq_true rfl⟩) (wd_preS _ (wp_Pl hP) (hK.sub (tys' := [(cA, .int), (cL, .long)]) [0, 2] rfl) (wp_Dl hD)) rfl rfl hl.1 rfl (lv_room (Nat.le_of_ble_eq_true rfl)) dL_law_292 ⟨by show 20 + lx_n F + i + 0 ≤ 601024; omega, by show 9000 + lx_c F + 6 * i + 0 ≤ 7293033; omega⟩) hS (fun q _ h => hFc q h) hFc (fun r9 u9 t9 H locs ht9 hvm9 hw9 hB9 hz9 hk9 hS => ?_)
    obtain ⟨hP1, hK1, hD1⟩ := hB9
    rw [ht9] at hP1
    obtain ⟨hP, hD⟩ := wp_join hP hD hk9 hFc hP1 hD1
    obtain ⟨e9, w9⟩ := hw9
    subst e9
    have hP : va_P D vwCl ((lw_U d0 dc dr h0 ai ar af ap ah ac ou cA cL k hk rg fi fr ff fp fh fn u9) ++ ((lw_M m0 mx my mr mb cA k th sx sy fx fy fm fb) ++ ((dc, .inl (cQ, 5, .inr (.inr (.inr (.inr F))))) :: oth))) H := hP
    have hD : va_D (fun q => s.heap.size ≤ q) ((lw_U d0 dc dr h0 ai ar af ap ah ac ou cA cL k hk rg fi fr ff fp fh fn u9) ++ ((lw_M m0 mx my mr mb cA k th sx sy fx fy fm fb) ++ ((dc, .inl (cQ, 5, .inr (.inr (.inr (.inr F))))) :: oth))) := hD
    refine lv_istore hx hb dL_law_295 hl (by decide) rfl (fun ls hl => ?_)
    have hl : lv_has ls 8 [(5, .int (nI 0)), (4, .int (nI i)), (3, .ref ou), (2, .ref m0), (1, .ref d0), (0, .ref b)] := hl
    refine lv_aload_n hx hb dL_law_297 rfl (lv_at hl 3 rfl) ?_
    refine lv_aload_n hx hb dL_law_298 rfl (lv_at hl 5 rfl) ?_
    refine lv_iload hx hb dL_law_299 (lv_at hl 1 rfl) ?_
    refine lv_iconst (v := (nI 1)) hx hb dL_law_301 (by decide) ?_
    refine nv_iadd hx hb dL_law_302 ?_
    refine va_sld hx hb hX hbl hbA hS (nv_in (by omega) (by omega)) dL_law_303 ?_
    rw [nI_clamp (by omega)]
    rw [e1]
    have hP := wp_P (List.perm_append_comm_assoc _ _ _) hP
    have hD := wp_D (List.perm_append_comm_assoc _ _ _) hD
    have hP : va_P D vwCl ((lw_M m0 mx my mr mb cA k th sx sy fx fy fm fb) ++ ((lw_U d0 dc dr h0 ai ar af ap ah ac ou cA cL k hk rg fi fr ff fp fh fn u9) ++ ((dc, .inl (cQ, 5, .inr (.inr (.inr (.inr F))))) :: oth))) H := hP
    have hD : va_D (fun q => s.heap.size ≤ q) ((lw_M m0 mx my mr mb cA k th sx sy fx fy fm fb) ++ ((lw_U d0 dc dr h0 ai ar af ap ah ac ou cA cL k hk rg fi fr ff fp fh fn u9) ++ ((dc, .inl (cQ, 5, .inr (.inr (.inr (.inr F))))) :: oth))) := hD
    have hFc := wp_free hD hS hA
    refine va_calli (va_runV (As := [.int (nI j)]) (rest := []) ⟨hx, hb, hml, hown, ht⟩ (c_X2_packed l D hk5 hfm hR hj H.size) (cwV 1 ht (tb_V kl_L_88 ki_X2_packed ks_X2_packed kn_X2 kc_X2_packed) rfl rfl rfl ⟨rfl, kd_X2_packed⟩ ⟨Nat.le_of_ble_eq_true rfl, Nat.le_of_ble_eq_true rfl⟩) (wd_preV _ (wp_Pl hP) (hK.sub (tys' := [(cA, .int)]) [0] rfl) (wp_Dl hD) (va_recv (ci := 2) (q0 := 0) hK hP rfl rfl)) rfl rfl hl.1 rfl (lv_room (Nat.le_of_ble_eq_true rfl)) dL_law_304 ⟨by show 20 + lx_n F + i + 0 + 0 ≤ 601024; omega, by show 9000 + lx_c F + 6 * i + 0 + 0 ≤ 7293033; omega⟩) hS (fun q _ h => hFc q h) hFc (fun r8 u8 t8 H locs ht8 hvm8 hw8 hB8 hz8 hk8 hS => ?_)
    obtain ⟨hP1, hK1, hD1⟩ := hB8
    rw [ht8] at hP1
    obtain ⟨hP, hD⟩ := wp_join hP hD hk8 hFc hP1 hD1
    have hP : va_P D vwCl ((lw_M m0 mx my mr mb cA k (nI 0) sx sy fx fy fm fb) ++ ((lw_U d0 dc dr h0 ai ar af ap ah ac ou cA cL k hk rg fi fr ff fp fh fn u9) ++ ((dc, .inl (cQ, 5, .inr (.inr (.inr (.inr F))))) :: oth))) H := hP
    have hD : va_D (fun q => s.heap.size ≤ q) ((lw_M m0 mx my mr mb cA k (nI 0) sx sy fx fy fm fb) ++ ((lw_U d0 dc dr h0 ai ar af ap ah ac ou cA cL k hk rg fi fr ff fp fh fn u9) ++ ((dc, .inl (cQ, 5, .inr (.inr (.inr (.inr F))))) :: oth))) := hD
    subst hw8
    refine lv_istore hx hb dL_law_307 hl (by decide) rfl (fun ls hl => ?_)
    have hl : lv_has ls 8 [(6, .int (nI (tw_pk (R j)))), (5, .int (nI 0)), (4, .int (nI i)), (3, .ref ou), (2, .ref m0), (1, .ref d0), (0, .ref b)] := hl
    refine lv_aload_n hx hb dL_law_309 rfl (lv_at hl 4 rfl) ?_
    refine vp_callSi (W.runV (As := []) (rest := []) ⟨hx, hb, hml, hown, ht⟩ (c_X2_thrown l D hk5) (cwV 0 ht (tb_V kl_L_74 ki_X2_thrown ks_X2_thrown kn_X2 kc_X2_thrown) rfl rfl rfl ⟨rfl, kd_X2_thrown⟩ ⟨Nat.le_of_ble_eq_true rfl, Nat.le_of_ble_eq_true rfl⟩) (ro_preV _ ((wp_Pl hP).sub (ws' := [(m0, .inr (2, [.int (nI 0), .int (nI k), .int (nI (tw_P k)), .int (nI (tw_D k)), .int (nI (tw_I k)), .ref mx, .ref my, .ref mr, .ref mb, .int sx, .int sy]))]) [0] rfl) (hK.sub (tys' := []) [] rfl) (va_recv (ci := 2) (q0 := 0) hK hP rfl rfl)) rfl rfl hl.1 rfl (lv_room (Nat.le_of_ble_eq_true rfl)) dL_law_310 ⟨by show 20 + lx_n F + i + 0 + 0 + 0 ≤ 601024; omega, by show 9000 + lx_c F + 6 * i + 0 + 0 + 0 ≤ 7293033; omega⟩) (fun r hr9 => ?_)
    subst hr9
    refine lv_iload hx hb dL_law_313 (lv_at hl 1 rfl) ?_
    refine lv_icmp_eq (tgt := 320) hx hb dL_law_315 (by decide) (fun _ => ?_) (fun c9 => absurd rfl c9)
    refine lv_iload hx hb dL_law_320 (lv_at hl 1 rfl) ?_
    refine lv_if_ne (tgt := 337) hx hb dL_law_322 (by decide) (fun c9 => absurd rfl c9) (fun _ => ?_)
    refine lv_aload_n hx hb dL_law_325 rfl (lv_at hl 3 rfl) ?_
    refine lv_iconst (v := (nI 0)) hx hb dL_law_326 (by decide) ?_
    have hP := wp_P (List.perm_append_comm_assoc _ _ _) hP
    have hD := wp_D (List.perm_append_comm_assoc _ _ _) hD
    have hP : va_P D vwCl ((lw_U d0 dc dr h0 ai ar af ap ah ac ou cA cL k hk rg fi fr ff fp fh fn u9) ++ ((lw_M m0 mx my mr mb cA k (nI 0) sx sy fx fy fm fb) ++ ((dc, .inl (cQ, 5, .inr (.inr (.inr (.inr F))))) :: oth))) H := hP
    have hD : va_D (fun q => s.heap.size ≤ q) ((lw_U d0 dc dr h0 ai ar af ap ah ac ou cA cL k hk rg fi fr ff fp fh fn u9) ++ ((lw_M m0 mx my mr mb cA k (nI 0) sx sy fx fy fm fb) ++ ((dc, .inl (cQ, 5, .inr (.inr (.inr (.inr F))))) :: oth))) := hD
    refine va_lald hx hb hK hP 9 2 rfl rfl (nv_in (a := 0) (n := 1) (by decide) (by decide)) dL_law_327 ?_
    rw [nI_clamp (n := 0) (by decide), w9]
    refine lv_iload hx hb dL_law_328 (lv_at hl 0 rfl) ?_
    refine lv_i2l (v := (nI (tw_pk (R j))).toInt64) hx hb dL_law_330 rfl ?_
    refine lx_lcmp hx hb dL_law_331 ?_
    refine lv_if_eq (tgt := 337) hx hb dL_law_332 (by decide) (fun _ => ?_) (fun c9 => absurd rfl c9)
    refine lv_goto (tgt := 1269) hx hb dL_law_337 (by decide) ?_
    refine W.widen (k := 20 + lx_n F + (i + 8)) (n := 9000 + lx_c F + 6 * (i + 8)) (by omega) (by omega) ?_
    exact kk F H locs ls (lv_sub hl [2, 3, 4, 5, 6] rfl) (lx_mk hP hD ⟨hk5, hF, hok, hhv, hrg, hR, hfm, hB, hO⟩) hS
set_option maxHeartbeats 8000000 in
set_option maxRecDepth 100000 in
theorem lc_4 {p : Program} {l : Launch} {e : Env} {s : State} {m : MethodId} {below : List Frame} {meth : Method} {c : Code} {Q : State → Prop} {b L : Nat} {xs : Nat → Int32} {gs : Nat → Nat} {tp : Nat} {D : va_G} {d0 dc dr ou m0 mx my mr mb : Nat} {cA cQ cL : ClassId} (C : lx_C p l s m c b L xs gs tp D cA cQ cL) {i : Nat} (hi : i + 8 ≤ L) {F : Nat → Option Nat} {H : Heap} {locs : List Loc} {ls : Array Slot} (hl : lv_has ls 8 [(4, .int (nI i)), (3, .ref ou), (2, .ref m0), (1, .ref d0), (0, .ref b)]) (hI : lx_I D d0 dc dr ou m0 mx my mr mb cA cQ cL (fun q => s.heap.size ≤ q) F H) (hS : va_S (fun q => s.heap.size ≤ q) s.heap H locs) (kk : (∀ (F : Nat → Option Nat) (H : Heap) (locs : List Loc) (ls : Array Slot), lv_has ls 8 [(4, .int (nI i)), (3, .ref ou), (2, .ref m0), (1, .ref d0), (0, .ref b)] → lx_I D d0 dc dr ou m0 mx my mr mb cA cQ cL (fun q => s.heap.size ≤ q) F H → va_S (fun q => s.heap.size ≤ q) s.heap H locs → W p l e room_1 s m #[Value.ref b] below meth c H locs (20 + lx_n F + (i + 8)) (9000 + lx_c F + 6 * (i + 8)) Q (F0 m 1269 ls []))) : W p l e room_1 s m #[Value.ref b] below meth c H locs (20 + lx_n F + i) (9000 + lx_c F + 6 * i) Q (F0 m 340 ls []) := by
  obtain ⟨hx, hb, hml, hown, ht, hX, hbl, hZ, hT, hK, hL⟩ := C
  obtain ⟨k, R, h0, ai, ar, af, ap, ah, ac, hk, rg, fi, fr, ff, fp, fh, fn, fo, th, sx, sy, fx, fy, fm, fb, oth, hP, hD, hk5, hF, hok, hhv, hrg, hR, hfm, hB, hO⟩ := hI
  have hbA : ¬ s.heap.size ≤ b := Nat.not_le.mpr hbl
  have hA : ∀ q, s.heap.size ≤ q → s.heap.size ≤ q := fun _ h => h
  have zi : i ≤ 4088 := by omega
  have zn := lx_n_le F
  have zc := lx_c_le F
  have hK0 := tw_kK k hk5
  obtain ⟨bb, hb1, hbe, hbn⟩ := lx_b (xs (i + 2))
  by_cases b1 : md_bad (xs (i + 1))
  · refine lv_aload_n hx hb dL_law_340 rfl (lv_at hl 3 rfl) ?_
    refine lv_aload_n hx hb dL_law_341 rfl (lv_at hl 4 rfl) ?_
    refine lv_iload hx hb dL_law_342 (lv_at hl 0 rfl) ?_
    refine lv_iconst (v := (nI 1)) hx hb dL_law_344 (by decide) ?_
    refine nv_iadd hx hb dL_law_345 ?_
    refine va_sld hx hb hX hbl hbA hS (nv_in (by omega) (by omega)) dL_law_346 ?_
    rw [nI_clamp (by omega)]
    refine lv_aload_n hx hb dL_law_347 rfl (lv_at hl 4 rfl) ?_
    refine lv_iload hx hb dL_law_348 (lv_at hl 0 rfl) ?_
    refine lv_iconst (v := (nI 2)) hx hb dL_law_350 (by decide) ?_
    refine nv_iadd hx hb dL_law_351 ?_
    refine va_sld hx hb hX hbl hbA hS (nv_in (by omega) (by omega)) dL_law_352 ?_
    rw [nI_clamp (by omega)]
    -- a boolean
    refine lx_bool hx hb hbe hbn dL_law_353 dL_law_356 dL_law_357 dL_law_360 (by decide) (by decide) ?_
    refine lv_aload_n hx hb dL_law_361 rfl (lv_at hl 1 rfl) ?_
    refine va_calli (vx_runSW (As := [.ref d0, .int (xs (i + 1)), .int (nI bb), .ref ou]) (rest := []) ⟨hx, hb, hml, hown, ht⟩ (c_L_getR l gs b1) (vx_cwSW 4 ht (tb_S kl_L_89 kt_L_get kn_L kc_L_get) rfl rfl rfl kd_L_get ⟨Nat.le_of_ble_eq_true rfl, Nat.le_of_ble_eq_true rfl⟩) (nx_preSR _ hZ hS (va_recv (ci := 1) (q0 := 0) hK hP rfl rfl)) rfl rfl hl.1 rfl (lv_room (Nat.le_of_ble_eq_true rfl)) dL_law_362 ⟨by show 20 + lx_n F + i + 1 ≤ 601024; omega, by show 9000 + lx_c F + 6 * i + 6 ≤ 7293033; omega⟩) hS (fun _ _ h => h.elim) (fun _ h => h.elim) (fun r9 u9 t9 H locs ht9 hvm9 hw9 hB9 hz9 hk9 hS => ?_)
    have hP := lx_kp hP hk9
    subst hw9
    have hP : va_P D vwCl ((lw_U d0 dc dr h0 ai ar af ap ah ac ou cA cL k hk rg fi fr ff fp fh fn fo) ++ ((lw_M m0 mx my mr mb cA k th sx sy fx fy fm fb) ++ ((dc, .inl (cQ, 5, .inr (.inr (.inr (.inr F))))) :: oth))) H := hP
    have hD : va_D (fun q => s.heap.size ≤ q) ((lw_U d0 dc dr h0 ai ar af ap ah ac ou cA cL k hk rg fi fr ff fp fh fn fo) ++ ((lw_M m0 mx my mr mb cA k th sx sy fx fy fm fb) ++ ((dc, .inl (cQ, 5, .inr (.inr (.inr (.inr F))))) :: oth))) := hD
    refine lv_istore hx hb dL_law_365 hl (by decide) rfl (fun ls hl => ?_)
    have hl : lv_has ls 8 [(5, .int (nI 1)), (4, .int (nI i)), (3, .ref ou), (2, .ref m0), (1, .ref d0), (0, .ref b)] := hl
    refine lv_aload_n hx hb dL_law_367 rfl (lv_at hl 3 rfl) ?_
    refine lv_aload_n hx hb dL_law_368 rfl (lv_at hl 5 rfl) ?_
    refine lv_iload hx hb dL_law_369 (lv_at hl 1 rfl) ?_
    refine lv_iconst (v := (nI 1)) hx hb dL_law_371 (by decide) ?_
    refine nv_iadd hx hb dL_law_372 ?_
    refine va_sld hx hb hX hbl hbA hS (nv_in (by omega) (by omega)) dL_law_373 ?_
    rw [nI_clamp (by omega)]
    refine lv_aload_n hx hb dL_law_374 rfl (lv_at hl 5 rfl) ?_
    refine lv_iload hx hb dL_law_375 (lv_at hl 1 rfl) ?_
    refine lv_iconst (v := (nI 2)) hx hb dL_law_377 (by decide) ?_
    refine nv_iadd hx hb dL_law_378 ?_
    refine va_sld hx hb hX hbl hbA hS (nv_in (by omega) (by omega)) dL_law_379 ?_
    rw [nI_clamp (by omega)]
    -- a boolean
    refine lx_bool hx hb hbe hbn dL_law_380 dL_law_383 dL_law_384 dL_law_387 (by decide) (by decide) ?_
    have hP := wp_P (List.perm_append_comm_assoc _ _ _) hP
    have hD := wp_D (List.perm_append_comm_assoc _ _ _) hD
    have hP : va_P D vwCl ((lw_M m0 mx my mr mb cA k th sx sy fx fy fm fb) ++ ((lw_U d0 dc dr h0 ai ar af ap ah ac ou cA cL k hk rg fi fr ff fp fh fn fo) ++ ((dc, .inl (cQ, 5, .inr (.inr (.inr (.inr F))))) :: oth))) H := hP
    have hD : va_D (fun q => s.heap.size ≤ q) ((lw_M m0 mx my mr mb cA k th sx sy fx fy fm fb) ++ ((lw_U d0 dc dr h0 ai ar af ap ah ac ou cA cL k hk rg fi fr ff fp fh fn fo) ++ ((dc, .inl (cQ, 5, .inr (.inr (.inr (.inr F))))) :: oth))) := hD
    have hFc := wp_free hD hS hA
    refine va_calli (va_runV (As := [.int (xs (i + 1)), .int (nI bb)]) (rest := []) ⟨hx, hb, hml, hown, ht⟩ (c_X2_getR l D hk5 b1 H.size) (cwV 2 ht (tb_V kl_L_92 ki_X2_get ks_X2_get kn_X2 kc_X2_get) rfl rfl rfl ⟨rfl, kd_X2_get⟩ ⟨Nat.le_of_ble_eq_true rfl, Nat.le_of_ble_eq_true rfl⟩) (wd_preV _ (wp_Pl hP) (hK.sub (tys' := [(cA, .int)]) [0] rfl) (wp_Dl hD) (va_recv (ci := 2) (q0 := 0) hK hP rfl rfl)) rfl rfl hl.1 rfl (lv_room (Nat.le_of_ble_eq_true rfl)) dL_law_388 ⟨by show 20 + lx_n F + i + 1 + 0 ≤ 601024; omega, by show 9000 + lx_c F + 6 * i + 6 + 0 ≤ 7293033; omega⟩) hS (fun q _ h => hFc q h) hFc (fun r8 u8 t8 H locs ht8 hvm8 hw8 hB8 hz8 hk8 hS => ?_)
    obtain ⟨hP1, hK1, hD1⟩ := hB8
    rw [ht8] at hP1
    obtain ⟨hP, hD⟩ := wp_join hP hD hk8 hFc hP1 hD1
    have hP : va_P D vwCl ((lw_M m0 mx my mr mb cA k (nI 1) sx sy fx fy fm fb) ++ ((lw_U d0 dc dr h0 ai ar af ap ah ac ou cA cL k hk rg fi fr ff fp fh fn fo) ++ ((dc, .inl (cQ, 5, .inr (.inr (.inr (.inr F))))) :: oth))) H := hP
    have hD : va_D (fun q => s.heap.size ≤ q) ((lw_M m0 mx my mr mb cA k (nI 1) sx sy fx fy fm fb) ++ ((lw_U d0 dc dr h0 ai ar af ap ah ac ou cA cL k hk rg fi fr ff fp fh fn fo) ++ ((dc, .inl (cQ, 5, .inr (.inr (.inr (.inr F))))) :: oth))) := hD
    subst hw8
    refine lv_istore hx hb dL_law_391 hl (by decide) rfl (fun ls hl => ?_)
    have hl : lv_has ls 8 [(6, .int 0), (5, .int (nI 1)), (4, .int (nI i)), (3, .ref ou), (2, .ref m0), (1, .ref d0), (0, .ref b)] := hl
    refine lv_aload_n hx hb dL_law_393 rfl (lv_at hl 4 rfl) ?_
    refine vp_callSi (W.runV (As := []) (rest := []) ⟨hx, hb, hml, hown, ht⟩ (c_X2_thrown l D hk5) (cwV 0 ht (tb_V kl_L_74 ki_X2_thrown ks_X2_thrown kn_X2 kc_X2_thrown) rfl rfl rfl ⟨rfl, kd_X2_thrown⟩ ⟨Nat.le_of_ble_eq_true rfl, Nat.le_of_ble_eq_true rfl⟩) (ro_preV _ ((wp_Pl hP).sub (ws' := [(m0, .inr (2, [.int (nI 1), .int (nI k), .int (nI (tw_P k)), .int (nI (tw_D k)), .int (nI (tw_I k)), .ref mx, .ref my, .ref mr, .ref mb, .int sx, .int sy]))]) [0] rfl) (hK.sub (tys' := []) [] rfl) (va_recv (ci := 2) (q0 := 0) hK hP rfl rfl)) rfl rfl hl.1 rfl (lv_room (Nat.le_of_ble_eq_true rfl)) dL_law_394 ⟨by show 20 + lx_n F + i + 1 + 0 + 0 ≤ 601024; omega, by show 9000 + lx_c F + 6 * i + 6 + 0 + 0 ≤ 7293033; omega⟩) (fun r hr9 => ?_)
    subst hr9
    refine lv_iload hx hb dL_law_397 (lv_at hl 1 rfl) ?_
    refine lv_icmp_eq (tgt := 404) hx hb dL_law_399 (by decide) (fun _ => ?_) (fun c9 => absurd rfl c9)
    refine lv_iload hx hb dL_law_404 (lv_at hl 1 rfl) ?_
    refine lv_if_ne (tgt := 421) hx hb dL_law_406 (by decide) (fun _ => ?_) (fun c9 => absurd c9 (by decide))
    refine lv_goto (tgt := 1269) hx hb dL_law_421 (by decide) ?_
    have hP := wp_P (List.perm_append_comm_assoc _ _ _) hP
    have hD := wp_D (List.perm_append_comm_assoc _ _ _) hD
    have hP : va_P D vwCl ((lw_U d0 dc dr h0 ai ar af ap ah ac ou cA cL k hk rg fi fr ff fp fh fn fo) ++ ((lw_M m0 mx my mr mb cA k (nI 1) sx sy fx fy fm fb) ++ ((dc, .inl (cQ, 5, .inr (.inr (.inr (.inr F))))) :: oth))) H := hP
    have hD : va_D (fun q => s.heap.size ≤ q) ((lw_U d0 dc dr h0 ai ar af ap ah ac ou cA cL k hk rg fi fr ff fp fh fn fo) ++ ((lw_M m0 mx my mr mb cA k (nI 1) sx sy fx fy fm fb) ++ ((dc, .inl (cQ, 5, .inr (.inr (.inr (.inr F))))) :: oth))) := hD
    refine W.widen (k := 20 + lx_n F + (i + 8)) (n := 9000 + lx_c F + 6 * (i + 8)) (by omega) (by omega) ?_
    exact kk F H locs ls (lv_sub hl [2, 3, 4, 5, 6] rfl) (lx_mk hP hD ⟨hk5, hF, hok, hhv, hrg, hR, hfm, hB, hO⟩) hS
  · obtain ⟨j, hj, e1⟩ := md_good b1
    refine lv_aload_n hx hb dL_law_340 rfl (lv_at hl 3 rfl) ?_
    refine lv_aload_n hx hb dL_law_341 rfl (lv_at hl 4 rfl) ?_
    refine lv_iload hx hb dL_law_342 (lv_at hl 0 rfl) ?_
    refine lv_iconst (v := (nI 1)) hx hb dL_law_344 (by decide) ?_
    refine nv_iadd hx hb dL_law_345 ?_
    refine va_sld hx hb hX hbl hbA hS (nv_in (by omega) (by omega)) dL_law_346 ?_
    rw [nI_clamp (by omega)]
    rw [e1]
    refine lv_aload_n hx hb dL_law_347 rfl (lv_at hl 4 rfl) ?_
    refine lv_iload hx hb dL_law_348 (lv_at hl 0 rfl) ?_
    refine lv_iconst (v := (nI 2)) hx hb dL_law_350 (by decide) ?_
    refine nv_iadd hx hb dL_law_351 ?_
    refine va_sld hx hb hX hbl hbA hS (nv_in (by omega) (by omega)) dL_law_352 ?_
    rw [nI_clamp (by omega)]
    -- a boolean
    refine lx_bool hx hb hbe hbn dL_law_353 dL_law_356 dL_law_357 dL_law_360 (by decide) (by decide) ?_
    refine lv_aload_n hx hb dL_law_361 rfl (lv_at hl 1 rfl) ?_
    have hFc := wp_free hD hS hA
    refine va_calli (vx_runSW (As := [.ref d0, .int (nI j), .int (nI bb), .ref ou]) (rest := []) ⟨hx, hb, hml, hown, ht⟩ (c_L_get l D hk5 hok hrg hj hb1 H.size) (vx_cwSW 4 ht (tb_S kl_L_89 kt_L_get kn_L kc_L_get) rfl rfl rfl kd_L_get ⟨Nat.le_of_ble_eq_true rfl, Nat.le_of_ble_eq_true rfl⟩) (wd_preS _ (wp_Pl hP) (hK.sub (tys' := [(cA, .int), (cL, .long)]) [0, 2] rfl) (wp_Dl hD)) rfl rfl hl.1 rfl (lv_room (Nat.le_of_ble_eq_true rfl)) dL_law_362 ⟨by show 20 + lx_n F + i + 0 ≤ 601024; omega, by show 9000 + lx_c F + 6 * i + 0 ≤ 7293033; omega⟩) hS (fun q _ h => hFc q h) hFc (fun r9 u9 t9 H locs ht9 hvm9 hw9 hB9 hz9 hk9 hS => ?_)
    obtain ⟨hP1, hK1, hD1⟩ := hB9
    rw [ht9] at hP1
    obtain ⟨hP, hD⟩ := wp_join hP hD hk9 hFc hP1 hD1
    obtain ⟨e9, w9⟩ := hw9
    subst e9
    have hP : va_P D vwCl ((lw_U d0 dc dr h0 ai ar af ap ah ac ou cA cL k hk rg fi fr ff fp fh fn u9) ++ ((lw_M m0 mx my mr mb cA k th sx sy fx fy fm fb) ++ ((dc, .inl (cQ, 5, .inr (.inr (.inr (.inr F))))) :: oth))) H := hP
    have hD : va_D (fun q => s.heap.size ≤ q) ((lw_U d0 dc dr h0 ai ar af ap ah ac ou cA cL k hk rg fi fr ff fp fh fn u9) ++ ((lw_M m0 mx my mr mb cA k th sx sy fx fy fm fb) ++ ((dc, .inl (cQ, 5, .inr (.inr (.inr (.inr F))))) :: oth))) := hD
    refine lv_istore hx hb dL_law_365 hl (by decide) rfl (fun ls hl => ?_)
    have hl : lv_has ls 8 [(5, .int (nI 0)), (4, .int (nI i)), (3, .ref ou), (2, .ref m0), (1, .ref d0), (0, .ref b)] := hl
    refine lv_aload_n hx hb dL_law_367 rfl (lv_at hl 3 rfl) ?_
    refine lv_aload_n hx hb dL_law_368 rfl (lv_at hl 5 rfl) ?_
    refine lv_iload hx hb dL_law_369 (lv_at hl 1 rfl) ?_
    refine lv_iconst (v := (nI 1)) hx hb dL_law_371 (by decide) ?_
    refine nv_iadd hx hb dL_law_372 ?_
    refine va_sld hx hb hX hbl hbA hS (nv_in (by omega) (by omega)) dL_law_373 ?_
    rw [nI_clamp (by omega)]
    rw [e1]
    refine lv_aload_n hx hb dL_law_374 rfl (lv_at hl 5 rfl) ?_
    refine lv_iload hx hb dL_law_375 (lv_at hl 1 rfl) ?_
    refine lv_iconst (v := (nI 2)) hx hb dL_law_377 (by decide) ?_
    refine nv_iadd hx hb dL_law_378 ?_
    refine va_sld hx hb hX hbl hbA hS (nv_in (by omega) (by omega)) dL_law_379 ?_
    rw [nI_clamp (by omega)]
    -- a boolean
    refine lx_bool hx hb hbe hbn dL_law_380 dL_law_383 dL_law_384 dL_law_387 (by decide) (by decide) ?_
    have hP := wp_P (List.perm_append_comm_assoc _ _ _) hP
    have hD := wp_D (List.perm_append_comm_assoc _ _ _) hD
    have hP : va_P D vwCl ((lw_M m0 mx my mr mb cA k th sx sy fx fy fm fb) ++ ((lw_U d0 dc dr h0 ai ar af ap ah ac ou cA cL k hk rg fi fr ff fp fh fn u9) ++ ((dc, .inl (cQ, 5, .inr (.inr (.inr (.inr F))))) :: oth))) H := hP
    have hD : va_D (fun q => s.heap.size ≤ q) ((lw_M m0 mx my mr mb cA k th sx sy fx fy fm fb) ++ ((lw_U d0 dc dr h0 ai ar af ap ah ac ou cA cL k hk rg fi fr ff fp fh fn u9) ++ ((dc, .inl (cQ, 5, .inr (.inr (.inr (.inr F))))) :: oth))) := hD
    have hFc := wp_free hD hS hA
    refine va_calli (va_runV (As := [.int (nI j), .int (nI bb)]) (rest := []) ⟨hx, hb, hml, hown, ht⟩ (c_X2_get l D hk5 hfm hR hj hb1 H.size) (cwV 2 ht (tb_V kl_L_92 ki_X2_get ks_X2_get kn_X2 kc_X2_get) rfl rfl rfl ⟨rfl, kd_X2_get⟩ ⟨Nat.le_of_ble_eq_true rfl, Nat.le_of_ble_eq_true rfl⟩) (wd_preV _ (wp_Pl hP) (hK.sub (tys' := [(cA, .int)]) [0] rfl) (wp_Dl hD) (va_recv (ci := 2) (q0 := 0) hK hP rfl rfl)) rfl rfl hl.1 rfl (lv_room (Nat.le_of_ble_eq_true rfl)) dL_law_388 ⟨by show 20 + lx_n F + i + 0 + 0 ≤ 601024; omega, by show 9000 + lx_c F + 6 * i + 0 + 0 ≤ 7293033; omega⟩) hS (fun q _ h => hFc q h) hFc (fun r8 u8 t8 H locs ht8 hvm8 hw8 hB8 hz8 hk8 hS => ?_)
    obtain ⟨hP1, hK1, hD1⟩ := hB8
    rw [ht8] at hP1
    obtain ⟨hP, hD⟩ := wp_join hP hD hk8 hFc hP1 hD1
    have hP : va_P D vwCl ((lw_M m0 mx my mr mb cA k (nI 0) sx sy fx fy fm fb) ++ ((lw_U d0 dc dr h0 ai ar af ap ah ac ou cA cL k hk rg fi fr ff fp fh fn u9) ++ ((dc, .inl (cQ, 5, .inr (.inr (.inr (.inr F))))) :: oth))) H := hP
    have hD : va_D (fun q => s.heap.size ≤ q) ((lw_M m0 mx my mr mb cA k (nI 0) sx sy fx fy fm fb) ++ ((lw_U d0 dc dr h0 ai ar af ap ah ac ou cA cL k hk rg fi fr ff fp fh fn u9) ++ ((dc, .inl (cQ, 5, .inr (.inr (.inr (.inr F))))) :: oth))) := hD
    subst hw8
    refine lv_istore hx hb dL_law_391 hl (by decide) rfl (fun ls hl => ?_)
    have hl : lv_has ls 8 [(6, .int (nI (if bb = 0 then (R j).1 else (R j).2))), (5, .int (nI 0)), (4, .int (nI i)), (3, .ref ou), (2, .ref m0), (1, .ref d0), (0, .ref b)] := hl
    refine lv_aload_n hx hb dL_law_393 rfl (lv_at hl 4 rfl) ?_
    refine vp_callSi (W.runV (As := []) (rest := []) ⟨hx, hb, hml, hown, ht⟩ (c_X2_thrown l D hk5) (cwV 0 ht (tb_V kl_L_74 ki_X2_thrown ks_X2_thrown kn_X2 kc_X2_thrown) rfl rfl rfl ⟨rfl, kd_X2_thrown⟩ ⟨Nat.le_of_ble_eq_true rfl, Nat.le_of_ble_eq_true rfl⟩) (ro_preV _ ((wp_Pl hP).sub (ws' := [(m0, .inr (2, [.int (nI 0), .int (nI k), .int (nI (tw_P k)), .int (nI (tw_D k)), .int (nI (tw_I k)), .ref mx, .ref my, .ref mr, .ref mb, .int sx, .int sy]))]) [0] rfl) (hK.sub (tys' := []) [] rfl) (va_recv (ci := 2) (q0 := 0) hK hP rfl rfl)) rfl rfl hl.1 rfl (lv_room (Nat.le_of_ble_eq_true rfl)) dL_law_394 ⟨by show 20 + lx_n F + i + 0 + 0 + 0 ≤ 601024; omega, by show 9000 + lx_c F + 6 * i + 0 + 0 + 0 ≤ 7293033; omega⟩) (fun r hr9 => ?_)
    subst hr9
    refine lv_iload hx hb dL_law_397 (lv_at hl 1 rfl) ?_
    refine lv_icmp_eq (tgt := 404) hx hb dL_law_399 (by decide) (fun _ => ?_) (fun c9 => absurd rfl c9)
    refine lv_iload hx hb dL_law_404 (lv_at hl 1 rfl) ?_
    refine lv_if_ne (tgt := 421) hx hb dL_law_406 (by decide) (fun c9 => absurd rfl c9) (fun _ => ?_)
    refine lv_aload_n hx hb dL_law_409 rfl (lv_at hl 3 rfl) ?_
    refine lv_iconst (v := (nI 0)) hx hb dL_law_410 (by decide) ?_
    have hP := wp_P (List.perm_append_comm_assoc _ _ _) hP
    have hD := wp_D (List.perm_append_comm_assoc _ _ _) hD
    have hP : va_P D vwCl ((lw_U d0 dc dr h0 ai ar af ap ah ac ou cA cL k hk rg fi fr ff fp fh fn u9) ++ ((lw_M m0 mx my mr mb cA k (nI 0) sx sy fx fy fm fb) ++ ((dc, .inl (cQ, 5, .inr (.inr (.inr (.inr F))))) :: oth))) H := hP
    have hD : va_D (fun q => s.heap.size ≤ q) ((lw_U d0 dc dr h0 ai ar af ap ah ac ou cA cL k hk rg fi fr ff fp fh fn u9) ++ ((lw_M m0 mx my mr mb cA k (nI 0) sx sy fx fy fm fb) ++ ((dc, .inl (cQ, 5, .inr (.inr (.inr (.inr F))))) :: oth))) := hD
    refine va_lald hx hb hK hP 9 2 rfl rfl (nv_in (a := 0) (n := 1) (by decide) (by decide)) dL_law_411 ?_
    rw [nI_clamp (n := 0) (by decide), w9]
    refine lv_iload hx hb dL_law_412 (lv_at hl 0 rfl) ?_
    refine lv_i2l (v := (nI (if bb = 0 then (R j).1 else (R j).2)).toInt64) hx hb dL_law_414 rfl ?_
    refine lx_lcmp hx hb dL_law_415 ?_
    refine lv_if_eq (tgt := 421) hx hb dL_law_416 (by decide) (fun _ => ?_) (fun c9 => absurd rfl c9)
    refine lv_goto (tgt := 1269) hx hb dL_law_421 (by decide) ?_
    refine W.widen (k := 20 + lx_n F + (i + 8)) (n := 9000 + lx_c F + 6 * (i + 8)) (by omega) (by omega) ?_
    exact kk F H locs ls (lv_sub hl [2, 3, 4, 5, 6] rfl) (lx_mk hP hD ⟨hk5, hF, hok, hhv, hrg, hR, hfm, hB, hO⟩) hS
set_option maxHeartbeats 8000000 in
set_option maxRecDepth 100000 in
theorem lc_8 {p : Program} {l : Launch} {e : Env} {s : State} {m : MethodId} {below : List Frame} {meth : Method} {c : Code} {Q : State → Prop} {b L : Nat} {xs : Nat → Int32} {gs : Nat → Nat} {tp : Nat} {D : va_G} {d0 dc dr ou m0 mx my mr mb : Nat} {cA cQ cL : ClassId} (C : lx_C p l s m c b L xs gs tp D cA cQ cL) {i : Nat} (hi : i + 8 ≤ L) {F : Nat → Option Nat} {H : Heap} {locs : List Loc} {ls : Array Slot} (hl : lv_has ls 8 [(4, .int (nI i)), (3, .ref ou), (2, .ref m0), (1, .ref d0), (0, .ref b)]) (hI : lx_I D d0 dc dr ou m0 mx my mr mb cA cQ cL (fun q => s.heap.size ≤ q) F H) (hS : va_S (fun q => s.heap.size ≤ q) s.heap H locs) (kk : (∀ (F : Nat → Option Nat) (H : Heap) (locs : List Loc) (ls : Array Slot), lv_has ls 8 [(4, .int (nI i)), (3, .ref ou), (2, .ref m0), (1, .ref d0), (0, .ref b)] → lx_I D d0 dc dr ou m0 mx my mr mb cA cQ cL (fun q => s.heap.size ≤ q) F H → va_S (fun q => s.heap.size ≤ q) s.heap H locs → W p l e room_1 s m #[Value.ref b] below meth c H locs (20 + lx_n F + (i + 8)) (9000 + lx_c F + 6 * (i + 8)) Q (F0 m 1269 ls []))) : W p l e room_1 s m #[Value.ref b] below meth c H locs (20 + lx_n F + i) (9000 + lx_c F + 6 * i) Q (F0 m 816 ls []) := by
  obtain ⟨hx, hb, hml, hown, ht, hX, hbl, hZ, hT, hK, hL⟩ := C
  obtain ⟨k, R, h0, ai, ar, af, ap, ah, ac, hk, rg, fi, fr, ff, fp, fh, fn, fo, th, sx, sy, fx, fy, fm, fb, oth, hP, hD, hk5, hF, hok, hhv, hrg, hR, hfm, hB, hO⟩ := hI
  have hbA : ¬ s.heap.size ≤ b := Nat.not_le.mpr hbl
  have hA : ∀ q, s.heap.size ≤ q → s.heap.size ≤ q := fun _ h => h
  have zi : i ≤ 4088 := by omega
  have zn := lx_n_le F
  have zc := lx_c_le F
  have hK0 := tw_kK k hk5
  by_cases b1 : md_bad (xs (i + 1))
  · refine lv_aload_n hx hb dL_law_816 rfl (lv_at hl 3 rfl) ?_
    refine lv_aload_n hx hb dL_law_817 rfl (lv_at hl 4 rfl) ?_
    refine lv_iload hx hb dL_law_818 (lv_at hl 0 rfl) ?_
    refine lv_iconst (v := (nI 1)) hx hb dL_law_820 (by decide) ?_
    refine nv_iadd hx hb dL_law_821 ?_
    refine va_sld hx hb hX hbl hbA hS (nv_in (by omega) (by omega)) dL_law_822 ?_
    rw [nI_clamp (by omega)]
    refine lv_aload_n hx hb dL_law_823 rfl (lv_at hl 1 rfl) ?_
    refine va_calli (vx_runSW (As := [.ref d0, .int (xs (i + 1)), .ref ou]) (rest := []) ⟨hx, hb, hml, hown, ht⟩ (c_L_orderR l gs b1) (vx_cwSW 3 ht (tb_S kl_L_107 kt_L_order kn_L kc_L_order) rfl rfl rfl kd_L_order ⟨Nat.le_of_ble_eq_true rfl, Nat.le_of_ble_eq_true rfl⟩) (nx_preSR _ hZ hS (va_recv (ci := 1) (q0 := 0) hK hP rfl rfl)) rfl rfl hl.1 rfl (lv_room (Nat.le_of_ble_eq_true rfl)) dL_law_824 ⟨by show 20 + lx_n F + i + 1 ≤ 601024; omega, by show 9000 + lx_c F + 6 * i + 6 ≤ 7293033; omega⟩) hS (fun _ _ h => h.elim) (fun _ h => h.elim) (fun r9 u9 t9 H locs ht9 hvm9 hw9 hB9 hz9 hk9 hS => ?_)
    have hP := lx_kp hP hk9
    subst hw9
    have hP : va_P D vwCl ((lw_U d0 dc dr h0 ai ar af ap ah ac ou cA cL k hk rg fi fr ff fp fh fn fo) ++ ((lw_M m0 mx my mr mb cA k th sx sy fx fy fm fb) ++ ((dc, .inl (cQ, 5, .inr (.inr (.inr (.inr F))))) :: oth))) H := hP
    have hD : va_D (fun q => s.heap.size ≤ q) ((lw_U d0 dc dr h0 ai ar af ap ah ac ou cA cL k hk rg fi fr ff fp fh fn fo) ++ ((lw_M m0 mx my mr mb cA k th sx sy fx fy fm fb) ++ ((dc, .inl (cQ, 5, .inr (.inr (.inr (.inr F))))) :: oth))) := hD
    refine lv_istore hx hb dL_law_827 hl (by decide) rfl (fun ls hl => ?_)
    have hl : lv_has ls 8 [(5, .int (nI 1)), (4, .int (nI i)), (3, .ref ou), (2, .ref m0), (1, .ref d0), (0, .ref b)] := hl
    refine lv_aload_n hx hb dL_law_829 rfl (lv_at hl 3 rfl) ?_
    refine lv_aload_n hx hb dL_law_830 rfl (lv_at hl 5 rfl) ?_
    refine lv_iload hx hb dL_law_831 (lv_at hl 1 rfl) ?_
    refine lv_iconst (v := (nI 1)) hx hb dL_law_833 (by decide) ?_
    refine nv_iadd hx hb dL_law_834 ?_
    refine va_sld hx hb hX hbl hbA hS (nv_in (by omega) (by omega)) dL_law_835 ?_
    rw [nI_clamp (by omega)]
    have hP := wp_P (List.perm_append_comm_assoc _ _ _) hP
    have hD := wp_D (List.perm_append_comm_assoc _ _ _) hD
    have hP : va_P D vwCl ((lw_M m0 mx my mr mb cA k th sx sy fx fy fm fb) ++ ((lw_U d0 dc dr h0 ai ar af ap ah ac ou cA cL k hk rg fi fr ff fp fh fn fo) ++ ((dc, .inl (cQ, 5, .inr (.inr (.inr (.inr F))))) :: oth))) H := hP
    have hD : va_D (fun q => s.heap.size ≤ q) ((lw_M m0 mx my mr mb cA k th sx sy fx fy fm fb) ++ ((lw_U d0 dc dr h0 ai ar af ap ah ac ou cA cL k hk rg fi fr ff fp fh fn fo) ++ ((dc, .inl (cQ, 5, .inr (.inr (.inr (.inr F))))) :: oth))) := hD
    have hFc := wp_free hD hS hA
    refine va_calli (va_runV (As := [.int (xs (i + 1))]) (rest := []) ⟨hx, hb, hml, hown, ht⟩ (c_X2_orderR l D hk5 b1 H.size) (cwV 1 ht (tb_V kl_L_109 ki_X2_order ks_X2_order kn_X2 kc_X2_order) rfl rfl rfl ⟨rfl, kd_X2_order⟩ ⟨Nat.le_of_ble_eq_true rfl, Nat.le_of_ble_eq_true rfl⟩) (wd_preV _ (wp_Pl hP) (hK.sub (tys' := [(cA, .int)]) [0] rfl) (wp_Dl hD) (va_recv (ci := 2) (q0 := 0) hK hP rfl rfl)) rfl rfl hl.1 rfl (lv_room (Nat.le_of_ble_eq_true rfl)) dL_law_836 ⟨by show 20 + lx_n F + i + 1 + 0 ≤ 601024; omega, by show 9000 + lx_c F + 6 * i + 6 + 0 ≤ 7293033; omega⟩) hS (fun q _ h => hFc q h) hFc (fun r8 u8 t8 H locs ht8 hvm8 hw8 hB8 hz8 hk8 hS => ?_)
    obtain ⟨hP1, hK1, hD1⟩ := hB8
    rw [ht8] at hP1
    obtain ⟨hP, hD⟩ := wp_join hP hD hk8 hFc hP1 hD1
    have hP : va_P D vwCl ((lw_M m0 mx my mr mb cA k (nI 1) sx sy fx fy fm fb) ++ ((lw_U d0 dc dr h0 ai ar af ap ah ac ou cA cL k hk rg fi fr ff fp fh fn fo) ++ ((dc, .inl (cQ, 5, .inr (.inr (.inr (.inr F))))) :: oth))) H := hP
    have hD : va_D (fun q => s.heap.size ≤ q) ((lw_M m0 mx my mr mb cA k (nI 1) sx sy fx fy fm fb) ++ ((lw_U d0 dc dr h0 ai ar af ap ah ac ou cA cL k hk rg fi fr ff fp fh fn fo) ++ ((dc, .inl (cQ, 5, .inr (.inr (.inr (.inr F))))) :: oth))) := hD
    subst hw8
    refine lv_istore hx hb dL_law_839 hl (by decide) rfl (fun ls hl => ?_)
    have hl : lv_has ls 8 [(6, .int 0), (5, .int (nI 1)), (4, .int (nI i)), (3, .ref ou), (2, .ref m0), (1, .ref d0), (0, .ref b)] := hl
    refine lv_aload_n hx hb dL_law_841 rfl (lv_at hl 4 rfl) ?_
    refine vp_callSi (W.runV (As := []) (rest := []) ⟨hx, hb, hml, hown, ht⟩ (c_X2_thrown l D hk5) (cwV 0 ht (tb_V kl_L_74 ki_X2_thrown ks_X2_thrown kn_X2 kc_X2_thrown) rfl rfl rfl ⟨rfl, kd_X2_thrown⟩ ⟨Nat.le_of_ble_eq_true rfl, Nat.le_of_ble_eq_true rfl⟩) (ro_preV _ ((wp_Pl hP).sub (ws' := [(m0, .inr (2, [.int (nI 1), .int (nI k), .int (nI (tw_P k)), .int (nI (tw_D k)), .int (nI (tw_I k)), .ref mx, .ref my, .ref mr, .ref mb, .int sx, .int sy]))]) [0] rfl) (hK.sub (tys' := []) [] rfl) (va_recv (ci := 2) (q0 := 0) hK hP rfl rfl)) rfl rfl hl.1 rfl (lv_room (Nat.le_of_ble_eq_true rfl)) dL_law_842 ⟨by show 20 + lx_n F + i + 1 + 0 + 0 ≤ 601024; omega, by show 9000 + lx_c F + 6 * i + 6 + 0 + 0 ≤ 7293033; omega⟩) (fun r hr9 => ?_)
    subst hr9
    refine lv_iload hx hb dL_law_845 (lv_at hl 1 rfl) ?_
    refine lv_icmp_eq (tgt := 852) hx hb dL_law_847 (by decide) (fun _ => ?_) (fun c9 => absurd rfl c9)
    refine lv_iload hx hb dL_law_852 (lv_at hl 1 rfl) ?_
    refine lv_if_ne (tgt := 869) hx hb dL_law_854 (by decide) (fun _ => ?_) (fun c9 => absurd c9 (by decide))
    refine lv_goto (tgt := 1269) hx hb dL_law_869 (by decide) ?_
    have hP := wp_P (List.perm_append_comm_assoc _ _ _) hP
    have hD := wp_D (List.perm_append_comm_assoc _ _ _) hD
    have hP : va_P D vwCl ((lw_U d0 dc dr h0 ai ar af ap ah ac ou cA cL k hk rg fi fr ff fp fh fn fo) ++ ((lw_M m0 mx my mr mb cA k (nI 1) sx sy fx fy fm fb) ++ ((dc, .inl (cQ, 5, .inr (.inr (.inr (.inr F))))) :: oth))) H := hP
    have hD : va_D (fun q => s.heap.size ≤ q) ((lw_U d0 dc dr h0 ai ar af ap ah ac ou cA cL k hk rg fi fr ff fp fh fn fo) ++ ((lw_M m0 mx my mr mb cA k (nI 1) sx sy fx fy fm fb) ++ ((dc, .inl (cQ, 5, .inr (.inr (.inr (.inr F))))) :: oth))) := hD
    refine W.widen (k := 20 + lx_n F + (i + 8)) (n := 9000 + lx_c F + 6 * (i + 8)) (by omega) (by omega) ?_
    exact kk F H locs ls (lv_sub hl [2, 3, 4, 5, 6] rfl) (lx_mk hP hD ⟨hk5, hF, hok, hhv, hrg, hR, hfm, hB, hO⟩) hS
  · obtain ⟨j, hj, e1⟩ := md_good b1
    refine lv_aload_n hx hb dL_law_816 rfl (lv_at hl 3 rfl) ?_
    refine lv_aload_n hx hb dL_law_817 rfl (lv_at hl 4 rfl) ?_
    refine lv_iload hx hb dL_law_818 (lv_at hl 0 rfl) ?_
    refine lv_iconst (v := (nI 1)) hx hb dL_law_820 (by decide) ?_
    refine nv_iadd hx hb dL_law_821 ?_
    refine va_sld hx hb hX hbl hbA hS (nv_in (by omega) (by omega)) dL_law_822 ?_
    rw [nI_clamp (by omega)]
    rw [e1]
    refine lv_aload_n hx hb dL_law_823 rfl (lv_at hl 1 rfl) ?_
    have hFc := wp_free hD hS hA
    refine va_calli (vx_runSW (As := [.ref d0, .int (nI j), .ref ou]) (rest := []) ⟨hx, hb, hml, hown, ht⟩ (c_L_order l D hk5 hok hrg hj H.size) (vx_cwSW 3 ht (tb_S kl_L_107 kt_L_order kn_L kc_L_order) rfl rfl rfl kd_L_order ⟨Nat.le_of_ble_eq_true rfl, Nat.le_of_ble_eq_true rfl⟩) (wd_preS _ (wp_Pl hP) (hK.sub (tys' := [(cA, .int), (cL, .long)]) [0, 2] rfl) (wp_Dl hD)) rfl rfl hl.1 rfl (lv_room (Nat.le_of_ble_eq_true rfl)) dL_law_824 ⟨by show 20 + lx_n F + i + 0 ≤ 601024; omega, by show 9000 + lx_c F + 6 * i + 0 ≤ 7293033; omega⟩) hS (fun q _ h => hFc q h) hFc (fun r9 u9 t9 H locs ht9 hvm9 hw9 hB9 hz9 hk9 hS => ?_)
    obtain ⟨hP1, hK1, hD1⟩ := hB9
    rw [ht9] at hP1
    obtain ⟨hP, hD⟩ := wp_join hP hD hk9 hFc hP1 hD1
    obtain ⟨e9, w9⟩ := hw9
    subst e9
    have hP : va_P D vwCl ((lw_U d0 dc dr h0 ai ar af ap ah ac ou cA cL k hk rg fi fr ff fp fh fn u9) ++ ((lw_M m0 mx my mr mb cA k th sx sy fx fy fm fb) ++ ((dc, .inl (cQ, 5, .inr (.inr (.inr (.inr F))))) :: oth))) H := hP
    have hD : va_D (fun q => s.heap.size ≤ q) ((lw_U d0 dc dr h0 ai ar af ap ah ac ou cA cL k hk rg fi fr ff fp fh fn u9) ++ ((lw_M m0 mx my mr mb cA k th sx sy fx fy fm fb) ++ ((dc, .inl (cQ, 5, .inr (.inr (.inr (.inr F))))) :: oth))) := hD
    refine lv_istore hx hb dL_law_827 hl (by decide) rfl (fun ls hl => ?_)
    have hl : lv_has ls 8 [(5, .int (nI 0)), (4, .int (nI i)), (3, .ref ou), (2, .ref m0), (1, .ref d0), (0, .ref b)] := hl
    refine lv_aload_n hx hb dL_law_829 rfl (lv_at hl 3 rfl) ?_
    refine lv_aload_n hx hb dL_law_830 rfl (lv_at hl 5 rfl) ?_
    refine lv_iload hx hb dL_law_831 (lv_at hl 1 rfl) ?_
    refine lv_iconst (v := (nI 1)) hx hb dL_law_833 (by decide) ?_
    refine nv_iadd hx hb dL_law_834 ?_
    refine va_sld hx hb hX hbl hbA hS (nv_in (by omega) (by omega)) dL_law_835 ?_
    rw [nI_clamp (by omega)]
    rw [e1]
    have hP := wp_P (List.perm_append_comm_assoc _ _ _) hP
    have hD := wp_D (List.perm_append_comm_assoc _ _ _) hD
    have hP : va_P D vwCl ((lw_M m0 mx my mr mb cA k th sx sy fx fy fm fb) ++ ((lw_U d0 dc dr h0 ai ar af ap ah ac ou cA cL k hk rg fi fr ff fp fh fn u9) ++ ((dc, .inl (cQ, 5, .inr (.inr (.inr (.inr F))))) :: oth))) H := hP
    have hD : va_D (fun q => s.heap.size ≤ q) ((lw_M m0 mx my mr mb cA k th sx sy fx fy fm fb) ++ ((lw_U d0 dc dr h0 ai ar af ap ah ac ou cA cL k hk rg fi fr ff fp fh fn u9) ++ ((dc, .inl (cQ, 5, .inr (.inr (.inr (.inr F))))) :: oth))) := hD
    have hFc := wp_free hD hS hA
    refine va_calli (va_runV (As := [.int (nI j)]) (rest := []) ⟨hx, hb, hml, hown, ht⟩ (c_X2_order l D hk5 hfm hR hj H.size) (cwV 1 ht (tb_V kl_L_109 ki_X2_order ks_X2_order kn_X2 kc_X2_order) rfl rfl rfl ⟨rfl, kd_X2_order⟩ ⟨Nat.le_of_ble_eq_true rfl, Nat.le_of_ble_eq_true rfl⟩) (wd_preV _ (wp_Pl hP) (hK.sub (tys' := [(cA, .int)]) [0] rfl) (wp_Dl hD) (va_recv (ci := 2) (q0 := 0) hK hP rfl rfl)) rfl rfl hl.1 rfl (lv_room (Nat.le_of_ble_eq_true rfl)) dL_law_836 ⟨by show 20 + lx_n F + i + 0 + 0 ≤ 601024; omega, by show 9000 + lx_c F + 6 * i + 0 + 0 ≤ 7293033; omega⟩) hS (fun q _ h => hFc q h) hFc (fun r8 u8 t8 H locs ht8 hvm8 hw8 hB8 hz8 hk8 hS => ?_)
    obtain ⟨hP1, hK1, hD1⟩ := hB8
    rw [ht8] at hP1
    obtain ⟨hP, hD⟩ := wp_join hP hD hk8 hFc hP1 hD1
    have hP : va_P D vwCl ((lw_M m0 mx my mr mb cA k (nI 0) u8.1 u8.2 fx fy fm fb) ++ ((lw_U d0 dc dr h0 ai ar af ap ah ac ou cA cL k hk rg fi fr ff fp fh fn u9) ++ ((dc, .inl (cQ, 5, .inr (.inr (.inr (.inr F))))) :: oth))) H := hP
    have hD : va_D (fun q => s.heap.size ≤ q) ((lw_M m0 mx my mr mb cA k (nI 0) u8.1 u8.2 fx fy fm fb) ++ ((lw_U d0 dc dr h0 ai ar af ap ah ac ou cA cL k hk rg fi fr ff fp fh fn u9) ++ ((dc, .inl (cQ, 5, .inr (.inr (.inr (.inr F))))) :: oth))) := hD
    subst hw8
    refine lv_istore hx hb dL_law_839 hl (by decide) rfl (fun ls hl => ?_)
    have hl : lv_has ls 8 [(6, .int (nI (tw_od (tw_P k) (tw_D k) (tw_N k) (R j)))), (5, .int (nI 0)), (4, .int (nI i)), (3, .ref ou), (2, .ref m0), (1, .ref d0), (0, .ref b)] := hl
    refine lv_aload_n hx hb dL_law_841 rfl (lv_at hl 4 rfl) ?_
    refine vp_callSi (W.runV (As := []) (rest := []) ⟨hx, hb, hml, hown, ht⟩ (c_X2_thrown l D hk5) (cwV 0 ht (tb_V kl_L_74 ki_X2_thrown ks_X2_thrown kn_X2 kc_X2_thrown) rfl rfl rfl ⟨rfl, kd_X2_thrown⟩ ⟨Nat.le_of_ble_eq_true rfl, Nat.le_of_ble_eq_true rfl⟩) (ro_preV _ ((wp_Pl hP).sub (ws' := [(m0, .inr (2, [.int (nI 0), .int (nI k), .int (nI (tw_P k)), .int (nI (tw_D k)), .int (nI (tw_I k)), .ref mx, .ref my, .ref mr, .ref mb, .int u8.1, .int u8.2]))]) [0] rfl) (hK.sub (tys' := []) [] rfl) (va_recv (ci := 2) (q0 := 0) hK hP rfl rfl)) rfl rfl hl.1 rfl (lv_room (Nat.le_of_ble_eq_true rfl)) dL_law_842 ⟨by show 20 + lx_n F + i + 0 + 0 + 0 ≤ 601024; omega, by show 9000 + lx_c F + 6 * i + 0 + 0 + 0 ≤ 7293033; omega⟩) (fun r hr9 => ?_)
    subst hr9
    refine lv_iload hx hb dL_law_845 (lv_at hl 1 rfl) ?_
    refine lv_icmp_eq (tgt := 852) hx hb dL_law_847 (by decide) (fun _ => ?_) (fun c9 => absurd rfl c9)
    refine lv_iload hx hb dL_law_852 (lv_at hl 1 rfl) ?_
    refine lv_if_ne (tgt := 869) hx hb dL_law_854 (by decide) (fun c9 => absurd rfl c9) (fun _ => ?_)
    refine lv_aload_n hx hb dL_law_857 rfl (lv_at hl 3 rfl) ?_
    refine lv_iconst (v := (nI 0)) hx hb dL_law_858 (by decide) ?_
    have hP := wp_P (List.perm_append_comm_assoc _ _ _) hP
    have hD := wp_D (List.perm_append_comm_assoc _ _ _) hD
    have hP : va_P D vwCl ((lw_U d0 dc dr h0 ai ar af ap ah ac ou cA cL k hk rg fi fr ff fp fh fn u9) ++ ((lw_M m0 mx my mr mb cA k (nI 0) u8.1 u8.2 fx fy fm fb) ++ ((dc, .inl (cQ, 5, .inr (.inr (.inr (.inr F))))) :: oth))) H := hP
    have hD : va_D (fun q => s.heap.size ≤ q) ((lw_U d0 dc dr h0 ai ar af ap ah ac ou cA cL k hk rg fi fr ff fp fh fn u9) ++ ((lw_M m0 mx my mr mb cA k (nI 0) u8.1 u8.2 fx fy fm fb) ++ ((dc, .inl (cQ, 5, .inr (.inr (.inr (.inr F))))) :: oth))) := hD
    refine va_lald hx hb hK hP 9 2 rfl rfl (nv_in (a := 0) (n := 1) (by decide) (by decide)) dL_law_859 ?_
    rw [nI_clamp (n := 0) (by decide), w9]
    refine lv_iload hx hb dL_law_860 (lv_at hl 0 rfl) ?_
    refine lv_i2l (v := (nI (tw_od (tw_P k) (tw_D k) (tw_N k) (R j))).toInt64) hx hb dL_law_862 rfl ?_
    refine lx_lcmp hx hb dL_law_863 ?_
    refine lv_if_eq (tgt := 869) hx hb dL_law_864 (by decide) (fun _ => ?_) (fun c9 => absurd rfl c9)
    refine lv_goto (tgt := 1269) hx hb dL_law_869 (by decide) ?_
    refine W.widen (k := 20 + lx_n F + (i + 8)) (n := 9000 + lx_c F + 6 * (i + 8)) (by omega) (by omega) ?_
    exact kk F H locs ls (lv_sub hl [2, 3, 4, 5, 6] rfl) (lx_mk hP hD ⟨hk5, hF, hok, hhv, hrg, hR, hfm, hB, hO⟩) hS
set_option maxHeartbeats 8000000 in
set_option maxRecDepth 100000 in
theorem lc_5 {p : Program} {l : Launch} {e : Env} {s : State} {m : MethodId} {below : List Frame} {meth : Method} {c : Code} {Q : State → Prop} {b L : Nat} {xs : Nat → Int32} {gs : Nat → Nat} {tp : Nat} {D : va_G} {d0 dc dr ou m0 mx my mr mb : Nat} {cA cQ cL : ClassId} (C : lx_C p l s m c b L xs gs tp D cA cQ cL) {i : Nat} (hi : i + 8 ≤ L) {F : Nat → Option Nat} {H : Heap} {locs : List Loc} {ls : Array Slot} (hl : lv_has ls 8 [(4, .int (nI i)), (3, .ref ou), (2, .ref m0), (1, .ref d0), (0, .ref b)]) (hI : lx_I D d0 dc dr ou m0 mx my mr mb cA cQ cL (fun q => s.heap.size ≤ q) F H) (hS : va_S (fun q => s.heap.size ≤ q) s.heap H locs) (kk : (∀ (F : Nat → Option Nat) (H : Heap) (locs : List Loc) (ls : Array Slot), lv_has ls 8 [(4, .int (nI i)), (3, .ref ou), (2, .ref m0), (1, .ref d0), (0, .ref b)] → lx_I D d0 dc dr ou m0 mx my mr mb cA cQ cL (fun q => s.heap.size ≤ q) F H → va_S (fun q => s.heap.size ≤ q) s.heap H locs → W p l e room_1 s m #[Value.ref b] below meth c H locs (20 + lx_n F + (i + 8)) (9000 + lx_c F + 6 * (i + 8)) Q (F0 m 1269 ls []))) : W p l e room_1 s m #[Value.ref b] below meth c H locs (20 + lx_n F + i) (9000 + lx_c F + 6 * i) Q (F0 m 424 ls []) := by
  obtain ⟨hx, hb, hml, hown, ht, hX, hbl, hZ, hT, hK, hL⟩ := C
  obtain ⟨k, R, h0, ai, ar, af, ap, ah, ac, hk, rg, fi, fr, ff, fp, fh, fn, fo, th, sx, sy, fx, fy, fm, fb, oth, hP, hD, hk5, hF, hok, hhv, hrg, hR, hfm, hB, hO⟩ := hI
  have hbA : ¬ s.heap.size ≤ b := Nat.not_le.mpr hbl
  have hA : ∀ q, s.heap.size ≤ q → s.heap.size ≤ q := fun _ h => h
  have zi : i ≤ 4088 := by omega
  have zn := lx_n_le F
  have zc := lx_c_le F
  have hK0 := tw_kK k hk5
  obtain ⟨bb, hb1, hbe, hbn⟩ := lx_b (xs (i + 4))
  by_cases b1 : md_bad (xs (i + 1)) ∨ md_bad (xs (i + 2)) ∨ md_bad (xs (i + 3))
  · refine lv_aload_n hx hb dL_law_424 rfl (lv_at hl 3 rfl) ?_
    refine lv_aload_n hx hb dL_law_425 rfl (lv_at hl 4 rfl) ?_
    refine lv_iload hx hb dL_law_426 (lv_at hl 0 rfl) ?_
    refine lv_iconst (v := (nI 1)) hx hb dL_law_428 (by decide) ?_
    refine nv_iadd hx hb dL_law_429 ?_
    refine va_sld hx hb hX hbl hbA hS (nv_in (by omega) (by omega)) dL_law_430 ?_
    rw [nI_clamp (by omega)]
    refine lv_aload_n hx hb dL_law_431 rfl (lv_at hl 4 rfl) ?_
    refine lv_iload hx hb dL_law_432 (lv_at hl 0 rfl) ?_
    refine lv_iconst (v := (nI 2)) hx hb dL_law_434 (by decide) ?_
    refine nv_iadd hx hb dL_law_435 ?_
    refine va_sld hx hb hX hbl hbA hS (nv_in (by omega) (by omega)) dL_law_436 ?_
    rw [nI_clamp (by omega)]
    refine lv_aload_n hx hb dL_law_437 rfl (lv_at hl 4 rfl) ?_
    refine lv_iload hx hb dL_law_438 (lv_at hl 0 rfl) ?_
    refine lv_iconst (v := (nI 3)) hx hb dL_law_440 (by decide) ?_
    refine nv_iadd hx hb dL_law_441 ?_
    refine va_sld hx hb hX hbl hbA hS (nv_in (by omega) (by omega)) dL_law_442 ?_
    rw [nI_clamp (by omega)]
    refine lv_aload_n hx hb dL_law_443 rfl (lv_at hl 4 rfl) ?_
    refine lv_iload hx hb dL_law_444 (lv_at hl 0 rfl) ?_
    refine lv_iconst (v := (nI 4)) hx hb dL_law_446 (by decide) ?_
    refine nv_iadd hx hb dL_law_447 ?_
    refine va_sld hx hb hX hbl hbA hS (nv_in (by omega) (by omega)) dL_law_448 ?_
    rw [nI_clamp (by omega)]
    -- a boolean
    refine lx_bool hx hb hbe hbn dL_law_449 dL_law_452 dL_law_453 dL_law_456 (by decide) (by decide) ?_
    refine lv_aload_n hx hb dL_law_457 rfl (lv_at hl 1 rfl) ?_
    refine va_calli (vx_runSW (As := [.ref d0, .int (xs (i + 1)), .int (xs (i + 2)), .int (xs (i + 3)), .int (nI bb), .ref ou]) (rest := []) ⟨hx, hb, hml, hown, ht⟩ (c_L_joinR l gs b1) (vx_cwSW 6 ht (tb_S kl_L_93 kt_L_join kn_L kc_L_join) rfl rfl rfl kd_L_join ⟨Nat.le_of_ble_eq_true rfl, Nat.le_of_ble_eq_true rfl⟩) (nx_preSR _ hZ hS (va_recv (ci := 1) (q0 := 0) hK hP rfl rfl)) rfl rfl hl.1 rfl (lv_room (Nat.le_of_ble_eq_true rfl)) dL_law_458 ⟨by show 20 + lx_n F + i + 1 ≤ 601024; omega, by show 9000 + lx_c F + 6 * i + 6 ≤ 7293033; omega⟩) hS (fun _ _ h => h.elim) (fun _ h => h.elim) (fun r9 u9 t9 H locs ht9 hvm9 hw9 hB9 hz9 hk9 hS => ?_)
    have hP := lx_kp hP hk9
    subst hw9
    have hP : va_P D vwCl ((lw_U d0 dc dr h0 ai ar af ap ah ac ou cA cL k hk rg fi fr ff fp fh fn fo) ++ ((lw_M m0 mx my mr mb cA k th sx sy fx fy fm fb) ++ ((dc, .inl (cQ, 5, .inr (.inr (.inr (.inr F))))) :: oth))) H := hP
    have hD : va_D (fun q => s.heap.size ≤ q) ((lw_U d0 dc dr h0 ai ar af ap ah ac ou cA cL k hk rg fi fr ff fp fh fn fo) ++ ((lw_M m0 mx my mr mb cA k th sx sy fx fy fm fb) ++ ((dc, .inl (cQ, 5, .inr (.inr (.inr (.inr F))))) :: oth))) := hD
    refine lv_istore hx hb dL_law_461 hl (by decide) rfl (fun ls hl => ?_)
    have hl : lv_has ls 8 [(5, .int (nI 1)), (4, .int (nI i)), (3, .ref ou), (2, .ref m0), (1, .ref d0), (0, .ref b)] := hl
    refine lv_aload_n hx hb dL_law_463 rfl (lv_at hl 3 rfl) ?_
    refine lv_aload_n hx hb dL_law_464 rfl (lv_at hl 5 rfl) ?_
    refine lv_iload hx hb dL_law_465 (lv_at hl 1 rfl) ?_
    refine lv_iconst (v := (nI 1)) hx hb dL_law_467 (by decide) ?_
    refine nv_iadd hx hb dL_law_468 ?_
    refine va_sld hx hb hX hbl hbA hS (nv_in (by omega) (by omega)) dL_law_469 ?_
    rw [nI_clamp (by omega)]
    refine lv_aload_n hx hb dL_law_470 rfl (lv_at hl 5 rfl) ?_
    refine lv_iload hx hb dL_law_471 (lv_at hl 1 rfl) ?_
    refine lv_iconst (v := (nI 2)) hx hb dL_law_473 (by decide) ?_
    refine nv_iadd hx hb dL_law_474 ?_
    refine va_sld hx hb hX hbl hbA hS (nv_in (by omega) (by omega)) dL_law_475 ?_
    rw [nI_clamp (by omega)]
    refine lv_aload_n hx hb dL_law_476 rfl (lv_at hl 5 rfl) ?_
    refine lv_iload hx hb dL_law_477 (lv_at hl 1 rfl) ?_
    refine lv_iconst (v := (nI 3)) hx hb dL_law_479 (by decide) ?_
    refine nv_iadd hx hb dL_law_480 ?_
    refine va_sld hx hb hX hbl hbA hS (nv_in (by omega) (by omega)) dL_law_481 ?_
    rw [nI_clamp (by omega)]
    refine lv_aload_n hx hb dL_law_482 rfl (lv_at hl 5 rfl) ?_
    refine lv_iload hx hb dL_law_483 (lv_at hl 1 rfl) ?_
    refine lv_iconst (v := (nI 4)) hx hb dL_law_485 (by decide) ?_
    refine nv_iadd hx hb dL_law_486 ?_
    refine va_sld hx hb hX hbl hbA hS (nv_in (by omega) (by omega)) dL_law_487 ?_
    rw [nI_clamp (by omega)]
    -- a boolean
    refine lx_bool hx hb hbe hbn dL_law_488 dL_law_491 dL_law_492 dL_law_495 (by decide) (by decide) ?_
    have hP := wp_P (List.perm_append_comm_assoc _ _ _) hP
    have hD := wp_D (List.perm_append_comm_assoc _ _ _) hD
    have hP : va_P D vwCl ((lw_M m0 mx my mr mb cA k th sx sy fx fy fm fb) ++ ((lw_U d0 dc dr h0 ai ar af ap ah ac ou cA cL k hk rg fi fr ff fp fh fn fo) ++ ((dc, .inl (cQ, 5, .inr (.inr (.inr (.inr F))))) :: oth))) H := hP
    have hD : va_D (fun q => s.heap.size ≤ q) ((lw_M m0 mx my mr mb cA k th sx sy fx fy fm fb) ++ ((lw_U d0 dc dr h0 ai ar af ap ah ac ou cA cL k hk rg fi fr ff fp fh fn fo) ++ ((dc, .inl (cQ, 5, .inr (.inr (.inr (.inr F))))) :: oth))) := hD
    have hFc := wp_free hD hS hA
    refine va_calli (va_runV (As := [.int (xs (i + 1)), .int (xs (i + 2)), .int (xs (i + 3)), .int (nI bb)]) (rest := []) ⟨hx, hb, hml, hown, ht⟩ (c_X2_joinR l D hk5 b1 H.size) (cwV 4 ht (tb_V kl_L_96 ki_X2_join ks_X2_join kn_X2 kc_X2_join) rfl rfl rfl ⟨rfl, kd_X2_join⟩ ⟨Nat.le_of_ble_eq_true rfl, Nat.le_of_ble_eq_true rfl⟩) (wd_preV _ (wp_Pl hP) (hK.sub (tys' := [(cA, .int)]) [0] rfl) (wp_Dl hD) (va_recv (ci := 2) (q0 := 0) hK hP rfl rfl)) rfl rfl hl.1 rfl (lv_room (Nat.le_of_ble_eq_true rfl)) dL_law_496 ⟨by show 20 + lx_n F + i + 1 + 0 ≤ 601024; omega, by show 9000 + lx_c F + 6 * i + 6 + 0 ≤ 7293033; omega⟩) hS (fun q _ h => hFc q h) hFc (fun r8 u8 t8 H locs ht8 hvm8 hw8 hB8 hz8 hk8 hS => ?_)
    obtain ⟨hP1, hK1, hD1⟩ := hB8
    rw [ht8] at hP1
    obtain ⟨hP, hD⟩ := wp_join hP hD hk8 hFc hP1 hD1
    have hP : va_P D vwCl ((lw_M m0 mx my mr mb cA k (nI 1) sx sy fx fy fm fb) ++ ((lw_U d0 dc dr h0 ai ar af ap ah ac ou cA cL k hk rg fi fr ff fp fh fn fo) ++ ((dc, .inl (cQ, 5, .inr (.inr (.inr (.inr F))))) :: oth))) H := hP
    have hD : va_D (fun q => s.heap.size ≤ q) ((lw_M m0 mx my mr mb cA k (nI 1) sx sy fx fy fm fb) ++ ((lw_U d0 dc dr h0 ai ar af ap ah ac ou cA cL k hk rg fi fr ff fp fh fn fo) ++ ((dc, .inl (cQ, 5, .inr (.inr (.inr (.inr F))))) :: oth))) := hD
    subst hw8
    refine lv_istore hx hb dL_law_499 hl (by decide) rfl (fun ls hl => ?_)
    have hl : lv_has ls 8 [(6, .int 0), (5, .int (nI 1)), (4, .int (nI i)), (3, .ref ou), (2, .ref m0), (1, .ref d0), (0, .ref b)] := hl
    refine lv_aload_n hx hb dL_law_501 rfl (lv_at hl 4 rfl) ?_
    refine vp_callSi (W.runV (As := []) (rest := []) ⟨hx, hb, hml, hown, ht⟩ (c_X2_thrown l D hk5) (cwV 0 ht (tb_V kl_L_74 ki_X2_thrown ks_X2_thrown kn_X2 kc_X2_thrown) rfl rfl rfl ⟨rfl, kd_X2_thrown⟩ ⟨Nat.le_of_ble_eq_true rfl, Nat.le_of_ble_eq_true rfl⟩) (ro_preV _ ((wp_Pl hP).sub (ws' := [(m0, .inr (2, [.int (nI 1), .int (nI k), .int (nI (tw_P k)), .int (nI (tw_D k)), .int (nI (tw_I k)), .ref mx, .ref my, .ref mr, .ref mb, .int sx, .int sy]))]) [0] rfl) (hK.sub (tys' := []) [] rfl) (va_recv (ci := 2) (q0 := 0) hK hP rfl rfl)) rfl rfl hl.1 rfl (lv_room (Nat.le_of_ble_eq_true rfl)) dL_law_502 ⟨by show 20 + lx_n F + i + 1 + 0 + 0 ≤ 601024; omega, by show 9000 + lx_c F + 6 * i + 6 + 0 + 0 ≤ 7293033; omega⟩) (fun r hr9 => ?_)
    subst hr9
    refine lv_iload hx hb dL_law_505 (lv_at hl 1 rfl) ?_
    refine lv_icmp_eq (tgt := 512) hx hb dL_law_507 (by decide) (fun _ => ?_) (fun c9 => absurd rfl c9)
    refine lv_iload hx hb dL_law_512 (lv_at hl 1 rfl) ?_
    refine lv_if_ne (tgt := 529) hx hb dL_law_514 (by decide) (fun _ => ?_) (fun c9 => absurd c9 (by decide))
    refine lv_goto (tgt := 1269) hx hb dL_law_529 (by decide) ?_
    have hP := wp_P (List.perm_append_comm_assoc _ _ _) hP
    have hD := wp_D (List.perm_append_comm_assoc _ _ _) hD
    have hP : va_P D vwCl ((lw_U d0 dc dr h0 ai ar af ap ah ac ou cA cL k hk rg fi fr ff fp fh fn fo) ++ ((lw_M m0 mx my mr mb cA k (nI 1) sx sy fx fy fm fb) ++ ((dc, .inl (cQ, 5, .inr (.inr (.inr (.inr F))))) :: oth))) H := hP
    have hD : va_D (fun q => s.heap.size ≤ q) ((lw_U d0 dc dr h0 ai ar af ap ah ac ou cA cL k hk rg fi fr ff fp fh fn fo) ++ ((lw_M m0 mx my mr mb cA k (nI 1) sx sy fx fy fm fb) ++ ((dc, .inl (cQ, 5, .inr (.inr (.inr (.inr F))))) :: oth))) := hD
    refine W.widen (k := 20 + lx_n F + (i + 8)) (n := 9000 + lx_c F + 6 * (i + 8)) (by omega) (by omega) ?_
    exact kk F H locs ls (lv_sub hl [2, 3, 4, 5, 6] rfl) (lx_mk hP hD ⟨hk5, hF, hok, hhv, hrg, hR, hfm, hB, hO⟩) hS
  · obtain ⟨j, hj, e1⟩ := md_good (fun q => b1 (Or.inl q))
    obtain ⟨j2, hj2, e2⟩ := md_good (fun q => b1 (Or.inr (Or.inl q)))
    obtain ⟨j3, hj3, e3⟩ := md_good (fun q => b1 (Or.inr (Or.inr q)))
    have hon : tw_on (tw_P k) (tw_D k) (tw_add (tw_P k) (tw_D k) (R j2) (if bb = 0 then R j3 else tw_ng (tw_P k) (R j3))) := tw_clo hK0 (hrg j2 hj2).1 (by split; exact (hrg j3 hj3).1; exact (tw_neg hK0 (hrg j3 hj3).1).1)
    refine lv_aload_n hx hb dL_law_424 rfl (lv_at hl 3 rfl) ?_
    refine lv_aload_n hx hb dL_law_425 rfl (lv_at hl 4 rfl) ?_
    refine lv_iload hx hb dL_law_426 (lv_at hl 0 rfl) ?_
    refine lv_iconst (v := (nI 1)) hx hb dL_law_428 (by decide) ?_
    refine nv_iadd hx hb dL_law_429 ?_
    refine va_sld hx hb hX hbl hbA hS (nv_in (by omega) (by omega)) dL_law_430 ?_
    rw [nI_clamp (by omega)]
    rw [e1]
    refine lv_aload_n hx hb dL_law_431 rfl (lv_at hl 4 rfl) ?_
    refine lv_iload hx hb dL_law_432 (lv_at hl 0 rfl) ?_
    refine lv_iconst (v := (nI 2)) hx hb dL_law_434 (by decide) ?_
    refine nv_iadd hx hb dL_law_435 ?_
    refine va_sld hx hb hX hbl hbA hS (nv_in (by omega) (by omega)) dL_law_436 ?_
    rw [nI_clamp (by omega)]
    rw [e2]
    refine lv_aload_n hx hb dL_law_437 rfl (lv_at hl 4 rfl) ?_
    refine lv_iload hx hb dL_law_438 (lv_at hl 0 rfl) ?_
    refine lv_iconst (v := (nI 3)) hx hb dL_law_440 (by decide) ?_
    refine nv_iadd hx hb dL_law_441 ?_
    refine va_sld hx hb hX hbl hbA hS (nv_in (by omega) (by omega)) dL_law_442 ?_
    rw [nI_clamp (by omega)]
    rw [e3]
    refine lv_aload_n hx hb dL_law_443 rfl (lv_at hl 4 rfl) ?_
    refine lv_iload hx hb dL_law_444 (lv_at hl 0 rfl) ?_
    refine lv_iconst (v := (nI 4)) hx hb dL_law_446 (by decide) ?_
    refine nv_iadd hx hb dL_law_447 ?_
    refine va_sld hx hb hX hbl hbA hS (nv_in (by omega) (by omega)) dL_law_448 ?_
    rw [nI_clamp (by omega)]
    -- a boolean
    refine lx_bool hx hb hbe hbn dL_law_449 dL_law_452 dL_law_453 dL_law_456 (by decide) (by decide) ?_
    refine lv_aload_n hx hb dL_law_457 rfl (lv_at hl 1 rfl) ?_
    have hFc := wp_free hD hS hA
    refine va_calli (vx_runSW (As := [.ref d0, .int (nI j), .int (nI j2), .int (nI j3), .int (nI bb), .ref ou]) (rest := []) ⟨hx, hb, hml, hown, ht⟩ (c_L_join l D hk5 hok hrg hj hj2 hj3 hb1 H.size) (vx_cwSW 6 ht (tb_S kl_L_93 kt_L_join kn_L kc_L_join) rfl rfl rfl kd_L_join ⟨Nat.le_of_ble_eq_true rfl, Nat.le_of_ble_eq_true rfl⟩) (wd_preS _ (wp_Pl hP) (hK.sub (tys' := [(cA, .int), (cL, .long)]) [0, 2] rfl) (wp_Dl hD)) rfl rfl hl.1 rfl (lv_room (Nat.le_of_ble_eq_true rfl)) dL_law_458 ⟨by show 20 + lx_n F + i + 0 ≤ 601024; omega, by show 9000 + lx_c F + 6 * i + 0 ≤ 7293033; omega⟩) hS (fun q _ h => hFc q h) hFc (fun r9 u9 t9 H locs ht9 hvm9 hw9 hB9 hz9 hk9 hS => ?_)
    obtain ⟨hP1, hK1, hD1⟩ := hB9
    rw [ht9] at hP1
    obtain ⟨hP, hD⟩ := wp_join hP hD hk9 hFc hP1 hD1
    obtain ⟨e9, q9, w9⟩ := hw9
    subst e9
    rw [q9] at hP hD
    have hP : va_P D vwCl ((lw_U d0 dc dr h0 ai ar af ap ah ac ou cA cL k hk (upd rg j (nI (tw_en (tw_add (tw_P k) (tw_D k) (R j2) (if bb = 0 then R j3 else tw_ng (tw_P k) (R j3)))))) fi fr ff fp fh fn u9.2) ++ ((lw_M m0 mx my mr mb cA k th sx sy fx fy fm fb) ++ ((dc, .inl (cQ, 5, .inr (.inr (.inr (.inr F))))) :: oth))) H := hP
    have hD : va_D (fun q => s.heap.size ≤ q) ((lw_U d0 dc dr h0 ai ar af ap ah ac ou cA cL k hk (upd rg j (nI (tw_en (tw_add (tw_P k) (tw_D k) (R j2) (if bb = 0 then R j3 else tw_ng (tw_P k) (R j3)))))) fi fr ff fp fh fn u9.2) ++ ((lw_M m0 mx my mr mb cA k th sx sy fx fy fm fb) ++ ((dc, .inl (cQ, 5, .inr (.inr (.inr (.inr F))))) :: oth))) := hD
    refine lv_istore hx hb dL_law_461 hl (by decide) rfl (fun ls hl => ?_)
    have hl : lv_has ls 8 [(5, .int (nI 0)), (4, .int (nI i)), (3, .ref ou), (2, .ref m0), (1, .ref d0), (0, .ref b)] := hl
    refine lv_aload_n hx hb dL_law_463 rfl (lv_at hl 3 rfl) ?_
    refine lv_aload_n hx hb dL_law_464 rfl (lv_at hl 5 rfl) ?_
    refine lv_iload hx hb dL_law_465 (lv_at hl 1 rfl) ?_
    refine lv_iconst (v := (nI 1)) hx hb dL_law_467 (by decide) ?_
    refine nv_iadd hx hb dL_law_468 ?_
    refine va_sld hx hb hX hbl hbA hS (nv_in (by omega) (by omega)) dL_law_469 ?_
    rw [nI_clamp (by omega)]
    rw [e1]
    refine lv_aload_n hx hb dL_law_470 rfl (lv_at hl 5 rfl) ?_
    refine lv_iload hx hb dL_law_471 (lv_at hl 1 rfl) ?_
    refine lv_iconst (v := (nI 2)) hx hb dL_law_473 (by decide) ?_
    refine nv_iadd hx hb dL_law_474 ?_
    refine va_sld hx hb hX hbl hbA hS (nv_in (by omega) (by omega)) dL_law_475 ?_
    rw [nI_clamp (by omega)]
    rw [e2]
    refine lv_aload_n hx hb dL_law_476 rfl (lv_at hl 5 rfl) ?_
    refine lv_iload hx hb dL_law_477 (lv_at hl 1 rfl) ?_
    refine lv_iconst (v := (nI 3)) hx hb dL_law_479 (by decide) ?_
    refine nv_iadd hx hb dL_law_480 ?_
    refine va_sld hx hb hX hbl hbA hS (nv_in (by omega) (by omega)) dL_law_481 ?_
    rw [nI_clamp (by omega)]
    rw [e3]
    refine lv_aload_n hx hb dL_law_482 rfl (lv_at hl 5 rfl) ?_
    refine lv_iload hx hb dL_law_483 (lv_at hl 1 rfl) ?_
    refine lv_iconst (v := (nI 4)) hx hb dL_law_485 (by decide) ?_
    refine nv_iadd hx hb dL_law_486 ?_
    refine va_sld hx hb hX hbl hbA hS (nv_in (by omega) (by omega)) dL_law_487 ?_
    rw [nI_clamp (by omega)]
    -- a boolean
    refine lx_bool hx hb hbe hbn dL_law_488 dL_law_491 dL_law_492 dL_law_495 (by decide) (by decide) ?_
    have hP := wp_P (List.perm_append_comm_assoc _ _ _) hP
    have hD := wp_D (List.perm_append_comm_assoc _ _ _) hD
    have hP : va_P D vwCl ((lw_M m0 mx my mr mb cA k th sx sy fx fy fm fb) ++ ((lw_U d0 dc dr h0 ai ar af ap ah ac ou cA cL k hk (upd rg j (nI (tw_en (tw_add (tw_P k) (tw_D k) (R j2) (if bb = 0 then R j3 else tw_ng (tw_P k) (R j3)))))) fi fr ff fp fh fn u9.2) ++ ((dc, .inl (cQ, 5, .inr (.inr (.inr (.inr F))))) :: oth))) H := hP
    have hD : va_D (fun q => s.heap.size ≤ q) ((lw_M m0 mx my mr mb cA k th sx sy fx fy fm fb) ++ ((lw_U d0 dc dr h0 ai ar af ap ah ac ou cA cL k hk (upd rg j (nI (tw_en (tw_add (tw_P k) (tw_D k) (R j2) (if bb = 0 then R j3 else tw_ng (tw_P k) (R j3)))))) fi fr ff fp fh fn u9.2) ++ ((dc, .inl (cQ, 5, .inr (.inr (.inr (.inr F))))) :: oth))) := hD
    have hFc := wp_free hD hS hA
    refine va_calli (va_runV (As := [.int (nI j), .int (nI j2), .int (nI j3), .int (nI bb)]) (rest := []) ⟨hx, hb, hml, hown, ht⟩ (c_X2_join l D hk5 hfm hR hj hj2 hj3 hb1 H.size) (cwV 4 ht (tb_V kl_L_96 ki_X2_join ks_X2_join kn_X2 kc_X2_join) rfl rfl rfl ⟨rfl, kd_X2_join⟩ ⟨Nat.le_of_ble_eq_true rfl, Nat.le_of_ble_eq_true rfl⟩) (wd_preV _ (wp_Pl hP) (hK.sub (tys' := [(cA, .int)]) [0] rfl) (wp_Dl hD) (va_recv (ci := 2) (q0 := 0) hK hP rfl rfl)) rfl rfl hl.1 rfl (lv_room (Nat.le_of_ble_eq_true rfl)) dL_law_496 ⟨by show 20 + lx_n F + i + 0 + 0 ≤ 601024; omega, by show 9000 + lx_c F + 6 * i + 0 + 0 ≤ 7293033; omega⟩) hS (fun q _ h => hFc q h) hFc (fun r8 u8 t8 H locs ht8 hvm8 hw8 hB8 hz8 hk8 hS => ?_)
    obtain ⟨hP1, hK1, hD1⟩ := hB8
    rw [ht8] at hP1
    obtain ⟨hP, hD⟩ := wp_join hP hD hk8 hFc hP1 hD1
    have hP : va_P D vwCl ((lw_M m0 mx my mr mb cA k (nI 0) (nI (tw_add (tw_P k) (tw_D k) (R j2) (if bb = 0 then R j3 else tw_ng (tw_P k) (R j3))).1) (nI (tw_add (tw_P k) (tw_D k) (R j2) (if bb = 0 then R j3 else tw_ng (tw_P k) (R j3))).2) (upd fx j (nI (tw_add (tw_P k) (tw_D k) (R j2) (if bb = 0 then R j3 else tw_ng (tw_P k) (R j3))).1)) (upd fy j (nI (tw_add (tw_P k) (tw_D k) (R j2) (if bb = 0 then R j3 else tw_ng (tw_P k) (R j3))).2)) fm fb) ++ ((lw_U d0 dc dr h0 ai ar af ap ah ac ou cA cL k hk (upd rg j (nI (tw_en (tw_add (tw_P k) (tw_D k) (R j2) (if bb = 0 then R j3 else tw_ng (tw_P k) (R j3)))))) fi fr ff fp fh fn u9.2) ++ ((dc, .inl (cQ, 5, .inr (.inr (.inr (.inr F))))) :: oth))) H := hP
    have hD : va_D (fun q => s.heap.size ≤ q) ((lw_M m0 mx my mr mb cA k (nI 0) (nI (tw_add (tw_P k) (tw_D k) (R j2) (if bb = 0 then R j3 else tw_ng (tw_P k) (R j3))).1) (nI (tw_add (tw_P k) (tw_D k) (R j2) (if bb = 0 then R j3 else tw_ng (tw_P k) (R j3))).2) (upd fx j (nI (tw_add (tw_P k) (tw_D k) (R j2) (if bb = 0 then R j3 else tw_ng (tw_P k) (R j3))).1)) (upd fy j (nI (tw_add (tw_P k) (tw_D k) (R j2) (if bb = 0 then R j3 else tw_ng (tw_P k) (R j3))).2)) fm fb) ++ ((lw_U d0 dc dr h0 ai ar af ap ah ac ou cA cL k hk (upd rg j (nI (tw_en (tw_add (tw_P k) (tw_D k) (R j2) (if bb = 0 then R j3 else tw_ng (tw_P k) (R j3)))))) fi fr ff fp fh fn u9.2) ++ ((dc, .inl (cQ, 5, .inr (.inr (.inr (.inr F))))) :: oth))) := hD
    subst hw8
    refine lv_istore hx hb dL_law_499 hl (by decide) rfl (fun ls hl => ?_)
    have hl : lv_has ls 8 [(6, .int (nI (tw_pk (tw_add (tw_P k) (tw_D k) (R j2) (if bb = 0 then R j3 else tw_ng (tw_P k) (R j3)))))), (5, .int (nI 0)), (4, .int (nI i)), (3, .ref ou), (2, .ref m0), (1, .ref d0), (0, .ref b)] := hl
    refine lv_aload_n hx hb dL_law_501 rfl (lv_at hl 4 rfl) ?_
    refine vp_callSi (W.runV (As := []) (rest := []) ⟨hx, hb, hml, hown, ht⟩ (c_X2_thrown l D hk5) (cwV 0 ht (tb_V kl_L_74 ki_X2_thrown ks_X2_thrown kn_X2 kc_X2_thrown) rfl rfl rfl ⟨rfl, kd_X2_thrown⟩ ⟨Nat.le_of_ble_eq_true rfl, Nat.le_of_ble_eq_true rfl⟩) (ro_preV _ ((wp_Pl hP).sub (ws' := [(m0, .inr (2, [.int (nI 0), .int (nI k), .int (nI (tw_P k)), .int (nI (tw_D k)), .int (nI (tw_I k)), .ref mx, .ref my, .ref mr, .ref mb, .int (nI (tw_add (tw_P k) (tw_D k) (R j2) (if bb = 0 then R j3 else tw_ng (tw_P k) (R j3))).1), .int (nI (tw_add (tw_P k) (tw_D k) (R j2) (if bb = 0 then R j3 else tw_ng (tw_P k) (R j3))).2)]))]) [0] rfl) (hK.sub (tys' := []) [] rfl) (va_recv (ci := 2) (q0 := 0) hK hP rfl rfl)) rfl rfl hl.1 rfl (lv_room (Nat.le_of_ble_eq_true rfl)) dL_law_502 ⟨by show 20 + lx_n F + i + 0 + 0 + 0 ≤ 601024; omega, by show 9000 + lx_c F + 6 * i + 0 + 0 + 0 ≤ 7293033; omega⟩) (fun r hr9 => ?_)
    subst hr9
    refine lv_iload hx hb dL_law_505 (lv_at hl 1 rfl) ?_
    refine lv_icmp_eq (tgt := 512) hx hb dL_law_507 (by decide) (fun _ => ?_) (fun c9 => absurd rfl c9)
    refine lv_iload hx hb dL_law_512 (lv_at hl 1 rfl) ?_
    refine lv_if_ne (tgt := 529) hx hb dL_law_514 (by decide) (fun c9 => absurd rfl c9) (fun _ => ?_)
    refine lv_aload_n hx hb dL_law_517 rfl (lv_at hl 3 rfl) ?_
    refine lv_iconst (v := (nI 0)) hx hb dL_law_518 (by decide) ?_
    have hP := wp_P (List.perm_append_comm_assoc _ _ _) hP
    have hD := wp_D (List.perm_append_comm_assoc _ _ _) hD
    have hP : va_P D vwCl ((lw_U d0 dc dr h0 ai ar af ap ah ac ou cA cL k hk (upd rg j (nI (tw_en (tw_add (tw_P k) (tw_D k) (R j2) (if bb = 0 then R j3 else tw_ng (tw_P k) (R j3)))))) fi fr ff fp fh fn u9.2) ++ ((lw_M m0 mx my mr mb cA k (nI 0) (nI (tw_add (tw_P k) (tw_D k) (R j2) (if bb = 0 then R j3 else tw_ng (tw_P k) (R j3))).1) (nI (tw_add (tw_P k) (tw_D k) (R j2) (if bb = 0 then R j3 else tw_ng (tw_P k) (R j3))).2) (upd fx j (nI (tw_add (tw_P k) (tw_D k) (R j2) (if bb = 0 then R j3 else tw_ng (tw_P k) (R j3))).1)) (upd fy j (nI (tw_add (tw_P k) (tw_D k) (R j2) (if bb = 0 then R j3 else tw_ng (tw_P k) (R j3))).2)) fm fb) ++ ((dc, .inl (cQ, 5, .inr (.inr (.inr (.inr F))))) :: oth))) H := hP
    have hD : va_D (fun q => s.heap.size ≤ q) ((lw_U d0 dc dr h0 ai ar af ap ah ac ou cA cL k hk (upd rg j (nI (tw_en (tw_add (tw_P k) (tw_D k) (R j2) (if bb = 0 then R j3 else tw_ng (tw_P k) (R j3)))))) fi fr ff fp fh fn u9.2) ++ ((lw_M m0 mx my mr mb cA k (nI 0) (nI (tw_add (tw_P k) (tw_D k) (R j2) (if bb = 0 then R j3 else tw_ng (tw_P k) (R j3))).1) (nI (tw_add (tw_P k) (tw_D k) (R j2) (if bb = 0 then R j3 else tw_ng (tw_P k) (R j3))).2) (upd fx j (nI (tw_add (tw_P k) (tw_D k) (R j2) (if bb = 0 then R j3 else tw_ng (tw_P k) (R j3))).1)) (upd fy j (nI (tw_add (tw_P k) (tw_D k) (R j2) (if bb = 0 then R j3 else tw_ng (tw_P k) (R j3))).2)) fm fb) ++ ((dc, .inl (cQ, 5, .inr (.inr (.inr (.inr F))))) :: oth))) := hD
    refine va_lald hx hb hK hP 9 2 rfl rfl (nv_in (a := 0) (n := 1) (by decide) (by decide)) dL_law_519 ?_
    rw [nI_clamp (n := 0) (by decide), w9]
    refine lv_iload hx hb dL_law_520 (lv_at hl 0 rfl) ?_
    refine lv_i2l (v := (nI (tw_pk (tw_add (tw_P k) (tw_D k) (R j2) (if bb = 0 then R j3 else tw_ng (tw_P k) (R j3))))).toInt64) hx hb dL_law_522 rfl ?_
    refine lx_lcmp hx hb dL_law_523 ?_
    refine lv_if_eq (tgt := 529) hx hb dL_law_524 (by decide) (fun _ => ?_) (fun c9 => absurd rfl c9)
    refine lv_goto (tgt := 1269) hx hb dL_law_529 (by decide) ?_
    refine W.widen (k := 20 + lx_n F + (i + 8)) (n := 9000 + lx_c F + 6 * (i + 8)) (by omega) (by omega) ?_
    exact kk F H locs ls (lv_sub hl [2, 3, 4, 5, 6] rfl) (lx_mk hP hD ⟨hk5, hF, hok, hhv, lx_rg hon hrg, lx_rR hon hR, hfm, hB, hO⟩) hS
set_option maxHeartbeats 8000000 in
set_option maxRecDepth 100000 in
theorem lc_6 {p : Program} {l : Launch} {e : Env} {s : State} {m : MethodId} {below : List Frame} {meth : Method} {c : Code} {Q : State → Prop} {b L : Nat} {xs : Nat → Int32} {gs : Nat → Nat} {tp : Nat} {D : va_G} {d0 dc dr ou m0 mx my mr mb : Nat} {cA cQ cL : ClassId} (C : lx_C p l s m c b L xs gs tp D cA cQ cL) {i : Nat} (hi : i + 8 ≤ L) {F : Nat → Option Nat} {H : Heap} {locs : List Loc} {ls : Array Slot} (hl : lv_has ls 8 [(4, .int (nI i)), (3, .ref ou), (2, .ref m0), (1, .ref d0), (0, .ref b)]) (hI : lx_I D d0 dc dr ou m0 mx my mr mb cA cQ cL (fun q => s.heap.size ≤ q) F H) (hS : va_S (fun q => s.heap.size ≤ q) s.heap H locs) (kk : (∀ (F : Nat → Option Nat) (H : Heap) (locs : List Loc) (ls : Array Slot), lv_has ls 8 [(4, .int (nI i)), (3, .ref ou), (2, .ref m0), (1, .ref d0), (0, .ref b)] → lx_I D d0 dc dr ou m0 mx my mr mb cA cQ cL (fun q => s.heap.size ≤ q) F H → va_S (fun q => s.heap.size ≤ q) s.heap H locs → W p l e room_1 s m #[Value.ref b] below meth c H locs (20 + lx_n F + (i + 8)) (9000 + lx_c F + 6 * (i + 8)) Q (F0 m 1269 ls []))) : W p l e room_1 s m #[Value.ref b] below meth c H locs (20 + lx_n F + i) (9000 + lx_c F + 6 * i) Q (F0 m 532 ls []) := by
  obtain ⟨hx, hb, hml, hown, ht, hX, hbl, hZ, hT, hK, hL⟩ := C
  obtain ⟨k, R, h0, ai, ar, af, ap, ah, ac, hk, rg, fi, fr, ff, fp, fh, fn, fo, th, sx, sy, fx, fy, fm, fb, oth, hP, hD, hk5, hF, hok, hhv, hrg, hR, hfm, hB, hO⟩ := hI
  have hbA : ¬ s.heap.size ≤ b := Nat.not_le.mpr hbl
  have hA : ∀ q, s.heap.size ≤ q → s.heap.size ≤ q := fun _ h => h
  have zi : i ≤ 4088 := by omega
  have zn := lx_n_le F
  have zc := lx_c_le F
  have hK0 := tw_kK k hk5
  by_cases b1 : md_bad (xs (i + 1)) ∨ md_bad (xs (i + 4))
  · refine lv_aload_n hx hb dL_law_532 rfl (lv_at hl 3 rfl) ?_
    refine lv_aload_n hx hb dL_law_533 rfl (lv_at hl 4 rfl) ?_
    refine lv_iload hx hb dL_law_534 (lv_at hl 0 rfl) ?_
    refine lv_iconst (v := (nI 1)) hx hb dL_law_536 (by decide) ?_
    refine nv_iadd hx hb dL_law_537 ?_
    refine va_sld hx hb hX hbl hbA hS (nv_in (by omega) (by omega)) dL_law_538 ?_
    rw [nI_clamp (by omega)]
    refine lv_aload_n hx hb dL_law_539 rfl (lv_at hl 4 rfl) ?_
    refine lv_iload hx hb dL_law_540 (lv_at hl 0 rfl) ?_
    refine lv_iconst (v := (nI 2)) hx hb dL_law_542 (by decide) ?_
    refine nv_iadd hx hb dL_law_543 ?_
    refine va_sld hx hb hX hbl hbA hS (nv_in (by omega) (by omega)) dL_law_544 ?_
    rw [nI_clamp (by omega)]
    refine lv_i2l (v := (xs (i + 2)).toInt64) hx hb dL_law_545 rfl ?_
    refine lv_bipush (v := (nI 32)) hx hb dL_law_546 (by decide) ?_
    refine lv_lshl (v := (xs (i + 2)).toInt64 <<< ((nI 32).toInt64 &&& 63)) hx hb dL_law_548 rfl ?_
    refine lv_aload_n hx hb dL_law_549 rfl (lv_at hl 4 rfl) ?_
    refine lv_iload hx hb dL_law_550 (lv_at hl 0 rfl) ?_
    refine lv_iconst (v := (nI 3)) hx hb dL_law_552 (by decide) ?_
    refine nv_iadd hx hb dL_law_553 ?_
    refine va_sld hx hb hX hbl hbA hS (nv_in (by omega) (by omega)) dL_law_554 ?_
    rw [nI_clamp (by omega)]
    refine lv_i2l (v := (xs (i + 3)).toInt64) hx hb dL_law_555 rfl ?_
    refine lv_ldc2 (v := lN 4294967295) hx hb hown (ht _ kv_L_97) dL_law_556 ?_
    refine lv_land hx hb dL_law_559 ?_
    refine lx_lor (v := (lx_lg (xs (i + 2)) (xs (i + 3)))) hx hb dL_law_560 rfl ?_
    refine lv_aload_n hx hb dL_law_561 rfl (lv_at hl 4 rfl) ?_
    refine lv_iload hx hb dL_law_562 (lv_at hl 0 rfl) ?_
    refine lv_iconst (v := (nI 4)) hx hb dL_law_564 (by decide) ?_
    refine nv_iadd hx hb dL_law_565 ?_
    refine va_sld hx hb hX hbl hbA hS (nv_in (by omega) (by omega)) dL_law_566 ?_
    rw [nI_clamp (by omega)]
    refine lv_aload_n hx hb dL_law_567 rfl (lv_at hl 1 rfl) ?_
    refine va_calli (vx_runSW (As := [.ref d0, .int (xs (i + 1)), .long (lx_lg (xs (i + 2)) (xs (i + 3))), .int (xs (i + 4)), .ref ou]) (rest := []) ⟨hx, hb, hml, hown, ht⟩ (c_L_timesR l gs b1) (vx_cwSW 5 ht (tb_S kl_L_99 kt_L_times kn_L kc_L_times) rfl rfl rfl kd_L_times ⟨Nat.le_of_ble_eq_true rfl, Nat.le_of_ble_eq_true rfl⟩) (nx_preSR _ hZ hS (va_recv (ci := 1) (q0 := 0) hK hP rfl rfl)) rfl rfl hl.1 rfl (lv_room (Nat.le_of_ble_eq_true rfl)) dL_law_568 ⟨by show 20 + lx_n F + i + 1 ≤ 601024; omega, by show 9000 + lx_c F + 6 * i + 6 ≤ 7293033; omega⟩) hS (fun _ _ h => h.elim) (fun _ h => h.elim) (fun r9 u9 t9 H locs ht9 hvm9 hw9 hB9 hz9 hk9 hS => ?_)
    have hP := lx_kp hP hk9
    subst hw9
    have hP : va_P D vwCl ((lw_U d0 dc dr h0 ai ar af ap ah ac ou cA cL k hk rg fi fr ff fp fh fn fo) ++ ((lw_M m0 mx my mr mb cA k th sx sy fx fy fm fb) ++ ((dc, .inl (cQ, 5, .inr (.inr (.inr (.inr F))))) :: oth))) H := hP
    have hD : va_D (fun q => s.heap.size ≤ q) ((lw_U d0 dc dr h0 ai ar af ap ah ac ou cA cL k hk rg fi fr ff fp fh fn fo) ++ ((lw_M m0 mx my mr mb cA k th sx sy fx fy fm fb) ++ ((dc, .inl (cQ, 5, .inr (.inr (.inr (.inr F))))) :: oth))) := hD
    refine lv_istore hx hb dL_law_571 hl (by decide) rfl (fun ls hl => ?_)
    have hl : lv_has ls 8 [(5, .int (nI 1)), (4, .int (nI i)), (3, .ref ou), (2, .ref m0), (1, .ref d0), (0, .ref b)] := hl
    refine lv_aload_n hx hb dL_law_573 rfl (lv_at hl 3 rfl) ?_
    refine lv_aload_n hx hb dL_law_574 rfl (lv_at hl 5 rfl) ?_
    refine lv_iload hx hb dL_law_575 (lv_at hl 1 rfl) ?_
    refine lv_iconst (v := (nI 1)) hx hb dL_law_577 (by decide) ?_
    refine nv_iadd hx hb dL_law_578 ?_
    refine va_sld hx hb hX hbl hbA hS (nv_in (by omega) (by omega)) dL_law_579 ?_
    rw [nI_clamp (by omega)]
    refine lv_aload_n hx hb dL_law_580 rfl (lv_at hl 5 rfl) ?_
    refine lv_iload hx hb dL_law_581 (lv_at hl 1 rfl) ?_
    refine lv_iconst (v := (nI 2)) hx hb dL_law_583 (by decide) ?_
    refine nv_iadd hx hb dL_law_584 ?_
    refine va_sld hx hb hX hbl hbA hS (nv_in (by omega) (by omega)) dL_law_585 ?_
    rw [nI_clamp (by omega)]
    refine lv_i2l (v := (xs (i + 2)).toInt64) hx hb dL_law_586 rfl ?_
    refine lv_bipush (v := (nI 32)) hx hb dL_law_587 (by decide) ?_
    refine lv_lshl (v := (xs (i + 2)).toInt64 <<< ((nI 32).toInt64 &&& 63)) hx hb dL_law_589 rfl ?_
    refine lv_aload_n hx hb dL_law_590 rfl (lv_at hl 5 rfl) ?_
    refine lv_iload hx hb dL_law_591 (lv_at hl 1 rfl) ?_
    refine lv_iconst (v := (nI 3)) hx hb dL_law_593 (by decide) ?_
    refine nv_iadd hx hb dL_law_594 ?_
    refine va_sld hx hb hX hbl hbA hS (nv_in (by omega) (by omega)) dL_law_595 ?_
    rw [nI_clamp (by omega)]
    refine lv_i2l (v := (xs (i + 3)).toInt64) hx hb dL_law_596 rfl ?_
    refine lv_ldc2 (v := lN 4294967295) hx hb hown (ht _ kv_L_97) dL_law_597 ?_
    refine lv_land hx hb dL_law_600 ?_
    refine lx_lor (v := (lx_lg (xs (i + 2)) (xs (i + 3)))) hx hb dL_law_601 rfl ?_
    refine lv_aload_n hx hb dL_law_602 rfl (lv_at hl 5 rfl) ?_
    refine lv_iload hx hb dL_law_603 (lv_at hl 1 rfl) ?_
    refine lv_iconst (v := (nI 4)) hx hb dL_law_605 (by decide) ?_
    refine nv_iadd hx hb dL_law_606 ?_
    refine va_sld hx hb hX hbl hbA hS (nv_in (by omega) (by omega)) dL_law_607 ?_
    rw [nI_clamp (by omega)]
    have hP := wp_P (List.perm_append_comm_assoc _ _ _) hP
    have hD := wp_D (List.perm_append_comm_assoc _ _ _) hD
    have hP : va_P D vwCl ((lw_M m0 mx my mr mb cA k th sx sy fx fy fm fb) ++ ((lw_U d0 dc dr h0 ai ar af ap ah ac ou cA cL k hk rg fi fr ff fp fh fn fo) ++ ((dc, .inl (cQ, 5, .inr (.inr (.inr (.inr F))))) :: oth))) H := hP
    have hD : va_D (fun q => s.heap.size ≤ q) ((lw_M m0 mx my mr mb cA k th sx sy fx fy fm fb) ++ ((lw_U d0 dc dr h0 ai ar af ap ah ac ou cA cL k hk rg fi fr ff fp fh fn fo) ++ ((dc, .inl (cQ, 5, .inr (.inr (.inr (.inr F))))) :: oth))) := hD
    have hFc := wp_free hD hS hA
    refine va_calli (va_runV (As := [.int (xs (i + 1)), .long (lx_lg (xs (i + 2)) (xs (i + 3))), .int (xs (i + 4))]) (rest := []) ⟨hx, hb, hml, hown, ht⟩ (c_X2_times2R l D hk5 b1 H.size) (cwV 3 ht (tb_V kl_L_102 ki_X2_times2 ks_X2_times2 kn_X2 kc_X2_times2) rfl rfl rfl ⟨rfl, kd_X2_times2⟩ ⟨Nat.le_of_ble_eq_true rfl, Nat.le_of_ble_eq_true rfl⟩) (wd_preV _ (wp_Pl hP) (hK.sub (tys' := [(cA, .int)]) [0] rfl) (wp_Dl hD) (va_recv (ci := 2) (q0 := 0) hK hP rfl rfl)) rfl rfl hl.1 rfl (lv_room (Nat.le_of_ble_eq_true rfl)) dL_law_608 ⟨by show 20 + lx_n F + i + 1 + 0 ≤ 601024; omega, by show 9000 + lx_c F + 6 * i + 6 + 0 ≤ 7293033; omega⟩) hS (fun q _ h => hFc q h) hFc (fun r8 u8 t8 H locs ht8 hvm8 hw8 hB8 hz8 hk8 hS => ?_)
    obtain ⟨hP1, hK1, hD1⟩ := hB8
    rw [ht8] at hP1
    obtain ⟨hP, hD⟩ := wp_join hP hD hk8 hFc hP1 hD1
    have hP : va_P D vwCl ((lw_M m0 mx my mr mb cA k (nI 1) sx sy fx fy fm fb) ++ ((lw_U d0 dc dr h0 ai ar af ap ah ac ou cA cL k hk rg fi fr ff fp fh fn fo) ++ ((dc, .inl (cQ, 5, .inr (.inr (.inr (.inr F))))) :: oth))) H := hP
    have hD : va_D (fun q => s.heap.size ≤ q) ((lw_M m0 mx my mr mb cA k (nI 1) sx sy fx fy fm fb) ++ ((lw_U d0 dc dr h0 ai ar af ap ah ac ou cA cL k hk rg fi fr ff fp fh fn fo) ++ ((dc, .inl (cQ, 5, .inr (.inr (.inr (.inr F))))) :: oth))) := hD
    subst hw8
    refine lv_istore hx hb dL_law_611 hl (by decide) rfl (fun ls hl => ?_)
    have hl : lv_has ls 8 [(6, .int 0), (5, .int (nI 1)), (4, .int (nI i)), (3, .ref ou), (2, .ref m0), (1, .ref d0), (0, .ref b)] := hl
    refine lv_aload_n hx hb dL_law_613 rfl (lv_at hl 4 rfl) ?_
    refine vp_callSi (W.runV (As := []) (rest := []) ⟨hx, hb, hml, hown, ht⟩ (c_X2_thrown l D hk5) (cwV 0 ht (tb_V kl_L_74 ki_X2_thrown ks_X2_thrown kn_X2 kc_X2_thrown) rfl rfl rfl ⟨rfl, kd_X2_thrown⟩ ⟨Nat.le_of_ble_eq_true rfl, Nat.le_of_ble_eq_true rfl⟩) (ro_preV _ ((wp_Pl hP).sub (ws' := [(m0, .inr (2, [.int (nI 1), .int (nI k), .int (nI (tw_P k)), .int (nI (tw_D k)), .int (nI (tw_I k)), .ref mx, .ref my, .ref mr, .ref mb, .int sx, .int sy]))]) [0] rfl) (hK.sub (tys' := []) [] rfl) (va_recv (ci := 2) (q0 := 0) hK hP rfl rfl)) rfl rfl hl.1 rfl (lv_room (Nat.le_of_ble_eq_true rfl)) dL_law_614 ⟨by show 20 + lx_n F + i + 1 + 0 + 0 ≤ 601024; omega, by show 9000 + lx_c F + 6 * i + 6 + 0 + 0 ≤ 7293033; omega⟩) (fun r hr9 => ?_)
    subst hr9
    refine lv_iload hx hb dL_law_617 (lv_at hl 1 rfl) ?_
    refine lv_icmp_eq (tgt := 624) hx hb dL_law_619 (by decide) (fun _ => ?_) (fun c9 => absurd rfl c9)
    refine lv_iload hx hb dL_law_624 (lv_at hl 1 rfl) ?_
    refine lv_if_ne (tgt := 641) hx hb dL_law_626 (by decide) (fun _ => ?_) (fun c9 => absurd c9 (by decide))
    refine lv_goto (tgt := 1269) hx hb dL_law_641 (by decide) ?_
    have hP := wp_P (List.perm_append_comm_assoc _ _ _) hP
    have hD := wp_D (List.perm_append_comm_assoc _ _ _) hD
    have hP : va_P D vwCl ((lw_U d0 dc dr h0 ai ar af ap ah ac ou cA cL k hk rg fi fr ff fp fh fn fo) ++ ((lw_M m0 mx my mr mb cA k (nI 1) sx sy fx fy fm fb) ++ ((dc, .inl (cQ, 5, .inr (.inr (.inr (.inr F))))) :: oth))) H := hP
    have hD : va_D (fun q => s.heap.size ≤ q) ((lw_U d0 dc dr h0 ai ar af ap ah ac ou cA cL k hk rg fi fr ff fp fh fn fo) ++ ((lw_M m0 mx my mr mb cA k (nI 1) sx sy fx fy fm fb) ++ ((dc, .inl (cQ, 5, .inr (.inr (.inr (.inr F))))) :: oth))) := hD
    refine W.widen (k := 20 + lx_n F + (i + 8)) (n := 9000 + lx_c F + 6 * (i + 8)) (by omega) (by omega) ?_
    exact kk F H locs ls (lv_sub hl [2, 3, 4, 5, 6] rfl) (lx_mk hP hD ⟨hk5, hF, hok, hhv, hrg, hR, hfm, hB, hO⟩) hS
  · obtain ⟨j, hj, e1⟩ := md_good (fun q => b1 (Or.inl q))
    obtain ⟨j2, hj2, e2⟩ := md_good (fun q => b1 (Or.inr q))
    have hon : tw_on (tw_P k) (tw_D k) (tw_mu (tw_P k) (tw_D k) ((lx_lg (xs (i + 2)) (xs (i + 3))).toInt % (tw_N k : Int)).toNat (R j2)) := tw_mu_on hK0 (hrg j2 hj2).1 _
    refine lv_aload_n hx hb dL_law_532 rfl (lv_at hl 3 rfl) ?_
    refine lv_aload_n hx hb dL_law_533 rfl (lv_at hl 4 rfl) ?_
    refine lv_iload hx hb dL_law_534 (lv_at hl 0 rfl) ?_
    refine lv_iconst (v := (nI 1)) hx hb dL_law_536 (by decide) ?_
    refine nv_iadd hx hb dL_law_537 ?_
    refine va_sld hx hb hX hbl hbA hS (nv_in (by omega) (by omega)) dL_law_538 ?_
    rw [nI_clamp (by omega)]
    rw [e1]
    refine lv_aload_n hx hb dL_law_539 rfl (lv_at hl 4 rfl) ?_
    refine lv_iload hx hb dL_law_540 (lv_at hl 0 rfl) ?_
    refine lv_iconst (v := (nI 2)) hx hb dL_law_542 (by decide) ?_
    refine nv_iadd hx hb dL_law_543 ?_
    refine va_sld hx hb hX hbl hbA hS (nv_in (by omega) (by omega)) dL_law_544 ?_
    rw [nI_clamp (by omega)]
    refine lv_i2l (v := (xs (i + 2)).toInt64) hx hb dL_law_545 rfl ?_
    refine lv_bipush (v := (nI 32)) hx hb dL_law_546 (by decide) ?_
    refine lv_lshl (v := (xs (i + 2)).toInt64 <<< ((nI 32).toInt64 &&& 63)) hx hb dL_law_548 rfl ?_
    refine lv_aload_n hx hb dL_law_549 rfl (lv_at hl 4 rfl) ?_
    refine lv_iload hx hb dL_law_550 (lv_at hl 0 rfl) ?_
    refine lv_iconst (v := (nI 3)) hx hb dL_law_552 (by decide) ?_
    refine nv_iadd hx hb dL_law_553 ?_
    refine va_sld hx hb hX hbl hbA hS (nv_in (by omega) (by omega)) dL_law_554 ?_
    rw [nI_clamp (by omega)]
    refine lv_i2l (v := (xs (i + 3)).toInt64) hx hb dL_law_555 rfl ?_
    refine lv_ldc2 (v := lN 4294967295) hx hb hown (ht _ kv_L_97) dL_law_556 ?_
    refine lv_land hx hb dL_law_559 ?_
    refine lx_lor (v := (lx_lg (xs (i + 2)) (xs (i + 3)))) hx hb dL_law_560 rfl ?_
    refine lv_aload_n hx hb dL_law_561 rfl (lv_at hl 4 rfl) ?_
    refine lv_iload hx hb dL_law_562 (lv_at hl 0 rfl) ?_
    refine lv_iconst (v := (nI 4)) hx hb dL_law_564 (by decide) ?_
    refine nv_iadd hx hb dL_law_565 ?_
    refine va_sld hx hb hX hbl hbA hS (nv_in (by omega) (by omega)) dL_law_566 ?_
    rw [nI_clamp (by omega)]
    rw [e2]
    refine lv_aload_n hx hb dL_law_567 rfl (lv_at hl 1 rfl) ?_
    have hFc := wp_free hD hS hA
    refine va_calli (vx_runSW (As := [.ref d0, .int (nI j), .long (lx_lg (xs (i + 2)) (xs (i + 3))), .int (nI j2), .ref ou]) (rest := []) ⟨hx, hb, hml, hown, ht⟩ (c_L_times l D hk5 hok hrg hj hj2 (lx_lg (xs (i + 2)) (xs (i + 3))) H.size) (vx_cwSW 5 ht (tb_S kl_L_99 kt_L_times kn_L kc_L_times) rfl rfl rfl kd_L_times ⟨Nat.le_of_ble_eq_true rfl, Nat.le_of_ble_eq_true rfl⟩) (wd_preS _ (wp_Pl hP) (hK.sub (tys' := [(cA, .int), (cL, .long)]) [0, 2] rfl) (wp_Dl hD)) rfl rfl hl.1 rfl (lv_room (Nat.le_of_ble_eq_true rfl)) dL_law_568 ⟨by show 20 + lx_n F + i + 0 ≤ 601024; omega, by show 9000 + lx_c F + 6 * i + 0 ≤ 7293033; omega⟩) hS (fun q _ h => hFc q h) hFc (fun r9 u9 t9 H locs ht9 hvm9 hw9 hB9 hz9 hk9 hS => ?_)
    obtain ⟨hP1, hK1, hD1⟩ := hB9
    rw [ht9] at hP1
    obtain ⟨hP, hD⟩ := wp_join hP hD hk9 hFc hP1 hD1
    obtain ⟨e9, q9, w9⟩ := hw9
    subst e9
    rw [q9] at hP hD
    have hP : va_P D vwCl ((lw_U d0 dc dr h0 ai ar af ap ah ac ou cA cL k hk (upd rg j (nI (tw_en (tw_mu (tw_P k) (tw_D k) ((lx_lg (xs (i + 2)) (xs (i + 3))).toInt % (tw_N k : Int)).toNat (R j2))))) fi fr ff fp fh fn u9.2) ++ ((lw_M m0 mx my mr mb cA k th sx sy fx fy fm fb) ++ ((dc, .inl (cQ, 5, .inr (.inr (.inr (.inr F))))) :: oth))) H := hP
    have hD : va_D (fun q => s.heap.size ≤ q) ((lw_U d0 dc dr h0 ai ar af ap ah ac ou cA cL k hk (upd rg j (nI (tw_en (tw_mu (tw_P k) (tw_D k) ((lx_lg (xs (i + 2)) (xs (i + 3))).toInt % (tw_N k : Int)).toNat (R j2))))) fi fr ff fp fh fn u9.2) ++ ((lw_M m0 mx my mr mb cA k th sx sy fx fy fm fb) ++ ((dc, .inl (cQ, 5, .inr (.inr (.inr (.inr F))))) :: oth))) := hD
    refine lv_istore hx hb dL_law_571 hl (by decide) rfl (fun ls hl => ?_)
    have hl : lv_has ls 8 [(5, .int (nI 0)), (4, .int (nI i)), (3, .ref ou), (2, .ref m0), (1, .ref d0), (0, .ref b)] := hl
    refine lv_aload_n hx hb dL_law_573 rfl (lv_at hl 3 rfl) ?_
    refine lv_aload_n hx hb dL_law_574 rfl (lv_at hl 5 rfl) ?_
    refine lv_iload hx hb dL_law_575 (lv_at hl 1 rfl) ?_
    refine lv_iconst (v := (nI 1)) hx hb dL_law_577 (by decide) ?_
    refine nv_iadd hx hb dL_law_578 ?_
    refine va_sld hx hb hX hbl hbA hS (nv_in (by omega) (by omega)) dL_law_579 ?_
    rw [nI_clamp (by omega)]
    rw [e1]
    refine lv_aload_n hx hb dL_law_580 rfl (lv_at hl 5 rfl) ?_
    refine lv_iload hx hb dL_law_581 (lv_at hl 1 rfl) ?_
    refine lv_iconst (v := (nI 2)) hx hb dL_law_583 (by decide) ?_
    refine nv_iadd hx hb dL_law_584 ?_
    refine va_sld hx hb hX hbl hbA hS (nv_in (by omega) (by omega)) dL_law_585 ?_
    rw [nI_clamp (by omega)]
    refine lv_i2l (v := (xs (i + 2)).toInt64) hx hb dL_law_586 rfl ?_
    refine lv_bipush (v := (nI 32)) hx hb dL_law_587 (by decide) ?_
    refine lv_lshl (v := (xs (i + 2)).toInt64 <<< ((nI 32).toInt64 &&& 63)) hx hb dL_law_589 rfl ?_
    refine lv_aload_n hx hb dL_law_590 rfl (lv_at hl 5 rfl) ?_
    refine lv_iload hx hb dL_law_591 (lv_at hl 1 rfl) ?_
    refine lv_iconst (v := (nI 3)) hx hb dL_law_593 (by decide) ?_
    refine nv_iadd hx hb dL_law_594 ?_
    refine va_sld hx hb hX hbl hbA hS (nv_in (by omega) (by omega)) dL_law_595 ?_
    rw [nI_clamp (by omega)]
    refine lv_i2l (v := (xs (i + 3)).toInt64) hx hb dL_law_596 rfl ?_
    refine lv_ldc2 (v := lN 4294967295) hx hb hown (ht _ kv_L_97) dL_law_597 ?_
    refine lv_land hx hb dL_law_600 ?_
    refine lx_lor (v := (lx_lg (xs (i + 2)) (xs (i + 3)))) hx hb dL_law_601 rfl ?_
    refine lv_aload_n hx hb dL_law_602 rfl (lv_at hl 5 rfl) ?_
    refine lv_iload hx hb dL_law_603 (lv_at hl 1 rfl) ?_
    refine lv_iconst (v := (nI 4)) hx hb dL_law_605 (by decide) ?_
    refine nv_iadd hx hb dL_law_606 ?_
    refine va_sld hx hb hX hbl hbA hS (nv_in (by omega) (by omega)) dL_law_607 ?_
    rw [nI_clamp (by omega)]
    rw [e2]
    have hP := wp_P (List.perm_append_comm_assoc _ _ _) hP
    have hD := wp_D (List.perm_append_comm_assoc _ _ _) hD
    have hP : va_P D vwCl ((lw_M m0 mx my mr mb cA k th sx sy fx fy fm fb) ++ ((lw_U d0 dc dr h0 ai ar af ap ah ac ou cA cL k hk (upd rg j (nI (tw_en (tw_mu (tw_P k) (tw_D k) ((lx_lg (xs (i + 2)) (xs (i + 3))).toInt % (tw_N k : Int)).toNat (R j2))))) fi fr ff fp fh fn u9.2) ++ ((dc, .inl (cQ, 5, .inr (.inr (.inr (.inr F))))) :: oth))) H := hP
    have hD : va_D (fun q => s.heap.size ≤ q) ((lw_M m0 mx my mr mb cA k th sx sy fx fy fm fb) ++ ((lw_U d0 dc dr h0 ai ar af ap ah ac ou cA cL k hk (upd rg j (nI (tw_en (tw_mu (tw_P k) (tw_D k) ((lx_lg (xs (i + 2)) (xs (i + 3))).toInt % (tw_N k : Int)).toNat (R j2))))) fi fr ff fp fh fn u9.2) ++ ((dc, .inl (cQ, 5, .inr (.inr (.inr (.inr F))))) :: oth))) := hD
    have hFc := wp_free hD hS hA
    refine va_calli (va_runV (As := [.int (nI j), .long (lx_lg (xs (i + 2)) (xs (i + 3))), .int (nI j2)]) (rest := []) ⟨hx, hb, hml, hown, ht⟩ (c_X2_times2 l D hk5 hfm hR hj hj2 (lx_lg (xs (i + 2)) (xs (i + 3))) H.size) (cwV 3 ht (tb_V kl_L_102 ki_X2_times2 ks_X2_times2 kn_X2 kc_X2_times2) rfl rfl rfl ⟨rfl, kd_X2_times2⟩ ⟨Nat.le_of_ble_eq_true rfl, Nat.le_of_ble_eq_true rfl⟩) (wd_preV _ (wp_Pl hP) (hK.sub (tys' := [(cA, .int)]) [0] rfl) (wp_Dl hD) (va_recv (ci := 2) (q0 := 0) hK hP rfl rfl)) rfl rfl hl.1 rfl (lv_room (Nat.le_of_ble_eq_true rfl)) dL_law_608 ⟨by show 20 + lx_n F + i + 0 + 0 ≤ 601024; omega, by show 9000 + lx_c F + 6 * i + 0 + 0 ≤ 7293033; omega⟩) hS (fun q _ h => hFc q h) hFc (fun r8 u8 t8 H locs ht8 hvm8 hw8 hB8 hz8 hk8 hS => ?_)
    obtain ⟨hP1, hK1, hD1⟩ := hB8
    rw [ht8] at hP1
    obtain ⟨hP, hD⟩ := wp_join hP hD hk8 hFc hP1 hD1
    have hP : va_P D vwCl ((lw_M m0 mx my mr mb cA k (nI 0) (nI (tw_mu (tw_P k) (tw_D k) ((lx_lg (xs (i + 2)) (xs (i + 3))).toInt % (tw_N k : Int)).toNat (R j2)).1) (nI (tw_mu (tw_P k) (tw_D k) ((lx_lg (xs (i + 2)) (xs (i + 3))).toInt % (tw_N k : Int)).toNat (R j2)).2) (upd fx j (nI (tw_mu (tw_P k) (tw_D k) ((lx_lg (xs (i + 2)) (xs (i + 3))).toInt % (tw_N k : Int)).toNat (R j2)).1)) (upd fy j (nI (tw_mu (tw_P k) (tw_D k) ((lx_lg (xs (i + 2)) (xs (i + 3))).toInt % (tw_N k : Int)).toNat (R j2)).2)) fm fb) ++ ((lw_U d0 dc dr h0 ai ar af ap ah ac ou cA cL k hk (upd rg j (nI (tw_en (tw_mu (tw_P k) (tw_D k) ((lx_lg (xs (i + 2)) (xs (i + 3))).toInt % (tw_N k : Int)).toNat (R j2))))) fi fr ff fp fh fn u9.2) ++ ((dc, .inl (cQ, 5, .inr (.inr (.inr (.inr F))))) :: oth))) H := hP
    have hD : va_D (fun q => s.heap.size ≤ q) ((lw_M m0 mx my mr mb cA k (nI 0) (nI (tw_mu (tw_P k) (tw_D k) ((lx_lg (xs (i + 2)) (xs (i + 3))).toInt % (tw_N k : Int)).toNat (R j2)).1) (nI (tw_mu (tw_P k) (tw_D k) ((lx_lg (xs (i + 2)) (xs (i + 3))).toInt % (tw_N k : Int)).toNat (R j2)).2) (upd fx j (nI (tw_mu (tw_P k) (tw_D k) ((lx_lg (xs (i + 2)) (xs (i + 3))).toInt % (tw_N k : Int)).toNat (R j2)).1)) (upd fy j (nI (tw_mu (tw_P k) (tw_D k) ((lx_lg (xs (i + 2)) (xs (i + 3))).toInt % (tw_N k : Int)).toNat (R j2)).2)) fm fb) ++ ((lw_U d0 dc dr h0 ai ar af ap ah ac ou cA cL k hk (upd rg j (nI (tw_en (tw_mu (tw_P k) (tw_D k) ((lx_lg (xs (i + 2)) (xs (i + 3))).toInt % (tw_N k : Int)).toNat (R j2))))) fi fr ff fp fh fn u9.2) ++ ((dc, .inl (cQ, 5, .inr (.inr (.inr (.inr F))))) :: oth))) := hD
    subst hw8
    refine lv_istore hx hb dL_law_611 hl (by decide) rfl (fun ls hl => ?_)
    have hl : lv_has ls 8 [(6, .int (nI (tw_pk (tw_mu (tw_P k) (tw_D k) ((lx_lg (xs (i + 2)) (xs (i + 3))).toInt % (tw_N k : Int)).toNat (R j2))))), (5, .int (nI 0)), (4, .int (nI i)), (3, .ref ou), (2, .ref m0), (1, .ref d0), (0, .ref b)] := hl
    refine lv_aload_n hx hb dL_law_613 rfl (lv_at hl 4 rfl) ?_
    refine vp_callSi (W.runV (As := []) (rest := []) ⟨hx, hb, hml, hown, ht⟩ (c_X2_thrown l D hk5) (cwV 0 ht (tb_V kl_L_74 ki_X2_thrown ks_X2_thrown kn_X2 kc_X2_thrown) rfl rfl rfl ⟨rfl, kd_X2_thrown⟩ ⟨Nat.le_of_ble_eq_true rfl, Nat.le_of_ble_eq_true rfl⟩) (ro_preV _ ((wp_Pl hP).sub (ws' := [(m0, .inr (2, [.int (nI 0), .int (nI k), .int (nI (tw_P k)), .int (nI (tw_D k)), .int (nI (tw_I k)), .ref mx, .ref my, .ref mr, .ref mb, .int (nI (tw_mu (tw_P k) (tw_D k) ((lx_lg (xs (i + 2)) (xs (i + 3))).toInt % (tw_N k : Int)).toNat (R j2)).1), .int (nI (tw_mu (tw_P k) (tw_D k) ((lx_lg (xs (i + 2)) (xs (i + 3))).toInt % (tw_N k : Int)).toNat (R j2)).2)]))]) [0] rfl) (hK.sub (tys' := []) [] rfl) (va_recv (ci := 2) (q0 := 0) hK hP rfl rfl)) rfl rfl hl.1 rfl (lv_room (Nat.le_of_ble_eq_true rfl)) dL_law_614 ⟨by show 20 + lx_n F + i + 0 + 0 + 0 ≤ 601024; omega, by show 9000 + lx_c F + 6 * i + 0 + 0 + 0 ≤ 7293033; omega⟩) (fun r hr9 => ?_)
    subst hr9
    refine lv_iload hx hb dL_law_617 (lv_at hl 1 rfl) ?_
    refine lv_icmp_eq (tgt := 624) hx hb dL_law_619 (by decide) (fun _ => ?_) (fun c9 => absurd rfl c9)
    refine lv_iload hx hb dL_law_624 (lv_at hl 1 rfl) ?_
    refine lv_if_ne (tgt := 641) hx hb dL_law_626 (by decide) (fun c9 => absurd rfl c9) (fun _ => ?_)
    refine lv_aload_n hx hb dL_law_629 rfl (lv_at hl 3 rfl) ?_
    refine lv_iconst (v := (nI 0)) hx hb dL_law_630 (by decide) ?_
    have hP := wp_P (List.perm_append_comm_assoc _ _ _) hP
    have hD := wp_D (List.perm_append_comm_assoc _ _ _) hD
    have hP : va_P D vwCl ((lw_U d0 dc dr h0 ai ar af ap ah ac ou cA cL k hk (upd rg j (nI (tw_en (tw_mu (tw_P k) (tw_D k) ((lx_lg (xs (i + 2)) (xs (i + 3))).toInt % (tw_N k : Int)).toNat (R j2))))) fi fr ff fp fh fn u9.2) ++ ((lw_M m0 mx my mr mb cA k (nI 0) (nI (tw_mu (tw_P k) (tw_D k) ((lx_lg (xs (i + 2)) (xs (i + 3))).toInt % (tw_N k : Int)).toNat (R j2)).1) (nI (tw_mu (tw_P k) (tw_D k) ((lx_lg (xs (i + 2)) (xs (i + 3))).toInt % (tw_N k : Int)).toNat (R j2)).2) (upd fx j (nI (tw_mu (tw_P k) (tw_D k) ((lx_lg (xs (i + 2)) (xs (i + 3))).toInt % (tw_N k : Int)).toNat (R j2)).1)) (upd fy j (nI (tw_mu (tw_P k) (tw_D k) ((lx_lg (xs (i + 2)) (xs (i + 3))).toInt % (tw_N k : Int)).toNat (R j2)).2)) fm fb) ++ ((dc, .inl (cQ, 5, .inr (.inr (.inr (.inr F))))) :: oth))) H := hP
    have hD : va_D (fun q => s.heap.size ≤ q) ((lw_U d0 dc dr h0 ai ar af ap ah ac ou cA cL k hk (upd rg j (nI (tw_en (tw_mu (tw_P k) (tw_D k) ((lx_lg (xs (i + 2)) (xs (i + 3))).toInt % (tw_N k : Int)).toNat (R j2))))) fi fr ff fp fh fn u9.2) ++ ((lw_M m0 mx my mr mb cA k (nI 0) (nI (tw_mu (tw_P k) (tw_D k) ((lx_lg (xs (i + 2)) (xs (i + 3))).toInt % (tw_N k : Int)).toNat (R j2)).1) (nI (tw_mu (tw_P k) (tw_D k) ((lx_lg (xs (i + 2)) (xs (i + 3))).toInt % (tw_N k : Int)).toNat (R j2)).2) (upd fx j (nI (tw_mu (tw_P k) (tw_D k) ((lx_lg (xs (i + 2)) (xs (i + 3))).toInt % (tw_N k : Int)).toNat (R j2)).1)) (upd fy j (nI (tw_mu (tw_P k) (tw_D k) ((lx_lg (xs (i + 2)) (xs (i + 3))).toInt % (tw_N k : Int)).toNat (R j2)).2)) fm fb) ++ ((dc, .inl (cQ, 5, .inr (.inr (.inr (.inr F))))) :: oth))) := hD
    refine va_lald hx hb hK hP 9 2 rfl rfl (nv_in (a := 0) (n := 1) (by decide) (by decide)) dL_law_631 ?_
    rw [nI_clamp (n := 0) (by decide), w9]
    refine lv_iload hx hb dL_law_632 (lv_at hl 0 rfl) ?_
    refine lv_i2l (v := (nI (tw_pk (tw_mu (tw_P k) (tw_D k) ((lx_lg (xs (i + 2)) (xs (i + 3))).toInt % (tw_N k : Int)).toNat (R j2)))).toInt64) hx hb dL_law_634 rfl ?_
    refine lx_lcmp hx hb dL_law_635 ?_
    refine lv_if_eq (tgt := 641) hx hb dL_law_636 (by decide) (fun _ => ?_) (fun c9 => absurd rfl c9)
    refine lv_goto (tgt := 1269) hx hb dL_law_641 (by decide) ?_
    refine W.widen (k := 20 + lx_n F + (i + 8)) (n := 9000 + lx_c F + 6 * (i + 8)) (by omega) (by omega) ?_
    exact kk F H locs ls (lv_sub hl [2, 3, 4, 5, 6] rfl) (lx_mk hP hD ⟨hk5, hF, hok, hhv, lx_rg hon hrg, lx_rR hon hR, hfm, hB, hO⟩) hS
set_option maxHeartbeats 8000000 in
set_option maxRecDepth 100000 in
theorem lc_7 {p : Program} {l : Launch} {e : Env} {s : State} {m : MethodId} {below : List Frame} {meth : Method} {c : Code} {Q : State → Prop} {b L : Nat} {xs : Nat → Int32} {gs : Nat → Nat} {tp : Nat} {D : va_G} {d0 dc dr ou m0 mx my mr mb : Nat} {cA cQ cL : ClassId} (C : lx_C p l s m c b L xs gs tp D cA cQ cL) {i : Nat} (hi : i + 8 ≤ L) {F : Nat → Option Nat} {H : Heap} {locs : List Loc} {ls : Array Slot} (hl : lv_has ls 8 [(4, .int (nI i)), (3, .ref ou), (2, .ref m0), (1, .ref d0), (0, .ref b)]) (hI : lx_I D d0 dc dr ou m0 mx my mr mb cA cQ cL (fun q => s.heap.size ≤ q) F H) (hS : va_S (fun q => s.heap.size ≤ q) s.heap H locs) (kk : (∀ (F : Nat → Option Nat) (H : Heap) (locs : List Loc) (ls : Array Slot), lv_has ls 8 [(4, .int (nI i)), (3, .ref ou), (2, .ref m0), (1, .ref d0), (0, .ref b)] → lx_I D d0 dc dr ou m0 mx my mr mb cA cQ cL (fun q => s.heap.size ≤ q) F H → va_S (fun q => s.heap.size ≤ q) s.heap H locs → W p l e room_1 s m #[Value.ref b] below meth c H locs (20 + lx_n F + (i + 8)) (9000 + lx_c F + 6 * (i + 8)) Q (F0 m 1269 ls []))) : W p l e room_1 s m #[Value.ref b] below meth c H locs (20 + lx_n F + i) (9000 + lx_c F + 6 * i) Q (F0 m 644 ls []) := by
  obtain ⟨hx, hb, hml, hown, ht, hX, hbl, hZ, hT, hK, hL⟩ := C
  obtain ⟨k, R, h0, ai, ar, af, ap, ah, ac, hk, rg, fi, fr, ff, fp, fh, fn, fo, th, sx, sy, fx, fy, fm, fb, oth, hP, hD, hk5, hF, hok, hhv, hrg, hR, hfm, hB, hO⟩ := hI
  have hbA : ¬ s.heap.size ≤ b := Nat.not_le.mpr hbl
  have hA : ∀ q, s.heap.size ≤ q → s.heap.size ≤ q := fun _ h => h
  have zi : i ≤ 4088 := by omega
  have zn := lx_n_le F
  have zc := lx_c_le F
  have hK0 := tw_kK k hk5
  by_cases b1 : md_bad (xs (i + 1)) ∨ md_bad (xs (i + 4)) ∨ md_bad (xs (i + 7))
  · refine lv_aload_n hx hb dL_law_644 rfl (lv_at hl 3 rfl) ?_
    refine lv_aload_n hx hb dL_law_645 rfl (lv_at hl 4 rfl) ?_
    refine lv_iload hx hb dL_law_646 (lv_at hl 0 rfl) ?_
    refine lv_iconst (v := (nI 1)) hx hb dL_law_648 (by decide) ?_
    refine nv_iadd hx hb dL_law_649 ?_
    refine va_sld hx hb hX hbl hbA hS (nv_in (by omega) (by omega)) dL_law_650 ?_
    rw [nI_clamp (by omega)]
    refine lv_aload_n hx hb dL_law_651 rfl (lv_at hl 4 rfl) ?_
    refine lv_iload hx hb dL_law_652 (lv_at hl 0 rfl) ?_
    refine lv_iconst (v := (nI 2)) hx hb dL_law_654 (by decide) ?_
    refine nv_iadd hx hb dL_law_655 ?_
    refine va_sld hx hb hX hbl hbA hS (nv_in (by omega) (by omega)) dL_law_656 ?_
    rw [nI_clamp (by omega)]
    refine lv_i2l (v := (xs (i + 2)).toInt64) hx hb dL_law_657 rfl ?_
    refine lv_bipush (v := (nI 32)) hx hb dL_law_658 (by decide) ?_
    refine lv_lshl (v := (xs (i + 2)).toInt64 <<< ((nI 32).toInt64 &&& 63)) hx hb dL_law_660 rfl ?_
    refine lv_aload_n hx hb dL_law_661 rfl (lv_at hl 4 rfl) ?_
    refine lv_iload hx hb dL_law_662 (lv_at hl 0 rfl) ?_
    refine lv_iconst (v := (nI 3)) hx hb dL_law_664 (by decide) ?_
    refine nv_iadd hx hb dL_law_665 ?_
    refine va_sld hx hb hX hbl hbA hS (nv_in (by omega) (by omega)) dL_law_666 ?_
    rw [nI_clamp (by omega)]
    refine lv_i2l (v := (xs (i + 3)).toInt64) hx hb dL_law_667 rfl ?_
    refine lv_ldc2 (v := lN 4294967295) hx hb hown (ht _ kv_L_97) dL_law_668 ?_
    refine lv_land hx hb dL_law_671 ?_
    refine lx_lor (v := (lx_lg (xs (i + 2)) (xs (i + 3)))) hx hb dL_law_672 rfl ?_
    refine lv_aload_n hx hb dL_law_673 rfl (lv_at hl 4 rfl) ?_
    refine lv_iload hx hb dL_law_674 (lv_at hl 0 rfl) ?_
    refine lv_iconst (v := (nI 4)) hx hb dL_law_676 (by decide) ?_
    refine nv_iadd hx hb dL_law_677 ?_
    refine va_sld hx hb hX hbl hbA hS (nv_in (by omega) (by omega)) dL_law_678 ?_
    rw [nI_clamp (by omega)]
    refine lv_aload_n hx hb dL_law_679 rfl (lv_at hl 4 rfl) ?_
    refine lv_iload hx hb dL_law_680 (lv_at hl 0 rfl) ?_
    refine lv_iconst (v := (nI 5)) hx hb dL_law_682 (by decide) ?_
    refine nv_iadd hx hb dL_law_683 ?_
    refine va_sld hx hb hX hbl hbA hS (nv_in (by omega) (by omega)) dL_law_684 ?_
    rw [nI_clamp (by omega)]
    refine lv_i2l (v := (xs (i + 5)).toInt64) hx hb dL_law_685 rfl ?_
    refine lv_bipush (v := (nI 32)) hx hb dL_law_686 (by decide) ?_
    refine lv_lshl (v := (xs (i + 5)).toInt64 <<< ((nI 32).toInt64 &&& 63)) hx hb dL_law_688 rfl ?_
    refine lv_aload_n hx hb dL_law_689 rfl (lv_at hl 4 rfl) ?_
    refine lv_iload hx hb dL_law_690 (lv_at hl 0 rfl) ?_
    refine lv_bipush (v := (nI 6)) hx hb dL_law_692 (by decide) ?_
    refine nv_iadd hx hb dL_law_694 ?_
    refine va_sld hx hb hX hbl hbA hS (nv_in (by omega) (by omega)) dL_law_695 ?_
    rw [nI_clamp (by omega)]
    refine lv_i2l (v := (xs (i + 6)).toInt64) hx hb dL_law_696 rfl ?_
    refine lv_ldc2 (v := lN 4294967295) hx hb hown (ht _ kv_L_97) dL_law_697 ?_
    refine lv_land hx hb dL_law_700 ?_
    refine lx_lor (v := (lx_lg (xs (i + 5)) (xs (i + 6)))) hx hb dL_law_701 rfl ?_
    refine lv_aload_n hx hb dL_law_702 rfl (lv_at hl 4 rfl) ?_
    refine lv_iload hx hb dL_law_703 (lv_at hl 0 rfl) ?_
    refine lv_bipush (v := (nI 7)) hx hb dL_law_705 (by decide) ?_
    refine nv_iadd hx hb dL_law_707 ?_
    refine va_sld hx hb hX hbl hbA hS (nv_in (by omega) (by omega)) dL_law_708 ?_
    rw [nI_clamp (by omega)]
    refine lv_aload_n hx hb dL_law_709 rfl (lv_at hl 1 rfl) ?_
    refine va_calli (vx_runSW (As := [.ref d0, .int (xs (i + 1)), .long (lx_lg (xs (i + 2)) (xs (i + 3))), .int (xs (i + 4)), .long (lx_lg (xs (i + 5)) (xs (i + 6))), .int (xs (i + 7)), .ref ou]) (rest := []) ⟨hx, hb, hml, hown, ht⟩ (c_L_bothR l gs b1) (vx_cwSW 7 ht (tb_S kl_L_103 kt_L_both kn_L kc_L_both) rfl rfl rfl kd_L_both ⟨Nat.le_of_ble_eq_true rfl, Nat.le_of_ble_eq_true rfl⟩) (nx_preSR _ hZ hS (va_recv (ci := 1) (q0 := 0) hK hP rfl rfl)) rfl rfl hl.1 rfl (lv_room (Nat.le_of_ble_eq_true rfl)) dL_law_710 ⟨by show 20 + lx_n F + i + 1 ≤ 601024; omega, by show 9000 + lx_c F + 6 * i + 6 ≤ 7293033; omega⟩) hS (fun _ _ h => h.elim) (fun _ h => h.elim) (fun r9 u9 t9 H locs ht9 hvm9 hw9 hB9 hz9 hk9 hS => ?_)
    have hP := lx_kp hP hk9
    subst hw9
    have hP : va_P D vwCl ((lw_U d0 dc dr h0 ai ar af ap ah ac ou cA cL k hk rg fi fr ff fp fh fn fo) ++ ((lw_M m0 mx my mr mb cA k th sx sy fx fy fm fb) ++ ((dc, .inl (cQ, 5, .inr (.inr (.inr (.inr F))))) :: oth))) H := hP
    have hD : va_D (fun q => s.heap.size ≤ q) ((lw_U d0 dc dr h0 ai ar af ap ah ac ou cA cL k hk rg fi fr ff fp fh fn fo) ++ ((lw_M m0 mx my mr mb cA k th sx sy fx fy fm fb) ++ ((dc, .inl (cQ, 5, .inr (.inr (.inr (.inr F))))) :: oth))) := hD
    refine lv_istore hx hb dL_law_713 hl (by decide) rfl (fun ls hl => ?_)
    have hl : lv_has ls 8 [(5, .int (nI 1)), (4, .int (nI i)), (3, .ref ou), (2, .ref m0), (1, .ref d0), (0, .ref b)] := hl
    refine lv_aload_n hx hb dL_law_715 rfl (lv_at hl 3 rfl) ?_
    refine lv_aload_n hx hb dL_law_716 rfl (lv_at hl 5 rfl) ?_
    refine lv_iload hx hb dL_law_717 (lv_at hl 1 rfl) ?_
    refine lv_iconst (v := (nI 1)) hx hb dL_law_719 (by decide) ?_
    refine nv_iadd hx hb dL_law_720 ?_
    refine va_sld hx hb hX hbl hbA hS (nv_in (by omega) (by omega)) dL_law_721 ?_
    rw [nI_clamp (by omega)]
    refine lv_aload_n hx hb dL_law_722 rfl (lv_at hl 5 rfl) ?_
    refine lv_iload hx hb dL_law_723 (lv_at hl 1 rfl) ?_
    refine lv_iconst (v := (nI 2)) hx hb dL_law_725 (by decide) ?_
    refine nv_iadd hx hb dL_law_726 ?_
    refine va_sld hx hb hX hbl hbA hS (nv_in (by omega) (by omega)) dL_law_727 ?_
    rw [nI_clamp (by omega)]
    refine lv_i2l (v := (xs (i + 2)).toInt64) hx hb dL_law_728 rfl ?_
    refine lv_bipush (v := (nI 32)) hx hb dL_law_729 (by decide) ?_
    refine lv_lshl (v := (xs (i + 2)).toInt64 <<< ((nI 32).toInt64 &&& 63)) hx hb dL_law_731 rfl ?_
    refine lv_aload_n hx hb dL_law_732 rfl (lv_at hl 5 rfl) ?_
    refine lv_iload hx hb dL_law_733 (lv_at hl 1 rfl) ?_
    refine lv_iconst (v := (nI 3)) hx hb dL_law_735 (by decide) ?_
    refine nv_iadd hx hb dL_law_736 ?_
    refine va_sld hx hb hX hbl hbA hS (nv_in (by omega) (by omega)) dL_law_737 ?_
    rw [nI_clamp (by omega)]
    refine lv_i2l (v := (xs (i + 3)).toInt64) hx hb dL_law_738 rfl ?_
    refine lv_ldc2 (v := lN 4294967295) hx hb hown (ht _ kv_L_97) dL_law_739 ?_
    refine lv_land hx hb dL_law_742 ?_
    refine lx_lor (v := (lx_lg (xs (i + 2)) (xs (i + 3)))) hx hb dL_law_743 rfl ?_
    refine lv_aload_n hx hb dL_law_744 rfl (lv_at hl 5 rfl) ?_
    refine lv_iload hx hb dL_law_745 (lv_at hl 1 rfl) ?_
    refine lv_iconst (v := (nI 4)) hx hb dL_law_747 (by decide) ?_
    refine nv_iadd hx hb dL_law_748 ?_
    refine va_sld hx hb hX hbl hbA hS (nv_in (by omega) (by omega)) dL_law_749 ?_
    rw [nI_clamp (by omega)]
    refine lv_aload_n hx hb dL_law_750 rfl (lv_at hl 5 rfl) ?_
    refine lv_iload hx hb dL_law_751 (lv_at hl 1 rfl) ?_
    refine lv_iconst (v := (nI 5)) hx hb dL_law_753 (by decide) ?_
    refine nv_iadd hx hb dL_law_754 ?_
    refine va_sld hx hb hX hbl hbA hS (nv_in (by omega) (by omega)) dL_law_755 ?_
    rw [nI_clamp (by omega)]
    refine lv_i2l (v := (xs (i + 5)).toInt64) hx hb dL_law_756 rfl ?_
    refine lv_bipush (v := (nI 32)) hx hb dL_law_757 (by decide) ?_
    refine lv_lshl (v := (xs (i + 5)).toInt64 <<< ((nI 32).toInt64 &&& 63)) hx hb dL_law_759 rfl ?_
    refine lv_aload_n hx hb dL_law_760 rfl (lv_at hl 5 rfl) ?_
    refine lv_iload hx hb dL_law_761 (lv_at hl 1 rfl) ?_
    refine lv_bipush (v := (nI 6)) hx hb dL_law_763 (by decide) ?_
    refine nv_iadd hx hb dL_law_765 ?_
    refine va_sld hx hb hX hbl hbA hS (nv_in (by omega) (by omega)) dL_law_766 ?_
    rw [nI_clamp (by omega)]
    refine lv_i2l (v := (xs (i + 6)).toInt64) hx hb dL_law_767 rfl ?_
    refine lv_ldc2 (v := lN 4294967295) hx hb hown (ht _ kv_L_97) dL_law_768 ?_
    refine lv_land hx hb dL_law_771 ?_
    refine lx_lor (v := (lx_lg (xs (i + 5)) (xs (i + 6)))) hx hb dL_law_772 rfl ?_
    refine lv_aload_n hx hb dL_law_773 rfl (lv_at hl 5 rfl) ?_
    refine lv_iload hx hb dL_law_774 (lv_at hl 1 rfl) ?_
    refine lv_bipush (v := (nI 7)) hx hb dL_law_776 (by decide) ?_
    refine nv_iadd hx hb dL_law_778 ?_
    refine va_sld hx hb hX hbl hbA hS (nv_in (by omega) (by omega)) dL_law_779 ?_
    rw [nI_clamp (by omega)]
    have hP := wp_P (List.perm_append_comm_assoc _ _ _) hP
    have hD := wp_D (List.perm_append_comm_assoc _ _ _) hD
    have hP : va_P D vwCl ((lw_M m0 mx my mr mb cA k th sx sy fx fy fm fb) ++ ((lw_U d0 dc dr h0 ai ar af ap ah ac ou cA cL k hk rg fi fr ff fp fh fn fo) ++ ((dc, .inl (cQ, 5, .inr (.inr (.inr (.inr F))))) :: oth))) H := hP
    have hD : va_D (fun q => s.heap.size ≤ q) ((lw_M m0 mx my mr mb cA k th sx sy fx fy fm fb) ++ ((lw_U d0 dc dr h0 ai ar af ap ah ac ou cA cL k hk rg fi fr ff fp fh fn fo) ++ ((dc, .inl (cQ, 5, .inr (.inr (.inr (.inr F))))) :: oth))) := hD
    have hFc := wp_free hD hS hA
    refine va_calli (va_runV (As := [.int (xs (i + 1)), .long (lx_lg (xs (i + 2)) (xs (i + 3))), .int (xs (i + 4)), .long (lx_lg (xs (i + 5)) (xs (i + 6))), .int (xs (i + 7))]) (rest := []) ⟨hx, hb, hml, hown, ht⟩ (c_X2_bothR l D hk5 b1 H.size) (cwV 5 ht (tb_V kl_L_106 ki_X2_both ks_X2_both kn_X2 kc_X2_both) rfl rfl rfl ⟨rfl, kd_X2_both⟩ ⟨Nat.le_of_ble_eq_true rfl, Nat.le_of_ble_eq_true rfl⟩) (wd_preV _ (wp_Pl hP) (hK.sub (tys' := [(cA, .int)]) [0] rfl) (wp_Dl hD) (va_recv (ci := 2) (q0 := 0) hK hP rfl rfl)) rfl rfl hl.1 rfl (lv_room (Nat.le_of_ble_eq_true rfl)) dL_law_780 ⟨by show 20 + lx_n F + i + 1 + 0 ≤ 601024; omega, by show 9000 + lx_c F + 6 * i + 6 + 0 ≤ 7293033; omega⟩) hS (fun q _ h => hFc q h) hFc (fun r8 u8 t8 H locs ht8 hvm8 hw8 hB8 hz8 hk8 hS => ?_)
    obtain ⟨hP1, hK1, hD1⟩ := hB8
    rw [ht8] at hP1
    obtain ⟨hP, hD⟩ := wp_join hP hD hk8 hFc hP1 hD1
    have hP : va_P D vwCl ((lw_M m0 mx my mr mb cA k (nI 1) sx sy fx fy fm fb) ++ ((lw_U d0 dc dr h0 ai ar af ap ah ac ou cA cL k hk rg fi fr ff fp fh fn fo) ++ ((dc, .inl (cQ, 5, .inr (.inr (.inr (.inr F))))) :: oth))) H := hP
    have hD : va_D (fun q => s.heap.size ≤ q) ((lw_M m0 mx my mr mb cA k (nI 1) sx sy fx fy fm fb) ++ ((lw_U d0 dc dr h0 ai ar af ap ah ac ou cA cL k hk rg fi fr ff fp fh fn fo) ++ ((dc, .inl (cQ, 5, .inr (.inr (.inr (.inr F))))) :: oth))) := hD
    subst hw8
    refine lv_istore hx hb dL_law_783 hl (by decide) rfl (fun ls hl => ?_)
    have hl : lv_has ls 8 [(6, .int 0), (5, .int (nI 1)), (4, .int (nI i)), (3, .ref ou), (2, .ref m0), (1, .ref d0), (0, .ref b)] := hl
    refine lv_aload_n hx hb dL_law_785 rfl (lv_at hl 4 rfl) ?_
    refine vp_callSi (W.runV (As := []) (rest := []) ⟨hx, hb, hml, hown, ht⟩ (c_X2_thrown l D hk5) (cwV 0 ht (tb_V kl_L_74 ki_X2_thrown ks_X2_thrown kn_X2 kc_X2_thrown) rfl rfl rfl ⟨rfl, kd_X2_thrown⟩ ⟨Nat.le_of_ble_eq_true rfl, Nat.le_of_ble_eq_true rfl⟩) (ro_preV _ ((wp_Pl hP).sub (ws' := [(m0, .inr (2, [.int (nI 1), .int (nI k), .int (nI (tw_P k)), .int (nI (tw_D k)), .int (nI (tw_I k)), .ref mx, .ref my, .ref mr, .ref mb, .int sx, .int sy]))]) [0] rfl) (hK.sub (tys' := []) [] rfl) (va_recv (ci := 2) (q0 := 0) hK hP rfl rfl)) rfl rfl hl.1 rfl (lv_room (Nat.le_of_ble_eq_true rfl)) dL_law_786 ⟨by show 20 + lx_n F + i + 1 + 0 + 0 ≤ 601024; omega, by show 9000 + lx_c F + 6 * i + 6 + 0 + 0 ≤ 7293033; omega⟩) (fun r hr9 => ?_)
    subst hr9
    refine lv_iload hx hb dL_law_789 (lv_at hl 1 rfl) ?_
    refine lv_icmp_eq (tgt := 796) hx hb dL_law_791 (by decide) (fun _ => ?_) (fun c9 => absurd rfl c9)
    refine lv_iload hx hb dL_law_796 (lv_at hl 1 rfl) ?_
    refine lv_if_ne (tgt := 813) hx hb dL_law_798 (by decide) (fun _ => ?_) (fun c9 => absurd c9 (by decide))
    refine lv_goto (tgt := 1269) hx hb dL_law_813 (by decide) ?_
    have hP := wp_P (List.perm_append_comm_assoc _ _ _) hP
    have hD := wp_D (List.perm_append_comm_assoc _ _ _) hD
    have hP : va_P D vwCl ((lw_U d0 dc dr h0 ai ar af ap ah ac ou cA cL k hk rg fi fr ff fp fh fn fo) ++ ((lw_M m0 mx my mr mb cA k (nI 1) sx sy fx fy fm fb) ++ ((dc, .inl (cQ, 5, .inr (.inr (.inr (.inr F))))) :: oth))) H := hP
    have hD : va_D (fun q => s.heap.size ≤ q) ((lw_U d0 dc dr h0 ai ar af ap ah ac ou cA cL k hk rg fi fr ff fp fh fn fo) ++ ((lw_M m0 mx my mr mb cA k (nI 1) sx sy fx fy fm fb) ++ ((dc, .inl (cQ, 5, .inr (.inr (.inr (.inr F))))) :: oth))) := hD
    refine W.widen (k := 20 + lx_n F + (i + 8)) (n := 9000 + lx_c F + 6 * (i + 8)) (by omega) (by omega) ?_
    exact kk F H locs ls (lv_sub hl [2, 3, 4, 5, 6] rfl) (lx_mk hP hD ⟨hk5, hF, hok, hhv, hrg, hR, hfm, hB, hO⟩) hS
  · obtain ⟨j, hj, e1⟩ := md_good (fun q => b1 (Or.inl q))
    obtain ⟨j2, hj2, e2⟩ := md_good (fun q => b1 (Or.inr (Or.inl q)))
    obtain ⟨j3, hj3, e3⟩ := md_good (fun q => b1 (Or.inr (Or.inr q)))
    have hon : tw_on (tw_P k) (tw_D k) (tw_add (tw_P k) (tw_D k) (tw_mu (tw_P k) (tw_D k) ((lx_lg (xs (i + 2)) (xs (i + 3))).toInt % (tw_N k : Int)).toNat (R j2)) (tw_mu (tw_P k) (tw_D k) ((lx_lg (xs (i + 5)) (xs (i + 6))).toInt % (tw_N k : Int)).toNat (R j3))) := tw_clo hK0 (tw_mu_on hK0 (hrg j2 hj2).1 _) (tw_mu_on hK0 (hrg j3 hj3).1 _)
    refine lv_aload_n hx hb dL_law_644 rfl (lv_at hl 3 rfl) ?_
    refine lv_aload_n hx hb dL_law_645 rfl (lv_at hl 4 rfl) ?_
    refine lv_iload hx hb dL_law_646 (lv_at hl 0 rfl) ?_
    refine lv_iconst (v := (nI 1)) hx hb dL_law_648 (by decide) ?_
    refine nv_iadd hx hb dL_law_649 ?_
    refine va_sld hx hb hX hbl hbA hS (nv_in (by omega) (by omega)) dL_law_650 ?_
    rw [nI_clamp (by omega)]
    rw [e1]
    refine lv_aload_n hx hb dL_law_651 rfl (lv_at hl 4 rfl) ?_
    refine lv_iload hx hb dL_law_652 (lv_at hl 0 rfl) ?_
    refine lv_iconst (v := (nI 2)) hx hb dL_law_654 (by decide) ?_
    refine nv_iadd hx hb dL_law_655 ?_
    refine va_sld hx hb hX hbl hbA hS (nv_in (by omega) (by omega)) dL_law_656 ?_
    rw [nI_clamp (by omega)]
    refine lv_i2l (v := (xs (i + 2)).toInt64) hx hb dL_law_657 rfl ?_
    refine lv_bipush (v := (nI 32)) hx hb dL_law_658 (by decide) ?_
    refine lv_lshl (v := (xs (i + 2)).toInt64 <<< ((nI 32).toInt64 &&& 63)) hx hb dL_law_660 rfl ?_
    refine lv_aload_n hx hb dL_law_661 rfl (lv_at hl 4 rfl) ?_
    refine lv_iload hx hb dL_law_662 (lv_at hl 0 rfl) ?_
    refine lv_iconst (v := (nI 3)) hx hb dL_law_664 (by decide) ?_
    refine nv_iadd hx hb dL_law_665 ?_
    refine va_sld hx hb hX hbl hbA hS (nv_in (by omega) (by omega)) dL_law_666 ?_
    rw [nI_clamp (by omega)]
    refine lv_i2l (v := (xs (i + 3)).toInt64) hx hb dL_law_667 rfl ?_
    refine lv_ldc2 (v := lN 4294967295) hx hb hown (ht _ kv_L_97) dL_law_668 ?_
    refine lv_land hx hb dL_law_671 ?_
    refine lx_lor (v := (lx_lg (xs (i + 2)) (xs (i + 3)))) hx hb dL_law_672 rfl ?_
    refine lv_aload_n hx hb dL_law_673 rfl (lv_at hl 4 rfl) ?_
    refine lv_iload hx hb dL_law_674 (lv_at hl 0 rfl) ?_
    refine lv_iconst (v := (nI 4)) hx hb dL_law_676 (by decide) ?_
    refine nv_iadd hx hb dL_law_677 ?_
    refine va_sld hx hb hX hbl hbA hS (nv_in (by omega) (by omega)) dL_law_678 ?_
    rw [nI_clamp (by omega)]
    rw [e2]
    refine lv_aload_n hx hb dL_law_679 rfl (lv_at hl 4 rfl) ?_
    refine lv_iload hx hb dL_law_680 (lv_at hl 0 rfl) ?_
    refine lv_iconst (v := (nI 5)) hx hb dL_law_682 (by decide) ?_
    refine nv_iadd hx hb dL_law_683 ?_
    refine va_sld hx hb hX hbl hbA hS (nv_in (by omega) (by omega)) dL_law_684 ?_
    rw [nI_clamp (by omega)]
    refine lv_i2l (v := (xs (i + 5)).toInt64) hx hb dL_law_685 rfl ?_
    refine lv_bipush (v := (nI 32)) hx hb dL_law_686 (by decide) ?_
    refine lv_lshl (v := (xs (i + 5)).toInt64 <<< ((nI 32).toInt64 &&& 63)) hx hb dL_law_688 rfl ?_
    refine lv_aload_n hx hb dL_law_689 rfl (lv_at hl 4 rfl) ?_
    refine lv_iload hx hb dL_law_690 (lv_at hl 0 rfl) ?_
    refine lv_bipush (v := (nI 6)) hx hb dL_law_692 (by decide) ?_
    refine nv_iadd hx hb dL_law_694 ?_
    refine va_sld hx hb hX hbl hbA hS (nv_in (by omega) (by omega)) dL_law_695 ?_
    rw [nI_clamp (by omega)]
    refine lv_i2l (v := (xs (i + 6)).toInt64) hx hb dL_law_696 rfl ?_
    refine lv_ldc2 (v := lN 4294967295) hx hb hown (ht _ kv_L_97) dL_law_697 ?_
    refine lv_land hx hb dL_law_700 ?_
    refine lx_lor (v := (lx_lg (xs (i + 5)) (xs (i + 6)))) hx hb dL_law_701 rfl ?_
    refine lv_aload_n hx hb dL_law_702 rfl (lv_at hl 4 rfl) ?_
    refine lv_iload hx hb dL_law_703 (lv_at hl 0 rfl) ?_
    refine lv_bipush (v := (nI 7)) hx hb dL_law_705 (by decide) ?_
    refine nv_iadd hx hb dL_law_707 ?_
    refine va_sld hx hb hX hbl hbA hS (nv_in (by omega) (by omega)) dL_law_708 ?_
    rw [nI_clamp (by omega)]
    rw [e3]
    refine lv_aload_n hx hb dL_law_709 rfl (lv_at hl 1 rfl) ?_
    have hFc := wp_free hD hS hA
    refine va_calli (vx_runSW (As := [.ref d0, .int (nI j), .long (lx_lg (xs (i + 2)) (xs (i + 3))), .int (nI j2), .long (lx_lg (xs (i + 5)) (xs (i + 6))), .int (nI j3), .ref ou]) (rest := []) ⟨hx, hb, hml, hown, ht⟩ (c_L_both l D hk5 hok hrg hj hj2 hj3 (lx_lg (xs (i + 2)) (xs (i + 3))) (lx_lg (xs (i + 5)) (xs (i + 6))) H.size) (vx_cwSW 7 ht (tb_S kl_L_103 kt_L_both kn_L kc_L_both) rfl rfl rfl kd_L_both ⟨Nat.le_of_ble_eq_true rfl, Nat.le_of_ble_eq_true rfl⟩) (wd_preS _ (wp_Pl hP) (hK.sub (tys' := [(cA, .int), (cL, .long)]) [0, 2] rfl) (wp_Dl hD)) rfl rfl hl.1 rfl (lv_room (Nat.le_of_ble_eq_true rfl)) dL_law_710 ⟨by show 20 + lx_n F + i + 0 ≤ 601024; omega, by show 9000 + lx_c F + 6 * i + 0 ≤ 7293033; omega⟩) hS (fun q _ h => hFc q h) hFc (fun r9 u9 t9 H locs ht9 hvm9 hw9 hB9 hz9 hk9 hS => ?_)
    obtain ⟨hP1, hK1, hD1⟩ := hB9
    rw [ht9] at hP1
    obtain ⟨hP, hD⟩ := wp_join hP hD hk9 hFc hP1 hD1
    obtain ⟨e9, q9, w9⟩ := hw9
    subst e9
    rw [q9] at hP hD
    have hP : va_P D vwCl ((lw_U d0 dc dr h0 ai ar af ap ah ac ou cA cL k hk (upd rg j (nI (tw_en (tw_add (tw_P k) (tw_D k) (tw_mu (tw_P k) (tw_D k) ((lx_lg (xs (i + 2)) (xs (i + 3))).toInt % (tw_N k : Int)).toNat (R j2)) (tw_mu (tw_P k) (tw_D k) ((lx_lg (xs (i + 5)) (xs (i + 6))).toInt % (tw_N k : Int)).toNat (R j3)))))) fi fr ff fp fh fn u9.2) ++ ((lw_M m0 mx my mr mb cA k th sx sy fx fy fm fb) ++ ((dc, .inl (cQ, 5, .inr (.inr (.inr (.inr F))))) :: oth))) H := hP
    have hD : va_D (fun q => s.heap.size ≤ q) ((lw_U d0 dc dr h0 ai ar af ap ah ac ou cA cL k hk (upd rg j (nI (tw_en (tw_add (tw_P k) (tw_D k) (tw_mu (tw_P k) (tw_D k) ((lx_lg (xs (i + 2)) (xs (i + 3))).toInt % (tw_N k : Int)).toNat (R j2)) (tw_mu (tw_P k) (tw_D k) ((lx_lg (xs (i + 5)) (xs (i + 6))).toInt % (tw_N k : Int)).toNat (R j3)))))) fi fr ff fp fh fn u9.2) ++ ((lw_M m0 mx my mr mb cA k th sx sy fx fy fm fb) ++ ((dc, .inl (cQ, 5, .inr (.inr (.inr (.inr F))))) :: oth))) := hD
    refine lv_istore hx hb dL_law_713 hl (by decide) rfl (fun ls hl => ?_)
    have hl : lv_has ls 8 [(5, .int (nI 0)), (4, .int (nI i)), (3, .ref ou), (2, .ref m0), (1, .ref d0), (0, .ref b)] := hl
    refine lv_aload_n hx hb dL_law_715 rfl (lv_at hl 3 rfl) ?_
    refine lv_aload_n hx hb dL_law_716 rfl (lv_at hl 5 rfl) ?_
    refine lv_iload hx hb dL_law_717 (lv_at hl 1 rfl) ?_
    refine lv_iconst (v := (nI 1)) hx hb dL_law_719 (by decide) ?_
    refine nv_iadd hx hb dL_law_720 ?_
    refine va_sld hx hb hX hbl hbA hS (nv_in (by omega) (by omega)) dL_law_721 ?_
    rw [nI_clamp (by omega)]
    rw [e1]
    refine lv_aload_n hx hb dL_law_722 rfl (lv_at hl 5 rfl) ?_
    refine lv_iload hx hb dL_law_723 (lv_at hl 1 rfl) ?_
    refine lv_iconst (v := (nI 2)) hx hb dL_law_725 (by decide) ?_
    refine nv_iadd hx hb dL_law_726 ?_
    refine va_sld hx hb hX hbl hbA hS (nv_in (by omega) (by omega)) dL_law_727 ?_
    rw [nI_clamp (by omega)]
    refine lv_i2l (v := (xs (i + 2)).toInt64) hx hb dL_law_728 rfl ?_
    refine lv_bipush (v := (nI 32)) hx hb dL_law_729 (by decide) ?_
    refine lv_lshl (v := (xs (i + 2)).toInt64 <<< ((nI 32).toInt64 &&& 63)) hx hb dL_law_731 rfl ?_
    refine lv_aload_n hx hb dL_law_732 rfl (lv_at hl 5 rfl) ?_
    refine lv_iload hx hb dL_law_733 (lv_at hl 1 rfl) ?_
    refine lv_iconst (v := (nI 3)) hx hb dL_law_735 (by decide) ?_
    refine nv_iadd hx hb dL_law_736 ?_
    refine va_sld hx hb hX hbl hbA hS (nv_in (by omega) (by omega)) dL_law_737 ?_
    rw [nI_clamp (by omega)]
    refine lv_i2l (v := (xs (i + 3)).toInt64) hx hb dL_law_738 rfl ?_
    refine lv_ldc2 (v := lN 4294967295) hx hb hown (ht _ kv_L_97) dL_law_739 ?_
    refine lv_land hx hb dL_law_742 ?_
    refine lx_lor (v := (lx_lg (xs (i + 2)) (xs (i + 3)))) hx hb dL_law_743 rfl ?_
    refine lv_aload_n hx hb dL_law_744 rfl (lv_at hl 5 rfl) ?_
    refine lv_iload hx hb dL_law_745 (lv_at hl 1 rfl) ?_
    refine lv_iconst (v := (nI 4)) hx hb dL_law_747 (by decide) ?_
    refine nv_iadd hx hb dL_law_748 ?_
    refine va_sld hx hb hX hbl hbA hS (nv_in (by omega) (by omega)) dL_law_749 ?_
    rw [nI_clamp (by omega)]
    rw [e2]
    refine lv_aload_n hx hb dL_law_750 rfl (lv_at hl 5 rfl) ?_
    refine lv_iload hx hb dL_law_751 (lv_at hl 1 rfl) ?_
    refine lv_iconst (v := (nI 5)) hx hb dL_law_753 (by decide) ?_
    refine nv_iadd hx hb dL_law_754 ?_
    refine va_sld hx hb hX hbl hbA hS (nv_in (by omega) (by omega)) dL_law_755 ?_
    rw [nI_clamp (by omega)]
    refine lv_i2l (v := (xs (i + 5)).toInt64) hx hb dL_law_756 rfl ?_
    refine lv_bipush (v := (nI 32)) hx hb dL_law_757 (by decide) ?_
    refine lv_lshl (v := (xs (i + 5)).toInt64 <<< ((nI 32).toInt64 &&& 63)) hx hb dL_law_759 rfl ?_
    refine lv_aload_n hx hb dL_law_760 rfl (lv_at hl 5 rfl) ?_
    refine lv_iload hx hb dL_law_761 (lv_at hl 1 rfl) ?_
    refine lv_bipush (v := (nI 6)) hx hb dL_law_763 (by decide) ?_
    refine nv_iadd hx hb dL_law_765 ?_
    refine va_sld hx hb hX hbl hbA hS (nv_in (by omega) (by omega)) dL_law_766 ?_
    rw [nI_clamp (by omega)]
    refine lv_i2l (v := (xs (i + 6)).toInt64) hx hb dL_law_767 rfl ?_
    refine lv_ldc2 (v := lN 4294967295) hx hb hown (ht _ kv_L_97) dL_law_768 ?_
    refine lv_land hx hb dL_law_771 ?_
    refine lx_lor (v := (lx_lg (xs (i + 5)) (xs (i + 6)))) hx hb dL_law_772 rfl ?_
    refine lv_aload_n hx hb dL_law_773 rfl (lv_at hl 5 rfl) ?_
    refine lv_iload hx hb dL_law_774 (lv_at hl 1 rfl) ?_
    refine lv_bipush (v := (nI 7)) hx hb dL_law_776 (by decide) ?_
    refine nv_iadd hx hb dL_law_778 ?_
    refine va_sld hx hb hX hbl hbA hS (nv_in (by omega) (by omega)) dL_law_779 ?_
    rw [nI_clamp (by omega)]
    rw [e3]
    have hP := wp_P (List.perm_append_comm_assoc _ _ _) hP
    have hD := wp_D (List.perm_append_comm_assoc _ _ _) hD
    have hP : va_P D vwCl ((lw_M m0 mx my mr mb cA k th sx sy fx fy fm fb) ++ ((lw_U d0 dc dr h0 ai ar af ap ah ac ou cA cL k hk (upd rg j (nI (tw_en (tw_add (tw_P k) (tw_D k) (tw_mu (tw_P k) (tw_D k) ((lx_lg (xs (i + 2)) (xs (i + 3))).toInt % (tw_N k : Int)).toNat (R j2)) (tw_mu (tw_P k) (tw_D k) ((lx_lg (xs (i + 5)) (xs (i + 6))).toInt % (tw_N k : Int)).toNat (R j3)))))) fi fr ff fp fh fn u9.2) ++ ((dc, .inl (cQ, 5, .inr (.inr (.inr (.inr F))))) :: oth))) H := hP
    have hD : va_D (fun q => s.heap.size ≤ q) ((lw_M m0 mx my mr mb cA k th sx sy fx fy fm fb) ++ ((lw_U d0 dc dr h0 ai ar af ap ah ac ou cA cL k hk (upd rg j (nI (tw_en (tw_add (tw_P k) (tw_D k) (tw_mu (tw_P k) (tw_D k) ((lx_lg (xs (i + 2)) (xs (i + 3))).toInt % (tw_N k : Int)).toNat (R j2)) (tw_mu (tw_P k) (tw_D k) ((lx_lg (xs (i + 5)) (xs (i + 6))).toInt % (tw_N k : Int)).toNat (R j3)))))) fi fr ff fp fh fn u9.2) ++ ((dc, .inl (cQ, 5, .inr (.inr (.inr (.inr F))))) :: oth))) := hD
    have hFc := wp_free hD hS hA
    refine va_calli (va_runV (As := [.int (nI j), .long (lx_lg (xs (i + 2)) (xs (i + 3))), .int (nI j2), .long (lx_lg (xs (i + 5)) (xs (i + 6))), .int (nI j3)]) (rest := []) ⟨hx, hb, hml, hown, ht⟩ (c_X2_both l D hk5 hfm hR hj hj2 hj3 (lx_lg (xs (i + 2)) (xs (i + 3))) (lx_lg (xs (i + 5)) (xs (i + 6))) H.size) (cwV 5 ht (tb_V kl_L_106 ki_X2_both ks_X2_both kn_X2 kc_X2_both) rfl rfl rfl ⟨rfl, kd_X2_both⟩ ⟨Nat.le_of_ble_eq_true rfl, Nat.le_of_ble_eq_true rfl⟩) (wd_preV _ (wp_Pl hP) (hK.sub (tys' := [(cA, .int)]) [0] rfl) (wp_Dl hD) (va_recv (ci := 2) (q0 := 0) hK hP rfl rfl)) rfl rfl hl.1 rfl (lv_room (Nat.le_of_ble_eq_true rfl)) dL_law_780 ⟨by show 20 + lx_n F + i + 0 + 0 ≤ 601024; omega, by show 9000 + lx_c F + 6 * i + 0 + 0 ≤ 7293033; omega⟩) hS (fun q _ h => hFc q h) hFc (fun r8 u8 t8 H locs ht8 hvm8 hw8 hB8 hz8 hk8 hS => ?_)
    obtain ⟨hP1, hK1, hD1⟩ := hB8
    rw [ht8] at hP1
    obtain ⟨hP, hD⟩ := wp_join hP hD hk8 hFc hP1 hD1
    have hP : va_P D vwCl ((lw_M m0 mx my mr mb cA k (nI 0) (nI (tw_add (tw_P k) (tw_D k) (tw_mu (tw_P k) (tw_D k) ((lx_lg (xs (i + 2)) (xs (i + 3))).toInt % (tw_N k : Int)).toNat (R j2)) (tw_mu (tw_P k) (tw_D k) ((lx_lg (xs (i + 5)) (xs (i + 6))).toInt % (tw_N k : Int)).toNat (R j3))).1) (nI (tw_add (tw_P k) (tw_D k) (tw_mu (tw_P k) (tw_D k) ((lx_lg (xs (i + 2)) (xs (i + 3))).toInt % (tw_N k : Int)).toNat (R j2)) (tw_mu (tw_P k) (tw_D k) ((lx_lg (xs (i + 5)) (xs (i + 6))).toInt % (tw_N k : Int)).toNat (R j3))).2) (upd fx j (nI (tw_add (tw_P k) (tw_D k) (tw_mu (tw_P k) (tw_D k) ((lx_lg (xs (i + 2)) (xs (i + 3))).toInt % (tw_N k : Int)).toNat (R j2)) (tw_mu (tw_P k) (tw_D k) ((lx_lg (xs (i + 5)) (xs (i + 6))).toInt % (tw_N k : Int)).toNat (R j3))).1)) (upd fy j (nI (tw_add (tw_P k) (tw_D k) (tw_mu (tw_P k) (tw_D k) ((lx_lg (xs (i + 2)) (xs (i + 3))).toInt % (tw_N k : Int)).toNat (R j2)) (tw_mu (tw_P k) (tw_D k) ((lx_lg (xs (i + 5)) (xs (i + 6))).toInt % (tw_N k : Int)).toNat (R j3))).2)) fm fb) ++ ((lw_U d0 dc dr h0 ai ar af ap ah ac ou cA cL k hk (upd rg j (nI (tw_en (tw_add (tw_P k) (tw_D k) (tw_mu (tw_P k) (tw_D k) ((lx_lg (xs (i + 2)) (xs (i + 3))).toInt % (tw_N k : Int)).toNat (R j2)) (tw_mu (tw_P k) (tw_D k) ((lx_lg (xs (i + 5)) (xs (i + 6))).toInt % (tw_N k : Int)).toNat (R j3)))))) fi fr ff fp fh fn u9.2) ++ ((dc, .inl (cQ, 5, .inr (.inr (.inr (.inr F))))) :: oth))) H := hP
    have hD : va_D (fun q => s.heap.size ≤ q) ((lw_M m0 mx my mr mb cA k (nI 0) (nI (tw_add (tw_P k) (tw_D k) (tw_mu (tw_P k) (tw_D k) ((lx_lg (xs (i + 2)) (xs (i + 3))).toInt % (tw_N k : Int)).toNat (R j2)) (tw_mu (tw_P k) (tw_D k) ((lx_lg (xs (i + 5)) (xs (i + 6))).toInt % (tw_N k : Int)).toNat (R j3))).1) (nI (tw_add (tw_P k) (tw_D k) (tw_mu (tw_P k) (tw_D k) ((lx_lg (xs (i + 2)) (xs (i + 3))).toInt % (tw_N k : Int)).toNat (R j2)) (tw_mu (tw_P k) (tw_D k) ((lx_lg (xs (i + 5)) (xs (i + 6))).toInt % (tw_N k : Int)).toNat (R j3))).2) (upd fx j (nI (tw_add (tw_P k) (tw_D k) (tw_mu (tw_P k) (tw_D k) ((lx_lg (xs (i + 2)) (xs (i + 3))).toInt % (tw_N k : Int)).toNat (R j2)) (tw_mu (tw_P k) (tw_D k) ((lx_lg (xs (i + 5)) (xs (i + 6))).toInt % (tw_N k : Int)).toNat (R j3))).1)) (upd fy j (nI (tw_add (tw_P k) (tw_D k) (tw_mu (tw_P k) (tw_D k) ((lx_lg (xs (i + 2)) (xs (i + 3))).toInt % (tw_N k : Int)).toNat (R j2)) (tw_mu (tw_P k) (tw_D k) ((lx_lg (xs (i + 5)) (xs (i + 6))).toInt % (tw_N k : Int)).toNat (R j3))).2)) fm fb) ++ ((lw_U d0 dc dr h0 ai ar af ap ah ac ou cA cL k hk (upd rg j (nI (tw_en (tw_add (tw_P k) (tw_D k) (tw_mu (tw_P k) (tw_D k) ((lx_lg (xs (i + 2)) (xs (i + 3))).toInt % (tw_N k : Int)).toNat (R j2)) (tw_mu (tw_P k) (tw_D k) ((lx_lg (xs (i + 5)) (xs (i + 6))).toInt % (tw_N k : Int)).toNat (R j3)))))) fi fr ff fp fh fn u9.2) ++ ((dc, .inl (cQ, 5, .inr (.inr (.inr (.inr F))))) :: oth))) := hD
    subst hw8
    refine lv_istore hx hb dL_law_783 hl (by decide) rfl (fun ls hl => ?_)
    have hl : lv_has ls 8 [(6, .int (nI (tw_pk (tw_add (tw_P k) (tw_D k) (tw_mu (tw_P k) (tw_D k) ((lx_lg (xs (i + 2)) (xs (i + 3))).toInt % (tw_N k : Int)).toNat (R j2)) (tw_mu (tw_P k) (tw_D k) ((lx_lg (xs (i + 5)) (xs (i + 6))).toInt % (tw_N k : Int)).toNat (R j3)))))), (5, .int (nI 0)), (4, .int (nI i)), (3, .ref ou), (2, .ref m0), (1, .ref d0), (0, .ref b)] := hl
    refine lv_aload_n hx hb dL_law_785 rfl (lv_at hl 4 rfl) ?_
    refine vp_callSi (W.runV (As := []) (rest := []) ⟨hx, hb, hml, hown, ht⟩ (c_X2_thrown l D hk5) (cwV 0 ht (tb_V kl_L_74 ki_X2_thrown ks_X2_thrown kn_X2 kc_X2_thrown) rfl rfl rfl ⟨rfl, kd_X2_thrown⟩ ⟨Nat.le_of_ble_eq_true rfl, Nat.le_of_ble_eq_true rfl⟩) (ro_preV _ ((wp_Pl hP).sub (ws' := [(m0, .inr (2, [.int (nI 0), .int (nI k), .int (nI (tw_P k)), .int (nI (tw_D k)), .int (nI (tw_I k)), .ref mx, .ref my, .ref mr, .ref mb, .int (nI (tw_add (tw_P k) (tw_D k) (tw_mu (tw_P k) (tw_D k) ((lx_lg (xs (i + 2)) (xs (i + 3))).toInt % (tw_N k : Int)).toNat (R j2)) (tw_mu (tw_P k) (tw_D k) ((lx_lg (xs (i + 5)) (xs (i + 6))).toInt % (tw_N k : Int)).toNat (R j3))).1), .int (nI (tw_add (tw_P k) (tw_D k) (tw_mu (tw_P k) (tw_D k) ((lx_lg (xs (i + 2)) (xs (i + 3))).toInt % (tw_N k : Int)).toNat (R j2)) (tw_mu (tw_P k) (tw_D k) ((lx_lg (xs (i + 5)) (xs (i + 6))).toInt % (tw_N k : Int)).toNat (R j3))).2)]))]) [0] rfl) (hK.sub (tys' := []) [] rfl) (va_recv (ci := 2) (q0 := 0) hK hP rfl rfl)) rfl rfl hl.1 rfl (lv_room (Nat.le_of_ble_eq_true rfl)) dL_law_786 ⟨by show 20 + lx_n F + i + 0 + 0 + 0 ≤ 601024; omega, by show 9000 + lx_c F + 6 * i + 0 + 0 + 0 ≤ 7293033; omega⟩) (fun r hr9 => ?_)
    subst hr9
    refine lv_iload hx hb dL_law_789 (lv_at hl 1 rfl) ?_
    refine lv_icmp_eq (tgt := 796) hx hb dL_law_791 (by decide) (fun _ => ?_) (fun c9 => absurd rfl c9)
    refine lv_iload hx hb dL_law_796 (lv_at hl 1 rfl) ?_
    refine lv_if_ne (tgt := 813) hx hb dL_law_798 (by decide) (fun c9 => absurd rfl c9) (fun _ => ?_)
    refine lv_aload_n hx hb dL_law_801 rfl (lv_at hl 3 rfl) ?_
    refine lv_iconst (v := (nI 0)) hx hb dL_law_802 (by decide) ?_
    have hP := wp_P (List.perm_append_comm_assoc _ _ _) hP
    have hD := wp_D (List.perm_append_comm_assoc _ _ _) hD
    have hP : va_P D vwCl ((lw_U d0 dc dr h0 ai ar af ap ah ac ou cA cL k hk (upd rg j (nI (tw_en (tw_add (tw_P k) (tw_D k) (tw_mu (tw_P k) (tw_D k) ((lx_lg (xs (i + 2)) (xs (i + 3))).toInt % (tw_N k : Int)).toNat (R j2)) (tw_mu (tw_P k) (tw_D k) ((lx_lg (xs (i + 5)) (xs (i + 6))).toInt % (tw_N k : Int)).toNat (R j3)))))) fi fr ff fp fh fn u9.2) ++ ((lw_M m0 mx my mr mb cA k (nI 0) (nI (tw_add (tw_P k) (tw_D k) (tw_mu (tw_P k) (tw_D k) ((lx_lg (xs (i + 2)) (xs (i + 3))).toInt % (tw_N k : Int)).toNat (R j2)) (tw_mu (tw_P k) (tw_D k) ((lx_lg (xs (i + 5)) (xs (i + 6))).toInt % (tw_N k : Int)).toNat (R j3))).1) (nI (tw_add (tw_P k) (tw_D k) (tw_mu (tw_P k) (tw_D k) ((lx_lg (xs (i + 2)) (xs (i + 3))).toInt % (tw_N k : Int)).toNat (R j2)) (tw_mu (tw_P k) (tw_D k) ((lx_lg (xs (i + 5)) (xs (i + 6))).toInt % (tw_N k : Int)).toNat (R j3))).2) (upd fx j (nI (tw_add (tw_P k) (tw_D k) (tw_mu (tw_P k) (tw_D k) ((lx_lg (xs (i + 2)) (xs (i + 3))).toInt % (tw_N k : Int)).toNat (R j2)) (tw_mu (tw_P k) (tw_D k) ((lx_lg (xs (i + 5)) (xs (i + 6))).toInt % (tw_N k : Int)).toNat (R j3))).1)) (upd fy j (nI (tw_add (tw_P k) (tw_D k) (tw_mu (tw_P k) (tw_D k) ((lx_lg (xs (i + 2)) (xs (i + 3))).toInt % (tw_N k : Int)).toNat (R j2)) (tw_mu (tw_P k) (tw_D k) ((lx_lg (xs (i + 5)) (xs (i + 6))).toInt % (tw_N k : Int)).toNat (R j3))).2)) fm fb) ++ ((dc, .inl (cQ, 5, .inr (.inr (.inr (.inr F))))) :: oth))) H := hP
    have hD : va_D (fun q => s.heap.size ≤ q) ((lw_U d0 dc dr h0 ai ar af ap ah ac ou cA cL k hk (upd rg j (nI (tw_en (tw_add (tw_P k) (tw_D k) (tw_mu (tw_P k) (tw_D k) ((lx_lg (xs (i + 2)) (xs (i + 3))).toInt % (tw_N k : Int)).toNat (R j2)) (tw_mu (tw_P k) (tw_D k) ((lx_lg (xs (i + 5)) (xs (i + 6))).toInt % (tw_N k : Int)).toNat (R j3)))))) fi fr ff fp fh fn u9.2) ++ ((lw_M m0 mx my mr mb cA k (nI 0) (nI (tw_add (tw_P k) (tw_D k) (tw_mu (tw_P k) (tw_D k) ((lx_lg (xs (i + 2)) (xs (i + 3))).toInt % (tw_N k : Int)).toNat (R j2)) (tw_mu (tw_P k) (tw_D k) ((lx_lg (xs (i + 5)) (xs (i + 6))).toInt % (tw_N k : Int)).toNat (R j3))).1) (nI (tw_add (tw_P k) (tw_D k) (tw_mu (tw_P k) (tw_D k) ((lx_lg (xs (i + 2)) (xs (i + 3))).toInt % (tw_N k : Int)).toNat (R j2)) (tw_mu (tw_P k) (tw_D k) ((lx_lg (xs (i + 5)) (xs (i + 6))).toInt % (tw_N k : Int)).toNat (R j3))).2) (upd fx j (nI (tw_add (tw_P k) (tw_D k) (tw_mu (tw_P k) (tw_D k) ((lx_lg (xs (i + 2)) (xs (i + 3))).toInt % (tw_N k : Int)).toNat (R j2)) (tw_mu (tw_P k) (tw_D k) ((lx_lg (xs (i + 5)) (xs (i + 6))).toInt % (tw_N k : Int)).toNat (R j3))).1)) (upd fy j (nI (tw_add (tw_P k) (tw_D k) (tw_mu (tw_P k) (tw_D k) ((lx_lg (xs (i + 2)) (xs (i + 3))).toInt % (tw_N k : Int)).toNat (R j2)) (tw_mu (tw_P k) (tw_D k) ((lx_lg (xs (i + 5)) (xs (i + 6))).toInt % (tw_N k : Int)).toNat (R j3))).2)) fm fb) ++ ((dc, .inl (cQ, 5, .inr (.inr (.inr (.inr F))))) :: oth))) := hD
    refine va_lald hx hb hK hP 9 2 rfl rfl (nv_in (a := 0) (n := 1) (by decide) (by decide)) dL_law_803 ?_
    rw [nI_clamp (n := 0) (by decide), w9]
    refine lv_iload hx hb dL_law_804 (lv_at hl 0 rfl) ?_
    refine lv_i2l (v := (nI (tw_pk (tw_add (tw_P k) (tw_D k) (tw_mu (tw_P k) (tw_D k) ((lx_lg (xs (i + 2)) (xs (i + 3))).toInt % (tw_N k : Int)).toNat (R j2)) (tw_mu (tw_P k) (tw_D k) ((lx_lg (xs (i + 5)) (xs (i + 6))).toInt % (tw_N k : Int)).toNat (R j3))))).toInt64) hx hb dL_law_806 rfl ?_
    refine lx_lcmp hx hb dL_law_807 ?_
    refine lv_if_eq (tgt := 813) hx hb dL_law_808 (by decide) (fun _ => ?_) (fun c9 => absurd rfl c9)
    refine lv_goto (tgt := 1269) hx hb dL_law_813 (by decide) ?_
    refine W.widen (k := 20 + lx_n F + (i + 8)) (n := 9000 + lx_c F + 6 * (i + 8)) (by omega) (by omega) ?_
    exact kk F H locs ls (lv_sub hl [2, 3, 4, 5, 6] rfl) (lx_mk hP hD ⟨hk5, hF, hok, hhv, lx_rg hon hrg, lx_rR hon hR, hfm, hB, hO⟩) hS
set_option maxHeartbeats 8000000 in
set_option maxRecDepth 100000 in
theorem lc_11 {p : Program} {l : Launch} {e : Env} {s : State} {m : MethodId} {below : List Frame} {meth : Method} {c : Code} {Q : State → Prop} {b L : Nat} {xs : Nat → Int32} {gs : Nat → Nat} {tp : Nat} {D : va_G} {d0 dc dr ou m0 mx my mr mb : Nat} {cA cQ cL : ClassId} (C : lx_C p l s m c b L xs gs tp D cA cQ cL) {i : Nat} (hi : i + 8 ≤ L) {F : Nat → Option Nat} {H : Heap} {locs : List Loc} {ls : Array Slot} (hl : lv_has ls 8 [(4, .int (nI i)), (3, .ref ou), (2, .ref m0), (1, .ref d0), (0, .ref b)]) (hI : lx_I D d0 dc dr ou m0 mx my mr mb cA cQ cL (fun q => s.heap.size ≤ q) F H) (hS : va_S (fun q => s.heap.size ≤ q) s.heap H locs) (kk : (∀ (F : Nat → Option Nat) (H : Heap) (locs : List Loc) (ls : Array Slot), lv_has ls 8 [(4, .int (nI i)), (3, .ref ou), (2, .ref m0), (1, .ref d0), (0, .ref b)] → lx_I D d0 dc dr ou m0 mx my mr mb cA cQ cL (fun q => s.heap.size ≤ q) F H → va_S (fun q => s.heap.size ≤ q) s.heap H locs → W p l e room_1 s m #[Value.ref b] below meth c H locs (20 + lx_n F + (i + 8)) (9000 + lx_c F + 6 * (i + 8)) Q (F0 m 1269 ls []))) : W p l e room_1 s m #[Value.ref b] below meth c H locs (20 + lx_n F + i) (9000 + lx_c F + 6 * i) Q (F0 m 898 ls []) := by
  obtain ⟨hx, hb, hml, hown, ht, hX, hbl, hZ, hT, hK, hL⟩ := C
  obtain ⟨k, R, h0, ai, ar, af, ap, ah, ac, hk, rg, fi, fr, ff, fp, fh, fn, fo, th, sx, sy, fx, fy, fm, fb, oth, hP, hD, hk5, hF, hok, hhv, hrg, hR, hfm, hB, hO⟩ := hI
  have hbA : ¬ s.heap.size ≤ b := Nat.not_le.mpr hbl
  have hA : ∀ q, s.heap.size ≤ q → s.heap.size ≤ q := fun _ h => h
  have zi : i ≤ 4088 := by omega
  have zn := lx_n_le F
  have zc := lx_c_le F
  have hK0 := tw_kK k hk5
  by_cases b1 : md_bad (xs (i + 1)) ∨ md_bad (xs (i + 2))
  · refine lv_aload_n hx hb dL_law_898 rfl (lv_at hl 3 rfl) ?_
    refine lv_aload_n hx hb dL_law_899 rfl (lv_at hl 4 rfl) ?_
    refine lv_iload hx hb dL_law_900 (lv_at hl 0 rfl) ?_
    refine lv_iconst (v := (nI 1)) hx hb dL_law_902 (by decide) ?_
    refine nv_iadd hx hb dL_law_903 ?_
    refine va_sld hx hb hX hbl hbA hS (nv_in (by omega) (by omega)) dL_law_904 ?_
    rw [nI_clamp (by omega)]
    refine lv_aload_n hx hb dL_law_905 rfl (lv_at hl 4 rfl) ?_
    refine lv_iload hx hb dL_law_906 (lv_at hl 0 rfl) ?_
    refine lv_iconst (v := (nI 2)) hx hb dL_law_908 (by decide) ?_
    refine nv_iadd hx hb dL_law_909 ?_
    refine va_sld hx hb hX hbl hbA hS (nv_in (by omega) (by omega)) dL_law_910 ?_
    rw [nI_clamp (by omega)]
    refine lv_aload_n hx hb dL_law_911 rfl (lv_at hl 1 rfl) ?_
    refine va_calli (vx_runSW (As := [.ref d0, .int (xs (i + 1)), .int (xs (i + 2)), .ref ou]) (rest := []) ⟨hx, hb, hml, hown, ht⟩ (c_L_logR l gs b1) (vx_cwSW 4 ht (tb_S kl_L_118 kt_L_log kn_L kc_L_log) rfl rfl rfl kd_L_log ⟨Nat.le_of_ble_eq_true rfl, Nat.le_of_ble_eq_true rfl⟩) (nx_preSR _ hZ hS (va_recv (ci := 1) (q0 := 0) hK hP rfl rfl)) rfl rfl hl.1 rfl (lv_room (Nat.le_of_ble_eq_true rfl)) dL_law_912 ⟨by show 20 + lx_n F + i + 1 ≤ 601024; omega, by show 9000 + lx_c F + 6 * i + 6 ≤ 7293033; omega⟩) hS (fun _ _ h => h.elim) (fun _ h => h.elim) (fun r9 u9 t9 H locs ht9 hvm9 hw9 hB9 hz9 hk9 hS => ?_)
    have hP := lx_kp hP hk9
    subst hw9
    have hP : va_P D vwCl ((lw_U d0 dc dr h0 ai ar af ap ah ac ou cA cL k hk rg fi fr ff fp fh fn fo) ++ ((lw_M m0 mx my mr mb cA k th sx sy fx fy fm fb) ++ ((dc, .inl (cQ, 5, .inr (.inr (.inr (.inr F))))) :: oth))) H := hP
    have hD : va_D (fun q => s.heap.size ≤ q) ((lw_U d0 dc dr h0 ai ar af ap ah ac ou cA cL k hk rg fi fr ff fp fh fn fo) ++ ((lw_M m0 mx my mr mb cA k th sx sy fx fy fm fb) ++ ((dc, .inl (cQ, 5, .inr (.inr (.inr (.inr F))))) :: oth))) := hD
    refine lv_istore hx hb dL_law_915 hl (by decide) rfl (fun ls hl => ?_)
    have hl : lv_has ls 8 [(5, .int (nI 1)), (4, .int (nI i)), (3, .ref ou), (2, .ref m0), (1, .ref d0), (0, .ref b)] := hl
    refine lv_aload_n hx hb dL_law_917 rfl (lv_at hl 3 rfl) ?_
    refine lv_aload_n hx hb dL_law_918 rfl (lv_at hl 5 rfl) ?_
    refine lv_iload hx hb dL_law_919 (lv_at hl 1 rfl) ?_
    refine lv_iconst (v := (nI 1)) hx hb dL_law_921 (by decide) ?_
    refine nv_iadd hx hb dL_law_922 ?_
    refine va_sld hx hb hX hbl hbA hS (nv_in (by omega) (by omega)) dL_law_923 ?_
    rw [nI_clamp (by omega)]
    refine lv_aload_n hx hb dL_law_924 rfl (lv_at hl 5 rfl) ?_
    refine lv_iload hx hb dL_law_925 (lv_at hl 1 rfl) ?_
    refine lv_iconst (v := (nI 2)) hx hb dL_law_927 (by decide) ?_
    refine nv_iadd hx hb dL_law_928 ?_
    refine va_sld hx hb hX hbl hbA hS (nv_in (by omega) (by omega)) dL_law_929 ?_
    rw [nI_clamp (by omega)]
    have hP := wp_P (List.perm_append_comm_assoc _ _ _) hP
    have hD := wp_D (List.perm_append_comm_assoc _ _ _) hD
    have hP : va_P D vwCl ((lw_M m0 mx my mr mb cA k th sx sy fx fy fm fb) ++ ((lw_U d0 dc dr h0 ai ar af ap ah ac ou cA cL k hk rg fi fr ff fp fh fn fo) ++ ((dc, .inl (cQ, 5, .inr (.inr (.inr (.inr F))))) :: oth))) H := hP
    have hD : va_D (fun q => s.heap.size ≤ q) ((lw_M m0 mx my mr mb cA k th sx sy fx fy fm fb) ++ ((lw_U d0 dc dr h0 ai ar af ap ah ac ou cA cL k hk rg fi fr ff fp fh fn fo) ++ ((dc, .inl (cQ, 5, .inr (.inr (.inr (.inr F))))) :: oth))) := hD
    have hFc := wp_free hD hS hA
    refine va_calli (va_runV (As := [.int (xs (i + 1)), .int (xs (i + 2))]) (rest := []) ⟨hx, hb, hml, hown, ht⟩ (c_X2_logR l D hk5 b1 H.size) (cwV 2 ht (tb_V kl_L_121 ki_X2_log ks_X2_log kn_X2 kc_X2_log) rfl rfl rfl ⟨rfl, kd_X2_log⟩ ⟨Nat.le_of_ble_eq_true rfl, Nat.le_of_ble_eq_true rfl⟩) (wd_preV _ (wp_Pl hP) (hK.sub (tys' := [(cA, .int)]) [0] rfl) (wp_Dl hD) (va_recv (ci := 2) (q0 := 0) hK hP rfl rfl)) rfl rfl hl.1 rfl (lv_room (Nat.le_of_ble_eq_true rfl)) dL_law_930 ⟨by show 20 + lx_n F + i + 1 + 0 ≤ 601024; omega, by show 9000 + lx_c F + 6 * i + 6 + 0 ≤ 7293033; omega⟩) hS (fun q _ h => hFc q h) hFc (fun r8 u8 t8 H locs ht8 hvm8 hw8 hB8 hz8 hk8 hS => ?_)
    obtain ⟨hP1, hK1, hD1⟩ := hB8
    rw [ht8] at hP1
    obtain ⟨hP, hD⟩ := wp_join hP hD hk8 hFc hP1 hD1
    have hP : va_P D vwCl ((lw_M m0 mx my mr mb cA k (nI 1) sx sy fx fy fm fb) ++ ((lw_U d0 dc dr h0 ai ar af ap ah ac ou cA cL k hk rg fi fr ff fp fh fn fo) ++ ((dc, .inl (cQ, 5, .inr (.inr (.inr (.inr F))))) :: oth))) H := hP
    have hD : va_D (fun q => s.heap.size ≤ q) ((lw_M m0 mx my mr mb cA k (nI 1) sx sy fx fy fm fb) ++ ((lw_U d0 dc dr h0 ai ar af ap ah ac ou cA cL k hk rg fi fr ff fp fh fn fo) ++ ((dc, .inl (cQ, 5, .inr (.inr (.inr (.inr F))))) :: oth))) := hD
    subst hw8
    refine lv_istore hx hb dL_law_933 hl (by decide) rfl (fun ls hl => ?_)
    have hl : lv_has ls 8 [(6, .int 0), (5, .int (nI 1)), (4, .int (nI i)), (3, .ref ou), (2, .ref m0), (1, .ref d0), (0, .ref b)] := hl
    refine lv_aload_n hx hb dL_law_935 rfl (lv_at hl 4 rfl) ?_
    refine vp_callSi (W.runV (As := []) (rest := []) ⟨hx, hb, hml, hown, ht⟩ (c_X2_thrown l D hk5) (cwV 0 ht (tb_V kl_L_74 ki_X2_thrown ks_X2_thrown kn_X2 kc_X2_thrown) rfl rfl rfl ⟨rfl, kd_X2_thrown⟩ ⟨Nat.le_of_ble_eq_true rfl, Nat.le_of_ble_eq_true rfl⟩) (ro_preV _ ((wp_Pl hP).sub (ws' := [(m0, .inr (2, [.int (nI 1), .int (nI k), .int (nI (tw_P k)), .int (nI (tw_D k)), .int (nI (tw_I k)), .ref mx, .ref my, .ref mr, .ref mb, .int sx, .int sy]))]) [0] rfl) (hK.sub (tys' := []) [] rfl) (va_recv (ci := 2) (q0 := 0) hK hP rfl rfl)) rfl rfl hl.1 rfl (lv_room (Nat.le_of_ble_eq_true rfl)) dL_law_936 ⟨by show 20 + lx_n F + i + 1 + 0 + 0 ≤ 601024; omega, by show 9000 + lx_c F + 6 * i + 6 + 0 + 0 ≤ 7293033; omega⟩) (fun r hr9 => ?_)
    subst hr9
    refine lv_iload hx hb dL_law_939 (lv_at hl 1 rfl) ?_
    refine lv_icmp_eq (tgt := 946) hx hb dL_law_941 (by decide) (fun _ => ?_) (fun c9 => absurd rfl c9)
    refine lv_iload hx hb dL_law_946 (lv_at hl 1 rfl) ?_
    refine lv_if_ne (tgt := 963) hx hb dL_law_948 (by decide) (fun _ => ?_) (fun c9 => absurd c9 (by decide))
    refine lv_goto (tgt := 1269) hx hb dL_law_963 (by decide) ?_
    have hP := wp_P (List.perm_append_comm_assoc _ _ _) hP
    have hD := wp_D (List.perm_append_comm_assoc _ _ _) hD
    have hP : va_P D vwCl ((lw_U d0 dc dr h0 ai ar af ap ah ac ou cA cL k hk rg fi fr ff fp fh fn fo) ++ ((lw_M m0 mx my mr mb cA k (nI 1) sx sy fx fy fm fb) ++ ((dc, .inl (cQ, 5, .inr (.inr (.inr (.inr F))))) :: oth))) H := hP
    have hD : va_D (fun q => s.heap.size ≤ q) ((lw_U d0 dc dr h0 ai ar af ap ah ac ou cA cL k hk rg fi fr ff fp fh fn fo) ++ ((lw_M m0 mx my mr mb cA k (nI 1) sx sy fx fy fm fb) ++ ((dc, .inl (cQ, 5, .inr (.inr (.inr (.inr F))))) :: oth))) := hD
    refine W.widen (k := 20 + lx_n F + (i + 8)) (n := 9000 + lx_c F + 6 * (i + 8)) (by omega) (by omega) ?_
    exact kk F H locs ls (lv_sub hl [2, 3, 4, 5, 6] rfl) (lx_mk hP hD ⟨hk5, hF, hok, hhv, hrg, hR, hfm, hB, hO⟩) hS
  · obtain ⟨j, hj, e1⟩ := md_good (fun q => b1 (Or.inl q))
    obtain ⟨j2, hj2, e2⟩ := md_good (fun q => b1 (Or.inr q))
    refine lv_aload_n hx hb dL_law_898 rfl (lv_at hl 3 rfl) ?_
    refine lv_aload_n hx hb dL_law_899 rfl (lv_at hl 4 rfl) ?_
    refine lv_iload hx hb dL_law_900 (lv_at hl 0 rfl) ?_
    refine lv_iconst (v := (nI 1)) hx hb dL_law_902 (by decide) ?_
    refine nv_iadd hx hb dL_law_903 ?_
    refine va_sld hx hb hX hbl hbA hS (nv_in (by omega) (by omega)) dL_law_904 ?_
    rw [nI_clamp (by omega)]
    rw [e1]
    refine lv_aload_n hx hb dL_law_905 rfl (lv_at hl 4 rfl) ?_
    refine lv_iload hx hb dL_law_906 (lv_at hl 0 rfl) ?_
    refine lv_iconst (v := (nI 2)) hx hb dL_law_908 (by decide) ?_
    refine nv_iadd hx hb dL_law_909 ?_
    refine va_sld hx hb hX hbl hbA hS (nv_in (by omega) (by omega)) dL_law_910 ?_
    rw [nI_clamp (by omega)]
    rw [e2]
    refine lv_aload_n hx hb dL_law_911 rfl (lv_at hl 1 rfl) ?_
    have hFc := wp_free hD hS hA
    refine va_calli (vx_runSW (As := [.ref d0, .int (nI j), .int (nI j2), .ref ou]) (rest := []) ⟨hx, hb, hml, hown, ht⟩ (c_L_log l D hk5 hok hrg hj hj2 H.size) (vx_cwSW 4 ht (tb_S kl_L_118 kt_L_log kn_L kc_L_log) rfl rfl rfl kd_L_log ⟨Nat.le_of_ble_eq_true rfl, Nat.le_of_ble_eq_true rfl⟩) (wd_preS _ (wp_Pl hP) (hK.sub (tys' := [(cA, .int), (cL, .long)]) [0, 2] rfl) (wp_Dl hD)) rfl rfl hl.1 rfl (lv_room (Nat.le_of_ble_eq_true rfl)) dL_law_912 ⟨by show 20 + lx_n F + i + 0 ≤ 601024; omega, by show 9000 + lx_c F + 6 * i + 0 ≤ 7293033; omega⟩) hS (fun q _ h => hFc q h) hFc (fun r9 u9 t9 H locs ht9 hvm9 hw9 hB9 hz9 hk9 hS => ?_)
    obtain ⟨hP1, hK1, hD1⟩ := hB9
    rw [ht9] at hP1
    obtain ⟨hP, hD⟩ := wp_join hP hD hk9 hFc hP1 hD1
    obtain ⟨e9, w9⟩ := hw9
    subst e9
    have hP : va_P D vwCl ((lw_U d0 dc dr h0 ai ar af ap ah ac ou cA cL k hk rg fi fr ff u9.1 fh fn u9.2) ++ ((lw_M m0 mx my mr mb cA k th sx sy fx fy fm fb) ++ ((dc, .inl (cQ, 5, .inr (.inr (.inr (.inr F))))) :: oth))) H := hP
    have hD : va_D (fun q => s.heap.size ≤ q) ((lw_U d0 dc dr h0 ai ar af ap ah ac ou cA cL k hk rg fi fr ff u9.1 fh fn u9.2) ++ ((lw_M m0 mx my mr mb cA k th sx sy fx fy fm fb) ++ ((dc, .inl (cQ, 5, .inr (.inr (.inr (.inr F))))) :: oth))) := hD
    refine lv_istore hx hb dL_law_915 hl (by decide) rfl (fun ls hl => ?_)
    have hl : lv_has ls 8 [(5, .int (nI 0)), (4, .int (nI i)), (3, .ref ou), (2, .ref m0), (1, .ref d0), (0, .ref b)] := hl
    refine lv_aload_n hx hb dL_law_917 rfl (lv_at hl 3 rfl) ?_
    refine lv_aload_n hx hb dL_law_918 rfl (lv_at hl 5 rfl) ?_
    refine lv_iload hx hb dL_law_919 (lv_at hl 1 rfl) ?_
    refine lv_iconst (v := (nI 1)) hx hb dL_law_921 (by decide) ?_
    refine nv_iadd hx hb dL_law_922 ?_
    refine va_sld hx hb hX hbl hbA hS (nv_in (by omega) (by omega)) dL_law_923 ?_
    rw [nI_clamp (by omega)]
    rw [e1]
    refine lv_aload_n hx hb dL_law_924 rfl (lv_at hl 5 rfl) ?_
    refine lv_iload hx hb dL_law_925 (lv_at hl 1 rfl) ?_
    refine lv_iconst (v := (nI 2)) hx hb dL_law_927 (by decide) ?_
    refine nv_iadd hx hb dL_law_928 ?_
    refine va_sld hx hb hX hbl hbA hS (nv_in (by omega) (by omega)) dL_law_929 ?_
    rw [nI_clamp (by omega)]
    rw [e2]
    have hP := wp_P (List.perm_append_comm_assoc _ _ _) hP
    have hD := wp_D (List.perm_append_comm_assoc _ _ _) hD
    have hP : va_P D vwCl ((lw_M m0 mx my mr mb cA k th sx sy fx fy fm fb) ++ ((lw_U d0 dc dr h0 ai ar af ap ah ac ou cA cL k hk rg fi fr ff u9.1 fh fn u9.2) ++ ((dc, .inl (cQ, 5, .inr (.inr (.inr (.inr F))))) :: oth))) H := hP
    have hD : va_D (fun q => s.heap.size ≤ q) ((lw_M m0 mx my mr mb cA k th sx sy fx fy fm fb) ++ ((lw_U d0 dc dr h0 ai ar af ap ah ac ou cA cL k hk rg fi fr ff u9.1 fh fn u9.2) ++ ((dc, .inl (cQ, 5, .inr (.inr (.inr (.inr F))))) :: oth))) := hD
    have hFc := wp_free hD hS hA
    refine va_calli (va_runV (As := [.int (nI j), .int (nI j2)]) (rest := []) ⟨hx, hb, hml, hown, ht⟩ (c_X2_log l D hk5 hfm hR hj hj2 H.size) (cwV 2 ht (tb_V kl_L_121 ki_X2_log ks_X2_log kn_X2 kc_X2_log) rfl rfl rfl ⟨rfl, kd_X2_log⟩ ⟨Nat.le_of_ble_eq_true rfl, Nat.le_of_ble_eq_true rfl⟩) (wd_preV _ (wp_Pl hP) (hK.sub (tys' := [(cA, .int)]) [0] rfl) (wp_Dl hD) (va_recv (ci := 2) (q0 := 0) hK hP rfl rfl)) rfl rfl hl.1 rfl (lv_room (Nat.le_of_ble_eq_true rfl)) dL_law_930 ⟨by show 20 + lx_n F + i + 0 + 0 ≤ 601024; omega, by show 9000 + lx_c F + 6 * i + 0 + 0 ≤ 7293033; omega⟩) hS (fun q _ h => hFc q h) hFc (fun r8 u8 t8 H locs ht8 hvm8 hw8 hB8 hz8 hk8 hS => ?_)
    obtain ⟨hP1, hK1, hD1⟩ := hB8
    rw [ht8] at hP1
    obtain ⟨hP, hD⟩ := wp_join hP hD hk8 hFc hP1 hD1
    have hP : va_P D vwCl ((lw_M m0 mx my mr mb cA k (nI 0) u8.1 u8.2 fx fy fm fb) ++ ((lw_U d0 dc dr h0 ai ar af ap ah ac ou cA cL k hk rg fi fr ff u9.1 fh fn u9.2) ++ ((dc, .inl (cQ, 5, .inr (.inr (.inr (.inr F))))) :: oth))) H := hP
    have hD : va_D (fun q => s.heap.size ≤ q) ((lw_M m0 mx my mr mb cA k (nI 0) u8.1 u8.2 fx fy fm fb) ++ ((lw_U d0 dc dr h0 ai ar af ap ah ac ou cA cL k hk rg fi fr ff u9.1 fh fn u9.2) ++ ((dc, .inl (cQ, 5, .inr (.inr (.inr (.inr F))))) :: oth))) := hD
    subst hw8
    refine lv_istore hx hb dL_law_933 hl (by decide) rfl (fun ls hl => ?_)
    have hl : lv_has ls 8 [(6, .int (tw_lg (tw_P k) (tw_D k) (tw_N k) (R j) (R j2))), (5, .int (nI 0)), (4, .int (nI i)), (3, .ref ou), (2, .ref m0), (1, .ref d0), (0, .ref b)] := hl
    refine lv_aload_n hx hb dL_law_935 rfl (lv_at hl 4 rfl) ?_
    refine vp_callSi (W.runV (As := []) (rest := []) ⟨hx, hb, hml, hown, ht⟩ (c_X2_thrown l D hk5) (cwV 0 ht (tb_V kl_L_74 ki_X2_thrown ks_X2_thrown kn_X2 kc_X2_thrown) rfl rfl rfl ⟨rfl, kd_X2_thrown⟩ ⟨Nat.le_of_ble_eq_true rfl, Nat.le_of_ble_eq_true rfl⟩) (ro_preV _ ((wp_Pl hP).sub (ws' := [(m0, .inr (2, [.int (nI 0), .int (nI k), .int (nI (tw_P k)), .int (nI (tw_D k)), .int (nI (tw_I k)), .ref mx, .ref my, .ref mr, .ref mb, .int u8.1, .int u8.2]))]) [0] rfl) (hK.sub (tys' := []) [] rfl) (va_recv (ci := 2) (q0 := 0) hK hP rfl rfl)) rfl rfl hl.1 rfl (lv_room (Nat.le_of_ble_eq_true rfl)) dL_law_936 ⟨by show 20 + lx_n F + i + 0 + 0 + 0 ≤ 601024; omega, by show 9000 + lx_c F + 6 * i + 0 + 0 + 0 ≤ 7293033; omega⟩) (fun r hr9 => ?_)
    subst hr9
    refine lv_iload hx hb dL_law_939 (lv_at hl 1 rfl) ?_
    refine lv_icmp_eq (tgt := 946) hx hb dL_law_941 (by decide) (fun _ => ?_) (fun c9 => absurd rfl c9)
    refine lv_iload hx hb dL_law_946 (lv_at hl 1 rfl) ?_
    refine lv_if_ne (tgt := 963) hx hb dL_law_948 (by decide) (fun c9 => absurd rfl c9) (fun _ => ?_)
    refine lv_aload_n hx hb dL_law_951 rfl (lv_at hl 3 rfl) ?_
    refine lv_iconst (v := (nI 0)) hx hb dL_law_952 (by decide) ?_
    have hP := wp_P (List.perm_append_comm_assoc _ _ _) hP
    have hD := wp_D (List.perm_append_comm_assoc _ _ _) hD
    have hP : va_P D vwCl ((lw_U d0 dc dr h0 ai ar af ap ah ac ou cA cL k hk rg fi fr ff u9.1 fh fn u9.2) ++ ((lw_M m0 mx my mr mb cA k (nI 0) u8.1 u8.2 fx fy fm fb) ++ ((dc, .inl (cQ, 5, .inr (.inr (.inr (.inr F))))) :: oth))) H := hP
    have hD : va_D (fun q => s.heap.size ≤ q) ((lw_U d0 dc dr h0 ai ar af ap ah ac ou cA cL k hk rg fi fr ff u9.1 fh fn u9.2) ++ ((lw_M m0 mx my mr mb cA k (nI 0) u8.1 u8.2 fx fy fm fb) ++ ((dc, .inl (cQ, 5, .inr (.inr (.inr (.inr F))))) :: oth))) := hD
    refine va_lald hx hb hK hP 9 2 rfl rfl (nv_in (a := 0) (n := 1) (by decide) (by decide)) dL_law_953 ?_
    rw [nI_clamp (n := 0) (by decide), w9]
    refine lv_iload hx hb dL_law_954 (lv_at hl 0 rfl) ?_
    refine lv_i2l (v := (tw_lg (tw_P k) (tw_D k) (tw_N k) (R j) (R j2)).toInt64) hx hb dL_law_956 rfl ?_
    refine lx_lcmp hx hb dL_law_957 ?_
    refine lv_if_eq (tgt := 963) hx hb dL_law_958 (by decide) (fun _ => ?_) (fun c9 => absurd rfl c9)
    refine lv_goto (tgt := 1269) hx hb dL_law_963 (by decide) ?_
    refine W.widen (k := 20 + lx_n F + (i + 8)) (n := 9000 + lx_c F + 6 * (i + 8)) (by omega) (by omega) ?_
    exact kk F H locs ls (lv_sub hl [2, 3, 4, 5, 6] rfl) (lx_mk hP hD ⟨hk5, hF, hok, hhv, hrg, hR, hfm, hB, hO⟩) hS
set_option maxHeartbeats 8000000 in
set_option maxRecDepth 100000 in
theorem lc_12 {p : Program} {l : Launch} {e : Env} {s : State} {m : MethodId} {below : List Frame} {meth : Method} {c : Code} {Q : State → Prop} {b L : Nat} {xs : Nat → Int32} {gs : Nat → Nat} {tp : Nat} {D : va_G} {d0 dc dr ou m0 mx my mr mb : Nat} {cA cQ cL : ClassId} (C : lx_C p l s m c b L xs gs tp D cA cQ cL) {i : Nat} (hi : i + 8 ≤ L) {F : Nat → Option Nat} {H : Heap} {locs : List Loc} {ls : Array Slot} (hl : lv_has ls 8 [(4, .int (nI i)), (3, .ref ou), (2, .ref m0), (1, .ref d0), (0, .ref b)]) (hI : lx_I D d0 dc dr ou m0 mx my mr mb cA cQ cL (fun q => s.heap.size ≤ q) F H) (hS : va_S (fun q => s.heap.size ≤ q) s.heap H locs) (kk : (∀ (F : Nat → Option Nat) (H : Heap) (locs : List Loc) (ls : Array Slot), lv_has ls 8 [(4, .int (nI i)), (3, .ref ou), (2, .ref m0), (1, .ref d0), (0, .ref b)] → lx_I D d0 dc dr ou m0 mx my mr mb cA cQ cL (fun q => s.heap.size ≤ q) F H → va_S (fun q => s.heap.size ≤ q) s.heap H locs → W p l e room_1 s m #[Value.ref b] below meth c H locs (20 + lx_n F + (i + 8)) (9000 + lx_c F + 6 * (i + 8)) Q (F0 m 1269 ls []))) : W p l e room_1 s m #[Value.ref b] below meth c H locs (20 + lx_n F + i) (9000 + lx_c F + 6 * i) Q (F0 m 966 ls []) := by
  obtain ⟨hx, hb, hml, hown, ht, hX, hbl, hZ, hT, hK, hL⟩ := C
  obtain ⟨k, R, h0, ai, ar, af, ap, ah, ac, hk, rg, fi, fr, ff, fp, fh, fn, fo, th, sx, sy, fx, fy, fm, fb, oth, hP, hD, hk5, hF, hok, hhv, hrg, hR, hfm, hB, hO⟩ := hI
  have hbA : ¬ s.heap.size ≤ b := Nat.not_le.mpr hbl
  have hA : ∀ q, s.heap.size ≤ q → s.heap.size ≤ q := fun _ h => h
  have zi : i ≤ 4088 := by omega
  have zn := lx_n_le F
  have zc := lx_c_le F
  have hK0 := tw_kK k hk5
  by_cases b1 : md_bad (xs (i + 1)) ∨ md_bad (xs (i + 2))
  · refine lv_aload_n hx hb dL_law_966 rfl (lv_at hl 3 rfl) ?_
    refine lv_aload_n hx hb dL_law_967 rfl (lv_at hl 4 rfl) ?_
    refine lv_iload hx hb dL_law_968 (lv_at hl 0 rfl) ?_
    refine lv_iconst (v := (nI 1)) hx hb dL_law_970 (by decide) ?_
    refine nv_iadd hx hb dL_law_971 ?_
    refine va_sld hx hb hX hbl hbA hS (nv_in (by omega) (by omega)) dL_law_972 ?_
    rw [nI_clamp (by omega)]
    refine lv_aload_n hx hb dL_law_973 rfl (lv_at hl 4 rfl) ?_
    refine lv_iload hx hb dL_law_974 (lv_at hl 0 rfl) ?_
    refine lv_iconst (v := (nI 2)) hx hb dL_law_976 (by decide) ?_
    refine nv_iadd hx hb dL_law_977 ?_
    refine va_sld hx hb hX hbl hbA hS (nv_in (by omega) (by omega)) dL_law_978 ?_
    rw [nI_clamp (by omega)]
    refine lv_aload_n hx hb dL_law_979 rfl (lv_at hl 1 rfl) ?_
    refine va_calli (vx_runSW (As := [.ref d0, .int (xs (i + 1)), .int (xs (i + 2)), .ref ou]) (rest := []) ⟨hx, hb, hml, hown, ht⟩ (c_L_halfR l gs b1) (vx_cwSW 4 ht (tb_S kl_L_122 kt_L_half kn_L kc_L_half) rfl rfl rfl kd_L_half ⟨Nat.le_of_ble_eq_true rfl, Nat.le_of_ble_eq_true rfl⟩) (nx_preSR _ hZ hS (va_recv (ci := 1) (q0 := 0) hK hP rfl rfl)) rfl rfl hl.1 rfl (lv_room (Nat.le_of_ble_eq_true rfl)) dL_law_980 ⟨by show 20 + lx_n F + i + 1 ≤ 601024; omega, by show 9000 + lx_c F + 6 * i + 6 ≤ 7293033; omega⟩) hS (fun _ _ h => h.elim) (fun _ h => h.elim) (fun r9 u9 t9 H locs ht9 hvm9 hw9 hB9 hz9 hk9 hS => ?_)
    have hP := lx_kp hP hk9
    subst hw9
    have hP : va_P D vwCl ((lw_U d0 dc dr h0 ai ar af ap ah ac ou cA cL k hk rg fi fr ff fp fh fn fo) ++ ((lw_M m0 mx my mr mb cA k th sx sy fx fy fm fb) ++ ((dc, .inl (cQ, 5, .inr (.inr (.inr (.inr F))))) :: oth))) H := hP
    have hD : va_D (fun q => s.heap.size ≤ q) ((lw_U d0 dc dr h0 ai ar af ap ah ac ou cA cL k hk rg fi fr ff fp fh fn fo) ++ ((lw_M m0 mx my mr mb cA k th sx sy fx fy fm fb) ++ ((dc, .inl (cQ, 5, .inr (.inr (.inr (.inr F))))) :: oth))) := hD
    refine lv_istore hx hb dL_law_983 hl (by decide) rfl (fun ls hl => ?_)
    have hl : lv_has ls 8 [(5, .int (nI 1)), (4, .int (nI i)), (3, .ref ou), (2, .ref m0), (1, .ref d0), (0, .ref b)] := hl
    refine lv_aload_n hx hb dL_law_985 rfl (lv_at hl 3 rfl) ?_
    refine lv_aload_n hx hb dL_law_986 rfl (lv_at hl 5 rfl) ?_
    refine lv_iload hx hb dL_law_987 (lv_at hl 1 rfl) ?_
    refine lv_iconst (v := (nI 1)) hx hb dL_law_989 (by decide) ?_
    refine nv_iadd hx hb dL_law_990 ?_
    refine va_sld hx hb hX hbl hbA hS (nv_in (by omega) (by omega)) dL_law_991 ?_
    rw [nI_clamp (by omega)]
    refine lv_aload_n hx hb dL_law_992 rfl (lv_at hl 5 rfl) ?_
    refine lv_iload hx hb dL_law_993 (lv_at hl 1 rfl) ?_
    refine lv_iconst (v := (nI 2)) hx hb dL_law_995 (by decide) ?_
    refine nv_iadd hx hb dL_law_996 ?_
    refine va_sld hx hb hX hbl hbA hS (nv_in (by omega) (by omega)) dL_law_997 ?_
    rw [nI_clamp (by omega)]
    have hP := wp_P (List.perm_append_comm_assoc _ _ _) hP
    have hD := wp_D (List.perm_append_comm_assoc _ _ _) hD
    have hP : va_P D vwCl ((lw_M m0 mx my mr mb cA k th sx sy fx fy fm fb) ++ ((lw_U d0 dc dr h0 ai ar af ap ah ac ou cA cL k hk rg fi fr ff fp fh fn fo) ++ ((dc, .inl (cQ, 5, .inr (.inr (.inr (.inr F))))) :: oth))) H := hP
    have hD : va_D (fun q => s.heap.size ≤ q) ((lw_M m0 mx my mr mb cA k th sx sy fx fy fm fb) ++ ((lw_U d0 dc dr h0 ai ar af ap ah ac ou cA cL k hk rg fi fr ff fp fh fn fo) ++ ((dc, .inl (cQ, 5, .inr (.inr (.inr (.inr F))))) :: oth))) := hD
    have hFc := wp_free hD hS hA
    refine va_calli (va_runV (As := [.int (xs (i + 1)), .int (xs (i + 2))]) (rest := []) ⟨hx, hb, hml, hown, ht⟩ (c_X2_halfR l D hk5 b1 H.size) (cwV 2 ht (tb_V kl_L_124 ki_X2_half ks_X2_half kn_X2 kc_X2_half) rfl rfl rfl ⟨rfl, kd_X2_half⟩ ⟨Nat.le_of_ble_eq_true rfl, Nat.le_of_ble_eq_true rfl⟩) (wd_preV _ (wp_Pl hP) (hK.sub (tys' := [(cA, .int)]) [0] rfl) (wp_Dl hD) (va_recv (ci := 2) (q0 := 0) hK hP rfl rfl)) rfl rfl hl.1 rfl (lv_room (Nat.le_of_ble_eq_true rfl)) dL_law_998 ⟨by show 20 + lx_n F + i + 1 + 0 ≤ 601024; omega, by show 9000 + lx_c F + 6 * i + 6 + 0 ≤ 7293033; omega⟩) hS (fun q _ h => hFc q h) hFc (fun r8 u8 t8 H locs ht8 hvm8 hw8 hB8 hz8 hk8 hS => ?_)
    obtain ⟨hP1, hK1, hD1⟩ := hB8
    rw [ht8] at hP1
    obtain ⟨hP, hD⟩ := wp_join hP hD hk8 hFc hP1 hD1
    have hP : va_P D vwCl ((lw_M m0 mx my mr mb cA k (nI 1) sx sy fx fy fm fb) ++ ((lw_U d0 dc dr h0 ai ar af ap ah ac ou cA cL k hk rg fi fr ff fp fh fn fo) ++ ((dc, .inl (cQ, 5, .inr (.inr (.inr (.inr F))))) :: oth))) H := hP
    have hD : va_D (fun q => s.heap.size ≤ q) ((lw_M m0 mx my mr mb cA k (nI 1) sx sy fx fy fm fb) ++ ((lw_U d0 dc dr h0 ai ar af ap ah ac ou cA cL k hk rg fi fr ff fp fh fn fo) ++ ((dc, .inl (cQ, 5, .inr (.inr (.inr (.inr F))))) :: oth))) := hD
    subst hw8
    refine lv_istore hx hb dL_law_1001 hl (by decide) rfl (fun ls hl => ?_)
    have hl : lv_has ls 8 [(6, .int 0), (5, .int (nI 1)), (4, .int (nI i)), (3, .ref ou), (2, .ref m0), (1, .ref d0), (0, .ref b)] := hl
    refine lv_aload_n hx hb dL_law_1003 rfl (lv_at hl 4 rfl) ?_
    refine vp_callSi (W.runV (As := []) (rest := []) ⟨hx, hb, hml, hown, ht⟩ (c_X2_thrown l D hk5) (cwV 0 ht (tb_V kl_L_74 ki_X2_thrown ks_X2_thrown kn_X2 kc_X2_thrown) rfl rfl rfl ⟨rfl, kd_X2_thrown⟩ ⟨Nat.le_of_ble_eq_true rfl, Nat.le_of_ble_eq_true rfl⟩) (ro_preV _ ((wp_Pl hP).sub (ws' := [(m0, .inr (2, [.int (nI 1), .int (nI k), .int (nI (tw_P k)), .int (nI (tw_D k)), .int (nI (tw_I k)), .ref mx, .ref my, .ref mr, .ref mb, .int sx, .int sy]))]) [0] rfl) (hK.sub (tys' := []) [] rfl) (va_recv (ci := 2) (q0 := 0) hK hP rfl rfl)) rfl rfl hl.1 rfl (lv_room (Nat.le_of_ble_eq_true rfl)) dL_law_1004 ⟨by show 20 + lx_n F + i + 1 + 0 + 0 ≤ 601024; omega, by show 9000 + lx_c F + 6 * i + 6 + 0 + 0 ≤ 7293033; omega⟩) (fun r hr9 => ?_)
    subst hr9
    refine lv_iload hx hb dL_law_1007 (lv_at hl 1 rfl) ?_
    refine lv_icmp_eq (tgt := 1014) hx hb dL_law_1009 (by decide) (fun _ => ?_) (fun c9 => absurd rfl c9)
    refine lv_iload hx hb dL_law_1014 (lv_at hl 1 rfl) ?_
    refine lv_if_ne (tgt := 1031) hx hb dL_law_1016 (by decide) (fun _ => ?_) (fun c9 => absurd c9 (by decide))
    refine lv_goto (tgt := 1269) hx hb dL_law_1031 (by decide) ?_
    have hP := wp_P (List.perm_append_comm_assoc _ _ _) hP
    have hD := wp_D (List.perm_append_comm_assoc _ _ _) hD
    have hP : va_P D vwCl ((lw_U d0 dc dr h0 ai ar af ap ah ac ou cA cL k hk rg fi fr ff fp fh fn fo) ++ ((lw_M m0 mx my mr mb cA k (nI 1) sx sy fx fy fm fb) ++ ((dc, .inl (cQ, 5, .inr (.inr (.inr (.inr F))))) :: oth))) H := hP
    have hD : va_D (fun q => s.heap.size ≤ q) ((lw_U d0 dc dr h0 ai ar af ap ah ac ou cA cL k hk rg fi fr ff fp fh fn fo) ++ ((lw_M m0 mx my mr mb cA k (nI 1) sx sy fx fy fm fb) ++ ((dc, .inl (cQ, 5, .inr (.inr (.inr (.inr F))))) :: oth))) := hD
    refine W.widen (k := 20 + lx_n F + (i + 8)) (n := 9000 + lx_c F + 6 * (i + 8)) (by omega) (by omega) ?_
    exact kk F H locs ls (lv_sub hl [2, 3, 4, 5, 6] rfl) (lx_mk hP hD ⟨hk5, hF, hok, hhv, hrg, hR, hfm, hB, hO⟩) hS
  · obtain ⟨j, hj, e1⟩ := md_good (fun q => b1 (Or.inl q))
    obtain ⟨j2, hj2, e2⟩ := md_good (fun q => b1 (Or.inr q))
    refine lv_aload_n hx hb dL_law_966 rfl (lv_at hl 3 rfl) ?_
    refine lv_aload_n hx hb dL_law_967 rfl (lv_at hl 4 rfl) ?_
    refine lv_iload hx hb dL_law_968 (lv_at hl 0 rfl) ?_
    refine lv_iconst (v := (nI 1)) hx hb dL_law_970 (by decide) ?_
    refine nv_iadd hx hb dL_law_971 ?_
    refine va_sld hx hb hX hbl hbA hS (nv_in (by omega) (by omega)) dL_law_972 ?_
    rw [nI_clamp (by omega)]
    rw [e1]
    refine lv_aload_n hx hb dL_law_973 rfl (lv_at hl 4 rfl) ?_
    refine lv_iload hx hb dL_law_974 (lv_at hl 0 rfl) ?_
    refine lv_iconst (v := (nI 2)) hx hb dL_law_976 (by decide) ?_
    refine nv_iadd hx hb dL_law_977 ?_
    refine va_sld hx hb hX hbl hbA hS (nv_in (by omega) (by omega)) dL_law_978 ?_
    rw [nI_clamp (by omega)]
    rw [e2]
    refine lv_aload_n hx hb dL_law_979 rfl (lv_at hl 1 rfl) ?_
    have hFc := wp_free hD hS hA
    refine va_calli (vx_runSW (As := [.ref d0, .int (nI j), .int (nI j2), .ref ou]) (rest := []) ⟨hx, hb, hml, hown, ht⟩ (c_L_half l D hk5 hok hrg hhv hj hj2 H.size) (vx_cwSW 4 ht (tb_S kl_L_122 kt_L_half kn_L kc_L_half) rfl rfl rfl kd_L_half ⟨Nat.le_of_ble_eq_true rfl, Nat.le_of_ble_eq_true rfl⟩) (wd_preS _ (wp_Pl hP) (hK.sub (tys' := [(cA, .int), (cL, .long)]) [0, 2] rfl) (wp_Dl hD)) rfl rfl hl.1 rfl (lv_room (Nat.le_of_ble_eq_true rfl)) dL_law_980 ⟨by show 20 + lx_n F + i + 0 ≤ 601024; omega, by show 9000 + lx_c F + 6 * i + 0 ≤ 7293033; omega⟩) hS (fun q _ h => hFc q h) hFc (fun r9 u9 t9 H locs ht9 hvm9 hw9 hB9 hz9 hk9 hS => ?_)
    obtain ⟨hP1, hK1, hD1⟩ := hB9
    rw [ht9] at hP1
    obtain ⟨hP, hD⟩ := wp_join hP hD hk9 hFc hP1 hD1
    obtain ⟨e9, w9, q1, q2, q3⟩ := hw9
    subst e9
    have hP : va_P D vwCl ((lw_U d0 dc dr h0 ai ar af ap ah ac ou cA cL k u9.1.2.1 u9.1.1 fi fr ff fp u9.1.2.2.1 u9.1.2.2.2 u9.2) ++ ((lw_M m0 mx my mr mb cA k th sx sy fx fy fm fb) ++ ((dc, .inl (cQ, 5, .inr (.inr (.inr (.inr F))))) :: oth))) H := hP
    have hD : va_D (fun q => s.heap.size ≤ q) ((lw_U d0 dc dr h0 ai ar af ap ah ac ou cA cL k u9.1.2.1 u9.1.1 fi fr ff fp u9.1.2.2.1 u9.1.2.2.2 u9.2) ++ ((lw_M m0 mx my mr mb cA k th sx sy fx fy fm fb) ++ ((dc, .inl (cQ, 5, .inr (.inr (.inr (.inr F))))) :: oth))) := hD
    refine lv_istore hx hb dL_law_983 hl (by decide) rfl (fun ls hl => ?_)
    have hl : lv_has ls 8 [(5, .int (nI 0)), (4, .int (nI i)), (3, .ref ou), (2, .ref m0), (1, .ref d0), (0, .ref b)] := hl
    refine lv_aload_n hx hb dL_law_985 rfl (lv_at hl 3 rfl) ?_
    refine lv_aload_n hx hb dL_law_986 rfl (lv_at hl 5 rfl) ?_
    refine lv_iload hx hb dL_law_987 (lv_at hl 1 rfl) ?_
    refine lv_iconst (v := (nI 1)) hx hb dL_law_989 (by decide) ?_
    refine nv_iadd hx hb dL_law_990 ?_
    refine va_sld hx hb hX hbl hbA hS (nv_in (by omega) (by omega)) dL_law_991 ?_
    rw [nI_clamp (by omega)]
    rw [e1]
    refine lv_aload_n hx hb dL_law_992 rfl (lv_at hl 5 rfl) ?_
    refine lv_iload hx hb dL_law_993 (lv_at hl 1 rfl) ?_
    refine lv_iconst (v := (nI 2)) hx hb dL_law_995 (by decide) ?_
    refine nv_iadd hx hb dL_law_996 ?_
    refine va_sld hx hb hX hbl hbA hS (nv_in (by omega) (by omega)) dL_law_997 ?_
    rw [nI_clamp (by omega)]
    rw [e2]
    have hP := wp_P (List.perm_append_comm_assoc _ _ _) hP
    have hD := wp_D (List.perm_append_comm_assoc _ _ _) hD
    have hP : va_P D vwCl ((lw_M m0 mx my mr mb cA k th sx sy fx fy fm fb) ++ ((lw_U d0 dc dr h0 ai ar af ap ah ac ou cA cL k u9.1.2.1 u9.1.1 fi fr ff fp u9.1.2.2.1 u9.1.2.2.2 u9.2) ++ ((dc, .inl (cQ, 5, .inr (.inr (.inr (.inr F))))) :: oth))) H := hP
    have hD : va_D (fun q => s.heap.size ≤ q) ((lw_M m0 mx my mr mb cA k th sx sy fx fy fm fb) ++ ((lw_U d0 dc dr h0 ai ar af ap ah ac ou cA cL k u9.1.2.1 u9.1.1 fi fr ff fp u9.1.2.2.1 u9.1.2.2.2 u9.2) ++ ((dc, .inl (cQ, 5, .inr (.inr (.inr (.inr F))))) :: oth))) := hD
    have hFc := wp_free hD hS hA
    refine va_calli (va_runV (As := [.int (nI j), .int (nI j2)]) (rest := []) ⟨hx, hb, hml, hown, ht⟩ (c_X2_half l D hk5 hfm hR hj hj2 H.size) (cwV 2 ht (tb_V kl_L_124 ki_X2_half ks_X2_half kn_X2 kc_X2_half) rfl rfl rfl ⟨rfl, kd_X2_half⟩ ⟨Nat.le_of_ble_eq_true rfl, Nat.le_of_ble_eq_true rfl⟩) (wd_preV _ (wp_Pl hP) (hK.sub (tys' := [(cA, .int)]) [0] rfl) (wp_Dl hD) (va_recv (ci := 2) (q0 := 0) hK hP rfl rfl)) rfl rfl hl.1 rfl (lv_room (Nat.le_of_ble_eq_true rfl)) dL_law_998 ⟨by show 20 + lx_n F + i + 0 + 0 ≤ 601024; omega, by show 9000 + lx_c F + 6 * i + 0 + 0 ≤ 7293033; omega⟩) hS (fun q _ h => hFc q h) hFc (fun r8 u8 t8 H locs ht8 hvm8 hw8 hB8 hz8 hk8 hS => ?_)
    obtain ⟨hP1, hK1, hD1⟩ := hB8
    rw [ht8] at hP1
    obtain ⟨hP, hD⟩ := wp_join hP hD hk8 hFc hP1 hD1
    have hP : va_P D vwCl ((lw_M m0 mx my mr mb cA k (nI 0) u8.1 u8.2.1 u8.2.2.1 u8.2.2.2 fm fb) ++ ((lw_U d0 dc dr h0 ai ar af ap ah ac ou cA cL k u9.1.2.1 u9.1.1 fi fr ff fp u9.1.2.2.1 u9.1.2.2.2 u9.2) ++ ((dc, .inl (cQ, 5, .inr (.inr (.inr (.inr F))))) :: oth))) H := hP
    have hD : va_D (fun q => s.heap.size ≤ q) ((lw_M m0 mx my mr mb cA k (nI 0) u8.1 u8.2.1 u8.2.2.1 u8.2.2.2 fm fb) ++ ((lw_U d0 dc dr h0 ai ar af ap ah ac ou cA cL k u9.1.2.1 u9.1.1 fi fr ff fp u9.1.2.2.1 u9.1.2.2.2 u9.2) ++ ((dc, .inl (cQ, 5, .inr (.inr (.inr (.inr F))))) :: oth))) := hD
    obtain ⟨e8, q4, q5⟩ := hw8
    subst e8
    refine lv_istore hx hb dL_law_1001 hl (by decide) rfl (fun ls hl => ?_)
    have hl : lv_has ls 8 [(6, .int (nI (tw_hc (tw_P k) (tw_D k) (R j2) 16384))), (5, .int (nI 0)), (4, .int (nI i)), (3, .ref ou), (2, .ref m0), (1, .ref d0), (0, .ref b)] := hl
    refine lv_aload_n hx hb dL_law_1003 rfl (lv_at hl 4 rfl) ?_
    refine vp_callSi (W.runV (As := []) (rest := []) ⟨hx, hb, hml, hown, ht⟩ (c_X2_thrown l D hk5) (cwV 0 ht (tb_V kl_L_74 ki_X2_thrown ks_X2_thrown kn_X2 kc_X2_thrown) rfl rfl rfl ⟨rfl, kd_X2_thrown⟩ ⟨Nat.le_of_ble_eq_true rfl, Nat.le_of_ble_eq_true rfl⟩) (ro_preV _ ((wp_Pl hP).sub (ws' := [(m0, .inr (2, [.int (nI 0), .int (nI k), .int (nI (tw_P k)), .int (nI (tw_D k)), .int (nI (tw_I k)), .ref mx, .ref my, .ref mr, .ref mb, .int u8.1, .int u8.2.1]))]) [0] rfl) (hK.sub (tys' := []) [] rfl) (va_recv (ci := 2) (q0 := 0) hK hP rfl rfl)) rfl rfl hl.1 rfl (lv_room (Nat.le_of_ble_eq_true rfl)) dL_law_1004 ⟨by show 20 + lx_n F + i + 0 + 0 + 0 ≤ 601024; omega, by show 9000 + lx_c F + 6 * i + 0 + 0 + 0 ≤ 7293033; omega⟩) (fun r hr9 => ?_)
    subst hr9
    refine lv_iload hx hb dL_law_1007 (lv_at hl 1 rfl) ?_
    refine lv_icmp_eq (tgt := 1014) hx hb dL_law_1009 (by decide) (fun _ => ?_) (fun c9 => absurd rfl c9)
    refine lv_iload hx hb dL_law_1014 (lv_at hl 1 rfl) ?_
    refine lv_if_ne (tgt := 1031) hx hb dL_law_1016 (by decide) (fun c9 => absurd rfl c9) (fun _ => ?_)
    refine lv_aload_n hx hb dL_law_1019 rfl (lv_at hl 3 rfl) ?_
    refine lv_iconst (v := (nI 0)) hx hb dL_law_1020 (by decide) ?_
    have hP := wp_P (List.perm_append_comm_assoc _ _ _) hP
    have hD := wp_D (List.perm_append_comm_assoc _ _ _) hD
    have hP : va_P D vwCl ((lw_U d0 dc dr h0 ai ar af ap ah ac ou cA cL k u9.1.2.1 u9.1.1 fi fr ff fp u9.1.2.2.1 u9.1.2.2.2 u9.2) ++ ((lw_M m0 mx my mr mb cA k (nI 0) u8.1 u8.2.1 u8.2.2.1 u8.2.2.2 fm fb) ++ ((dc, .inl (cQ, 5, .inr (.inr (.inr (.inr F))))) :: oth))) H := hP
    have hD : va_D (fun q => s.heap.size ≤ q) ((lw_U d0 dc dr h0 ai ar af ap ah ac ou cA cL k u9.1.2.1 u9.1.1 fi fr ff fp u9.1.2.2.1 u9.1.2.2.2 u9.2) ++ ((lw_M m0 mx my mr mb cA k (nI 0) u8.1 u8.2.1 u8.2.2.1 u8.2.2.2 fm fb) ++ ((dc, .inl (cQ, 5, .inr (.inr (.inr (.inr F))))) :: oth))) := hD
    refine va_lald hx hb hK hP 9 2 rfl rfl (nv_in (a := 0) (n := 1) (by decide) (by decide)) dL_law_1021 ?_
    rw [nI_clamp (n := 0) (by decide), w9]
    refine lv_iload hx hb dL_law_1022 (lv_at hl 0 rfl) ?_
    refine lv_i2l (v := (nI (tw_hc (tw_P k) (tw_D k) (R j2) 16384)).toInt64) hx hb dL_law_1024 rfl ?_
    refine lx_lcmp hx hb dL_law_1025 ?_
    refine lv_if_eq (tgt := 1031) hx hb dL_law_1026 (by decide) (fun _ => ?_) (fun c9 => absurd rfl c9)
    have hhv9 : cv_hv k u9.1.2.1 u9.1.2.2.1 u9.1.2.2.2 := Or.inr ⟨q2, q3⟩
    obtain ⟨R9, hrg9, hR9⟩ : ∃ R9 : Nat → Nat × Nat, (∀ j, j < 12 → tw_on (tw_P k) (tw_D k) (R9 j) ∧ u9.1.1 j = nI (tw_en (R9 j))) ∧ (∀ j, j < 12 → tw_on (tw_P k) (tw_D k) (R9 j) ∧ u8.2.2.1 j = nI (R9 j).1 ∧ u8.2.2.2 j = nI (R9 j).2) := by
      rw [q1, q4, q5]
      cases hq9 : tw_hf (tw_P k) (tw_D k) (R j2) 16384 with
      | none => exact ⟨R, hrg, hR⟩
      | some q9 => exact ⟨va_up R j q9, lx_rg (tw_hf_on hK0 _ hq9) hrg, lx_rR (tw_hf_on hK0 _ hq9) hR⟩
    refine lv_goto (tgt := 1269) hx hb dL_law_1031 (by decide) ?_
    refine W.widen (k := 20 + lx_n F + (i + 8)) (n := 9000 + lx_c F + 6 * (i + 8)) (by omega) (by omega) ?_
    exact kk F H locs ls (lv_sub hl [2, 3, 4, 5, 6] rfl) (lx_mk hP hD ⟨hk5, hF, hok, hhv9, hrg9, hR9, hfm, hB, hO⟩) hS
