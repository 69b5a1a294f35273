/-! the model: base and half (taken calls) -/
def tw_hv (P D : Nat) (q : Nat × Nat) (i : Nat) : Int32 := match tw_hf P D q i with
  | none => -1
  | some p => nI (tw_pk p)
theorem tw_hv_n {P D i : Nat} {q : Nat × Nat} (h : tw_hf P D q i = none) : tw_hv P D q i = -1 := by
  unfold tw_hv
  rw [h]
theorem tw_hv_s {P D i : Nat} {q p : Nat × Nat} (h : tw_hf P D q i = some p) : tw_hv P D q i = nI (tw_pk p) := by
  unfold tw_hv
  rw [h]
theorem tw_hf_k {P D : Nat} {q p : Nat × Nat} (h2 : tw_add P D p p ≠ q) {i : Nat} (h : tw_rd P D i = some p) : tw_hf P D q (i + 1) = tw_hf P D q i := by
  cases e : tw_hf P D q i with
  | none => rw [tw_hf_s e h, if_neg h2]
  | some p' => rw [tw_hf_o e]
theorem tw_hf_m {P D : Nat} {q : Nat × Nat} {i : Nat} (h : tw_rd P D i = none) : tw_hf P D q (i + 1) = tw_hf P D q i := by
  cases e : tw_hf P D q i with
  | none => rw [tw_hf_n e h]
  | some p' => rw [tw_hf_o e]
theorem tw_hf_on {P D I : Nat} (hK : tw_K P D I) {q : Nat × Nat} : ∀ (i : Nat) {p : Nat × Nat}, tw_hf P D q i = some p → tw_on P D p
  | 0, _, h => nomatch h
  | i + 1, p, h => by
    cases e : tw_hf P D q i with
    | some p' =>
      rw [tw_hf_o e] at h
      rw [← Option.some.inj h]
      exact tw_hf_on hK i e
    | none =>
      cases e2 : tw_rd P D i with
      | none =>
        rw [tw_hf_n e e2] at h
        cases h
      | some p' =>
        rw [tw_hf_s e e2] at h
        split at h
        · rw [← Option.some.inj h]
          exact (tw_rd_some hK e2).1
        · cases h
set_option maxHeartbeats 4000000 in
set_option maxRecDepth 100000 in
theorem c_X2_base (l : Launch) (D : va_G) {k : Nat} (hk5 : k < 5) {m0 mx my mr mb : Nat} {th sx sy : Int32} {cA : ClassId} {fx fy fr fb : Nat → Int32} {R : Nat → Nat × Nat} (hfr : ∀ j, j < tw_P k → fr j = tw_rv (tw_P k) j) (hR : ∀ j, j < 12 → tw_on (tw_P k) (tw_D k) (R j) ∧ fx j = nI (R j).1 ∧ fy j = nI (R j).2) {B0 : Nat} (hB : fb k = nI B0) (hB2 : B0 = 0 ∨ B0 = (tw_bst (tw_P k) (tw_D k) (tw_N k) 16384).2) (sz : Nat) : Met l yX2_base wX2_base ({ frames := 5, cells := 0, slots := 0, locals := 125 }) (va_Pc [.ref m0] (wd_pre D [(cA, .int)] [(m0, .inr (2, [.int th, .int (nI k), .int (nI (tw_P k)), .int (nI (tw_D k)), .int (nI (tw_I k)), .ref mx, .ref my, .ref mr, .ref mb, .int sx, .int sy])), (mx, .inl (cA, 12, .inl fx)), (my, .inl (cA, 12, .inl fy)), (mr, .inl (cA, 8101, .inl fr)), (mb, .inl (cA, 5, .inl fb))] sz)) (va_Qi (fun (r : Int32) (u : Int32 × Int32 × (Nat → Int32)) => r = nI (tw_bst (tw_P k) (tw_D k) (tw_N k) 16384).2 ∧ u.2.2 k = nI (tw_bst (tw_P k) (tw_D k) (tw_N k) 16384).2 ∧ ∀ i, i ≠ k → u.2.2 i = fb i) (fun (u : Int32 × Int32 × (Nat → Int32)) t => wd_at D [(cA, .int)] (va_A [(m0, .inr (2, [.int th, .int (nI k), .int (nI (tw_P k)), .int (nI (tw_D k)), .int (nI (tw_I k)), .ref mx, .ref my, .ref mr, .ref mb, .int sx, .int sy])), (mx, .inl (cA, 12, .inl fx)), (my, .inl (cA, 12, .inl fy)), (mr, .inl (cA, 8101, .inl fr)), (mb, .inl (cA, 5, .inl fb))] sz) [(m0, .inr (2, [.int (nI 0), .int (nI k), .int (nI (tw_P k)), .int (nI (tw_D k)), .int (nI (tw_I k)), .ref mx, .ref my, .ref mr, .ref mb, .int u.1, .int u.2.1])), (mx, .inl (cA, 12, .inl fx)), (my, .inl (cA, 12, .inl fy)), (mr, .inl (cA, 8101, .inl fr)), (mb, .inl (cA, 5, .inl u.2.2))] t) (va_A [(m0, .inr (2, [.int th, .int (nI k), .int (nI (tw_P k)), .int (nI (tw_D k)), .int (nI (tw_I k)), .ref mx, .ref my, .ref mr, .ref mb, .int sx, .int sy])), (mx, .inl (cA, 12, .inl fx)), (my, .inl (cA, 12, .inl fy)), (mr, .inl (cA, 8101, .inl fr)), (mb, .inl (cA, 5, .inl fb))] sz)) 0 0 (va_A [(m0, .inr (2, [.int th, .int (nI k), .int (nI (tw_P k)), .int (nI (tw_D k)), .int (nI (tw_I k)), .ref mx, .ref my, .ref mr, .ref mb, .int sx, .int sy])), (mx, .inl (cA, 12, .inl fx)), (my, .inl (cA, 12, .inl fy)), (mr, .inl (cA, 8101, .inl fr)), (mb, .inl (cA, 5, .inl fb))] sz) := by
  refine Met.ofW (cc := cX2_base) (maxL := 6) (ret := (some .int)) (by decide) rfl ?_
  intro p e s m args below meth c s₁ B hml hv
  obtain ⟨rfl, hsz, hP, hK, hD0⟩ := hv
  have hx := B.exec
  have hb := B.bytes
  have hr := B.returns
  have hts := atoms_spec (ws := wX2_base) B.pre
  have ht : ∀ w ∈ tb_all, w.before _ s = true := fun w h => hts w (List.mem_cons_of_mem _ h)
  have hown : s.vm.findClass RX2 = some m.cls := findClass_of_methodNamed B.named
  have hlocks := B.notSynchronized
  have hin : meth.name = "base" := (name_of_methodNamed B.named B.method).1
  subst hsz
  have hD := hD0.self (sz := s.heap.size)
  generalize hAe : va_A [(m0, .inr (2, [.int th, .int (nI k), .int (nI (tw_P k)), .int (nI (tw_D k)), .int (nI (tw_I k)), .ref mx, .ref my, .ref mr, .ref mb, .int sx, .int sy])), (mx, .inl (cA, 12, .inl fx)), (my, .inl (cA, 12, .inl fy)), (mr, .inl (cA, 8101, .inl fr)), (mb, .inl (cA, 5, .inl fb))] s.heap.size = A at hD ⊢
  have hA : ∀ q : Nat, s.heap.size ≤ q → A q := fun q h => by rw [← hAe]; exact Or.inr h
  have hS : va_S A s.heap s.heap [] := va_S.rf
  have hl := lv_entry ([.ref m0]) (n := 6) (Nat.le_of_ble_eq_true rfl)
  rw [lg_entry_eq]
  generalize (lg_sl ([.ref m0]) ++ List.replicate (6 - (lg_sl ([.ref m0])).length) Slot.unset).toArray = ls at hl ⊢
  have hl : lv_has ls 6 [(0, .ref m0)] := hl
  obtain ⟨hP0, hP2, hD2, hI2, hDP⟩ := tw_kb hk5
  have hK0 := tw_kK k hk5
  have hP8 : tw_P k ≤ 8192 := by omega
  have hN := tw_kN k hk5
  have zk : k ≤ 4 := by omega
  have hbb := tw_bst_b hk5
  have zB : (tw_bst (tw_P k) (tw_D k) (tw_N k) 16384).2 ≤ 16384 := (hbb 16384).2
  have zB0 : B0 ≤ 16384 := by omega
  refine lv_aload_n hx hb dX2_base_0 rfl (lv_at hl 0 rfl) ?_
  refine lv_iconst (v := (nI 0)) hx hb dX2_base_1 (by decide) ?_
  refine va_put (D := D) (ci := 2) (v := .int (nI 0)) (ty := .int) (C := RX2) (T := TX2) (N := 11) hx hb ht inX2 tyX2 tyX2_ok nmX2 hown hK hP hD hS 0 rfl rfl 0 (by decide) (ht _ kf_X2_30) (fun _ h9 => h9) rfl (by decide +kernel) rfl rfl (Nat.le_of_ble_eq_true rfl) dX2_base_2 (fun H locs hP hD hS => ?_)
  have hP : va_P D vwCl [(m0, .inr (2, [.int (nI 0), .int (nI k), .int (nI (tw_P k)), .int (nI (tw_D k)), .int (nI (tw_I k)), .ref mx, .ref my, .ref mr, .ref mb, .int sx, .int sy])), (mx, .inl (cA, 12, .inl fx)), (my, .inl (cA, 12, .inl fy)), (mr, .inl (cA, 8101, .inl fr)), (mb, .inl (cA, 5, .inl fb))] H := hP
  have hD : va_D A [(m0, .inr (2, [.int (nI 0), .int (nI k), .int (nI (tw_P k)), .int (nI (tw_D k)), .int (nI (tw_I k)), .ref mx, .ref my, .ref mr, .ref mb, .int sx, .int sy])), (mx, .inl (cA, 12, .inl fx)), (my, .inl (cA, 12, .inl fy)), (mr, .inl (cA, 8101, .inl fr)), (mb, .inl (cA, 5, .inl fb))] := hD
  refine lv_aload_n hx hb dX2_base_5 rfl (lv_at hl 0 rfl) ?_
  refine va_get (D := D) (ci := 2) (v := .ref mb) (C := RX2) (T := TX2) (N := 11) hx hb ht inX2 hown hK hP 0 rfl rfl 8 (by decide) (ht _ kf_X2_23) (fun _ h9 => h9) rfl dX2_base_6 ?_
  refine lv_aload_n hx hb dX2_base_9 rfl (lv_at hl 0 rfl) ?_
  refine va_get (D := D) (ci := 2) (v := .int (nI k)) (C := RX2) (T := TX2) (N := 11) hx hb ht inX2 hown hK hP 0 rfl rfl 1 (by decide) (ht _ kf_X2_33) (fun _ h9 => h9) rfl dX2_base_10 ?_
  refine nv_iald (A := fun _ => True) (H0 := s.heap) hx hb hK hP 4 0 rfl rfl hk5 (by decide) dX2_base_13 ?_
  rw [hB]
  refine nv_if_le (tgt := 27) hx hb dX2_base_14 (by decide) (nv_le (b := 16384) zB0 (by decide)) (fun c14 => ?_) (fun c14 => ?_)
  · refine lv_aload_n hx hb dX2_base_27 rfl (lv_at hl 0 rfl) ?_
    refine vp_callSi (W.runV (As := []) (rest := []) ⟨hx, hb, hml, hown, ht⟩ (c_X2_all l D hk5 hfr) (cwV 0 ht (tb_V kl_X2_94 ki_X2_all ks_X2_all kn_X2 kc_X2_all) rfl rfl rfl ⟨rfl, kd_X2_all⟩ ⟨Nat.le_of_ble_eq_true rfl, Nat.le_of_ble_eq_true rfl⟩) (ro_preV _ (hP.sub (ws' := [(m0, .inr (2, [.int (nI 0), .int (nI k), .int (nI (tw_P k)), .int (nI (tw_D k)), .int (nI (tw_I k)), .ref mx, .ref my, .ref mr, .ref mb, .int sx, .int sy])), (mr, .inl (cA, 8101, .inl fr))]) [0, 3] rfl) hK (va_recv (ci := 2) (q0 := 0) hK hP rfl rfl)) rfl rfl hl.1 rfl (lv_room (Nat.le_of_ble_eq_true rfl)) dX2_base_28 ⟨Nat.zero_le _, Nat.zero_le _⟩) (fun r hr9 => ?_)
    subst hr9
    refine lv_istore_n hx hb dX2_base_31 rfl hl (by decide) rfl (fun ls hl => ?_)
    have hl : lv_has ls 6 [(1, .int (nI (tw_N k))), (0, .ref m0)] := hl
    refine lv_iconst (v := (nI 0)) hx hb dX2_base_32 (by decide) ?_
    refine lv_istore_n hx hb dX2_base_33 rfl hl (by decide) rfl (fun ls hl => ?_)
    have hl : lv_has ls 6 [(2, .int (nI 0)), (1, .int (nI (tw_N k))), (0, .ref m0)] := hl
    refine lv_iconst (v := (nI 0)) hx hb dX2_base_34 (by decide) ?_
    refine lv_istore_n hx hb dX2_base_35 rfl hl (by decide) rfl (fun ls hl => ?_)
    have hl : lv_has ls 6 [(3, .int (nI 0)), (2, .int (nI 0)), (1, .int (nI (tw_N k))), (0, .ref m0)] := hl
    have loop : ∀ (f9 i : Nat) (s1 s2 : Int32) (g9 : Nat → Int32) (H : Heap) (locs : List Loc) (ls : Array Slot), 16384 - i < f9 → i ≤ 16384 → (g9 k = nI (tw_bst (tw_P k) (tw_D k) (tw_N k) i).2 ∧ ∀ n, n ≠ k → g9 n = fb n) → va_P D vwCl [(m0, .inr (2, [.int (nI 0), .int (nI k), .int (nI (tw_P k)), .int (nI (tw_D k)), .int (nI (tw_I k)), .ref mx, .ref my, .ref mr, .ref mb, .int s1, .int s2])), (mx, .inl (cA, 12, .inl fx)), (my, .inl (cA, 12, .inl fy)), (mr, .inl (cA, 8101, .inl fr)), (mb, .inl (cA, 5, .inl g9))] H → va_D A [(m0, .inr (2, [.int (nI 0), .int (nI k), .int (nI (tw_P k)), .int (nI (tw_D k)), .int (nI (tw_I k)), .ref mx, .ref my, .ref mr, .ref mb, .int s1, .int s2])), (mx, .inl (cA, 12, .inl fx)), (my, .inl (cA, 12, .inl fy)), (mr, .inl (cA, 8101, .inl fr)), (mb, .inl (cA, 5, .inl g9))] → va_S A s.heap H locs → lv_has ls 6 [(3, .int (nI i)), (2, .int (nI (tw_bst (tw_P k) (tw_D k) (tw_N k) i).1)), (1, .int (nI (tw_N k))), (0, .ref m0)] → W p l e (headSpec wX2_base ({ frames := 5, cells := 0, slots := 0, locals := 125 })).room s m ([.ref m0]).toArray below meth c H locs 0 0 (MQ below (va_Qi (fun (r : Int32) (u : Int32 × Int32 × (Nat → Int32)) => r = nI (tw_bst (tw_P k) (tw_D k) (tw_N k) 16384).2 ∧ u.2.2 k = nI (tw_bst (tw_P k) (tw_D k) (tw_N k) 16384).2 ∧ ∀ i, i ≠ k → u.2.2 i = fb i) (fun (u : Int32 × Int32 × (Nat → Int32)) t => wd_at D [(cA, .int)] (A) [(m0, .inr (2, [.int (nI 0), .int (nI k), .int (nI (tw_P k)), .int (nI (tw_D k)), .int (nI (tw_I k)), .ref mx, .ref my, .ref mr, .ref mb, .int u.1, .int u.2.1])), (mx, .inl (cA, 12, .inl fx)), (my, .inl (cA, 12, .inl fy)), (mr, .inl (cA, 8101, .inl fr)), (mb, .inl (cA, 5, .inl u.2.2))] t) A) ([.ref m0]).toArray s 0 0 A) (F0 m 36 ls []) := by
      intro f9
      induction f9 with
      | zero => intro i s1 s2 g9 H locs ls h1; exact absurd h1 (Nat.not_lt_zero _)
      | succ f9 ih =>
        intro i s1 s2 g9 H locs ls h1 h2 hg hP hD hS hl
        have zb : (tw_bst (tw_P k) (tw_D k) (tw_N k) i).1 ≤ 8232 := Nat.le_trans (hbb i).1 hN.2
        have zb2 : (tw_bst (tw_P k) (tw_D k) (tw_N k) i).2 ≤ 16384 := Nat.le_trans (hbb i).2 h2
        refine lv_iload_n hx hb dX2_base_36 rfl (lv_at hl 0 rfl) ?_
        refine lv_sipush (v := (nI 16384)) hx hb dX2_base_37 (by decide) ?_
        refine nv_icmp_ge (tgt := 101) hx hb dX2_base_40 (by decide) (nv_le (b := 16384) h2 (by decide)) (nv_le (b := 16384) (Nat.le_refl 16384) (by decide)) (fun c40 => ?_) (fun c40 => ?_)
        · have e8 : i = 16384 := Nat.le_antisymm h2 c40
          subst e8
          refine lv_aload_n hx hb dX2_base_101 rfl (lv_at hl 3 rfl) ?_
          refine va_get (D := D) (ci := 2) (v := .ref mb) (C := RX2) (T := TX2) (N := 11) hx hb ht inX2 hown hK hP 0 rfl rfl 8 (by decide) (ht _ kf_X2_23) (fun _ h9 => h9) rfl dX2_base_102 ?_
          refine lv_aload_n hx hb dX2_base_105 rfl (lv_at hl 3 rfl) ?_
          refine va_get (D := D) (ci := 2) (v := .int (nI k)) (C := RX2) (T := TX2) (N := 11) hx hb ht inX2 hown hK hP 0 rfl rfl 1 (by decide) (ht _ kf_X2_33) (fun _ h9 => h9) rfl dX2_base_106 ?_
          refine nv_iald (A := fun _ => True) (H0 := s.heap) hx hb hK hP 4 0 rfl rfl hk5 (by decide) dX2_base_109 ?_
          rw [hg.1]
          exact W.iret hx hb hr (fun t ht9 hW => ⟨⟨_, (s1, s2, g9), rfl, ⟨rfl, hg.1, hg.2⟩, by rw [ht9]; exact hP, va_K.moved hW.alike hK, hD⟩, hS.F ht9⟩) hS.2.2 dX2_base_110
        · refine lv_aload_n hx hb dX2_base_43 rfl (lv_at hl 3 rfl) ?_
          refine lv_iload_n hx hb dX2_base_44 rfl (lv_at hl 0 rfl) ?_
          refine vp_callSi (W.runV (As := [.int (nI i)]) (rest := []) ⟨hx, hb, hml, hown, ht⟩ (c_X2_xOf l D hk5 hfr (j := i) (by omega)) (cwV 1 ht (tb_V kl_X2_84 ki_X2_xOf ks_X2_xOf kn_X2 kc_X2_xOf) rfl rfl rfl ⟨rfl, kd_X2_xOf⟩ ⟨Nat.le_of_ble_eq_true rfl, Nat.le_of_ble_eq_true rfl⟩) (ro_preV _ (hP.sub (ws' := [(m0, .inr (2, [.int (nI 0), .int (nI k), .int (nI (tw_P k)), .int (nI (tw_D k)), .int (nI (tw_I k)), .ref mx, .ref my, .ref mr, .ref mb, .int s1, .int s2])), (mr, .inl (cA, 8101, .inl fr))]) [0, 3] rfl) hK (va_recv (ci := 2) (q0 := 0) hK hP rfl rfl)) rfl rfl hl.1 rfl (lv_room (Nat.le_of_ble_eq_true rfl)) dX2_base_45 ⟨Nat.zero_le _, Nat.zero_le _⟩) (fun r hr9 => ?_)
          subst hr9
          refine lv_istore hx hb dX2_base_48 hl (by decide) rfl (fun ls hl => ?_)
          have hl : lv_has ls 6 [(4, .int (tw_xr (tw_P k) (tw_D k) i)), (3, .int (nI i)), (2, .int (nI ((tw_bst (tw_P k) (tw_D k) (tw_N k) i).1))), (1, .int (nI (tw_N k))), (0, .ref m0)] := hl
          cases er : tw_rd (tw_P k) (tw_D k) i with
          | none =>
            rw [tw_xr_none er] at hl
            refine lv_iload hx hb dX2_base_50 (lv_at hl 0 rfl) ?_
            refine lv_iconst (v := (-1)) hx hb dX2_base_52 (by decide) ?_
            refine lv_icmp_ne (tgt := 59) hx hb dX2_base_53 (by decide) (fun c9 => absurd rfl c9) (fun _ => ?_)
            refine lv_goto (tgt := 95) hx hb dX2_base_56 (by decide) ?_
            refine lv_iinc hx hb dX2_base_95 hl (k := 1) rfl nv_inc (by decide) rfl (fun ls hl => ?_)
            have hl : lv_has ls 6 [(3, .int (nI (i + 1))), (4, .int (-1)), (2, .int (nI ((tw_bst (tw_P k) (tw_D k) (tw_N k) i).1))), (1, .int (nI (tw_N k))), (0, .ref m0)] := hl
            refine lv_goto (tgt := 36) hx hb dX2_base_98 (by decide) ?_
            have e7 : tw_bst (tw_P k) (tw_D k) (tw_N k) (i + 1) = tw_bst (tw_P k) (tw_D k) (tw_N k) i := tw_bst_n er
            refine ih (i + 1) s1 s2 g9 H locs ls (by omega) (by omega) ?_ hP hD hS ?_
            · rw [e7]; exact hg
            · rw [e7]; exact lv_sub hl [0, 2, 3, 4] rfl
          | some q =>
            rw [tw_xr_some er] at hl
            have hq9 := (tw_rd_some hK0 er).1
            have z1 := tw_on1 hP2 hq9
            have z2 := tw_on2 hP2 hq9
            have e5 := (tw_rd_y hK0 hP8 er).1
            have zo : tw_od (tw_P k) (tw_D k) (tw_N k) q ≤ 8232 := Nat.le_trans (tw_od_spec (by omega) (tw_kM hk5 hq9)).2.1 hN.2
            refine lv_iload hx hb dX2_base_50 (lv_at hl 0 rfl) ?_
            refine lv_iconst (v := (-1)) hx hb dX2_base_52 (by decide) ?_
            refine lv_icmp_ne (tgt := 59) hx hb dX2_base_53 (by decide) (fun _ => ?_) (fun c9 => absurd c9 (nv_m1 (by omega)))
            refine lv_aload_n hx hb dX2_base_59 rfl (lv_at hl 4 rfl) ?_
            refine lv_iload_n hx hb dX2_base_60 rfl (lv_at hl 3 rfl) ?_
            refine lv_iload hx hb dX2_base_61 (lv_at hl 0 rfl) ?_
            refine lv_iload_n hx hb dX2_base_63 rfl (lv_at hl 1 rfl) ?_
            refine lv_sipush (v := (nI 8192)) hx hb dX2_base_64 (by decide) ?_
            refine nv_irem hx hb dX2_base_67 (by decide) (nv_le (b := 16384) h2 (by decide)) (nv_le (b := 8192) (Nat.le_refl 8192) (by decide)) ?_
            rw [← e5]
            have hPc := hP.sub (ws' := [(m0, .inr (2, [.int (nI 0), .int (nI k), .int (nI (tw_P k)), .int (nI (tw_D k)), .int (nI (tw_I k)), .ref mx, .ref my, .ref mr, .ref mb, .int s1, .int s2]))]) [0] rfl
            have hDc := hD.sub (ws' := [(m0, .inr (2, [.int (nI 0), .int (nI k), .int (nI (tw_P k)), .int (nI (tw_D k)), .int (nI (tw_I k)), .ref mx, .ref my, .ref mr, .ref mb, .int s1, .int s2]))]) [0] (by decide) rfl
            have hFc := va_free (wc := [(m0, .inr (2, [.int (nI 0), .int (nI k), .int (nI (tw_P k)), .int (nI (tw_D k)), .int (nI (tw_I k)), .ref mx, .ref my, .ref mr, .ref mb, .int s1, .int s2]))]) hD hS hA [0] rfl
            refine va_calli (va_runV (As := [.int (nI (tw_N k)), .int (nI q.1), .int (nI q.2)]) (rest := []) ⟨hx, hb, hml, hown, ht⟩ (c_X2_quickOrder l D hk5 hq9 H.size) (cwV 3 ht (tb_V kl_X2_102 ki_X2_quickOrder ks_X2_quickOrder kn_X2 kc_X2_quickOrder) rfl rfl rfl ⟨rfl, kd_X2_quickOrder⟩ ⟨Nat.le_of_ble_eq_true rfl, Nat.le_of_ble_eq_true rfl⟩) (wd_preV _ hPc (hK.sub (tys' := []) [] rfl) hDc (va_recv (ci := 2) (q0 := 0) hK hP rfl rfl)) rfl rfl hl.1 rfl (lv_room (Nat.le_of_ble_eq_true rfl)) dX2_base_68 ⟨Nat.le_of_ble_eq_true rfl, Nat.le_of_ble_eq_true rfl⟩) hS (fun q _ h => hFc q h) hFc (fun r9 u9 t9 H1 locs ht9 hvm9 hw9 hB9 hz9 hk9 hS => ?_)
            obtain ⟨hP1, hK1, hD1⟩ := hB9
            rw [ht9] at hP1
            obtain ⟨hP, hD⟩ := va_join (wr := [(mx, .inl (cA, 12, .inl fx)), (my, .inl (cA, 12, .inl fy)), (mr, .inl (cA, 8101, .inl fr)), (mb, .inl (cA, 5, .inl g9))]) (w1 := [(m0, .inr (2, [.int (nI 0), .int (nI k), .int (nI (tw_P k)), .int (nI (tw_D k)), .int (nI (tw_I k)), .ref mx, .ref my, .ref mr, .ref mb, .int u9.1, .int u9.2]))]) hP hD [0] [1, 2, 3, 4] rfl rfl (by decide) (by decide) hk9 hFc hP1 hD1
            have hP := hP.sub (ws' := [(m0, .inr (2, [.int (nI 0), .int (nI k), .int (nI (tw_P k)), .int (nI (tw_D k)), .int (nI (tw_I k)), .ref mx, .ref my, .ref mr, .ref mb, .int u9.1, .int u9.2])), (mx, .inl (cA, 12, .inl fx)), (my, .inl (cA, 12, .inl fy)), (mr, .inl (cA, 8101, .inl fr)), (mb, .inl (cA, 5, .inl g9))]) [4, 0, 1, 2, 3] rfl
            have hD := hD.sub (ws' := [(m0, .inr (2, [.int (nI 0), .int (nI k), .int (nI (tw_P k)), .int (nI (tw_D k)), .int (nI (tw_I k)), .ref mx, .ref my, .ref mr, .ref mb, .int u9.1, .int u9.2])), (mx, .inl (cA, 12, .inl fx)), (my, .inl (cA, 12, .inl fy)), (mr, .inl (cA, 8101, .inl fr)), (mb, .inl (cA, 5, .inl g9))]) [4, 0, 1, 2, 3] (by decide) rfl
            generalize H1 = H at hP hS hz9 ⊢
            subst hw9
            refine lv_istore hx hb dX2_base_71 hl (by decide) rfl (fun ls hl => ?_)
            have hl : lv_has ls 6 [(5, .int (nI (tw_od (tw_P k) (tw_D k) (tw_N k) q))), (4, .int (nI q.1)), (3, .int (nI i)), (2, .int (nI ((tw_bst (tw_P k) (tw_D k) (tw_N k) i).1))), (1, .int (nI (tw_N k))), (0, .ref m0)] := hl
            refine lv_iload hx hb dX2_base_73 (lv_at hl 0 rfl) ?_
            refine lv_iload_n hx hb dX2_base_75 rfl (lv_at hl 3 rfl) ?_
            refine nv_icmp_gt (tgt := 82) hx hb dX2_base_76 (by decide) (nv_le (b := 8232) zo (by decide)) (nv_le (b := 8232) zb (by decide)) (fun c76 => ?_) (fun c76 => ?_)
            · have hkk := hk5
              refine lv_iload hx hb dX2_base_82 (lv_at hl 0 rfl) ?_
              refine lv_istore_n hx hb dX2_base_84 rfl hl (by decide) rfl (fun ls hl => ?_)
              have hl : lv_has ls 6 [(2, .int (nI (tw_od (tw_P k) (tw_D k) (tw_N k) q))), (5, .int (nI (tw_od (tw_P k) (tw_D k) (tw_N k) q))), (4, .int (nI q.1)), (3, .int (nI i)), (1, .int (nI (tw_N k))), (0, .ref m0)] := hl
              refine lv_aload_n hx hb dX2_base_85 rfl (lv_at hl 5 rfl) ?_
              refine va_get (D := D) (ci := 2) (v := .ref mb) (C := RX2) (T := TX2) (N := 11) hx hb ht inX2 hown hK hP 0 rfl rfl 8 (by decide) (ht _ kf_X2_23) (fun _ h9 => h9) rfl dX2_base_86 ?_
              refine lv_aload_n hx hb dX2_base_89 rfl (lv_at hl 5 rfl) ?_
              refine va_get (D := D) (ci := 2) (v := .int (nI k)) (C := RX2) (T := TX2) (N := 11) hx hb ht inX2 hown hK hP 0 rfl rfl 1 (by decide) (ht _ kf_X2_33) (fun _ h9 => h9) rfl dX2_base_90 ?_
              refine lv_iload_n hx hb dX2_base_93 rfl (lv_at hl 3 rfl) ?_
              refine nv_iast hx hb hK hP hD hS 4 0 rfl rfl hk5 (by decide) dX2_base_94 (fun H locs hP hD hS => ?_)
              have hP : va_P D vwCl [(m0, .inr (2, [.int (nI 0), .int (nI k), .int (nI (tw_P k)), .int (nI (tw_D k)), .int (nI (tw_I k)), .ref mx, .ref my, .ref mr, .ref mb, .int u9.1, .int u9.2])), (mx, .inl (cA, 12, .inl fx)), (my, .inl (cA, 12, .inl fy)), (mr, .inl (cA, 8101, .inl fr)), (mb, .inl (cA, 5, .inl (upd g9 k (nI i))))] H := hP
              have hD : va_D A [(m0, .inr (2, [.int (nI 0), .int (nI k), .int (nI (tw_P k)), .int (nI (tw_D k)), .int (nI (tw_I k)), .ref mx, .ref my, .ref mr, .ref mb, .int u9.1, .int u9.2])), (mx, .inl (cA, 12, .inl fx)), (my, .inl (cA, 12, .inl fy)), (mr, .inl (cA, 8101, .inl fr)), (mb, .inl (cA, 5, .inl (upd g9 k (nI i))))] := hD
              refine lv_iinc hx hb dX2_base_95 hl (k := 3) rfl nv_inc (by decide) rfl (fun ls hl => ?_)
              have hl : lv_has ls 6 [(3, .int (nI (i + 1))), (2, .int (nI (tw_od (tw_P k) (tw_D k) (tw_N k) q))), (5, .int (nI (tw_od (tw_P k) (tw_D k) (tw_N k) q))), (4, .int (nI q.1)), (1, .int (nI (tw_N k))), (0, .ref m0)] := hl
              refine lv_goto (tgt := 36) hx hb dX2_base_98 (by decide) ?_
              have e7 : tw_bst (tw_P k) (tw_D k) (tw_N k) (i + 1) = (tw_od (tw_P k) (tw_D k) (tw_N k) q, i) := by rw [tw_bst_s er, if_pos c76]
              refine ih (i + 1) _ _ _ H locs ls (by omega) (by omega) ?_ hP hD hS ?_
              · rw [e7]; exact ⟨up_at, fun n hn => by rw [up_ne hn]; exact hg.2 n hn⟩
              · rw [e7]; exact lv_sub hl [0, 1, 4, 5] rfl
            · refine lv_goto (tgt := 95) hx hb dX2_base_79 (by decide) ?_
              refine lv_iinc hx hb dX2_base_95 hl (k := 2) rfl nv_inc (by decide) rfl (fun ls hl => ?_)
              have hl : lv_has ls 6 [(3, .int (nI (i + 1))), (5, .int (nI (tw_od (tw_P k) (tw_D k) (tw_N k) q))), (4, .int (nI q.1)), (2, .int (nI ((tw_bst (tw_P k) (tw_D k) (tw_N k) i).1))), (1, .int (nI (tw_N k))), (0, .ref m0)] := hl
              refine lv_goto (tgt := 36) hx hb dX2_base_98 (by decide) ?_
              have e7 : tw_bst (tw_P k) (tw_D k) (tw_N k) (i + 1) = tw_bst (tw_P k) (tw_D k) (tw_N k) i := by rw [tw_bst_s er, if_neg (by omega)]
              refine ih (i + 1) _ _ g9 H locs ls (by omega) (by omega) ?_ hP hD hS ?_
              · rw [e7]; exact hg
              · rw [e7]; exact lv_sub hl [0, 3, 4, 5] rfl
    refine loop 16385 0 sx sy fb H locs ls (by omega) (Nat.zero_le _) ⟨?_, fun _ _ => rfl⟩ hP hD hS (lv_sub hl [0, 1, 2, 3] rfl)
    rw [hB, c14]
    rfl
  · refine lv_aload_n hx hb dX2_base_17 rfl (lv_at hl 0 rfl) ?_
    refine va_get (D := D) (ci := 2) (v := .ref mb) (C := RX2) (T := TX2) (N := 11) hx hb ht inX2 hown hK hP 0 rfl rfl 8 (by decide) (ht _ kf_X2_23) (fun _ h9 => h9) rfl dX2_base_18 ?_
    refine lv_aload_n hx hb dX2_base_21 rfl (lv_at hl 0 rfl) ?_
    refine va_get (D := D) (ci := 2) (v := .int (nI k)) (C := RX2) (T := TX2) (N := 11) hx hb ht inX2 hown hK hP 0 rfl rfl 1 (by decide) (ht _ kf_X2_33) (fun _ h9 => h9) rfl dX2_base_22 ?_
    refine nv_iald (A := fun _ => True) (H0 := s.heap) hx hb hK hP 4 0 rfl rfl hk5 (by decide) dX2_base_25 ?_
    rw [hB]
    have e5 : B0 = (tw_bst (tw_P k) (tw_D k) (tw_N k) 16384).2 := by omega
    exact W.iret hx hb hr (fun t ht9 hW => ⟨⟨_, (sx, sy, fb), rfl, ⟨by rw [← e5], by rw [← e5]; exact hB, fun _ _ => rfl⟩, by rw [ht9]; exact hP, va_K.moved hW.alike hK, hD⟩, hS.F ht9⟩) hS.2.2 dX2_base_26
set_option maxHeartbeats 4000000 in
set_option maxRecDepth 100000 in
theorem c_X2_half (l : Launch) (D : va_G) {k : Nat} (hk5 : k < 5) {m0 mx my mr mb : Nat} {th sx sy : Int32} {cA : ClassId} {fx fy fr fb : Nat → Int32} {R : Nat → Nat × Nat} (hfr : ∀ j, j < tw_P k → fr j = tw_rv (tw_P k) j) (hR : ∀ j, j < 12 → tw_on (tw_P k) (tw_D k) (R j) ∧ fx j = nI (R j).1 ∧ fy j = nI (R j).2) {j j2 : Nat} (hj : j < 12) (hj2 : j2 < 12) (sz : Nat) : Met l yX2_half wX2_half ({ frames := 3, cells := 0, slots := 0, locals := 73 }) (va_Pc [.ref m0, .int (nI j), .int (nI j2)] (wd_pre D [(cA, .int)] [(m0, .inr (2, [.int th, .int (nI k), .int (nI (tw_P k)), .int (nI (tw_D k)), .int (nI (tw_I k)), .ref mx, .ref my, .ref mr, .ref mb, .int sx, .int sy])), (mx, .inl (cA, 12, .inl fx)), (my, .inl (cA, 12, .inl fy)), (mr, .inl (cA, 8101, .inl fr)), (mb, .inl (cA, 5, .inl fb))] sz)) (va_Qi (fun (r : Int32) (u : Int32 × Int32 × (Nat → Int32) × (Nat → Int32)) => r = nI (tw_hc (tw_P k) (tw_D k) (R j2) 16384) ∧ u.2.2.1 = (match tw_hf (tw_P k) (tw_D k) (R j2) 16384 with | none => fx | some p => upd fx j (nI p.1)) ∧ u.2.2.2 = (match tw_hf (tw_P k) (tw_D k) (R j2) 16384 with | none => fy | some p => upd fy j (nI p.2))) (fun (u : Int32 × Int32 × (Nat → Int32) × (Nat → Int32)) t => wd_at D [(cA, .int)] (va_A [(m0, .inr (2, [.int th, .int (nI k), .int (nI (tw_P k)), .int (nI (tw_D k)), .int (nI (tw_I k)), .ref mx, .ref my, .ref mr, .ref mb, .int sx, .int sy])), (mx, .inl (cA, 12, .inl fx)), (my, .inl (cA, 12, .inl fy)), (mr, .inl (cA, 8101, .inl fr)), (mb, .inl (cA, 5, .inl fb))] sz) [(m0, .inr (2, [.int (nI 0), .int (nI k), .int (nI (tw_P k)), .int (nI (tw_D k)), .int (nI (tw_I k)), .ref mx, .ref my, .ref mr, .ref mb, .int u.1, .int u.2.1])), (mx, .inl (cA, 12, .inl u.2.2.1)), (my, .inl (cA, 12, .inl u.2.2.2)), (mr, .inl (cA, 8101, .inl fr)), (mb, .inl (cA, 5, .inl fb))] t) (va_A [(m0, .inr (2, [.int th, .int (nI k), .int (nI (tw_P k)), .int (nI (tw_D k)), .int (nI (tw_I k)), .ref mx, .ref my, .ref mr, .ref mb, .int sx, .int sy])), (mx, .inl (cA, 12, .inl fx)), (my, .inl (cA, 12, .inl fy)), (mr, .inl (cA, 8101, .inl fr)), (mb, .inl (cA, 5, .inl fb))] sz)) 0 0 (va_A [(m0, .inr (2, [.int th, .int (nI k), .int (nI (tw_P k)), .int (nI (tw_D k)), .int (nI (tw_I k)), .ref mx, .ref my, .ref mr, .ref mb, .int sx, .int sy])), (mx, .inl (cA, 12, .inl fx)), (my, .inl (cA, 12, .inl fy)), (mr, .inl (cA, 8101, .inl fr)), (mb, .inl (cA, 5, .inl fb))] sz) := by
  refine Met.ofW (cc := cX2_half) (maxL := 7) (ret := (some .int)) (by decide) rfl ?_
  intro p e s m args below meth c s₁ B hml hv
  obtain ⟨rfl, hsz, hP, hK, hD0⟩ := hv
  have hx := B.exec
  have hb := B.bytes
  have hr := B.returns
  have hts := atoms_spec (ws := wX2_half) B.pre
  have ht : ∀ w ∈ tb_all, w.before _ s = true := fun w h => hts w (List.mem_cons_of_mem _ h)
  have hown : s.vm.findClass RX2 = some m.cls := findClass_of_methodNamed B.named
  have hlocks := B.notSynchronized
  have hin : meth.name = "half" := (name_of_methodNamed B.named B.method).1
  subst hsz
  have hD := hD0.self (sz := s.heap.size)
  generalize hAe : va_A [(m0, .inr (2, [.int th, .int (nI k), .int (nI (tw_P k)), .int (nI (tw_D k)), .int (nI (tw_I k)), .ref mx, .ref my, .ref mr, .ref mb, .int sx, .int sy])), (mx, .inl (cA, 12, .inl fx)), (my, .inl (cA, 12, .inl fy)), (mr, .inl (cA, 8101, .inl fr)), (mb, .inl (cA, 5, .inl fb))] s.heap.size = A at hD ⊢
  have hA : ∀ q : Nat, s.heap.size ≤ q → A q := fun q h => by rw [← hAe]; exact Or.inr h
  have hS : va_S A s.heap s.heap [] := va_S.rf
  have hl := lv_entry ([.ref m0, .int (nI j), .int (nI j2)]) (n := 7) (Nat.le_of_ble_eq_true rfl)
  rw [lg_entry_eq]
  generalize (lg_sl ([.ref m0, .int (nI j), .int (nI j2)]) ++ List.replicate (7 - (lg_sl ([.ref m0, .int (nI j), .int (nI j2)])).length) Slot.unset).toArray = ls at hl ⊢
  have hl : lv_has ls 7 [(0, .ref m0), (1, .int (nI j)), (2, .int (nI j2))] := hl
  obtain ⟨hP0, hP2, hD2, hI2, hDP⟩ := tw_kb hk5
  have hK0 := tw_kK k hk5
  have hP8 : tw_P k ≤ 8192 := by omega
  have hN := tw_kN k hk5
  have zk : k ≤ 4 := by omega
  have o2 := (hR j2 hj2).1
  have hcf := tw_hcf (tw_P k) (tw_D k) (R j2) 16384
  refine lv_aload_n hx hb dX2_half_0 rfl (lv_at hl 0 rfl) ?_
  refine lv_iload_n hx hb dX2_half_1 rfl (lv_at hl 1 rfl) ?_
  refine vp_callSi (W.runS (As := [.int (nI j)]) (rest := [.ref m0]) ⟨hx, hb, hml, hown, ht⟩ (c_X2_none l hj) (va_cwS 1 ht (tb_S kl_X2_76 kt_X2_none kn_X2 kc_X2_none) rfl rfl rfl kd_X2_none ⟨Nat.le_of_ble_eq_true rfl, Nat.le_of_ble_eq_true rfl⟩) (st_pre _) rfl rfl hl.1 rfl (lv_room (Nat.le_of_ble_eq_true rfl)) dX2_half_2 ⟨Nat.zero_le _, Nat.zero_le _⟩) (fun r hr9 => ?_)
  subst hr9
  refine lv_if_ne (tgt := 15) hx hb dX2_half_5 (by decide) (fun c9 => absurd rfl c9) (fun _ => ?_)
  refine lv_iload_n hx hb dX2_half_8 rfl (lv_at hl 2 rfl) ?_
  refine vp_callSi (W.runS (As := [.int (nI j2)]) (rest := [.ref m0]) ⟨hx, hb, hml, hown, ht⟩ (c_X2_none l hj2) (va_cwS 1 ht (tb_S kl_X2_76 kt_X2_none kn_X2 kc_X2_none) rfl rfl rfl kd_X2_none ⟨Nat.le_of_ble_eq_true rfl, Nat.le_of_ble_eq_true rfl⟩) (st_pre _) rfl rfl hl.1 rfl (lv_room (Nat.le_of_ble_eq_true rfl)) dX2_half_9 ⟨Nat.zero_le _, Nat.zero_le _⟩) (fun r hr9 => ?_)
  subst hr9
  refine lv_if_eq (tgt := 19) hx hb dX2_half_12 (by decide) (fun _ => ?_) (fun c9 => absurd rfl c9)
  refine lv_iconst (v := (nI 0)) hx hb dX2_half_19 (by decide) ?_
  refine va_put (D := D) (ci := 2) (v := .int (nI 0)) (ty := .int) (C := RX2) (T := TX2) (N := 11) hx hb ht inX2 tyX2 tyX2_ok nmX2 hown hK hP hD hS 0 rfl rfl 0 (by decide) (ht _ kf_X2_30) (fun _ h9 => h9) rfl (by decide +kernel) rfl rfl (Nat.le_of_ble_eq_true rfl) dX2_half_20 (fun H locs hP hD hS => ?_)
  have hP : va_P D vwCl [(m0, .inr (2, [.int (nI 0), .int (nI k), .int (nI (tw_P k)), .int (nI (tw_D k)), .int (nI (tw_I k)), .ref mx, .ref my, .ref mr, .ref mb, .int sx, .int sy])), (mx, .inl (cA, 12, .inl fx)), (my, .inl (cA, 12, .inl fy)), (mr, .inl (cA, 8101, .inl fr)), (mb, .inl (cA, 5, .inl fb))] H := hP
  have hD : va_D A [(m0, .inr (2, [.int (nI 0), .int (nI k), .int (nI (tw_P k)), .int (nI (tw_D k)), .int (nI (tw_I k)), .ref mx, .ref my, .ref mr, .ref mb, .int sx, .int sy])), (mx, .inl (cA, 12, .inl fx)), (my, .inl (cA, 12, .inl fy)), (mr, .inl (cA, 8101, .inl fr)), (mb, .inl (cA, 5, .inl fb))] := hD
  refine lv_aload_n hx hb dX2_half_23 rfl (lv_at hl 0 rfl) ?_
  refine va_get (D := D) (ci := 2) (v := .int (nI 0)) (C := RX2) (T := TX2) (N := 11) hx hb ht inX2 hown hK hP 0 rfl rfl 0 (by decide) (ht _ kf_X2_30) (fun _ h9 => h9) rfl dX2_half_24 ?_
  refine nv_if_le (tgt := 32) hx hb dX2_half_27 (by decide) (by decide) (fun _ => ?_) (fun c8 => absurd c8 (by decide))
  refine lv_iconst (v := (nI 0)) hx hb dX2_half_32 (by decide) ?_
  refine lv_istore_n hx hb dX2_half_33 rfl hl (by decide) rfl (fun ls hl => ?_)
  have hl : lv_has ls 7 [(3, .int (nI 0)), (0, .ref m0), (1, .int (nI j)), (2, .int (nI j2))] := hl
  refine lv_iconst (v := (-1)) hx hb dX2_half_34 (by decide) ?_
  refine lv_istore hx hb dX2_half_35 hl (by decide) rfl (fun ls hl => ?_)
  have hl : lv_has ls 7 [(4, .int (-1)), (3, .int (nI 0)), (0, .ref m0), (1, .int (nI j)), (2, .int (nI j2))] := hl
  refine lv_iconst (v := (nI 0)) hx hb dX2_half_37 (by decide) ?_
  refine lv_istore hx hb dX2_half_38 hl (by decide) rfl (fun ls hl => ?_)
  have hl : lv_has ls 7 [(5, .int (nI 0)), (4, .int (-1)), (3, .int (nI 0)), (0, .ref m0), (1, .int (nI j)), (2, .int (nI j2))] := hl
  have loop : ∀ (f9 i : Nat) (s1 s2 : Int32) (H : Heap) (locs : List Loc) (ls : Array Slot), 16384 - i < f9 → i ≤ 16384 → va_P D vwCl [(m0, .inr (2, [.int (nI 0), .int (nI k), .int (nI (tw_P k)), .int (nI (tw_D k)), .int (nI (tw_I k)), .ref mx, .ref my, .ref mr, .ref mb, .int s1, .int s2])), (mx, .inl (cA, 12, .inl fx)), (my, .inl (cA, 12, .inl fy)), (mr, .inl (cA, 8101, .inl fr)), (mb, .inl (cA, 5, .inl fb))] H → va_D A [(m0, .inr (2, [.int (nI 0), .int (nI k), .int (nI (tw_P k)), .int (nI (tw_D k)), .int (nI (tw_I k)), .ref mx, .ref my, .ref mr, .ref mb, .int s1, .int s2])), (mx, .inl (cA, 12, .inl fx)), (my, .inl (cA, 12, .inl fy)), (mr, .inl (cA, 8101, .inl fr)), (mb, .inl (cA, 5, .inl fb))] → va_S A s.heap H locs → lv_has ls 7 [(5, .int (nI i)), (4, .int (tw_hv (tw_P k) (tw_D k) (R j2) i)), (3, .int (nI (tw_hc (tw_P k) (tw_D k) (R j2) i))), (0, .ref m0), (1, .int (nI j)), (2, .int (nI j2))] → W p l e (headSpec wX2_half ({ frames := 3, cells := 0, slots := 0, locals := 73 })).room s m ([.ref m0, .int (nI j), .int (nI j2)]).toArray below meth c H locs 0 0 (MQ below (va_Qi (fun (r : Int32) (u : Int32 × Int32 × (Nat → Int32) × (Nat → Int32)) => r = nI (tw_hc (tw_P k) (tw_D k) (R j2) 16384) ∧ u.2.2.1 = (match tw_hf (tw_P k) (tw_D k) (R j2) 16384 with | none => fx | some p => upd fx j (nI p.1)) ∧ u.2.2.2 = (match tw_hf (tw_P k) (tw_D k) (R j2) 16384 with | none => fy | some p => upd fy j (nI p.2))) (fun (u : Int32 × Int32 × (Nat → Int32) × (Nat → Int32)) t => wd_at D [(cA, .int)] (A) [(m0, .inr (2, [.int (nI 0), .int (nI k), .int (nI (tw_P k)), .int (nI (tw_D k)), .int (nI (tw_I k)), .ref mx, .ref my, .ref mr, .ref mb, .int u.1, .int u.2.1])), (mx, .inl (cA, 12, .inl u.2.2.1)), (my, .inl (cA, 12, .inl u.2.2.2)), (mr, .inl (cA, 8101, .inl fr)), (mb, .inl (cA, 5, .inl fb))] t) A) ([.ref m0, .int (nI j), .int (nI j2)]).toArray s 0 0 A) (F0 m 40 ls []) := by
    intro f9
    induction f9 with
    | zero => intro i s1 s2 H locs ls h1; exact absurd h1 (Nat.not_lt_zero _)
    | succ f9 ih =>
      intro i s1 s2 H locs ls h1 h2 hP hD hS hl
      have zc : tw_hc (tw_P k) (tw_D k) (R j2) i ≤ 16384 := Nat.le_trans (tw_hc_le _ _ _ i) h2
      refine lv_iload hx hb dX2_half_40 (lv_at hl 0 rfl) ?_
      refine lv_sipush (v := (nI 16384)) hx hb dX2_half_42 (by decide) ?_
      refine nv_icmp_ge (tgt := 133) hx hb dX2_half_45 (by decide) (nv_le (b := 16384) h2 (by decide)) (nv_le (b := 16384) (Nat.le_refl 16384) (by decide)) (fun c45 => ?_) (fun c45 => ?_)
      · have e8 : i = 16384 := Nat.le_antisymm h2 c45
        subst e8
        refine lv_iload_n hx hb dX2_half_133 rfl (lv_at hl 2 rfl) ?_
        refine nv_if_ne (tgt := 139) hx hb dX2_half_134 (by decide) (nv_le (b := 16384) zc (by decide)) (fun c134 => ?_) (fun c134 => ?_)
        · have e5 : ∃ p, tw_hf (tw_P k) (tw_D k) (R j2) 16384 = some p := by
            cases e6 : tw_hf (tw_P k) (tw_D k) (R j2) 16384 with
            | none => have := hcf.mp e6; omega
            | some p => exact ⟨p, rfl⟩
          obtain ⟨p8, e5⟩ := e5
          rw [tw_hv_s e5] at hl
          have hp8 := tw_hf_on hK0 16384 e5
          have hrd := tw_rd_pk hK0 hP8 hp8
          have z1 := tw_on1 hP2 hp8
          have z2 := tw_on2 hP2 hp8
          have ey := (tw_rd_y hK0 hP8 hrd.1).1
          have zpk : tw_pk p8 ≤ 16383 := by have := hrd.2; omega
          refine lv_aload_n hx hb dX2_half_139 rfl (lv_at hl 3 rfl) ?_
          refine lv_aload_n hx hb dX2_half_140 rfl (lv_at hl 3 rfl) ?_
          refine lv_iload hx hb dX2_half_141 (lv_at hl 1 rfl) ?_
          refine vp_callSi (W.runV (As := [.int (nI (tw_pk p8))]) (rest := [.ref m0]) ⟨hx, hb, hml, hown, ht⟩ (c_X2_xOf l D hk5 hfr (j := tw_pk p8) (by omega)) (cwV 1 ht (tb_V kl_X2_84 ki_X2_xOf ks_X2_xOf kn_X2 kc_X2_xOf) rfl rfl rfl ⟨rfl, kd_X2_xOf⟩ ⟨Nat.le_of_ble_eq_true rfl, Nat.le_of_ble_eq_true rfl⟩) (ro_preV _ (hP.sub (ws' := [(m0, .inr (2, [.int (nI 0), .int (nI k), .int (nI (tw_P k)), .int (nI (tw_D k)), .int (nI (tw_I k)), .ref mx, .ref my, .ref mr, .ref mb, .int s1, .int s2])), (mr, .inl (cA, 8101, .inl fr))]) [0, 3] rfl) hK (va_recv (ci := 2) (q0 := 0) hK hP rfl rfl)) rfl rfl hl.1 rfl (lv_room (Nat.le_of_ble_eq_true rfl)) dX2_half_143 ⟨Nat.zero_le _, Nat.zero_le _⟩) (fun r hr9 => ?_)
          subst hr9
          rw [tw_xr_some hrd.1]
          refine va_put (D := D) (ci := 2) (v := .int (nI p8.1)) (ty := .int) (C := RX2) (T := TX2) (N := 11) hx hb ht inX2 tyX2 tyX2_ok nmX2 hown hK hP hD hS 0 rfl rfl 9 (by decide) (ht _ kf_X2_59) (fun _ h9 => h9) rfl (by decide +kernel) rfl rfl (Nat.le_of_ble_eq_true rfl) dX2_half_146 (fun H locs hP hD hS => ?_)
          have hP : va_P D vwCl [(m0, .inr (2, [.int (nI 0), .int (nI k), .int (nI (tw_P k)), .int (nI (tw_D k)), .int (nI (tw_I k)), .ref mx, .ref my, .ref mr, .ref mb, .int (nI p8.1), .int s2])), (mx, .inl (cA, 12, .inl fx)), (my, .inl (cA, 12, .inl fy)), (mr, .inl (cA, 8101, .inl fr)), (mb, .inl (cA, 5, .inl fb))] H := hP
          have hD : va_D A [(m0, .inr (2, [.int (nI 0), .int (nI k), .int (nI (tw_P k)), .int (nI (tw_D k)), .int (nI (tw_I k)), .ref mx, .ref my, .ref mr, .ref mb, .int (nI p8.1), .int s2])), (mx, .inl (cA, 12, .inl fx)), (my, .inl (cA, 12, .inl fy)), (mr, .inl (cA, 8101, .inl fr)), (mb, .inl (cA, 5, .inl fb))] := hD
          refine lv_aload_n hx hb dX2_half_149 rfl (lv_at hl 3 rfl) ?_
          refine lv_iload hx hb dX2_half_150 (lv_at hl 1 rfl) ?_
          refine lv_sipush (v := (nI 8192)) hx hb dX2_half_152 (by decide) ?_
          refine nv_irem hx hb dX2_half_155 (by decide) (nv_le (b := 16383) zpk (by decide)) (nv_le (b := 8192) (Nat.le_refl 8192) (by decide)) ?_
          rw [← ey]
          refine va_put (D := D) (ci := 2) (v := .int (nI p8.2)) (ty := .int) (C := RX2) (T := TX2) (N := 11) hx hb ht inX2 tyX2 tyX2_ok nmX2 hown hK hP hD hS 0 rfl rfl 10 (by decide) (ht _ kf_X2_56) (fun _ h9 => h9) rfl (by decide +kernel) rfl rfl (Nat.le_of_ble_eq_true rfl) dX2_half_156 (fun H locs hP hD hS => ?_)
          have hP : va_P D vwCl [(m0, .inr (2, [.int (nI 0), .int (nI k), .int (nI (tw_P k)), .int (nI (tw_D k)), .int (nI (tw_I k)), .ref mx, .ref my, .ref mr, .ref mb, .int (nI p8.1), .int (nI p8.2)])), (mx, .inl (cA, 12, .inl fx)), (my, .inl (cA, 12, .inl fy)), (mr, .inl (cA, 8101, .inl fr)), (mb, .inl (cA, 5, .inl fb))] H := hP
          have hD : va_D A [(m0, .inr (2, [.int (nI 0), .int (nI k), .int (nI (tw_P k)), .int (nI (tw_D k)), .int (nI (tw_I k)), .ref mx, .ref my, .ref mr, .ref mb, .int (nI p8.1), .int (nI p8.2)])), (mx, .inl (cA, 12, .inl fx)), (my, .inl (cA, 12, .inl fy)), (mr, .inl (cA, 8101, .inl fr)), (mb, .inl (cA, 5, .inl fb))] := hD
          refine lv_aload_n hx hb dX2_half_159 rfl (lv_at hl 3 rfl) ?_
          refine lv_iload_n hx hb dX2_half_160 rfl (lv_at hl 4 rfl) ?_
          have hPc := hP.sub (ws' := [(m0, .inr (2, [.int (nI 0), .int (nI k), .int (nI (tw_P k)), .int (nI (tw_D k)), .int (nI (tw_I k)), .ref mx, .ref my, .ref mr, .ref mb, .int (nI p8.1), .int (nI p8.2)])), (mx, .inl (cA, 12, .inl fx)), (my, .inl (cA, 12, .inl fy))]) [0, 1, 2] rfl
          have hDc := hD.sub (ws' := [(m0, .inr (2, [.int (nI 0), .int (nI k), .int (nI (tw_P k)), .int (nI (tw_D k)), .int (nI (tw_I k)), .ref mx, .ref my, .ref mr, .ref mb, .int (nI p8.1), .int (nI p8.2)])), (mx, .inl (cA, 12, .inl fx)), (my, .inl (cA, 12, .inl fy))]) [0, 1, 2] (by decide) rfl
          have hFc := va_free (wc := [(m0, .inr (2, [.int (nI 0), .int (nI k), .int (nI (tw_P k)), .int (nI (tw_D k)), .int (nI (tw_I k)), .ref mx, .ref my, .ref mr, .ref mb, .int (nI p8.1), .int (nI p8.2)])), (mx, .inl (cA, 12, .inl fx)), (my, .inl (cA, 12, .inl fy))]) hD hS hA [0, 1, 2] rfl
          refine va_calli (va_runV (As := [.int (nI j)]) (rest := []) ⟨hx, hb, hml, hown, ht⟩ (c_X2_keep l D hj (p9 := p8) (tw_on1 hP2 hp8) (tw_on2 hP2 hp8) H.size) (cwV 1 ht (tb_V kl_X2_88 ki_X2_keep ks_X2_keep kn_X2 kc_X2_keep) rfl rfl rfl ⟨rfl, kd_X2_keep⟩ ⟨Nat.le_of_ble_eq_true rfl, Nat.le_of_ble_eq_true rfl⟩) (wd_preV _ hPc hK hDc (va_recv (ci := 2) (q0 := 0) hK hP rfl rfl)) rfl rfl hl.1 rfl (lv_room (Nat.le_of_ble_eq_true rfl)) dX2_half_161 ⟨Nat.le_of_ble_eq_true rfl, Nat.le_of_ble_eq_true rfl⟩) hS (fun q _ h => hFc q h) hFc (fun r9 k9 t9 H1 locs ht9 hvm9 hw9 hB9 hz9 hk9 hS => ?_)
          obtain ⟨hP1, hK1, hD1⟩ := hB9
          rw [ht9] at hP1
          obtain ⟨hP, hD⟩ := va_join (wr := [(mr, .inl (cA, 8101, .inl fr)), (mb, .inl (cA, 5, .inl fb))]) (w1 := [(m0, .inr (2, [.int (nI 0), .int (nI k), .int (nI (tw_P k)), .int (nI (tw_D k)), .int (nI (tw_I k)), .ref mx, .ref my, .ref mr, .ref mb, .int (nI p8.1), .int (nI p8.2)])), (mx, .inl (cA, 12, .inl (upd fx j (nI (p8).1)))), (my, .inl (cA, 12, .inl (upd fy j (nI (p8).2))))]) hP hD [0, 1, 2] [3, 4] rfl rfl (by decide) (by decide) hk9 hFc hP1 hD1
          have hP := hP.sub (ws' := [(m0, .inr (2, [.int (nI 0), .int (nI k), .int (nI (tw_P k)), .int (nI (tw_D k)), .int (nI (tw_I k)), .ref mx, .ref my, .ref mr, .ref mb, .int (nI p8.1), .int (nI p8.2)])), (mx, .inl (cA, 12, .inl (upd fx j (nI (p8).1)))), (my, .inl (cA, 12, .inl (upd fy j (nI (p8).2)))), (mr, .inl (cA, 8101, .inl fr)), (mb, .inl (cA, 5, .inl fb))]) [2, 3, 4, 0, 1] rfl
          have hD := hD.sub (ws' := [(m0, .inr (2, [.int (nI 0), .int (nI k), .int (nI (tw_P k)), .int (nI (tw_D k)), .int (nI (tw_I k)), .ref mx, .ref my, .ref mr, .ref mb, .int (nI p8.1), .int (nI p8.2)])), (mx, .inl (cA, 12, .inl (upd fx j (nI (p8).1)))), (my, .inl (cA, 12, .inl (upd fy j (nI (p8).2)))), (mr, .inl (cA, 8101, .inl fr)), (mb, .inl (cA, 5, .inl fb))]) [2, 3, 4, 0, 1] (by decide) rfl
          generalize H1 = H at hP hS hz9 ⊢
          refine lv_pop hx hb dX2_half_164 rfl ?_
          refine lv_iload_n hx hb dX2_half_165 rfl (lv_at hl 2 rfl) ?_
          exact W.iret hx hb hr (fun t ht9 hW => ⟨⟨_, (nI p8.1, nI p8.2, upd fx j (nI p8.1), upd fy j (nI p8.2)), rfl, ⟨rfl, by rw [e5], by rw [e5]⟩, by rw [ht9]; exact hP, va_K.moved hW.alike hK, hD⟩, hS.F ht9⟩) hS.2.2 dX2_half_166
        · have e5 := hcf.mpr c134
          refine lv_iconst (v := (nI 0)) hx hb dX2_half_137 (by decide) ?_
          exact W.iret hx hb hr (fun t ht9 hW => ⟨⟨_, (s1, s2, fx, fy), rfl, ⟨by rw [c134], by rw [e5], by rw [e5]⟩, by rw [ht9]; exact hP, va_K.moved hW.alike hK, hD⟩, hS.F ht9⟩) hS.2.2 dX2_half_138
      · refine lv_aload_n hx hb dX2_half_48 rfl (lv_at hl 3 rfl) ?_
        refine lv_iload hx hb dX2_half_49 (lv_at hl 0 rfl) ?_
        refine vp_callSi (W.runV (As := [.int (nI i)]) (rest := []) ⟨hx, hb, hml, hown, ht⟩ (c_X2_xOf l D hk5 hfr (j := i) (by omega)) (cwV 1 ht (tb_V kl_X2_84 ki_X2_xOf ks_X2_xOf kn_X2 kc_X2_xOf) rfl rfl rfl ⟨rfl, kd_X2_xOf⟩ ⟨Nat.le_of_ble_eq_true rfl, Nat.le_of_ble_eq_true rfl⟩) (ro_preV _ (hP.sub (ws' := [(m0, .inr (2, [.int (nI 0), .int (nI k), .int (nI (tw_P k)), .int (nI (tw_D k)), .int (nI (tw_I k)), .ref mx, .ref my, .ref mr, .ref mb, .int s1, .int s2])), (mr, .inl (cA, 8101, .inl fr))]) [0, 3] rfl) hK (va_recv (ci := 2) (q0 := 0) hK hP rfl rfl)) rfl rfl hl.1 rfl (lv_room (Nat.le_of_ble_eq_true rfl)) dX2_half_51 ⟨Nat.zero_le _, Nat.zero_le _⟩) (fun r hr9 => ?_)
        subst hr9
        refine lv_istore hx hb dX2_half_54 hl (by decide) rfl (fun ls hl => ?_)
        have hl : lv_has ls 7 [(6, .int (tw_xr (tw_P k) (tw_D k) i)), (5, .int (nI i)), (4, .int (tw_hv (tw_P k) (tw_D k) (R j2) i)), (3, .int (nI (tw_hc (tw_P k) (tw_D k) (R j2) i))), (0, .ref m0), (1, .int (nI j)), (2, .int (nI j2))] := hl
        cases er : tw_rd (tw_P k) (tw_D k) i with
        | none =>
          rw [tw_xr_none er] at hl
          refine lv_iload hx hb dX2_half_56 (lv_at hl 0 rfl) ?_
          refine lv_iconst (v := (-1)) hx hb dX2_half_58 (by decide) ?_
          refine lv_icmp_ne (tgt := 65) hx hb dX2_half_59 (by decide) (fun c9 => absurd rfl c9) (fun _ => ?_)
          refine lv_goto (tgt := 127) hx hb dX2_half_62 (by decide) ?_
          refine lv_iinc hx hb dX2_half_127 hl (k := 1) rfl nv_inc (by decide) rfl (fun ls hl => ?_)
          have hl : lv_has ls 7 [(5, .int (nI (i + 1))), (6, .int (-1)), (4, .int (tw_hv (tw_P k) (tw_D k) (R j2) i)), (3, .int (nI (tw_hc (tw_P k) (tw_D k) (R j2) i))), (0, .ref m0), (1, .int (nI j)), (2, .int (nI j2))] := hl
          refine lv_goto (tgt := 40) hx hb dX2_half_130 (by decide) ?_
          have e6 : tw_hc (tw_P k) (tw_D k) (R j2) (i + 1) = tw_hc (tw_P k) (tw_D k) (R j2) i := tw_hc_n er
          have e7 : tw_hv (tw_P k) (tw_D k) (R j2) (i + 1) = tw_hv (tw_P k) (tw_D k) (R j2) i := by unfold tw_hv; rw [tw_hf_m er]
          refine ih (i + 1) s1 s2 H locs ls (by omega) (by omega) hP hD hS ?_
          rw [e6, e7]
          exact lv_sub hl [0, 2, 3, 4, 5, 6] rfl
        | some q =>
          rw [tw_xr_some er] at hl
          have hq9 := (tw_rd_some hK0 er).1
          have hpk := (tw_rd_some hK0 er).2
          have z1 := tw_on1 hP2 hq9
          have z2 := tw_on2 hP2 hq9
          have e5 := (tw_rd_y hK0 hP8 er).1
          have hs9 := tw_clo hK0 hq9 hq9
          refine lv_iload hx hb dX2_half_56 (lv_at hl 0 rfl) ?_
          refine lv_iconst (v := (-1)) hx hb dX2_half_58 (by decide) ?_
          refine lv_icmp_ne (tgt := 65) hx hb dX2_half_59 (by decide) (fun _ => ?_) (fun c9 => absurd c9 (nv_m1 (by omega)))
          refine lv_aload_n hx hb dX2_half_65 rfl (lv_at hl 4 rfl) ?_
          refine lv_iload hx hb dX2_half_66 (lv_at hl 0 rfl) ?_
          refine lv_iload hx hb dX2_half_68 (lv_at hl 1 rfl) ?_
          refine lv_sipush (v := (nI 8192)) hx hb dX2_half_70 (by decide) ?_
          refine nv_irem hx hb dX2_half_73 (by decide) (nv_le (b := 16384) h2 (by decide)) (nv_le (b := 8192) (Nat.le_refl 8192) (by decide)) ?_
          refine lv_iload hx hb dX2_half_74 (lv_at hl 0 rfl) ?_
          refine lv_iload hx hb dX2_half_76 (lv_at hl 1 rfl) ?_
          refine lv_sipush (v := (nI 8192)) hx hb dX2_half_78 (by decide) ?_
          refine nv_irem hx hb dX2_half_81 (by decide) (nv_le (b := 16384) h2 (by decide)) (nv_le (b := 8192) (Nat.le_refl 8192) (by decide)) ?_
          rw [← e5]
          have hPc := hP.sub (ws' := [(m0, .inr (2, [.int (nI 0), .int (nI k), .int (nI (tw_P k)), .int (nI (tw_D k)), .int (nI (tw_I k)), .ref mx, .ref my, .ref mr, .ref mb, .int s1, .int s2]))]) [0] rfl
          have hDc := hD.sub (ws' := [(m0, .inr (2, [.int (nI 0), .int (nI k), .int (nI (tw_P k)), .int (nI (tw_D k)), .int (nI (tw_I k)), .ref mx, .ref my, .ref mr, .ref mb, .int s1, .int s2]))]) [0] (by decide) rfl
          have hFc := va_free (wc := [(m0, .inr (2, [.int (nI 0), .int (nI k), .int (nI (tw_P k)), .int (nI (tw_D k)), .int (nI (tw_I k)), .ref mx, .ref my, .ref mr, .ref mb, .int s1, .int s2]))]) hD hS hA [0] rfl
          refine va_callv (va_runV (As := [.int (nI q.1), .int (nI q.2), .int (nI q.1), .int (nI q.2)]) (rest := []) ⟨hx, hb, hml, hown, ht⟩ (c_X2_sum l D hk5 (x := (q).1) (y := (q).2) (x2 := (q).1) (y2 := (q).2) (hq9).1 (hq9).2.1 (hq9).1 (hq9).2.1 H.size) (cwV 4 ht (tb_V kl_X2_62 ki_X2_sum ks_X2_sum kn_X2 kc_X2_sum) rfl rfl rfl ⟨rfl, kd_X2_sum⟩ ⟨Nat.le_of_ble_eq_true rfl, Nat.le_of_ble_eq_true rfl⟩) (wd_preV _ hPc (hK.sub (tys' := []) [] rfl) hDc (va_recv (ci := 2) (q0 := 0) hK hP rfl rfl)) rfl rfl hl.1 rfl (lv_room (Nat.le_of_ble_eq_true rfl)) dX2_half_82 ⟨Nat.le_of_ble_eq_true rfl, Nat.le_of_ble_eq_true rfl⟩) hS (fun q _ h => hFc q h) hFc (fun u9 t9 H1 locs ht9 hvm9 hw9 hB9 hz9 hk9 hS => ?_)
          obtain ⟨hP1, hK1, hD1⟩ := hB9
          rw [ht9] at hP1
          obtain ⟨hP, hD⟩ := va_join (wr := [(mx, .inl (cA, 12, .inl fx)), (my, .inl (cA, 12, .inl fy)), (mr, .inl (cA, 8101, .inl fr)), (mb, .inl (cA, 5, .inl fb))]) (w1 := [(m0, .inr (2, [.int (nI 0), .int (nI k), .int (nI (tw_P k)), .int (nI (tw_D k)), .int (nI (tw_I k)), .ref mx, .ref my, .ref mr, .ref mb, .int (nI (tw_add (tw_P k) (tw_D k) (q) (q)).1), .int (nI (tw_add (tw_P k) (tw_D k) (q) (q)).2)]))]) hP hD [0] [1, 2, 3, 4] rfl rfl (by decide) (by decide) hk9 hFc hP1 hD1
          have hP := hP.sub (ws' := [(m0, .inr (2, [.int (nI 0), .int (nI k), .int (nI (tw_P k)), .int (nI (tw_D k)), .int (nI (tw_I k)), .ref mx, .ref my, .ref mr, .ref mb, .int (nI (tw_add (tw_P k) (tw_D k) (q) (q)).1), .int (nI (tw_add (tw_P k) (tw_D k) (q) (q)).2)])), (mx, .inl (cA, 12, .inl fx)), (my, .inl (cA, 12, .inl fy)), (mr, .inl (cA, 8101, .inl fr)), (mb, .inl (cA, 5, .inl fb))]) [4, 0, 1, 2, 3] rfl
          have hD := hD.sub (ws' := [(m0, .inr (2, [.int (nI 0), .int (nI k), .int (nI (tw_P k)), .int (nI (tw_D k)), .int (nI (tw_I k)), .ref mx, .ref my, .ref mr, .ref mb, .int (nI (tw_add (tw_P k) (tw_D k) (q) (q)).1), .int (nI (tw_add (tw_P k) (tw_D k) (q) (q)).2)])), (mx, .inl (cA, 12, .inl fx)), (my, .inl (cA, 12, .inl fy)), (mr, .inl (cA, 8101, .inl fr)), (mb, .inl (cA, 5, .inl fb))]) [4, 0, 1, 2, 3] (by decide) rfl
          generalize H1 = H at hP hS hz9 ⊢
          refine lv_aload_n hx hb dX2_half_85 rfl (lv_at hl 4 rfl) ?_
          refine va_get (D := D) (ci := 2) (v := .int (nI ((tw_add (tw_P k) (tw_D k) (q) (q)).1))) (C := RX2) (T := TX2) (N := 11) hx hb ht inX2 hown hK hP 0 rfl rfl 9 (by decide) (ht _ kf_X2_59) (fun _ h9 => h9) rfl dX2_half_86 ?_
          refine lv_aload_n hx hb dX2_half_89 rfl (lv_at hl 4 rfl) ?_
          refine va_get (D := D) (ci := 2) (v := .ref mx) (C := RX2) (T := TX2) (N := 11) hx hb ht inX2 hown hK hP 0 rfl rfl 5 (by decide) (ht _ kf_X2_13) (fun _ h9 => h9) rfl dX2_half_90 ?_
          refine lv_iload_n hx hb dX2_half_93 rfl (lv_at hl 6 rfl) ?_
          refine nv_iald (A := fun _ => True) (H0 := s.heap) hx hb hK hP 1 0 rfl rfl hj2 (by decide) dX2_half_94 ?_
          rw [(hR _ hj2).2.1]
          refine nv_icmp_ne (tgt := 127) hx hb dX2_half_95 (by decide) (nv_le (b := 8100) (tw_on1 hP2 (tw_clo hK0 hq9 hq9)) (by decide)) (nv_le (b := 8100) (tw_on1 hP2 (hR _ hj2).1) (by decide)) (fun c95 => ?_) (fun c95 => ?_)
          · have hne : tw_add (tw_P k) (tw_D k) (q) (q) ≠ R j2 := (fun z => c95 (by rw [z]))
            refine lv_iinc hx hb dX2_half_127 hl (k := 1) rfl nv_inc (by decide) rfl (fun ls hl => ?_)
            have hl : lv_has ls 7 [(5, .int (nI (i + 1))), (6, .int (nI q.1)), (4, .int (tw_hv (tw_P k) (tw_D k) (R j2) i)), (3, .int (nI (tw_hc (tw_P k) (tw_D k) (R j2) i))), (0, .ref m0), (1, .int (nI j)), (2, .int (nI j2))] := hl
            refine lv_goto (tgt := 40) hx hb dX2_half_130 (by decide) ?_
            have e6 : tw_hc (tw_P k) (tw_D k) (R j2) (i + 1) = tw_hc (tw_P k) (tw_D k) (R j2) i := by rw [tw_hc_s er, if_neg hne]
            have e7 : tw_hv (tw_P k) (tw_D k) (R j2) (i + 1) = tw_hv (tw_P k) (tw_D k) (R j2) i := by unfold tw_hv; rw [tw_hf_k hne er]
            refine ih (i + 1) _ _ H locs ls (by omega) (by omega) hP hD hS ?_
            rw [e6, e7]
            exact lv_sub hl [0, 2, 3, 4, 5, 6] rfl
          · refine lv_aload_n hx hb dX2_half_98 rfl (lv_at hl 4 rfl) ?_
            refine va_get (D := D) (ci := 2) (v := .int (nI ((tw_add (tw_P k) (tw_D k) (q) (q)).2))) (C := RX2) (T := TX2) (N := 11) hx hb ht inX2 hown hK hP 0 rfl rfl 10 (by decide) (ht _ kf_X2_56) (fun _ h9 => h9) rfl dX2_half_99 ?_
            refine lv_aload_n hx hb dX2_half_102 rfl (lv_at hl 4 rfl) ?_
            refine va_get (D := D) (ci := 2) (v := .ref my) (C := RX2) (T := TX2) (N := 11) hx hb ht inX2 hown hK hP 0 rfl rfl 6 (by decide) (ht _ kf_X2_17) (fun _ h9 => h9) rfl dX2_half_103 ?_
            refine lv_iload_n hx hb dX2_half_106 rfl (lv_at hl 6 rfl) ?_
            refine nv_iald (A := fun _ => True) (H0 := s.heap) hx hb hK hP 2 0 rfl rfl hj2 (by decide) dX2_half_107 ?_
            rw [(hR _ hj2).2.2]
            refine nv_icmp_eq (tgt := 114) hx hb dX2_half_108 (by decide) (nv_le (b := 8100) (tw_on2 hP2 (tw_clo hK0 hq9 hq9)) (by decide)) (nv_le (b := 8100) (tw_on2 hP2 (hR _ hj2).1) (by decide)) (fun c108 => ?_) (fun c108 => ?_)
            · have heq : tw_add (tw_P k) (tw_D k) (q) (q) = R j2 := Prod.ext c95 c108
              refine lv_iinc hx hb dX2_half_114 hl (k := 3) rfl nv_inc (by decide) rfl (fun ls hl => ?_)
              have hl : lv_has ls 7 [(3, .int (nI ((tw_hc (tw_P k) (tw_D k) (R j2) i) + 1))), (6, .int (nI q.1)), (5, .int (nI i)), (4, .int (tw_hv (tw_P k) (tw_D k) (R j2) i)), (0, .ref m0), (1, .int (nI j)), (2, .int (nI j2))] := hl
              cases eh : tw_hf (tw_P k) (tw_D k) (R j2) i with
              | none =>
                rw [tw_hv_n eh] at hl
                refine lv_iload hx hb dX2_half_117 (lv_at hl 3 rfl) ?_
                refine lv_iconst (v := (-1)) hx hb dX2_half_119 (by decide) ?_
                refine lv_icmp_ne (tgt := 127) hx hb dX2_half_120 (by decide) (fun c9 => absurd rfl c9) (fun _ => ?_)
                refine lv_iload hx hb dX2_half_123 (lv_at hl 2 rfl) ?_
                refine lv_istore hx hb dX2_half_125 hl (by decide) rfl (fun ls hl => ?_)
                have hl : lv_has ls 7 [(4, .int (nI i)), (3, .int (nI ((tw_hc (tw_P k) (tw_D k) (R j2) i) + 1))), (6, .int (nI q.1)), (5, .int (nI i)), (0, .ref m0), (1, .int (nI j)), (2, .int (nI j2))] := hl
                refine lv_iinc hx hb dX2_half_127 hl (k := 3) rfl nv_inc (by decide) rfl (fun ls hl => ?_)
                have hl : lv_has ls 7 [(5, .int (nI (i + 1))), (4, .int (nI i)), (3, .int (nI ((tw_hc (tw_P k) (tw_D k) (R j2) i) + 1))), (6, .int (nI q.1)), (0, .ref m0), (1, .int (nI j)), (2, .int (nI j2))] := hl
                refine lv_goto (tgt := 40) hx hb dX2_half_130 (by decide) ?_
                have e6 : tw_hc (tw_P k) (tw_D k) (R j2) (i + 1) = tw_hc (tw_P k) (tw_D k) (R j2) i + 1 := by rw [tw_hc_s er, if_pos heq]
                have e7 : tw_hv (tw_P k) (tw_D k) (R j2) (i + 1) = nI i := by rw [tw_hv_s (by rw [tw_hf_s eh er, if_pos heq]), hpk]
                refine ih (i + 1) _ _ H locs ls (by omega) (by omega) hP hD hS ?_
                rw [e6, e7]
                exact lv_sub hl [0, 1, 2, 4, 5, 6] rfl
              | some q8 =>
                have hq8 := tw_hf_on hK0 i eh
                have z8 := (tw_rd_pk hK0 hP8 hq8).2
                have e7a : tw_hv (tw_P k) (tw_D k) (R j2) i = nI (tw_pk q8) := tw_hv_s eh
                refine lv_iload hx hb dX2_half_117 (lv_at hl 3 rfl) ?_
                refine lv_iconst (v := (-1)) hx hb dX2_half_119 (by decide) ?_
                refine lv_icmp_ne (tgt := 127) hx hb dX2_half_120 (by decide) (fun _ => ?_) (fun c9 => absurd (e7a.symm.trans c9) (nv_m1 (by omega)))
                refine lv_iinc hx hb dX2_half_127 hl (k := 2) rfl nv_inc (by decide) rfl (fun ls hl => ?_)
                have hl : lv_has ls 7 [(5, .int (nI (i + 1))), (3, .int (nI ((tw_hc (tw_P k) (tw_D k) (R j2) i) + 1))), (6, .int (nI q.1)), (4, .int (tw_hv (tw_P k) (tw_D k) (R j2) i)), (0, .ref m0), (1, .int (nI j)), (2, .int (nI j2))] := hl
                refine lv_goto (tgt := 40) hx hb dX2_half_130 (by decide) ?_
                have e6 : tw_hc (tw_P k) (tw_D k) (R j2) (i + 1) = tw_hc (tw_P k) (tw_D k) (R j2) i + 1 := by rw [tw_hc_s er, if_pos heq]
                have e7 : tw_hv (tw_P k) (tw_D k) (R j2) (i + 1) = tw_hv (tw_P k) (tw_D k) (R j2) i := by unfold tw_hv; rw [tw_hf_o eh, eh]
                refine ih (i + 1) _ _ H locs ls (by omega) (by omega) hP hD hS ?_
                rw [e6, e7]
                exact lv_sub hl [0, 3, 1, 4, 5, 6] rfl
            · have hne : tw_add (tw_P k) (tw_D k) (q) (q) ≠ R j2 := (fun z => c108 (by rw [z]))
              refine lv_goto (tgt := 127) hx hb dX2_half_111 (by decide) ?_
              refine lv_iinc hx hb dX2_half_127 hl (k := 1) rfl nv_inc (by decide) rfl (fun ls hl => ?_)
              have hl : lv_has ls 7 [(5, .int (nI (i + 1))), (6, .int (nI q.1)), (4, .int (tw_hv (tw_P k) (tw_D k) (R j2) i)), (3, .int (nI (tw_hc (tw_P k) (tw_D k) (R j2) i))), (0, .ref m0), (1, .int (nI j)), (2, .int (nI j2))] := hl
              refine lv_goto (tgt := 40) hx hb dX2_half_130 (by decide) ?_
              have e6 : tw_hc (tw_P k) (tw_D k) (R j2) (i + 1) = tw_hc (tw_P k) (tw_D k) (R j2) i := by rw [tw_hc_s er, if_neg hne]
              have e7 : tw_hv (tw_P k) (tw_D k) (R j2) (i + 1) = tw_hv (tw_P k) (tw_D k) (R j2) i := by unfold tw_hv; rw [tw_hf_k hne er]
              refine ih (i + 1) _ _ H locs ls (by omega) (by omega) hP hD hS ?_
              rw [e6, e7]
              exact lv_sub hl [0, 2, 3, 4, 5, 6] rfl
  exact loop 16385 0 sx sy H locs ls (by omega) (Nat.zero_le _) hP hD hS (lv_sub hl [0, 1, 2, 3, 4, 5] rfl)
