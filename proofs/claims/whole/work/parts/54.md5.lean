/-! the model: log, sign, verify (taken calls) -/
theorem md_lgn {k : Nat} (hk : k < 5) {a b : Nat × Nat} (ha : tw_on (tw_P k) (tw_D k) a) {i : Nat} (h : ∀ n, n < i + 1 → tw_mu (tw_P k) (tw_D k) n a ≠ b) (e : tw_mu (tw_P k) (tw_D k) (i + 1) a = (0, 1)) : tw_lg (tw_P k) (tw_D k) (tw_N k) a b = -1 := by
  refine tw_lg_none (fun n _ => ?_)
  rw [tw_od_mod (N := 0) (tw_kK k hk) ha e n]
  exact h _ (Nat.mod_lt _ (Nat.succ_pos i))
theorem md_od2 {k : Nat} (hk : k < 5) {p : Nat × Nat} (hp : tw_on (tw_P k) (tw_D k) p) (hne : p ≠ (0, 1)) : 2 ≤ tw_od (tw_P k) (tw_D k) (tw_N k) p := by
  have hN := tw_kN k hk
  obtain ⟨h1, -, h3, -⟩ := tw_od_spec (by omega) (tw_kM hk hp)
  refine Nat.lt_of_le_of_ne h1 (fun z => hne ?_)
  have z2 : tw_od (tw_P k) (tw_D k) (tw_N k) p = 1 := z.symm
  rw [z2, tw_mu_1 (tw_kK k hk) hp] at h3
  exact h3
theorem md_nc3 {o q : Nat} (ho : 2 ≤ o) (hq : q < 2 ^ 31) (h1 : q % o = 0) (h2 : (q + 1) % 2 ^ 31 % o = 0) : ((q + 1) % 2 ^ 31 + 1) % 2 ^ 31 = 1 := by
  by_cases c : q + 1 < 2 ^ 31
  · rw [Nat.mod_eq_of_lt c] at h2
    have d1 := Nat.dvd_of_mod_eq_zero h1
    have d2 := Nat.dvd_of_mod_eq_zero h2
    have d3 : o ∣ 1 := (Nat.dvd_add_right d1).mp d2
    have := Nat.le_of_dvd (by decide) d3
    omega
  · have e : q + 1 = 2 ^ 31 := by omega
    rw [e]
set_option maxHeartbeats 4000000 in
set_option maxRecDepth 100000 in
theorem c_X2_log (l : Launch) (D : va_G) {k : Nat} (hk5 : k < 5) {m0 mx my mr mb : Nat} {th sx sy : Int32} {cA : ClassId} {fx fy fr fb : Nat → Int32} {R : Nat → Nat × Nat} (hfr : ∀ j, j < tw_P k → fr j = tw_rv (tw_P k) j) (hR : ∀ j, j < 12 → tw_on (tw_P k) (tw_D k) (R j) ∧ fx j = nI (R j).1 ∧ fy j = nI (R j).2) {j j2 : Nat} (hj : j < 12) (hj2 : j2 < 12) (sz : Nat) : Met l yX2_log wX2_log ({ frames := 3, cells := 0, slots := 0, locals := 73 }) (va_Pc [.ref m0, .int (nI j), .int (nI j2)] (wd_pre D [(cA, .int)] [(m0, .inr (2, [.int th, .int (nI k), .int (nI (tw_P k)), .int (nI (tw_D k)), .int (nI (tw_I k)), .ref mx, .ref my, .ref mr, .ref mb, .int sx, .int sy])), (mx, .inl (cA, 12, .inl fx)), (my, .inl (cA, 12, .inl fy)), (mr, .inl (cA, 8101, .inl fr)), (mb, .inl (cA, 5, .inl fb))] sz)) (va_Qi (fun (r : Int32) (u : Int32 × Int32) => r = tw_lg (tw_P k) (tw_D k) (tw_N k) (R j) (R j2)) (fun (u : Int32 × Int32) t => wd_at D [(cA, .int)] (va_A [(m0, .inr (2, [.int th, .int (nI k), .int (nI (tw_P k)), .int (nI (tw_D k)), .int (nI (tw_I k)), .ref mx, .ref my, .ref mr, .ref mb, .int sx, .int sy])), (mx, .inl (cA, 12, .inl fx)), (my, .inl (cA, 12, .inl fy)), (mr, .inl (cA, 8101, .inl fr)), (mb, .inl (cA, 5, .inl fb))] sz) [(m0, .inr (2, [.int (nI 0), .int (nI k), .int (nI (tw_P k)), .int (nI (tw_D k)), .int (nI (tw_I k)), .ref mx, .ref my, .ref mr, .ref mb, .int u.1, .int u.2])), (mx, .inl (cA, 12, .inl fx)), (my, .inl (cA, 12, .inl fy)), (mr, .inl (cA, 8101, .inl fr)), (mb, .inl (cA, 5, .inl fb))] t) (va_A [(m0, .inr (2, [.int th, .int (nI k), .int (nI (tw_P k)), .int (nI (tw_D k)), .int (nI (tw_I k)), .ref mx, .ref my, .ref mr, .ref mb, .int sx, .int sy])), (mx, .inl (cA, 12, .inl fx)), (my, .inl (cA, 12, .inl fy)), (mr, .inl (cA, 8101, .inl fr)), (mb, .inl (cA, 5, .inl fb))] sz)) 0 0 (va_A [(m0, .inr (2, [.int th, .int (nI k), .int (nI (tw_P k)), .int (nI (tw_D k)), .int (nI (tw_I k)), .ref mx, .ref my, .ref mr, .ref mb, .int sx, .int sy])), (mx, .inl (cA, 12, .inl fx)), (my, .inl (cA, 12, .inl fy)), (mr, .inl (cA, 8101, .inl fr)), (mb, .inl (cA, 5, .inl fb))] sz) := by
  refine Met.ofW (cc := cX2_log) (maxL := 6) (ret := (some .int)) (by decide) rfl ?_
  intro p e s m args below meth c s₁ B hml hv
  obtain ⟨rfl, hsz, hP, hK, hD0⟩ := hv
  have hx := B.exec
  have hb := B.bytes
  have hr := B.returns
  have hts := atoms_spec (ws := wX2_log) B.pre
  have ht : ∀ w ∈ tb_all, w.before _ s = true := fun w h => hts w (List.mem_cons_of_mem _ h)
  have hown : s.vm.findClass RX2 = some m.cls := findClass_of_methodNamed B.named
  have hlocks := B.notSynchronized
  have hin : meth.name = "log" := (name_of_methodNamed B.named B.method).1
  subst hsz
  have hD := hD0.self (sz := s.heap.size)
  generalize hAe : va_A [(m0, .inr (2, [.int th, .int (nI k), .int (nI (tw_P k)), .int (nI (tw_D k)), .int (nI (tw_I k)), .ref mx, .ref my, .ref mr, .ref mb, .int sx, .int sy])), (mx, .inl (cA, 12, .inl fx)), (my, .inl (cA, 12, .inl fy)), (mr, .inl (cA, 8101, .inl fr)), (mb, .inl (cA, 5, .inl fb))] s.heap.size = A at hD ⊢
  have hA : ∀ q : Nat, s.heap.size ≤ q → A q := fun q h => by rw [← hAe]; exact Or.inr h
  have hS : va_S A s.heap s.heap [] := va_S.rf
  have hl := lv_entry ([.ref m0, .int (nI j), .int (nI j2)]) (n := 6) (Nat.le_of_ble_eq_true rfl)
  rw [lg_entry_eq]
  generalize (lg_sl ([.ref m0, .int (nI j), .int (nI j2)]) ++ List.replicate (6 - (lg_sl ([.ref m0, .int (nI j), .int (nI j2)])).length) Slot.unset).toArray = ls at hl ⊢
  have hl : lv_has ls 6 [(0, .ref m0), (1, .int (nI j)), (2, .int (nI j2))] := hl
  obtain ⟨hP0, hP2, hD2, hI2, hDP⟩ := tw_kb hk5
  have hK0 := tw_kK k hk5
  have hP8 : tw_P k ≤ 8192 := by omega
  have hN := tw_kN k hk5
  have zk : k ≤ 4 := by omega
  have o1 := (hR j hj).1
  have o2 := (hR j2 hj2).1
  have hkM := tw_kM hk5 o1
  refine lv_aload_n hx hb dX2_log_0 rfl (lv_at hl 0 rfl) ?_
  refine lv_iload_n hx hb dX2_log_1 rfl (lv_at hl 1 rfl) ?_
  refine vp_callSi (W.runS (As := [.int (nI j)]) (rest := [.ref m0]) ⟨hx, hb, hml, hown, ht⟩ (c_X2_none l hj) (va_cwS 1 ht (tb_S kl_X2_76 kt_X2_none kn_X2 kc_X2_none) rfl rfl rfl kd_X2_none ⟨Nat.le_of_ble_eq_true rfl, Nat.le_of_ble_eq_true rfl⟩) (st_pre _) rfl rfl hl.1 rfl (lv_room (Nat.le_of_ble_eq_true rfl)) dX2_log_2 ⟨Nat.zero_le _, Nat.zero_le _⟩) (fun r hr9 => ?_)
  subst hr9
  refine lv_if_ne (tgt := 15) hx hb dX2_log_5 (by decide) (fun c9 => absurd rfl c9) (fun _ => ?_)
  refine lv_iload_n hx hb dX2_log_8 rfl (lv_at hl 2 rfl) ?_
  refine vp_callSi (W.runS (As := [.int (nI j2)]) (rest := [.ref m0]) ⟨hx, hb, hml, hown, ht⟩ (c_X2_none l hj2) (va_cwS 1 ht (tb_S kl_X2_76 kt_X2_none kn_X2 kc_X2_none) rfl rfl rfl kd_X2_none ⟨Nat.le_of_ble_eq_true rfl, Nat.le_of_ble_eq_true rfl⟩) (st_pre _) rfl rfl hl.1 rfl (lv_room (Nat.le_of_ble_eq_true rfl)) dX2_log_9 ⟨Nat.zero_le _, Nat.zero_le _⟩) (fun r hr9 => ?_)
  subst hr9
  refine lv_if_eq (tgt := 19) hx hb dX2_log_12 (by decide) (fun _ => ?_) (fun c9 => absurd rfl c9)
  refine lv_iconst (v := (nI 0)) hx hb dX2_log_19 (by decide) ?_
  refine va_put (D := D) (ci := 2) (v := .int (nI 0)) (ty := .int) (C := RX2) (T := TX2) (N := 11) hx hb ht inX2 tyX2 tyX2_ok nmX2 hown hK hP hD hS 0 rfl rfl 0 (by decide) (ht _ kf_X2_30) (fun _ h9 => h9) rfl (by decide +kernel) rfl rfl (Nat.le_of_ble_eq_true rfl) dX2_log_20 (fun H locs hP hD hS => ?_)
  have hP : va_P D vwCl [(m0, .inr (2, [.int (nI 0), .int (nI k), .int (nI (tw_P k)), .int (nI (tw_D k)), .int (nI (tw_I k)), .ref mx, .ref my, .ref mr, .ref mb, .int sx, .int sy])), (mx, .inl (cA, 12, .inl fx)), (my, .inl (cA, 12, .inl fy)), (mr, .inl (cA, 8101, .inl fr)), (mb, .inl (cA, 5, .inl fb))] H := hP
  have hD : va_D A [(m0, .inr (2, [.int (nI 0), .int (nI k), .int (nI (tw_P k)), .int (nI (tw_D k)), .int (nI (tw_I k)), .ref mx, .ref my, .ref mr, .ref mb, .int sx, .int sy])), (mx, .inl (cA, 12, .inl fx)), (my, .inl (cA, 12, .inl fy)), (mr, .inl (cA, 8101, .inl fr)), (mb, .inl (cA, 5, .inl fb))] := hD
  refine lv_aload_n hx hb dX2_log_23 rfl (lv_at hl 0 rfl) ?_
  refine va_get (D := D) (ci := 2) (v := .int (nI 0)) (C := RX2) (T := TX2) (N := 11) hx hb ht inX2 hown hK hP 0 rfl rfl 0 (by decide) (ht _ kf_X2_30) (fun _ h9 => h9) rfl dX2_log_24 ?_
  refine nv_if_le (tgt := 32) hx hb dX2_log_27 (by decide) (by decide) (fun _ => ?_) (fun c8 => absurd c8 (by decide))
  refine lv_iconst (v := (nI 0)) hx hb dX2_log_32 (by decide) ?_
  refine lv_istore_n hx hb dX2_log_33 rfl hl (by decide) rfl (fun ls hl => ?_)
  have hl : lv_has ls 6 [(3, .int (nI 0)), (0, .ref m0), (1, .int (nI j)), (2, .int (nI j2))] := hl
  refine lv_iconst (v := (nI 1)) hx hb dX2_log_34 (by decide) ?_
  refine lv_istore hx hb dX2_log_35 hl (by decide) rfl (fun ls hl => ?_)
  have hl : lv_has ls 6 [(4, .int (nI 1)), (3, .int (nI 0)), (0, .ref m0), (1, .int (nI j)), (2, .int (nI j2))] := hl
  refine lv_iconst (v := (nI 0)) hx hb dX2_log_37 (by decide) ?_
  refine lv_istore hx hb dX2_log_38 hl (by decide) rfl (fun ls hl => ?_)
  have hl : lv_has ls 6 [(5, .int (nI 0)), (4, .int (nI 1)), (3, .int (nI 0)), (0, .ref m0), (1, .int (nI j)), (2, .int (nI j2))] := hl
  have loop : ∀ (f9 i : Nat) (s1 s2 : Int32) (H : Heap) (locs : List Loc) (ls : Array Slot), tw_N k - i < f9 → i < tw_N k → (∀ n, n < i → tw_mu (tw_P k) (tw_D k) n (R j) ≠ R j2) → va_P D vwCl [(m0, .inr (2, [.int (nI 0), .int (nI k), .int (nI (tw_P k)), .int (nI (tw_D k)), .int (nI (tw_I k)), .ref mx, .ref my, .ref mr, .ref mb, .int s1, .int s2])), (mx, .inl (cA, 12, .inl fx)), (my, .inl (cA, 12, .inl fy)), (mr, .inl (cA, 8101, .inl fr)), (mb, .inl (cA, 5, .inl fb))] H → va_D A [(m0, .inr (2, [.int (nI 0), .int (nI k), .int (nI (tw_P k)), .int (nI (tw_D k)), .int (nI (tw_I k)), .ref mx, .ref my, .ref mr, .ref mb, .int s1, .int s2])), (mx, .inl (cA, 12, .inl fx)), (my, .inl (cA, 12, .inl fy)), (mr, .inl (cA, 8101, .inl fr)), (mb, .inl (cA, 5, .inl fb))] → va_S A s.heap H locs → lv_has ls 6 [(5, .int (nI i)), (4, .int (nI (tw_mu (tw_P k) (tw_D k) i (R j)).2)), (3, .int (nI (tw_mu (tw_P k) (tw_D k) i (R j)).1)), (0, .ref m0), (1, .int (nI j)), (2, .int (nI j2))] → W p l e (headSpec wX2_log ({ frames := 3, cells := 0, slots := 0, locals := 73 })).room s m ([.ref m0, .int (nI j), .int (nI j2)]).toArray below meth c H locs 0 0 (MQ below (va_Qi (fun (r : Int32) (u : Int32 × Int32) => r = tw_lg (tw_P k) (tw_D k) (tw_N k) (R j) (R j2)) (fun (u : Int32 × Int32) t => wd_at D [(cA, .int)] (A) [(m0, .inr (2, [.int (nI 0), .int (nI k), .int (nI (tw_P k)), .int (nI (tw_D k)), .int (nI (tw_I k)), .ref mx, .ref my, .ref mr, .ref mb, .int u.1, .int u.2])), (mx, .inl (cA, 12, .inl fx)), (my, .inl (cA, 12, .inl fy)), (mr, .inl (cA, 8101, .inl fr)), (mb, .inl (cA, 5, .inl fb))] t) A) ([.ref m0, .int (nI j), .int (nI j2)]).toArray s 0 0 A) (F0 m 40 ls []) := by
    intro f9
    induction f9 with
    | zero => intro i s1 s2 H locs ls h1; exact absurd h1 (Nat.not_lt_zero _)
    | succ f9 ih =>
      intro i s1 s2 H locs ls h1 h2 h3 hP hD hS hl
      have zi : i ≤ 8232 := by have := hN.2; omega
      have hmi := tw_mu_on hK0 o1 i
      have zi1 := tw_on1 hP2 hmi
      have zi2 := tw_on2 hP2 hmi
      have hmj := tw_mu_on hK0 o1 (i + 1)
      have zj1 := tw_on1 hP2 hmj
      have zj2 := tw_on2 hP2 hmj
      have body : tw_mu (tw_P k) (tw_D k) i (R j) ≠ R j2 → W p l e (headSpec wX2_log ({ frames := 3, cells := 0, slots := 0, locals := 73 })).room s m ([.ref m0, .int (nI j), .int (nI j2)]).toArray below meth c H locs 0 0 (MQ below (va_Qi (fun (r : Int32) (u : Int32 × Int32) => r = tw_lg (tw_P k) (tw_D k) (tw_N k) (R j) (R j2)) (fun (u : Int32 × Int32) t => wd_at D [(cA, .int)] (A) [(m0, .inr (2, [.int (nI 0), .int (nI k), .int (nI (tw_P k)), .int (nI (tw_D k)), .int (nI (tw_I k)), .ref mx, .ref my, .ref mr, .ref mb, .int u.1, .int u.2])), (mx, .inl (cA, 12, .inl fx)), (my, .inl (cA, 12, .inl fy)), (mr, .inl (cA, 8101, .inl fr)), (mb, .inl (cA, 5, .inl fb))] t) A) ([.ref m0, .int (nI j), .int (nI j2)]).toArray s 0 0 A) (F0 m 61 ls []) := by
        intro hne
        have h4 : ∀ n, n < i + 1 → tw_mu (tw_P k) (tw_D k) n (R j) ≠ R j2 := by
          intro n hn
          by_cases z : n = i
          · rw [z]; exact hne
          · exact h3 n (by omega)
        refine lv_aload_n hx hb dX2_log_61 rfl (lv_at hl 3 rfl) ?_
        refine lv_iload_n hx hb dX2_log_62 rfl (lv_at hl 2 rfl) ?_
        refine lv_iload hx hb dX2_log_63 (lv_at hl 1 rfl) ?_
        refine lv_aload_n hx hb dX2_log_65 rfl (lv_at hl 3 rfl) ?_
        refine va_get (D := D) (ci := 2) (v := .ref mx) (C := RX2) (T := TX2) (N := 11) hx hb ht inX2 hown hK hP 0 rfl rfl 5 (by decide) (ht _ kf_X2_13) (fun _ h9 => h9) rfl dX2_log_66 ?_
        refine lv_iload_n hx hb dX2_log_69 rfl (lv_at hl 4 rfl) ?_
        refine nv_iald (A := fun _ => True) (H0 := s.heap) hx hb hK hP 1 0 rfl rfl hj (by decide) dX2_log_70 ?_
        rw [(hR _ hj).2.1]
        refine lv_aload_n hx hb dX2_log_71 rfl (lv_at hl 3 rfl) ?_
        refine va_get (D := D) (ci := 2) (v := .ref my) (C := RX2) (T := TX2) (N := 11) hx hb ht inX2 hown hK hP 0 rfl rfl 6 (by decide) (ht _ kf_X2_17) (fun _ h9 => h9) rfl dX2_log_72 ?_
        refine lv_iload_n hx hb dX2_log_75 rfl (lv_at hl 4 rfl) ?_
        refine nv_iald (A := fun _ => True) (H0 := s.heap) hx hb hK hP 2 0 rfl rfl hj (by decide) dX2_log_76 ?_
        rw [(hR _ hj).2.2]
        have hPc := hP.sub (ws' := [(m0, .inr (2, [.int (nI 0), .int (nI k), .int (nI (tw_P k)), .int (nI (tw_D k)), .int (nI (tw_I k)), .ref mx, .ref my, .ref mr, .ref mb, .int s1, .int s2]))]) [0] rfl
        have hDc := hD.sub (ws' := [(m0, .inr (2, [.int (nI 0), .int (nI k), .int (nI (tw_P k)), .int (nI (tw_D k)), .int (nI (tw_I k)), .ref mx, .ref my, .ref mr, .ref mb, .int s1, .int s2]))]) [0] (by decide) rfl
        have hFc := va_free (wc := [(m0, .inr (2, [.int (nI 0), .int (nI k), .int (nI (tw_P k)), .int (nI (tw_D k)), .int (nI (tw_I k)), .ref mx, .ref my, .ref mr, .ref mb, .int s1, .int s2]))]) hD hS hA [0] rfl
        refine va_callv (va_runV (As := [.int (nI ((tw_mu (tw_P k) (tw_D k) i (R j)).1)), .int (nI ((tw_mu (tw_P k) (tw_D k) i (R j)).2)), .int (nI ((R j).1)), .int (nI ((R j).2))]) (rest := []) ⟨hx, hb, hml, hown, ht⟩ (c_X2_sum l D hk5 (x := (tw_mu (tw_P k) (tw_D k) i (R j)).1) (y := (tw_mu (tw_P k) (tw_D k) i (R j)).2) (x2 := (R j).1) (y2 := (R j).2) hmi.1 hmi.2.1 o1.1 o1.2.1 H.size) (cwV 4 ht (tb_V kl_X2_62 ki_X2_sum ks_X2_sum kn_X2 kc_X2_sum) rfl rfl rfl ⟨rfl, kd_X2_sum⟩ ⟨Nat.le_of_ble_eq_true rfl, Nat.le_of_ble_eq_true rfl⟩) (wd_preV _ hPc (hK.sub (tys' := []) [] rfl) hDc (va_recv (ci := 2) (q0 := 0) hK hP rfl rfl)) rfl rfl hl.1 rfl (lv_room (Nat.le_of_ble_eq_true rfl)) dX2_log_77 ⟨Nat.le_of_ble_eq_true rfl, Nat.le_of_ble_eq_true rfl⟩) hS (fun q _ h => hFc q h) hFc (fun u9 t9 H1 locs ht9 hvm9 hw9 hB9 hz9 hk9 hS => ?_)
        obtain ⟨hP1, hK1, hD1⟩ := hB9
        rw [ht9] at hP1
        obtain ⟨hP, hD⟩ := va_join (wr := [(mx, .inl (cA, 12, .inl fx)), (my, .inl (cA, 12, .inl fy)), (mr, .inl (cA, 8101, .inl fr)), (mb, .inl (cA, 5, .inl fb))]) (w1 := [(m0, .inr (2, [.int (nI 0), .int (nI k), .int (nI (tw_P k)), .int (nI (tw_D k)), .int (nI (tw_I k)), .ref mx, .ref my, .ref mr, .ref mb, .int (nI (tw_mu (tw_P k) (tw_D k) (i + 1) (R j)).1), .int (nI (tw_mu (tw_P k) (tw_D k) (i + 1) (R j)).2)]))]) hP hD [0] [1, 2, 3, 4] rfl rfl (by decide) (by decide) hk9 hFc hP1 hD1
        have hP := hP.sub (ws' := [(m0, .inr (2, [.int (nI 0), .int (nI k), .int (nI (tw_P k)), .int (nI (tw_D k)), .int (nI (tw_I k)), .ref mx, .ref my, .ref mr, .ref mb, .int (nI (tw_mu (tw_P k) (tw_D k) (i + 1) (R j)).1), .int (nI (tw_mu (tw_P k) (tw_D k) (i + 1) (R j)).2)])), (mx, .inl (cA, 12, .inl fx)), (my, .inl (cA, 12, .inl fy)), (mr, .inl (cA, 8101, .inl fr)), (mb, .inl (cA, 5, .inl fb))]) [4, 0, 1, 2, 3] rfl
        have hD := hD.sub (ws' := [(m0, .inr (2, [.int (nI 0), .int (nI k), .int (nI (tw_P k)), .int (nI (tw_D k)), .int (nI (tw_I k)), .ref mx, .ref my, .ref mr, .ref mb, .int (nI (tw_mu (tw_P k) (tw_D k) (i + 1) (R j)).1), .int (nI (tw_mu (tw_P k) (tw_D k) (i + 1) (R j)).2)])), (mx, .inl (cA, 12, .inl fx)), (my, .inl (cA, 12, .inl fy)), (mr, .inl (cA, 8101, .inl fr)), (mb, .inl (cA, 5, .inl fb))]) [4, 0, 1, 2, 3] (by decide) rfl
        generalize H1 = H at hP hS hz9 ⊢
        refine lv_aload_n hx hb dX2_log_80 rfl (lv_at hl 3 rfl) ?_
        refine va_get (D := D) (ci := 2) (v := .int (nI ((tw_mu (tw_P k) (tw_D k) (i + 1) (R j)).1))) (C := RX2) (T := TX2) (N := 11) hx hb ht inX2 hown hK hP 0 rfl rfl 9 (by decide) (ht _ kf_X2_59) (fun _ h9 => h9) rfl dX2_log_81 ?_
        refine lv_istore_n hx hb dX2_log_84 rfl hl (by decide) rfl (fun ls hl => ?_)
        have hl : lv_has ls 6 [(3, .int (nI ((tw_mu (tw_P k) (tw_D k) (i + 1) (R j)).1))), (5, .int (nI i)), (4, .int (nI ((tw_mu (tw_P k) (tw_D k) i (R j)).2))), (0, .ref m0), (1, .int (nI j)), (2, .int (nI j2))] := hl
        refine lv_aload_n hx hb dX2_log_85 rfl (lv_at hl 3 rfl) ?_
        refine va_get (D := D) (ci := 2) (v := .int (nI ((tw_mu (tw_P k) (tw_D k) (i + 1) (R j)).2))) (C := RX2) (T := TX2) (N := 11) hx hb ht inX2 hown hK hP 0 rfl rfl 10 (by decide) (ht _ kf_X2_56) (fun _ h9 => h9) rfl dX2_log_86 ?_
        refine lv_istore hx hb dX2_log_89 hl (by decide) rfl (fun ls hl => ?_)
        have hl : lv_has ls 6 [(4, .int (nI ((tw_mu (tw_P k) (tw_D k) (i + 1) (R j)).2))), (3, .int (nI ((tw_mu (tw_P k) (tw_D k) (i + 1) (R j)).1))), (5, .int (nI i)), (0, .ref m0), (1, .int (nI j)), (2, .int (nI j2))] := hl
        refine lv_iinc hx hb dX2_log_91 hl (k := 2) rfl nv_inc (by decide) rfl (fun ls hl => ?_)
        have hl : lv_has ls 6 [(5, .int (nI (i + 1))), (4, .int (nI ((tw_mu (tw_P k) (tw_D k) (i + 1) (R j)).2))), (3, .int (nI ((tw_mu (tw_P k) (tw_D k) (i + 1) (R j)).1))), (0, .ref m0), (1, .int (nI j)), (2, .int (nI j2))] := hl
        refine lv_iload_n hx hb dX2_log_94 rfl (lv_at hl 2 rfl) ?_
        refine nv_if_ne (tgt := 40) hx hb dX2_log_95 (by decide) (nv_le (b := 8100) zj1 (by decide)) (fun c95 => ?_) (fun c95 => ?_)
        · have hne2 : tw_mu (tw_P k) (tw_D k) (i + 1) (R j) ≠ (0, 1) := (fun z => by rw [z] at c95; exact absurd c95 (by decide))
          have h5 : i + 1 < tw_N k := Nat.lt_of_le_of_ne h2 (fun z9 => hne2 (by rw [z9]; exact hkM))
          exact ih (i + 1) _ _ H locs ls (by omega) h5 h4 hP hD hS (lv_sub hl [0, 1, 2, 3, 4, 5] rfl)
        · refine lv_iload hx hb dX2_log_98 (lv_at hl 1 rfl) ?_
          refine lv_iconst (v := (nI 1)) hx hb dX2_log_100 (by decide) ?_
          refine nv_icmp_ne (tgt := 40) hx hb dX2_log_101 (by decide) (nv_le (b := 8100) zj2 (by decide)) (nv_le (b := 1) (Nat.le_refl 1) (by decide)) (fun c101 => ?_) (fun c101 => ?_)
          · have hne2 : tw_mu (tw_P k) (tw_D k) (i + 1) (R j) ≠ (0, 1) := (fun z => c101 (by rw [z]))
            have h5 : i + 1 < tw_N k := Nat.lt_of_le_of_ne h2 (fun z9 => hne2 (by rw [z9]; exact hkM))
            exact ih (i + 1) _ _ H locs ls (by omega) h5 h4 hP hD hS (lv_sub hl [0, 1, 2, 3, 4, 5] rfl)
          · have e9 := md_lgn hk5 o1 h4 (Prod.ext c95 c101)
            refine lv_iconst (v := (-1)) hx hb dX2_log_104 (by decide) ?_
            exact W.iret hx hb hr (fun t ht9 hW => ⟨⟨_, (_, _), rfl, e9.symm, by rw [ht9]; exact hP, va_K.moved hW.alike hK, hD⟩, hS.F ht9⟩) hS.2.2 dX2_log_105
      refine lv_iload_n hx hb dX2_log_40 rfl (lv_at hl 2 rfl) ?_
      refine lv_aload_n hx hb dX2_log_41 rfl (lv_at hl 3 rfl) ?_
      refine va_get (D := D) (ci := 2) (v := .ref mx) (C := RX2) (T := TX2) (N := 11) hx hb ht inX2 hown hK hP 0 rfl rfl 5 (by decide) (ht _ kf_X2_13) (fun _ h9 => h9) rfl dX2_log_42 ?_
      refine lv_iload_n hx hb dX2_log_45 rfl (lv_at hl 5 rfl) ?_
      refine nv_iald (A := fun _ => True) (H0 := s.heap) hx hb hK hP 1 0 rfl rfl hj2 (by decide) dX2_log_46 ?_
      rw [(hR _ hj2).2.1]
      refine nv_icmp_ne (tgt := 61) hx hb dX2_log_47 (by decide) (nv_le (b := 8100) zi1 (by decide)) (nv_le (b := 8100) (tw_on1 hP2 (hR _ hj2).1) (by decide)) (fun c47 => ?_) (fun c47 => ?_)
      · exact body (fun z => c47 (by rw [z]))
      · refine lv_iload hx hb dX2_log_50 (lv_at hl 1 rfl) ?_
        refine lv_aload_n hx hb dX2_log_52 rfl (lv_at hl 3 rfl) ?_
        refine va_get (D := D) (ci := 2) (v := .ref my) (C := RX2) (T := TX2) (N := 11) hx hb ht inX2 hown hK hP 0 rfl rfl 6 (by decide) (ht _ kf_X2_17) (fun _ h9 => h9) rfl dX2_log_53 ?_
        refine lv_iload_n hx hb dX2_log_56 rfl (lv_at hl 5 rfl) ?_
        refine nv_iald (A := fun _ => True) (H0 := s.heap) hx hb hK hP 2 0 rfl rfl hj2 (by decide) dX2_log_57 ?_
        rw [(hR _ hj2).2.2]
        refine nv_icmp_eq (tgt := 106) hx hb dX2_log_58 (by decide) (nv_le (b := 8100) zi2 (by decide)) (nv_le (b := 8100) (tw_on2 hP2 (hR _ hj2).1) (by decide)) (fun c58 => ?_) (fun c58 => ?_)
        · have e9 := tw_lg_some hk5 o1 (Prod.ext c47 c58) h3
          refine lv_iload hx hb dX2_log_106 (lv_at hl 0 rfl) ?_
          exact W.iret hx hb hr (fun t ht9 hW => ⟨⟨_, (s1, s2), rfl, e9.1.symm, by rw [ht9]; exact hP, va_K.moved hW.alike hK, hD⟩, hS.F ht9⟩) hS.2.2 dX2_log_108
        · exact body (fun z => c58 (by rw [z]))
  exact loop (tw_N k + 1) 0 sx sy H locs ls (by omega) (by omega) (fun n hn => absurd hn (Nat.not_lt_zero _)) hP hD hS (lv_sub hl [0, 1, 2, 3, 4, 5] rfl)
set_option maxHeartbeats 4000000 in
set_option maxRecDepth 100000 in
theorem c_X2_sign (l : Launch) (D : va_G) {k : Nat} (hk5 : k < 5) {m0 mx my mr mb : Nat} {th sx sy : Int32} {cA : ClassId} {fx fy fr fb : Nat → Int32} {R : Nat → Nat × Nat} (hfr : ∀ j, j < tw_P k → fr j = tw_rv (tw_P k) j) (hR : ∀ j, j < 12 → tw_on (tw_P k) (tw_D k) (R j) ∧ fx j = nI (R j).1 ∧ fy j = nI (R j).2) {j key msg : Nat} (hj : j < 12) (hkey : key ≤ 1073741824) (hmsg : msg ≤ 1073741824) (hne : R j ≠ (0, 1)) (sz : Nat) : Met l yX2_sign wX2_sign ({ frames := 5, cells := 0, slots := 0, locals := 125 }) (va_Pc [.ref m0, .int (nI j), .int (nI key), .int (nI msg)] (wd_pre D [(cA, .int)] [(m0, .inr (2, [.int th, .int (nI k), .int (nI (tw_P k)), .int (nI (tw_D k)), .int (nI (tw_I k)), .ref mx, .ref my, .ref mr, .ref mb, .int sx, .int sy])), (mx, .inl (cA, 12, .inl fx)), (my, .inl (cA, 12, .inl fy)), (mr, .inl (cA, 8101, .inl fr)), (mb, .inl (cA, 5, .inl fb))] sz)) (va_Ql (fun (r : Int64) (u : Int32 × Int32) => r = lN (tw_sg k R j key msg)) (fun (u : Int32 × Int32) t => wd_at D [(cA, .int)] (va_A [(m0, .inr (2, [.int th, .int (nI k), .int (nI (tw_P k)), .int (nI (tw_D k)), .int (nI (tw_I k)), .ref mx, .ref my, .ref mr, .ref mb, .int sx, .int sy])), (mx, .inl (cA, 12, .inl fx)), (my, .inl (cA, 12, .inl fy)), (mr, .inl (cA, 8101, .inl fr)), (mb, .inl (cA, 5, .inl fb))] sz) [(m0, .inr (2, [.int (nI 0), .int (nI k), .int (nI (tw_P k)), .int (nI (tw_D k)), .int (nI (tw_I k)), .ref mx, .ref my, .ref mr, .ref mb, .int u.1, .int u.2])), (mx, .inl (cA, 12, .inl fx)), (my, .inl (cA, 12, .inl fy)), (mr, .inl (cA, 8101, .inl fr)), (mb, .inl (cA, 5, .inl fb))] t) (va_A [(m0, .inr (2, [.int th, .int (nI k), .int (nI (tw_P k)), .int (nI (tw_D k)), .int (nI (tw_I k)), .ref mx, .ref my, .ref mr, .ref mb, .int sx, .int sy])), (mx, .inl (cA, 12, .inl fx)), (my, .inl (cA, 12, .inl fy)), (mr, .inl (cA, 8101, .inl fr)), (mb, .inl (cA, 5, .inl fb))] sz)) 0 0 (va_A [(m0, .inr (2, [.int th, .int (nI k), .int (nI (tw_P k)), .int (nI (tw_D k)), .int (nI (tw_I k)), .ref mx, .ref my, .ref mr, .ref mb, .int sx, .int sy])), (mx, .inl (cA, 12, .inl fx)), (my, .inl (cA, 12, .inl fy)), (mr, .inl (cA, 8101, .inl fr)), (mb, .inl (cA, 5, .inl fb))] sz) := by
  refine Met.ofW (cc := cX2_sign) (maxL := 10) (ret := (some .long)) (by decide) rfl ?_
  intro p e s m args below meth c s₁ B hml hv
  obtain ⟨rfl, hsz, hP, hK, hD0⟩ := hv
  have hx := B.exec
  have hb := B.bytes
  have hr := B.returns
  have hts := atoms_spec (ws := wX2_sign) B.pre
  have ht : ∀ w ∈ tb_all, w.before _ s = true := fun w h => hts w (List.mem_cons_of_mem _ h)
  have hown : s.vm.findClass RX2 = some m.cls := findClass_of_methodNamed B.named
  have hlocks := B.notSynchronized
  have hin : meth.name = "sign" := (name_of_methodNamed B.named B.method).1
  subst hsz
  have hD := hD0.self (sz := s.heap.size)
  generalize hAe : va_A [(m0, .inr (2, [.int th, .int (nI k), .int (nI (tw_P k)), .int (nI (tw_D k)), .int (nI (tw_I k)), .ref mx, .ref my, .ref mr, .ref mb, .int sx, .int sy])), (mx, .inl (cA, 12, .inl fx)), (my, .inl (cA, 12, .inl fy)), (mr, .inl (cA, 8101, .inl fr)), (mb, .inl (cA, 5, .inl fb))] s.heap.size = A at hD ⊢
  have hA : ∀ q : Nat, s.heap.size ≤ q → A q := fun q h => by rw [← hAe]; exact Or.inr h
  have hS : va_S A s.heap s.heap [] := va_S.rf
  have hl := lv_entry ([.ref m0, .int (nI j), .int (nI key), .int (nI msg)]) (n := 10) (Nat.le_of_ble_eq_true rfl)
  rw [lg_entry_eq]
  generalize (lg_sl ([.ref m0, .int (nI j), .int (nI key), .int (nI msg)]) ++ List.replicate (10 - (lg_sl ([.ref m0, .int (nI j), .int (nI key), .int (nI msg)])).length) Slot.unset).toArray = ls at hl ⊢
  have hl : lv_has ls 10 [(0, .ref m0), (1, .int (nI j)), (2, .int (nI key)), (3, .int (nI msg))] := hl
  obtain ⟨hP0, hP2, hD2, hI2, hDP⟩ := tw_kb hk5
  have hK0 := tw_kK k hk5
  have hP8 : tw_P k ≤ 8192 := by omega
  have hN := tw_kN k hk5
  have zk : k ≤ 4 := by omega
  have o1 := (hR j hj).1
  have hod := tw_od_spec (by omega) (tw_kM hk5 o1)
  have zod : tw_od (tw_P k) (tw_D k) (tw_N k) (R j) ≤ 8232 := Nat.le_trans hod.2.1 hN.2
  have hod2 := md_od2 hk5 o1 hne
  have zK0 : (key + msg + 1) % 2 ^ 31 < 2 ^ 31 := Nat.mod_lt _ (by decide)
  refine lv_aload_n hx hb dX2_sign_0 rfl (lv_at hl 0 rfl) ?_
  refine lv_iload_n hx hb dX2_sign_1 rfl (lv_at hl 1 rfl) ?_
  refine vp_callSi (W.runS (As := [.int (nI j)]) (rest := [.ref m0]) ⟨hx, hb, hml, hown, ht⟩ (c_X2_none l hj) (va_cwS 1 ht (tb_S kl_X2_76 kt_X2_none kn_X2 kc_X2_none) rfl rfl rfl kd_X2_none ⟨Nat.le_of_ble_eq_true rfl, Nat.le_of_ble_eq_true rfl⟩) (st_pre _) rfl rfl hl.1 rfl (lv_room (Nat.le_of_ble_eq_true rfl)) dX2_sign_2 ⟨Nat.zero_le _, Nat.zero_le _⟩) (fun r hr9 => ?_)
  subst hr9
  refine lv_if_eq (tgt := 12) hx hb dX2_sign_5 (by decide) (fun _ => ?_) (fun c9 => absurd rfl c9)
  refine lv_iload_n hx hb dX2_sign_12 rfl (lv_at hl 2 rfl) ?_
  refine nv_if_lt (tgt := 32) hx hb dX2_sign_13 (by decide) (nv_le (b := 1073741824) hkey (by decide)) ?_
  refine lv_iload_n hx hb dX2_sign_16 rfl (lv_at hl 2 rfl) ?_
  refine lv_ldc (v := nI 1073741824) hx hb hown (ht _ kv_X2_106) dX2_sign_17 ?_
  refine nv_icmp_gt (tgt := 32) hx hb dX2_sign_19 (by decide) (nv_le (b := 1073741824) hkey (by decide)) (nv_le (b := 1073741824) (Nat.le_refl 1073741824) (by decide)) (fun c19 => ?_) (fun c19 => ?_)
  · omega
  · refine lv_iload_n hx hb dX2_sign_22 rfl (lv_at hl 3 rfl) ?_
    refine nv_if_lt (tgt := 32) hx hb dX2_sign_23 (by decide) (nv_le (b := 1073741824) hmsg (by decide)) ?_
    refine lv_iload_n hx hb dX2_sign_26 rfl (lv_at hl 3 rfl) ?_
    refine lv_ldc (v := nI 1073741824) hx hb hown (ht _ kv_X2_106) dX2_sign_27 ?_
    refine nv_icmp_le (tgt := 36) hx hb dX2_sign_29 (by decide) (nv_le (b := 1073741824) hmsg (by decide)) (nv_le (b := 1073741824) (Nat.le_refl 1073741824) (by decide)) (fun c29 => ?_) (fun c29 => ?_)
    · have body : W p l e (headSpec wX2_sign ({ frames := 5, cells := 0, slots := 0, locals := 125 })).room s m ([.ref m0, .int (nI j), .int (nI key), .int (nI msg)]).toArray below meth c s.heap [] 0 0 (MQ below (va_Ql (fun (r : Int64) (u : Int32 × Int32) => r = lN (tw_sg k R j key msg)) (fun (u : Int32 × Int32) t => wd_at D [(cA, .int)] (A) [(m0, .inr (2, [.int (nI 0), .int (nI k), .int (nI (tw_P k)), .int (nI (tw_D k)), .int (nI (tw_I k)), .ref mx, .ref my, .ref mr, .ref mb, .int u.1, .int u.2])), (mx, .inl (cA, 12, .inl fx)), (my, .inl (cA, 12, .inl fy)), (mr, .inl (cA, 8101, .inl fr)), (mb, .inl (cA, 5, .inl fb))] t) A) ([.ref m0, .int (nI j), .int (nI key), .int (nI msg)]).toArray s 0 0 A) (F0 m 59 ls [.ref m0]) := by
        refine lv_iconst (v := (nI 0)) hx hb dX2_sign_59 (by decide) ?_
        refine va_put (D := D) (ci := 2) (v := .int (nI 0)) (ty := .int) (C := RX2) (T := TX2) (N := 11) hx hb ht inX2 tyX2 tyX2_ok nmX2 hown hK hP hD hS 0 rfl rfl 0 (by decide) (ht _ kf_X2_30) (fun _ h9 => h9) rfl (by decide +kernel) rfl rfl (Nat.le_of_ble_eq_true rfl) dX2_sign_60 (fun H locs hP hD hS => ?_)
        have hP : va_P D vwCl [(m0, .inr (2, [.int (nI 0), .int (nI k), .int (nI (tw_P k)), .int (nI (tw_D k)), .int (nI (tw_I k)), .ref mx, .ref my, .ref mr, .ref mb, .int sx, .int sy])), (mx, .inl (cA, 12, .inl fx)), (my, .inl (cA, 12, .inl fy)), (mr, .inl (cA, 8101, .inl fr)), (mb, .inl (cA, 5, .inl fb))] H := hP
        have hD : va_D A [(m0, .inr (2, [.int (nI 0), .int (nI k), .int (nI (tw_P k)), .int (nI (tw_D k)), .int (nI (tw_I k)), .ref mx, .ref my, .ref mr, .ref mb, .int sx, .int sy])), (mx, .inl (cA, 12, .inl fx)), (my, .inl (cA, 12, .inl fy)), (mr, .inl (cA, 8101, .inl fr)), (mb, .inl (cA, 5, .inl fb))] := hD
        refine lv_aload_n hx hb dX2_sign_63 rfl (lv_at hl 0 rfl) ?_
        refine va_get (D := D) (ci := 2) (v := .int (nI 0)) (C := RX2) (T := TX2) (N := 11) hx hb ht inX2 hown hK hP 0 rfl rfl 0 (by decide) (ht _ kf_X2_30) (fun _ h9 => h9) rfl dX2_sign_64 ?_
        refine nv_if_le (tgt := 72) hx hb dX2_sign_67 (by decide) (by decide) (fun _ => ?_) (fun c8 => absurd c8 (by decide))
        refine lv_aload_n hx hb dX2_sign_72 rfl (lv_at hl 0 rfl) ?_
        refine lv_aload_n hx hb dX2_sign_73 rfl (lv_at hl 0 rfl) ?_
        refine va_get (D := D) (ci := 2) (v := .ref mx) (C := RX2) (T := TX2) (N := 11) hx hb ht inX2 hown hK hP 0 rfl rfl 5 (by decide) (ht _ kf_X2_13) (fun _ h9 => h9) rfl dX2_sign_74 ?_
        refine lv_iload_n hx hb dX2_sign_77 rfl (lv_at hl 1 rfl) ?_
        refine nv_iald (A := fun _ => True) (H0 := s.heap) hx hb hK hP 1 0 rfl rfl hj (by decide) dX2_sign_78 ?_
        rw [(hR _ hj).2.1]
        refine lv_aload_n hx hb dX2_sign_79 rfl (lv_at hl 0 rfl) ?_
        refine va_get (D := D) (ci := 2) (v := .ref my) (C := RX2) (T := TX2) (N := 11) hx hb ht inX2 hown hK hP 0 rfl rfl 6 (by decide) (ht _ kf_X2_17) (fun _ h9 => h9) rfl dX2_sign_80 ?_
        refine lv_iload_n hx hb dX2_sign_83 rfl (lv_at hl 1 rfl) ?_
        refine nv_iald (A := fun _ => True) (H0 := s.heap) hx hb hK hP 2 0 rfl rfl hj (by decide) dX2_sign_84 ?_
        rw [(hR _ hj).2.2]
        have hPc := hP.sub (ws' := [(m0, .inr (2, [.int (nI 0), .int (nI k), .int (nI (tw_P k)), .int (nI (tw_D k)), .int (nI (tw_I k)), .ref mx, .ref my, .ref mr, .ref mb, .int sx, .int sy]))]) [0] rfl
        have hDc := hD.sub (ws' := [(m0, .inr (2, [.int (nI 0), .int (nI k), .int (nI (tw_P k)), .int (nI (tw_D k)), .int (nI (tw_I k)), .ref mx, .ref my, .ref mr, .ref mb, .int sx, .int sy]))]) [0] (by decide) rfl
        have hFc := va_free (wc := [(m0, .inr (2, [.int (nI 0), .int (nI k), .int (nI (tw_P k)), .int (nI (tw_D k)), .int (nI (tw_I k)), .ref mx, .ref my, .ref mr, .ref mb, .int sx, .int sy]))]) hD hS hA [0] rfl
        refine va_calli (va_runV (As := [.int (nI ((R j).1)), .int (nI ((R j).2))]) (rest := []) ⟨hx, hb, hml, hown, ht⟩ (c_X2_orderOf l D hk5 o1 H.size) (cwV 2 ht (tb_V kl_X2_66 ki_X2_orderOf ks_X2_orderOf kn_X2 kc_X2_orderOf) rfl rfl rfl ⟨rfl, kd_X2_orderOf⟩ ⟨Nat.le_of_ble_eq_true rfl, Nat.le_of_ble_eq_true rfl⟩) (wd_preV _ hPc (hK.sub (tys' := []) [] rfl) hDc (va_recv (ci := 2) (q0 := 0) hK hP rfl rfl)) rfl rfl hl.1 rfl (lv_room (Nat.le_of_ble_eq_true rfl)) dX2_sign_85 ⟨Nat.le_of_ble_eq_true rfl, Nat.le_of_ble_eq_true rfl⟩) hS (fun q _ h => hFc q h) hFc (fun r9 u9 t9 H1 locs ht9 hvm9 hw9 hB9 hz9 hk9 hS => ?_)
        obtain ⟨hP1, hK1, hD1⟩ := hB9
        rw [ht9] at hP1
        obtain ⟨hP, hD⟩ := va_join (wr := [(mx, .inl (cA, 12, .inl fx)), (my, .inl (cA, 12, .inl fy)), (mr, .inl (cA, 8101, .inl fr)), (mb, .inl (cA, 5, .inl fb))]) (w1 := [(m0, .inr (2, [.int (nI 0), .int (nI k), .int (nI (tw_P k)), .int (nI (tw_D k)), .int (nI (tw_I k)), .ref mx, .ref my, .ref mr, .ref mb, .int u9.1, .int u9.2]))]) hP hD [0] [1, 2, 3, 4] rfl rfl (by decide) (by decide) hk9 hFc hP1 hD1
        have hP := hP.sub (ws' := [(m0, .inr (2, [.int (nI 0), .int (nI k), .int (nI (tw_P k)), .int (nI (tw_D k)), .int (nI (tw_I k)), .ref mx, .ref my, .ref mr, .ref mb, .int u9.1, .int u9.2])), (mx, .inl (cA, 12, .inl fx)), (my, .inl (cA, 12, .inl fy)), (mr, .inl (cA, 8101, .inl fr)), (mb, .inl (cA, 5, .inl fb))]) [4, 0, 1, 2, 3] rfl
        have hD := hD.sub (ws' := [(m0, .inr (2, [.int (nI 0), .int (nI k), .int (nI (tw_P k)), .int (nI (tw_D k)), .int (nI (tw_I k)), .ref mx, .ref my, .ref mr, .ref mb, .int u9.1, .int u9.2])), (mx, .inl (cA, 12, .inl fx)), (my, .inl (cA, 12, .inl fy)), (mr, .inl (cA, 8101, .inl fr)), (mb, .inl (cA, 5, .inl fb))]) [4, 0, 1, 2, 3] (by decide) rfl
        generalize H1 = H at hP hS hz9 ⊢
        subst hw9
        refine lv_istore hx hb dX2_sign_88 hl (by decide) rfl (fun ls hl => ?_)
        have hl : lv_has ls 10 [(4, .int (nI (tw_od (tw_P k) (tw_D k) (tw_N k) (R j)))), (0, .ref m0), (1, .int (nI j)), (2, .int (nI key)), (3, .int (nI msg))] := hl
        refine lv_iload_n hx hb dX2_sign_90 rfl (lv_at hl 3 rfl) ?_
        refine lv_i2l (v := lN key) hx hb dX2_sign_91 (nI_l (nv_le (b := 1073741824) hkey (by decide))) ?_
        refine lv_iload_n hx hb dX2_sign_92 rfl (lv_at hl 4 rfl) ?_
        refine lv_i2l (v := lN msg) hx hb dX2_sign_93 (nI_l (nv_le (b := 1073741824) hmsg (by decide))) ?_
        refine lv_ladd hx hb dX2_sign_94 ?_
        rw [lN_add]
        refine lv_lconst (v := lN 1) hx hb dX2_sign_95 (by decide) ?_
        refine lv_ladd hx hb dX2_sign_96 ?_
        rw [lN_add]
        refine lv_ldc2 (v := lN 2147483648) hx hb hown (ht _ kv_X2_107) dX2_sign_97 ?_
        refine lv_lrem hx hb dX2_sign_100 (by decide) ?_
        rw [pk_lRem (Nat.lt_of_le_of_lt (m := 2147483649) (Nat.add_le_add (Nat.add_le_add hkey hmsg) (Nat.le_refl 1)) (by decide)) (by decide) (by decide)]
        refine lv_lstore hx hb dX2_sign_101 hl (by decide) rfl (fun ls hl => ?_)
        have hl : lv_has ls 10 [(5, .long (lN (((key + msg) + 1) % 2 ^ 31))), (4, .int (nI (tw_od (tw_P k) (tw_D k) (tw_N k) (R j)))), (0, .ref m0), (1, .int (nI j)), (2, .int (nI key)), (3, .int (nI msg))] := hl
        have tail : ∀ ls : Array Slot, lv_has ls 10 [(5, .long (lN (tw_nc (tw_od (tw_P k) (tw_D k) (tw_N k) (R j)) ((key + msg + 1) % 2 ^ 31)))), (4, .int (nI (tw_od (tw_P k) (tw_D k) (tw_N k) (R j)))), (0, .ref m0), (1, .int (nI j)), (2, .int (nI key)), (3, .int (nI msg))] → W p l e (headSpec wX2_sign ({ frames := 5, cells := 0, slots := 0, locals := 125 })).room s m ([.ref m0, .int (nI j), .int (nI key), .int (nI msg)]).toArray below meth c H locs 0 0 (MQ below (va_Ql (fun (r : Int64) (u : Int32 × Int32) => r = lN (tw_sg k R j key msg)) (fun (u : Int32 × Int32) t => wd_at D [(cA, .int)] (A) [(m0, .inr (2, [.int (nI 0), .int (nI k), .int (nI (tw_P k)), .int (nI (tw_D k)), .int (nI (tw_I k)), .ref mx, .ref my, .ref mr, .ref mb, .int u.1, .int u.2])), (mx, .inl (cA, 12, .inl fx)), (my, .inl (cA, 12, .inl fy)), (mr, .inl (cA, 8101, .inl fr)), (mb, .inl (cA, 5, .inl fb))] t) A) ([.ref m0, .int (nI j), .int (nI key), .int (nI msg)]).toArray s 0 0 A) (F0 m 127 ls []) := by
          intro ls hl
          have zK1 : tw_nc (tw_od (tw_P k) (tw_D k) (tw_N k) (R j)) ((key + msg + 1) % 2 ^ 31) < 2 ^ 31 := tw_nc_lt zK0
          have zK : tw_nc (tw_od (tw_P k) (tw_D k) (tw_N k) (R j)) ((key + msg + 1) % 2 ^ 31) ≤ 2147483647 := Nat.le_of_lt_succ zK1
          have hmu := tw_mu_on hK0 o1 (tw_nc (tw_od (tw_P k) (tw_D k) (tw_N k) (R j)) ((key + msg + 1) % 2 ^ 31))
          refine lv_aload_n hx hb dX2_sign_127 rfl (lv_at hl 2 rfl) ?_
          refine lv_lload hx hb dX2_sign_128 (lv_at hl 0 rfl) ?_
          refine lv_aload_n hx hb dX2_sign_130 rfl (lv_at hl 2 rfl) ?_
          refine va_get (D := D) (ci := 2) (v := .ref mx) (C := RX2) (T := TX2) (N := 11) hx hb ht inX2 hown hK hP 0 rfl rfl 5 (by decide) (ht _ kf_X2_13) (fun _ h9 => h9) rfl dX2_sign_131 ?_
          refine lv_iload_n hx hb dX2_sign_134 rfl (lv_at hl 3 rfl) ?_
          refine nv_iald (A := fun _ => True) (H0 := s.heap) hx hb hK hP 1 0 rfl rfl hj (by decide) dX2_sign_135 ?_
          rw [(hR _ hj).2.1]
          refine lv_aload_n hx hb dX2_sign_136 rfl (lv_at hl 2 rfl) ?_
          refine va_get (D := D) (ci := 2) (v := .ref my) (C := RX2) (T := TX2) (N := 11) hx hb ht inX2 hown hK hP 0 rfl rfl 6 (by decide) (ht _ kf_X2_17) (fun _ h9 => h9) rfl dX2_sign_137 ?_
          refine lv_iload_n hx hb dX2_sign_140 rfl (lv_at hl 3 rfl) ?_
          refine nv_iald (A := fun _ => True) (H0 := s.heap) hx hb hK hP 2 0 rfl rfl hj (by decide) dX2_sign_141 ?_
          rw [(hR _ hj).2.2]
          have hPc := hP.sub (ws' := [(m0, .inr (2, [.int (nI 0), .int (nI k), .int (nI (tw_P k)), .int (nI (tw_D k)), .int (nI (tw_I k)), .ref mx, .ref my, .ref mr, .ref mb, .int u9.1, .int u9.2]))]) [0] rfl
          have hDc := hD.sub (ws' := [(m0, .inr (2, [.int (nI 0), .int (nI k), .int (nI (tw_P k)), .int (nI (tw_D k)), .int (nI (tw_I k)), .ref mx, .ref my, .ref mr, .ref mb, .int u9.1, .int u9.2]))]) [0] (by decide) rfl
          have hFc := va_free (wc := [(m0, .inr (2, [.int (nI 0), .int (nI k), .int (nI (tw_P k)), .int (nI (tw_D k)), .int (nI (tw_I k)), .ref mx, .ref my, .ref mr, .ref mb, .int u9.1, .int u9.2]))]) hD hS hA [0] rfl
          refine va_callv (va_runV (As := [.long (lN (tw_nc (tw_od (tw_P k) (tw_D k) (tw_N k) (R j)) ((key + msg + 1) % 2 ^ 31))), .int (nI ((R j).1)), .int (nI ((R j).2))]) (rest := []) ⟨hx, hb, hml, hown, ht⟩ (c_X2_often l D hk5 o1 (lN (tw_nc (tw_od (tw_P k) (tw_D k) (tw_N k) (R j)) ((key + msg + 1) % 2 ^ 31))) H.size) (cwV 3 ht (tb_V kl_X2_91 ki_X2_often ks_X2_often kn_X2 kc_X2_often) rfl rfl rfl ⟨rfl, kd_X2_often⟩ ⟨Nat.le_of_ble_eq_true rfl, Nat.le_of_ble_eq_true rfl⟩) (wd_preV _ hPc (hK.sub (tys' := []) [] rfl) hDc (va_recv (ci := 2) (q0 := 0) hK hP rfl rfl)) rfl rfl hl.1 rfl (lv_room (Nat.le_of_ble_eq_true rfl)) dX2_sign_142 ⟨Nat.le_of_ble_eq_true rfl, Nat.le_of_ble_eq_true rfl⟩) hS (fun q _ h => hFc q h) hFc (fun v9 t9 H1 locs ht9 hvm9 hw9 hB9 hz9 hk9 hS => ?_)
          obtain ⟨hP1, hK1, hD1⟩ := hB9
          rw [ht9] at hP1
          obtain ⟨hP, hD⟩ := va_join (wr := [(mx, .inl (cA, 12, .inl fx)), (my, .inl (cA, 12, .inl fy)), (mr, .inl (cA, 8101, .inl fr)), (mb, .inl (cA, 5, .inl fb))]) (w1 := [(m0, .inr (2, [.int (nI 0), .int (nI k), .int (nI (tw_P k)), .int (nI (tw_D k)), .int (nI (tw_I k)), .ref mx, .ref my, .ref mr, .ref mb, .int (nI (tw_mu (tw_P k) (tw_D k) ((lN (tw_nc (tw_od (tw_P k) (tw_D k) (tw_N k) (R j)) ((key + msg + 1) % 2 ^ 31))).toInt % (tw_N k : Int)).toNat (R j)).1), .int (nI (tw_mu (tw_P k) (tw_D k) ((lN (tw_nc (tw_od (tw_P k) (tw_D k) (tw_N k) (R j)) ((key + msg + 1) % 2 ^ 31))).toInt % (tw_N k : Int)).toNat (R j)).2)]))]) hP hD [0] [1, 2, 3, 4] rfl rfl (by decide) (by decide) hk9 hFc hP1 hD1
          have hP := hP.sub (ws' := [(m0, .inr (2, [.int (nI 0), .int (nI k), .int (nI (tw_P k)), .int (nI (tw_D k)), .int (nI (tw_I k)), .ref mx, .ref my, .ref mr, .ref mb, .int (nI (tw_mu (tw_P k) (tw_D k) ((lN (tw_nc (tw_od (tw_P k) (tw_D k) (tw_N k) (R j)) ((key + msg + 1) % 2 ^ 31))).toInt % (tw_N k : Int)).toNat (R j)).1), .int (nI (tw_mu (tw_P k) (tw_D k) ((lN (tw_nc (tw_od (tw_P k) (tw_D k) (tw_N k) (R j)) ((key + msg + 1) % 2 ^ 31))).toInt % (tw_N k : Int)).toNat (R j)).2)])), (mx, .inl (cA, 12, .inl fx)), (my, .inl (cA, 12, .inl fy)), (mr, .inl (cA, 8101, .inl fr)), (mb, .inl (cA, 5, .inl fb))]) [4, 0, 1, 2, 3] rfl
          have hD := hD.sub (ws' := [(m0, .inr (2, [.int (nI 0), .int (nI k), .int (nI (tw_P k)), .int (nI (tw_D k)), .int (nI (tw_I k)), .ref mx, .ref my, .ref mr, .ref mb, .int (nI (tw_mu (tw_P k) (tw_D k) ((lN (tw_nc (tw_od (tw_P k) (tw_D k) (tw_N k) (R j)) ((key + msg + 1) % 2 ^ 31))).toInt % (tw_N k : Int)).toNat (R j)).1), .int (nI (tw_mu (tw_P k) (tw_D k) ((lN (tw_nc (tw_od (tw_P k) (tw_D k) (tw_N k) (R j)) ((key + msg + 1) % 2 ^ 31))).toInt % (tw_N k : Int)).toNat (R j)).2)])), (mx, .inl (cA, 12, .inl fx)), (my, .inl (cA, 12, .inl fy)), (mr, .inl (cA, 8101, .inl fr)), (mb, .inl (cA, 5, .inl fb))]) [4, 0, 1, 2, 3] (by decide) rfl
          generalize H1 = H at hP hS hz9 ⊢
          rw [tw_mz hk5 o1 zK1] at hP hD
          have hP : va_P D vwCl [(m0, .inr (2, [.int (nI 0), .int (nI k), .int (nI (tw_P k)), .int (nI (tw_D k)), .int (nI (tw_I k)), .ref mx, .ref my, .ref mr, .ref mb, .int (nI (tw_mu (tw_P k) (tw_D k) (tw_nc (tw_od (tw_P k) (tw_D k) (tw_N k) (R j)) ((key + msg + 1) % 2 ^ 31)) (R j)).1), .int (nI (tw_mu (tw_P k) (tw_D k) (tw_nc (tw_od (tw_P k) (tw_D k) (tw_N k) (R j)) ((key + msg + 1) % 2 ^ 31)) (R j)).2)])), (mx, .inl (cA, 12, .inl fx)), (my, .inl (cA, 12, .inl fy)), (mr, .inl (cA, 8101, .inl fr)), (mb, .inl (cA, 5, .inl fb))] H := hP
          have hD : va_D A [(m0, .inr (2, [.int (nI 0), .int (nI k), .int (nI (tw_P k)), .int (nI (tw_D k)), .int (nI (tw_I k)), .ref mx, .ref my, .ref mr, .ref mb, .int (nI (tw_mu (tw_P k) (tw_D k) (tw_nc (tw_od (tw_P k) (tw_D k) (tw_N k) (R j)) ((key + msg + 1) % 2 ^ 31)) (R j)).1), .int (nI (tw_mu (tw_P k) (tw_D k) (tw_nc (tw_od (tw_P k) (tw_D k) (tw_N k) (R j)) ((key + msg + 1) % 2 ^ 31)) (R j)).2)])), (mx, .inl (cA, 12, .inl fx)), (my, .inl (cA, 12, .inl fy)), (mr, .inl (cA, 8101, .inl fr)), (mb, .inl (cA, 5, .inl fb))] := hD
          refine lv_aload_n hx hb dX2_sign_145 rfl (lv_at hl 2 rfl) ?_
          refine va_get (D := D) (ci := 2) (v := .int (nI ((tw_mu (tw_P k) (tw_D k) (tw_nc (tw_od (tw_P k) (tw_D k) (tw_N k) (R j)) ((key + msg + 1) % 2 ^ 31)) (R j)).1))) (C := RX2) (T := TX2) (N := 11) hx hb ht inX2 hown hK hP 0 rfl rfl 9 (by decide) (ht _ kf_X2_59) (fun _ h9 => h9) rfl dX2_sign_146 ?_
          refine lv_aload_n hx hb dX2_sign_149 rfl (lv_at hl 2 rfl) ?_
          refine va_get (D := D) (ci := 2) (v := .int (nI ((tw_mu (tw_P k) (tw_D k) (tw_nc (tw_od (tw_P k) (tw_D k) (tw_N k) (R j)) ((key + msg + 1) % 2 ^ 31)) (R j)).2))) (C := RX2) (T := TX2) (N := 11) hx hb ht inX2 hown hK hP 0 rfl rfl 10 (by decide) (ht _ kf_X2_56) (fun _ h9 => h9) rfl dX2_sign_150 ?_
          refine vp_callSi (W.runS (As := [.int (nI ((tw_mu (tw_P k) (tw_D k) (tw_nc (tw_od (tw_P k) (tw_D k) (tw_N k) (R j)) ((key + msg + 1) % 2 ^ 31)) (R j)).1)), .int (nI ((tw_mu (tw_P k) (tw_D k) (tw_nc (tw_od (tw_P k) (tw_D k) (tw_N k) (R j)) ((key + msg + 1) % 2 ^ 31)) (R j)).2))]) (rest := []) ⟨hx, hb, hml, hown, ht⟩ (c_X2_pack l (x := (tw_mu (tw_P k) (tw_D k) (tw_nc (tw_od (tw_P k) (tw_D k) (tw_N k) (R j)) ((key + msg + 1) % 2 ^ 31)) (R j)).1) (y := (tw_mu (tw_P k) (tw_D k) (tw_nc (tw_od (tw_P k) (tw_D k) (tw_N k) (R j)) ((key + msg + 1) % 2 ^ 31)) (R j)).2) (by have := tw_on1 hP2 hmu; omega) (by have := tw_on2 hP2 hmu; omega)) (va_cwS 2 ht (tb_S kl_X2_73 kt_X2_pack kn_X2 kc_X2_pack) rfl rfl rfl kd_X2_pack ⟨Nat.le_of_ble_eq_true rfl, Nat.le_of_ble_eq_true rfl⟩) (st_pre _) rfl rfl hl.1 rfl (lv_room (Nat.le_of_ble_eq_true rfl)) dX2_sign_153 ⟨Nat.zero_le _, Nat.zero_le _⟩) (fun r hr9 => ?_)
          subst hr9
          have zpk := tw_pk_le (p := tw_mu (tw_P k) (tw_D k) (tw_nc (tw_od (tw_P k) (tw_D k) (tw_N k) (R j)) ((key + msg + 1) % 2 ^ 31)) (R j)) (by have := tw_on2 hP2 hmu; omega)
          refine lv_istore hx hb dX2_sign_156 hl (by decide) rfl (fun ls hl => ?_)
          have hl : lv_has ls 10 [(7, .int (nI (tw_pk (tw_mu (tw_P k) (tw_D k) (tw_nc (tw_od (tw_P k) (tw_D k) (tw_N k) (R j)) ((key + msg + 1) % 2 ^ 31)) (R j))))), (5, .long (lN (tw_nc (tw_od (tw_P k) (tw_D k) (tw_N k) (R j)) ((key + msg + 1) % 2 ^ 31)))), (4, .int (nI (tw_od (tw_P k) (tw_D k) (tw_N k) (R j)))), (0, .ref m0), (1, .int (nI j)), (2, .int (nI key)), (3, .int (nI msg))] := hl
          refine lv_iload hx hb dX2_sign_158 (lv_at hl 0 rfl) ?_
          refine lv_i2l (v := lN (tw_pk (tw_mu (tw_P k) (tw_D k) (tw_nc (tw_od (tw_P k) (tw_D k) (tw_N k) (R j)) ((key + msg + 1) % 2 ^ 31)) (R j)))) hx hb dX2_sign_160 (nI_l (nv_le (b := 16383) zpk (by decide))) ?_
          refine lv_iload_n hx hb dX2_sign_161 rfl (lv_at hl 6 rfl) ?_
          refine lv_i2l (v := lN msg) hx hb dX2_sign_162 (nI_l (nv_le (b := 1073741824) hmsg (by decide))) ?_
          refine lv_ladd hx hb dX2_sign_163 ?_
          rw [lN_add]
          refine lv_ldc2 (v := lN 1048576) hx hb hown (ht _ kv_X2_109) dX2_sign_164 ?_
          refine lv_lrem hx hb dX2_sign_167 (by decide) ?_
          rw [pk_lRem (Nat.lt_of_le_of_lt (m := 1073758207) (Nat.add_le_add zpk hmsg) (by decide)) (by decide) (by decide)]
          refine lv_lstore hx hb dX2_sign_168 hl (by decide) rfl (fun ls hl => ?_)
          have hl : lv_has ls 10 [(8, .long (lN (((tw_pk (tw_mu (tw_P k) (tw_D k) (tw_nc (tw_od (tw_P k) (tw_D k) (tw_N k) (R j)) ((key + msg + 1) % 2 ^ 31)) (R j))) + msg) % 2 ^ 20))), (7, .int (nI (tw_pk (tw_mu (tw_P k) (tw_D k) (tw_nc (tw_od (tw_P k) (tw_D k) (tw_N k) (R j)) ((key + msg + 1) % 2 ^ 31)) (R j))))), (5, .long (lN (tw_nc (tw_od (tw_P k) (tw_D k) (tw_N k) (R j)) ((key + msg + 1) % 2 ^ 31)))), (4, .int (nI (tw_od (tw_P k) (tw_D k) (tw_N k) (R j)))), (0, .ref m0), (1, .int (nI j)), (2, .int (nI key)), (3, .int (nI msg))] := hl
          refine lv_iload hx hb dX2_sign_170 (lv_at hl 1 rfl) ?_
          refine lv_i2l (v := lN (tw_pk (tw_mu (tw_P k) (tw_D k) (tw_nc (tw_od (tw_P k) (tw_D k) (tw_N k) (R j)) ((key + msg + 1) % 2 ^ 31)) (R j)))) hx hb dX2_sign_172 (nI_l (nv_le (b := 16383) zpk (by decide))) ?_
          refine lv_ldc2 (v := lN 65536) hx hb hown (ht _ kv_X2_111) dX2_sign_173 ?_
          refine lv_lmul hx hb dX2_sign_176 ?_
          rw [lN_mul]
          refine lv_lload hx hb dX2_sign_177 (lv_at hl 2 rfl) ?_
          refine lv_lload hx hb dX2_sign_179 (lv_at hl 0 rfl) ?_
          refine lv_iload_n hx hb dX2_sign_181 rfl (lv_at hl 6 rfl) ?_
          refine lv_i2l (v := lN key) hx hb dX2_sign_182 (nI_l (nv_le (b := 1073741824) hkey (by decide))) ?_
          refine lv_lmul hx hb dX2_sign_183 ?_
          rw [lN_mul]
          refine lv_ladd hx hb dX2_sign_184 ?_
          rw [lN_add]
          refine lv_iload hx hb dX2_sign_185 (lv_at hl 3 rfl) ?_
          refine lv_i2l (v := lN (tw_od (tw_P k) (tw_D k) (tw_N k) (R j))) hx hb dX2_sign_187 (nI_l (nv_le (b := 8232) zod (by decide))) ?_
          refine lv_lrem hx hb dX2_sign_188 (fm_ne hod.1 (nv_le (b := 8232) zod (by decide))) ?_
          rw [pk_lRem (Nat.lt_of_le_of_lt (m := 1125900980584447) (Nat.add_le_add zK (Nat.mul_le_mul (Nat.le_of_lt_succ (Nat.mod_lt _ (by decide))) hkey)) (by decide)) hod.1 (Nat.lt_of_le_of_lt (m := 8232) zod (by decide))]
          refine lv_ladd hx hb dX2_sign_189 ?_
          rw [lN_add]
          exact W.lret hx hb hr (fun t ht9 hW => ⟨⟨_, (_, _), rfl, rfl, by rw [ht9]; exact hP, va_K.moved hW.alike hK, hD⟩, hS.F ht9⟩) hS.2.2 dX2_sign_190
        have zmod : ∀ a : Nat, a % tw_od (tw_P k) (tw_D k) (tw_N k) (R j) ≤ 8231 := fun a => by have := Nat.mod_lt a hod.1; omega
        refine lv_lload hx hb dX2_sign_103 (lv_at hl 0 rfl) ?_
        refine lv_iload hx hb dX2_sign_105 (lv_at hl 1 rfl) ?_
        refine lv_i2l (v := lN (tw_od (tw_P k) (tw_D k) (tw_N k) (R j))) hx hb dX2_sign_107 (nI_l (nv_le (b := 8232) zod (by decide))) ?_
        refine lv_lrem hx hb dX2_sign_108 (fm_ne hod.1 (nv_le (b := 8232) zod (by decide))) ?_
        rw [pk_lRem (Nat.lt_of_le_of_lt (m := 2147483647) (Nat.le_of_lt_succ zK0) (by decide)) hod.1 (Nat.lt_of_le_of_lt (m := 8232) zod (by decide))]
        refine lv_lconst (v := lN 0) hx hb dX2_sign_109 (by decide) ?_
        refine W.lcmp hx hb dX2_sign_110 ?_
        refine lv_if_ne (tgt := 127) hx hb dX2_sign_111 (by decide) (fun c1 => ?_) (fun c1 => ?_)
        · have d1 : ¬ ((key + msg + 1) % 2 ^ 31) % (tw_od (tw_P k) (tw_D k) (tw_N k) (R j)) = 0 := fun z => c1 ((lg_cmp_eq _ _).mpr (by rw [z]))
          have e8 : tw_nc (tw_od (tw_P k) (tw_D k) (tw_N k) (R j)) ((key + msg + 1) % 2 ^ 31) = (key + msg + 1) % 2 ^ 31 := by unfold tw_nc; rw [if_neg d1]
          refine tail ls ?_
          rw [e8]
          exact lv_sub hl [0, 1, 2, 3, 4, 5] rfl
        · have d1 : ((key + msg + 1) % 2 ^ 31) % (tw_od (tw_P k) (tw_D k) (tw_N k) (R j)) = 0 := (pk_lEQ (Nat.lt_of_le_of_lt (zmod _) (by decide)) (by decide)).mp ((lg_cmp_eq _ _).mp c1)
          refine lv_lload hx hb dX2_sign_114 (lv_at hl 0 rfl) ?_
          refine lv_lconst (v := lN 1) hx hb dX2_sign_116 (by decide) ?_
          refine lv_ladd hx hb dX2_sign_117 ?_
          rw [lN_add]
          refine lv_ldc2 (v := lN 2147483648) hx hb hown (ht _ kv_X2_107) dX2_sign_118 ?_
          refine lv_lrem hx hb dX2_sign_121 (by decide) ?_
          rw [pk_lRem (Nat.lt_of_le_of_lt (m := 2147483648) (Nat.add_le_add (Nat.le_of_lt_succ zK0) (Nat.le_refl 1)) (by decide)) (by decide) (by decide)]
          refine lv_lstore hx hb dX2_sign_122 hl (by decide) rfl (fun ls hl => ?_)
          have hl : lv_has ls 10 [(5, .long (lN ((((key + msg + 1) % 2 ^ 31) + 1) % 2 ^ 31))), (4, .int (nI (tw_od (tw_P k) (tw_D k) (tw_N k) (R j)))), (0, .ref m0), (1, .int (nI j)), (2, .int (nI key)), (3, .int (nI msg))] := hl
          refine lv_goto (tgt := 103) hx hb dX2_sign_124 (by decide) ?_
          refine lv_lload hx hb dX2_sign_103 (lv_at hl 0 rfl) ?_
          refine lv_iload hx hb dX2_sign_105 (lv_at hl 1 rfl) ?_
          refine lv_i2l (v := lN (tw_od (tw_P k) (tw_D k) (tw_N k) (R j))) hx hb dX2_sign_107 (nI_l (nv_le (b := 8232) zod (by decide))) ?_
          refine lv_lrem hx hb dX2_sign_108 (fm_ne hod.1 (nv_le (b := 8232) zod (by decide))) ?_
          rw [pk_lRem (Nat.lt_of_le_of_lt (m := 2147483647) (Nat.le_of_lt_succ (Nat.mod_lt _ (by decide))) (by decide)) hod.1 (Nat.lt_of_le_of_lt (m := 8232) zod (by decide))]
          refine lv_lconst (v := lN 0) hx hb dX2_sign_109 (by decide) ?_
          refine W.lcmp hx hb dX2_sign_110 ?_
          refine lv_if_ne (tgt := 127) hx hb dX2_sign_111 (by decide) (fun c2 => ?_) (fun c2 => ?_)
          · have d2 : ¬ ((((key + msg + 1) % 2 ^ 31) + 1) % 2 ^ 31) % (tw_od (tw_P k) (tw_D k) (tw_N k) (R j)) = 0 := fun z => c2 ((lg_cmp_eq _ _).mpr (by rw [z]))
            have e8 : tw_nc (tw_od (tw_P k) (tw_D k) (tw_N k) (R j)) ((key + msg + 1) % 2 ^ 31) = (((key + msg + 1) % 2 ^ 31) + 1) % 2 ^ 31 := by unfold tw_nc; rw [if_pos d1, if_neg d2]
            refine tail ls ?_
            rw [e8]
            exact lv_sub hl [0, 1, 2, 3, 4, 5] rfl
          · have d2 : ((((key + msg + 1) % 2 ^ 31) + 1) % 2 ^ 31) % (tw_od (tw_P k) (tw_D k) (tw_N k) (R j)) = 0 := (pk_lEQ (Nat.lt_of_le_of_lt (zmod _) (by decide)) (by decide)).mp ((lg_cmp_eq _ _).mp c2)
            refine lv_lload hx hb dX2_sign_114 (lv_at hl 0 rfl) ?_
            refine lv_lconst (v := lN 1) hx hb dX2_sign_116 (by decide) ?_
            refine lv_ladd hx hb dX2_sign_117 ?_
            rw [lN_add]
            refine lv_ldc2 (v := lN 2147483648) hx hb hown (ht _ kv_X2_107) dX2_sign_118 ?_
            refine lv_lrem hx hb dX2_sign_121 (by decide) ?_
            rw [pk_lRem (Nat.lt_of_le_of_lt (m := 2147483648) (Nat.add_le_add (Nat.le_of_lt_succ (Nat.mod_lt _ (by decide))) (Nat.le_refl 1)) (by decide)) (by decide) (by decide)]
            refine lv_lstore hx hb dX2_sign_122 hl (by decide) rfl (fun ls hl => ?_)
            have hl : lv_has ls 10 [(5, .long (lN ((((((key + msg + 1) % 2 ^ 31) + 1) % 2 ^ 31) + 1) % 2 ^ 31))), (4, .int (nI (tw_od (tw_P k) (tw_D k) (tw_N k) (R j)))), (0, .ref m0), (1, .int (nI j)), (2, .int (nI key)), (3, .int (nI msg))] := hl
            refine lv_goto (tgt := 103) hx hb dX2_sign_124 (by decide) ?_
            refine lv_lload hx hb dX2_sign_103 (lv_at hl 0 rfl) ?_
            refine lv_iload hx hb dX2_sign_105 (lv_at hl 1 rfl) ?_
            refine lv_i2l (v := lN (tw_od (tw_P k) (tw_D k) (tw_N k) (R j))) hx hb dX2_sign_107 (nI_l (nv_le (b := 8232) zod (by decide))) ?_
            refine lv_lrem hx hb dX2_sign_108 (fm_ne hod.1 (nv_le (b := 8232) zod (by decide))) ?_
            rw [pk_lRem (Nat.lt_of_le_of_lt (m := 2147483647) (Nat.le_of_lt_succ (Nat.mod_lt _ (by decide))) (by decide)) hod.1 (Nat.lt_of_le_of_lt (m := 8232) zod (by decide))]
            refine lv_lconst (v := lN 0) hx hb dX2_sign_109 (by decide) ?_
            refine W.lcmp hx hb dX2_sign_110 ?_
            refine lv_if_ne (tgt := 127) hx hb dX2_sign_111 (by decide) (fun c3 => ?_) (fun c3 => ?_)
            · have d3 : ¬ ((((((key + msg + 1) % 2 ^ 31) + 1) % 2 ^ 31) + 1) % 2 ^ 31) % (tw_od (tw_P k) (tw_D k) (tw_N k) (R j)) = 0 := fun z => c3 ((lg_cmp_eq _ _).mpr (by rw [z]))
              have e8 : tw_nc (tw_od (tw_P k) (tw_D k) (tw_N k) (R j)) ((key + msg + 1) % 2 ^ 31) = (((((key + msg + 1) % 2 ^ 31) + 1) % 2 ^ 31) + 1) % 2 ^ 31 := by unfold tw_nc; rw [if_pos d1, if_pos d2]
              refine tail ls ?_
              rw [e8]
              exact lv_sub hl [0, 1, 2, 3, 4, 5] rfl
            · have d3 : ((((((key + msg + 1) % 2 ^ 31) + 1) % 2 ^ 31) + 1) % 2 ^ 31) % (tw_od (tw_P k) (tw_D k) (tw_N k) (R j)) = 0 := (pk_lEQ (Nat.lt_of_le_of_lt (zmod _) (by decide)) (by decide)).mp ((lg_cmp_eq _ _).mp c3)
              rw [md_nc3 hod2 zK0 d1 d2, Nat.mod_eq_of_lt (by omega)] at d3
              exact absurd d3 (by decide)
      refine lv_aload_n hx hb dX2_sign_36 rfl (lv_at hl 0 rfl) ?_
      refine va_get (D := D) (ci := 2) (v := .ref mx) (C := RX2) (T := TX2) (N := 11) hx hb ht inX2 hown hK hP 0 rfl rfl 5 (by decide) (ht _ kf_X2_13) (fun _ h9 => h9) rfl dX2_sign_37 ?_
      refine lv_iload_n hx hb dX2_sign_40 rfl (lv_at hl 1 rfl) ?_
      refine nv_iald (A := fun _ => True) (H0 := s.heap) hx hb hK hP 1 0 rfl rfl hj (by decide) dX2_sign_41 ?_
      rw [(hR _ hj).2.1]
      refine nv_if_ne (tgt := 59) hx hb dX2_sign_42 (by decide) (nv_le (b := 8100) (tw_on1 hP2 (hR _ hj).1) (by decide)) (fun c42 => ?_) (fun c42 => ?_)
      · exact body
      · refine lv_aload_n hx hb dX2_sign_45 rfl (lv_at hl 0 rfl) ?_
        refine va_get (D := D) (ci := 2) (v := .ref my) (C := RX2) (T := TX2) (N := 11) hx hb ht inX2 hown hK hP 0 rfl rfl 6 (by decide) (ht _ kf_X2_17) (fun _ h9 => h9) rfl dX2_sign_46 ?_
        refine lv_iload_n hx hb dX2_sign_49 rfl (lv_at hl 1 rfl) ?_
        refine nv_iald (A := fun _ => True) (H0 := s.heap) hx hb hK hP 2 0 rfl rfl hj (by decide) dX2_sign_50 ?_
        rw [(hR _ hj).2.2]
        refine lv_iconst (v := (nI 1)) hx hb dX2_sign_51 (by decide) ?_
        refine nv_icmp_ne (tgt := 59) hx hb dX2_sign_52 (by decide) (nv_le (b := 8100) (tw_on2 hP2 (hR _ hj).1) (by decide)) (nv_le (b := 1) (Nat.le_refl 1) (by decide)) (fun c52 => ?_) (fun c52 => ?_)
        · exact body
        · exact absurd (Prod.ext c42 c52) hne
    · omega
set_option maxHeartbeats 4000000 in
set_option maxRecDepth 100000 in
theorem c_X2_verifyM (l : Launch) (D : va_G) {k : Nat} (hk5 : k < 5) {m0 mx my mr mb : Nat} {th sx sy : Int32} {cA : ClassId} {fx fy fr fb : Nat → Int32} {R : Nat → Nat × Nat} (hfr : ∀ j, j < tw_P k → fr j = tw_rv (tw_P k) j) (hR : ∀ j, j < 12 → tw_on (tw_P k) (tw_D k) (R j) ∧ fx j = nI (R j).1 ∧ fy j = nI (R j).2) {j j2 msg : Nat} (hj : j < 12) (hj2 : j2 < 12) (hmsg : msg ≤ 1073741824) {z : Int64} (hz : z.toInt < 0) (sz : Nat) : Met l yX2_verify wX2_verify ({ frames := 5, cells := 0, slots := 0, locals := 125 }) (va_Pc [.ref m0, .int (nI j), .int (nI j2), .int (nI msg), .long z] (wd_pre D [(cA, .int)] [(m0, .inr (2, [.int th, .int (nI k), .int (nI (tw_P k)), .int (nI (tw_D k)), .int (nI (tw_I k)), .ref mx, .ref my, .ref mr, .ref mb, .int sx, .int sy])), (mx, .inl (cA, 12, .inl fx)), (my, .inl (cA, 12, .inl fy)), (mr, .inl (cA, 8101, .inl fr)), (mb, .inl (cA, 5, .inl fb))] sz)) (va_Qi (fun (r : Int32) (u : Int32 × Int32) => r = 0) (fun (u : Int32 × Int32) t => wd_at D [(cA, .int)] (va_A [(m0, .inr (2, [.int th, .int (nI k), .int (nI (tw_P k)), .int (nI (tw_D k)), .int (nI (tw_I k)), .ref mx, .ref my, .ref mr, .ref mb, .int sx, .int sy])), (mx, .inl (cA, 12, .inl fx)), (my, .inl (cA, 12, .inl fy)), (mr, .inl (cA, 8101, .inl fr)), (mb, .inl (cA, 5, .inl fb))] sz) [(m0, .inr (2, [.int (nI 0), .int (nI k), .int (nI (tw_P k)), .int (nI (tw_D k)), .int (nI (tw_I k)), .ref mx, .ref my, .ref mr, .ref mb, .int u.1, .int u.2])), (mx, .inl (cA, 12, .inl fx)), (my, .inl (cA, 12, .inl fy)), (mr, .inl (cA, 8101, .inl fr)), (mb, .inl (cA, 5, .inl fb))] t) (va_A [(m0, .inr (2, [.int th, .int (nI k), .int (nI (tw_P k)), .int (nI (tw_D k)), .int (nI (tw_I k)), .ref mx, .ref my, .ref mr, .ref mb, .int sx, .int sy])), (mx, .inl (cA, 12, .inl fx)), (my, .inl (cA, 12, .inl fy)), (mr, .inl (cA, 8101, .inl fr)), (mb, .inl (cA, 5, .inl fb))] sz)) 0 0 (va_A [(m0, .inr (2, [.int th, .int (nI k), .int (nI (tw_P k)), .int (nI (tw_D k)), .int (nI (tw_I k)), .ref mx, .ref my, .ref mr, .ref mb, .int sx, .int sy])), (mx, .inl (cA, 12, .inl fx)), (my, .inl (cA, 12, .inl fy)), (mr, .inl (cA, 8101, .inl fr)), (mb, .inl (cA, 5, .inl fb))] sz) := by
  refine Met.ofW (cc := cX2_verify) (maxL := 9) (ret := (some .boolean)) (by decide) rfl ?_
  intro p e s m args below meth c s₁ B hml hv
  obtain ⟨rfl, hsz, hP, hK, hD0⟩ := hv
  have hx := B.exec
  have hb := B.bytes
  have hr := B.returns
  have hts := atoms_spec (ws := wX2_verify) B.pre
  have ht : ∀ w ∈ tb_all, w.before _ s = true := fun w h => hts w (List.mem_cons_of_mem _ h)
  have hown : s.vm.findClass RX2 = some m.cls := findClass_of_methodNamed B.named
  have hlocks := B.notSynchronized
  have hin : meth.name = "verify" := (name_of_methodNamed B.named B.method).1
  subst hsz
  have hD := hD0.self (sz := s.heap.size)
  generalize hAe : va_A [(m0, .inr (2, [.int th, .int (nI k), .int (nI (tw_P k)), .int (nI (tw_D k)), .int (nI (tw_I k)), .ref mx, .ref my, .ref mr, .ref mb, .int sx, .int sy])), (mx, .inl (cA, 12, .inl fx)), (my, .inl (cA, 12, .inl fy)), (mr, .inl (cA, 8101, .inl fr)), (mb, .inl (cA, 5, .inl fb))] s.heap.size = A at hD ⊢
  have hA : ∀ q : Nat, s.heap.size ≤ q → A q := fun q h => by rw [← hAe]; exact Or.inr h
  have hS : va_S A s.heap s.heap [] := va_S.rf
  have hl := lv_entry ([.ref m0, .int (nI j), .int (nI j2), .int (nI msg), .long z]) (n := 9) (Nat.le_of_ble_eq_true rfl)
  rw [lg_entry_eq]
  generalize (lg_sl ([.ref m0, .int (nI j), .int (nI j2), .int (nI msg), .long z]) ++ List.replicate (9 - (lg_sl ([.ref m0, .int (nI j), .int (nI j2), .int (nI msg), .long z])).length) Slot.unset).toArray = ls at hl ⊢
  have hl : lv_has ls 9 [(0, .ref m0), (1, .int (nI j)), (2, .int (nI j2)), (3, .int (nI msg)), (4, .long z)] := hl
  obtain ⟨hP0, hP2, hD2, hI2, hDP⟩ := tw_kb hk5
  have hK0 := tw_kK k hk5
  have hP8 : tw_P k ≤ 8192 := by omega
  have hN := tw_kN k hk5
  have zk : k ≤ 4 := by omega
  refine lv_aload_n hx hb dX2_verify_0 rfl (lv_at hl 0 rfl) ?_
  refine lv_iload_n hx hb dX2_verify_1 rfl (lv_at hl 1 rfl) ?_
  refine vp_callSi (W.runS (As := [.int (nI j)]) (rest := [.ref m0]) ⟨hx, hb, hml, hown, ht⟩ (c_X2_none l hj) (va_cwS 1 ht (tb_S kl_X2_76 kt_X2_none kn_X2 kc_X2_none) rfl rfl rfl kd_X2_none ⟨Nat.le_of_ble_eq_true rfl, Nat.le_of_ble_eq_true rfl⟩) (st_pre _) rfl rfl hl.1 rfl (lv_room (Nat.le_of_ble_eq_true rfl)) dX2_verify_2 ⟨Nat.zero_le _, Nat.zero_le _⟩) (fun r hr9 => ?_)
  subst hr9
  refine lv_if_ne (tgt := 15) hx hb dX2_verify_5 (by decide) (fun c9 => absurd rfl c9) (fun _ => ?_)
  refine lv_iload_n hx hb dX2_verify_8 rfl (lv_at hl 2 rfl) ?_
  refine vp_callSi (W.runS (As := [.int (nI j2)]) (rest := [.ref m0]) ⟨hx, hb, hml, hown, ht⟩ (c_X2_none l hj2) (va_cwS 1 ht (tb_S kl_X2_76 kt_X2_none kn_X2 kc_X2_none) rfl rfl rfl kd_X2_none ⟨Nat.le_of_ble_eq_true rfl, Nat.le_of_ble_eq_true rfl⟩) (st_pre _) rfl rfl hl.1 rfl (lv_room (Nat.le_of_ble_eq_true rfl)) dX2_verify_9 ⟨Nat.zero_le _, Nat.zero_le _⟩) (fun r hr9 => ?_)
  subst hr9
  refine lv_if_eq (tgt := 19) hx hb dX2_verify_12 (by decide) (fun _ => ?_) (fun c9 => absurd rfl c9)
  refine lv_iload_n hx hb dX2_verify_19 rfl (lv_at hl 3 rfl) ?_
  refine nv_if_lt (tgt := 29) hx hb dX2_verify_20 (by decide) (nv_le (b := 1073741824) hmsg (by decide)) ?_
  refine lv_iload_n hx hb dX2_verify_23 rfl (lv_at hl 3 rfl) ?_
  refine lv_ldc (v := nI 1073741824) hx hb hown (ht _ kv_X2_106) dX2_verify_24 ?_
  refine nv_icmp_le (tgt := 33) hx hb dX2_verify_26 (by decide) (nv_le (b := 1073741824) hmsg (by decide)) (nv_le (b := 1073741824) (Nat.le_refl 1073741824) (by decide)) (fun c26 => ?_) (fun c26 => ?_)
  · refine lv_iconst (v := (nI 0)) hx hb dX2_verify_33 (by decide) ?_
    refine va_put (D := D) (ci := 2) (v := .int (nI 0)) (ty := .int) (C := RX2) (T := TX2) (N := 11) hx hb ht inX2 tyX2 tyX2_ok nmX2 hown hK hP hD hS 0 rfl rfl 0 (by decide) (ht _ kf_X2_30) (fun _ h9 => h9) rfl (by decide +kernel) rfl rfl (Nat.le_of_ble_eq_true rfl) dX2_verify_34 (fun H locs hP hD hS => ?_)
    have hP : va_P D vwCl [(m0, .inr (2, [.int (nI 0), .int (nI k), .int (nI (tw_P k)), .int (nI (tw_D k)), .int (nI (tw_I k)), .ref mx, .ref my, .ref mr, .ref mb, .int sx, .int sy])), (mx, .inl (cA, 12, .inl fx)), (my, .inl (cA, 12, .inl fy)), (mr, .inl (cA, 8101, .inl fr)), (mb, .inl (cA, 5, .inl fb))] H := hP
    have hD : va_D A [(m0, .inr (2, [.int (nI 0), .int (nI k), .int (nI (tw_P k)), .int (nI (tw_D k)), .int (nI (tw_I k)), .ref mx, .ref my, .ref mr, .ref mb, .int sx, .int sy])), (mx, .inl (cA, 12, .inl fx)), (my, .inl (cA, 12, .inl fy)), (mr, .inl (cA, 8101, .inl fr)), (mb, .inl (cA, 5, .inl fb))] := hD
    refine lv_aload_n hx hb dX2_verify_37 rfl (lv_at hl 0 rfl) ?_
    refine va_get (D := D) (ci := 2) (v := .int (nI 0)) (C := RX2) (T := TX2) (N := 11) hx hb ht inX2 hown hK hP 0 rfl rfl 0 (by decide) (ht _ kf_X2_30) (fun _ h9 => h9) rfl dX2_verify_38 ?_
    refine nv_if_gt (tgt := 60) hx hb dX2_verify_41 (by decide) (by decide) (fun c8 => absurd c8 (by decide)) (fun _ => ?_)
    refine lv_lload hx hb dX2_verify_44 (lv_at hl 4 rfl) ?_
    refine lv_lconst (v := lN 0) hx hb dX2_verify_46 (by decide) ?_
    refine W.lcmp hx hb dX2_verify_47 ?_
    refine lv_if_lt (tgt := 60) hx hb dX2_verify_48 (by decide) (fun _ => ?_) (fun c9 => absurd ((lg_cmp_lt _ _).mpr ?_) c9)
    · refine lv_iconst (v := (nI 0)) hx hb dX2_verify_60 (by decide) ?_
      exact W.zret hx hb hr rfl (fun t ht9 hW => ⟨⟨_, (sx, sy), rfl, rfl, by rw [ht9]; exact hP, va_K.moved hW.alike hK, hD⟩, hS.F ht9⟩) hS.2.2 dX2_verify_61
    · rw [Int64.lt_iff_toInt_lt]
      have e0 : (lN 0).toInt = 0 := by decide
      omega
  · omega
set_option maxHeartbeats 4000000 in
set_option maxRecDepth 100000 in
theorem c_X2_verify (l : Launch) (D : va_G) {k : Nat} (hk5 : k < 5) {m0 mx my mr mb : Nat} {th sx sy : Int32} {cA : ClassId} {fx fy fr fb : Nat → Int32} {R : Nat → Nat × Nat} (hfr : ∀ j, j < tw_P k → fr j = tw_rv (tw_P k) j) (hR : ∀ j, j < 12 → tw_on (tw_P k) (tw_D k) (R j) ∧ fx j = nI (R j).1 ∧ fy j = nI (R j).2) {j j2 msg : Nat} (hj : j < 12) (hj2 : j2 < 12) (hmsg : msg ≤ 1073741824) {g : Nat} (hg : g < 2 ^ 63) (sz : Nat) : Met l yX2_verify wX2_verify ({ frames := 5, cells := 0, slots := 0, locals := 125 }) (va_Pc [.ref m0, .int (nI j), .int (nI j2), .int (nI msg), .long (lN g)] (wd_pre D [(cA, .int)] [(m0, .inr (2, [.int th, .int (nI k), .int (nI (tw_P k)), .int (nI (tw_D k)), .int (nI (tw_I k)), .ref mx, .ref my, .ref mr, .ref mb, .int sx, .int sy])), (mx, .inl (cA, 12, .inl fx)), (my, .inl (cA, 12, .inl fy)), (mr, .inl (cA, 8101, .inl fr)), (mb, .inl (cA, 5, .inl fb))] sz)) (va_Qi (fun (r : Int32) (u : Int32 × Int32) => r = tw_vf k R j j2 msg g) (fun (u : Int32 × Int32) t => wd_at D [(cA, .int)] (va_A [(m0, .inr (2, [.int th, .int (nI k), .int (nI (tw_P k)), .int (nI (tw_D k)), .int (nI (tw_I k)), .ref mx, .ref my, .ref mr, .ref mb, .int sx, .int sy])), (mx, .inl (cA, 12, .inl fx)), (my, .inl (cA, 12, .inl fy)), (mr, .inl (cA, 8101, .inl fr)), (mb, .inl (cA, 5, .inl fb))] sz) [(m0, .inr (2, [.int (nI 0), .int (nI k), .int (nI (tw_P k)), .int (nI (tw_D k)), .int (nI (tw_I k)), .ref mx, .ref my, .ref mr, .ref mb, .int u.1, .int u.2])), (mx, .inl (cA, 12, .inl fx)), (my, .inl (cA, 12, .inl fy)), (mr, .inl (cA, 8101, .inl fr)), (mb, .inl (cA, 5, .inl fb))] t) (va_A [(m0, .inr (2, [.int th, .int (nI k), .int (nI (tw_P k)), .int (nI (tw_D k)), .int (nI (tw_I k)), .ref mx, .ref my, .ref mr, .ref mb, .int sx, .int sy])), (mx, .inl (cA, 12, .inl fx)), (my, .inl (cA, 12, .inl fy)), (mr, .inl (cA, 8101, .inl fr)), (mb, .inl (cA, 5, .inl fb))] sz)) 0 0 (va_A [(m0, .inr (2, [.int th, .int (nI k), .int (nI (tw_P k)), .int (nI (tw_D k)), .int (nI (tw_I k)), .ref mx, .ref my, .ref mr, .ref mb, .int sx, .int sy])), (mx, .inl (cA, 12, .inl fx)), (my, .inl (cA, 12, .inl fy)), (mr, .inl (cA, 8101, .inl fr)), (mb, .inl (cA, 5, .inl fb))] sz) := by
  refine Met.ofW (cc := cX2_verify) (maxL := 9) (ret := (some .boolean)) (by decide) rfl ?_
  intro p e s m args below meth c s₁ B hml hv
  obtain ⟨rfl, hsz, hP, hK, hD0⟩ := hv
  have hx := B.exec
  have hb := B.bytes
  have hr := B.returns
  have hts := atoms_spec (ws := wX2_verify) B.pre
  have ht : ∀ w ∈ tb_all, w.before _ s = true := fun w h => hts w (List.mem_cons_of_mem _ h)
  have hown : s.vm.findClass RX2 = some m.cls := findClass_of_methodNamed B.named
  have hlocks := B.notSynchronized
  have hin : meth.name = "verify" := (name_of_methodNamed B.named B.method).1
  subst hsz
  have hD := hD0.self (sz := s.heap.size)
  generalize hAe : va_A [(m0, .inr (2, [.int th, .int (nI k), .int (nI (tw_P k)), .int (nI (tw_D k)), .int (nI (tw_I k)), .ref mx, .ref my, .ref mr, .ref mb, .int sx, .int sy])), (mx, .inl (cA, 12, .inl fx)), (my, .inl (cA, 12, .inl fy)), (mr, .inl (cA, 8101, .inl fr)), (mb, .inl (cA, 5, .inl fb))] s.heap.size = A at hD ⊢
  have hA : ∀ q : Nat, s.heap.size ≤ q → A q := fun q h => by rw [← hAe]; exact Or.inr h
  have hS : va_S A s.heap s.heap [] := va_S.rf
  have hl := lv_entry ([.ref m0, .int (nI j), .int (nI j2), .int (nI msg), .long (lN g)]) (n := 9) (Nat.le_of_ble_eq_true rfl)
  rw [lg_entry_eq]
  generalize (lg_sl ([.ref m0, .int (nI j), .int (nI j2), .int (nI msg), .long (lN g)]) ++ List.replicate (9 - (lg_sl ([.ref m0, .int (nI j), .int (nI j2), .int (nI msg), .long (lN g)])).length) Slot.unset).toArray = ls at hl ⊢
  have hl : lv_has ls 9 [(0, .ref m0), (1, .int (nI j)), (2, .int (nI j2)), (3, .int (nI msg)), (4, .long (lN g))] := hl
  obtain ⟨hP0, hP2, hD2, hI2, hDP⟩ := tw_kb hk5
  have hK0 := tw_kK k hk5
  have hP8 : tw_P k ≤ 8192 := by omega
  have hN := tw_kN k hk5
  have zk : k ≤ 4 := by omega
  refine lv_aload_n hx hb dX2_verify_0 rfl (lv_at hl 0 rfl) ?_
  refine lv_iload_n hx hb dX2_verify_1 rfl (lv_at hl 1 rfl) ?_
  refine vp_callSi (W.runS (As := [.int (nI j)]) (rest := [.ref m0]) ⟨hx, hb, hml, hown, ht⟩ (c_X2_none l hj) (va_cwS 1 ht (tb_S kl_X2_76 kt_X2_none kn_X2 kc_X2_none) rfl rfl rfl kd_X2_none ⟨Nat.le_of_ble_eq_true rfl, Nat.le_of_ble_eq_true rfl⟩) (st_pre _) rfl rfl hl.1 rfl (lv_room (Nat.le_of_ble_eq_true rfl)) dX2_verify_2 ⟨Nat.zero_le _, Nat.zero_le _⟩) (fun r hr9 => ?_)
  subst hr9
  refine lv_if_ne (tgt := 15) hx hb dX2_verify_5 (by decide) (fun c9 => absurd rfl c9) (fun _ => ?_)
  refine lv_iload_n hx hb dX2_verify_8 rfl (lv_at hl 2 rfl) ?_
  refine vp_callSi (W.runS (As := [.int (nI j2)]) (rest := [.ref m0]) ⟨hx, hb, hml, hown, ht⟩ (c_X2_none l hj2) (va_cwS 1 ht (tb_S kl_X2_76 kt_X2_none kn_X2 kc_X2_none) rfl rfl rfl kd_X2_none ⟨Nat.le_of_ble_eq_true rfl, Nat.le_of_ble_eq_true rfl⟩) (st_pre _) rfl rfl hl.1 rfl (lv_room (Nat.le_of_ble_eq_true rfl)) dX2_verify_9 ⟨Nat.zero_le _, Nat.zero_le _⟩) (fun r hr9 => ?_)
  subst hr9
  refine lv_if_eq (tgt := 19) hx hb dX2_verify_12 (by decide) (fun _ => ?_) (fun c9 => absurd rfl c9)
  refine lv_iload_n hx hb dX2_verify_19 rfl (lv_at hl 3 rfl) ?_
  refine nv_if_lt (tgt := 29) hx hb dX2_verify_20 (by decide) (nv_le (b := 1073741824) hmsg (by decide)) ?_
  refine lv_iload_n hx hb dX2_verify_23 rfl (lv_at hl 3 rfl) ?_
  refine lv_ldc (v := nI 1073741824) hx hb hown (ht _ kv_X2_106) dX2_verify_24 ?_
  refine nv_icmp_le (tgt := 33) hx hb dX2_verify_26 (by decide) (nv_le (b := 1073741824) hmsg (by decide)) (nv_le (b := 1073741824) (Nat.le_refl 1073741824) (by decide)) (fun c26 => ?_) (fun c26 => ?_)
  · refine lv_iconst (v := (nI 0)) hx hb dX2_verify_33 (by decide) ?_
    refine va_put (D := D) (ci := 2) (v := .int (nI 0)) (ty := .int) (C := RX2) (T := TX2) (N := 11) hx hb ht inX2 tyX2 tyX2_ok nmX2 hown hK hP hD hS 0 rfl rfl 0 (by decide) (ht _ kf_X2_30) (fun _ h9 => h9) rfl (by decide +kernel) rfl rfl (Nat.le_of_ble_eq_true rfl) dX2_verify_34 (fun H locs hP hD hS => ?_)
    have hP : va_P D vwCl [(m0, .inr (2, [.int (nI 0), .int (nI k), .int (nI (tw_P k)), .int (nI (tw_D k)), .int (nI (tw_I k)), .ref mx, .ref my, .ref mr, .ref mb, .int sx, .int sy])), (mx, .inl (cA, 12, .inl fx)), (my, .inl (cA, 12, .inl fy)), (mr, .inl (cA, 8101, .inl fr)), (mb, .inl (cA, 5, .inl fb))] H := hP
    have hD : va_D A [(m0, .inr (2, [.int (nI 0), .int (nI k), .int (nI (tw_P k)), .int (nI (tw_D k)), .int (nI (tw_I k)), .ref mx, .ref my, .ref mr, .ref mb, .int sx, .int sy])), (mx, .inl (cA, 12, .inl fx)), (my, .inl (cA, 12, .inl fy)), (mr, .inl (cA, 8101, .inl fr)), (mb, .inl (cA, 5, .inl fb))] := hD
    refine lv_aload_n hx hb dX2_verify_37 rfl (lv_at hl 0 rfl) ?_
    refine va_get (D := D) (ci := 2) (v := .int (nI 0)) (C := RX2) (T := TX2) (N := 11) hx hb ht inX2 hown hK hP 0 rfl rfl 0 (by decide) (ht _ kf_X2_30) (fun _ h9 => h9) rfl dX2_verify_38 ?_
    refine nv_if_gt (tgt := 60) hx hb dX2_verify_41 (by decide) (by decide) (fun c8 => absurd c8 (by decide)) (fun _ => ?_)
    refine lv_lload hx hb dX2_verify_44 (lv_at hl 4 rfl) ?_
    refine lv_lconst (v := lN 0) hx hb dX2_verify_46 (by decide) ?_
    refine W.lcmp hx hb dX2_verify_47 ?_
    refine lv_if_lt (tgt := 60) hx hb dX2_verify_48 (by decide) (fun c9 => absurd ((lg_cmp_lt _ _).mp c9) ?_) (fun _ => ?_)
    · rw [Int64.lt_iff_toInt_lt, pk_lT hg]
      have e0 : (lN 0).toInt = 0 := by decide
      omega
    · refine lv_lload hx hb dX2_verify_51 (lv_at hl 4 rfl) ?_
      refine lv_ldc2 (v := lN 1073741824) hx hb hown (ht _ kv_X2_113) dX2_verify_53 ?_
      refine W.lcmp hx hb dX2_verify_56 ?_
      refine lv_if_lt (tgt := 62) hx hb dX2_verify_57 (by decide) (fun c1 => ?_) (fun c1 => ?_)
      · have c3 : g < 1073741824 := (pk_lLT hg (by decide)).mp ((lg_cmp_lt _ _).mp c1)
        have c2 : g / 2 ^ 16 < 16384 := by omega
        have zg : g ≤ 1073741823 := by omega
        refine lv_lload hx hb dX2_verify_62 (lv_at hl 4 rfl) ?_
        refine lv_ldc2 (v := lN 65536) hx hb hown (ht _ kv_X2_111) dX2_verify_64 ?_
        refine lv_ldiv hx hb dX2_verify_67 (by decide) ?_
        rw [pk_lDiv (Nat.lt_of_le_of_lt (m := 1073741823) zg (by decide)) (by decide) (by decide)]
        refine lv_l2i (v := nI (g / 2 ^ 16)) hx hb dX2_verify_68 (lN_i _) ?_
        refine lv_istore hx hb dX2_verify_69 hl (by decide) rfl (fun ls hl => ?_)
        have hl : lv_has ls 9 [(6, .int (nI (g / 2 ^ 16))), (0, .ref m0), (1, .int (nI j)), (2, .int (nI j2)), (3, .int (nI msg)), (4, .long (lN g))] := hl
        refine lv_aload_n hx hb dX2_verify_71 rfl (lv_at hl 1 rfl) ?_
        refine lv_iload hx hb dX2_verify_72 (lv_at hl 0 rfl) ?_
        refine vp_callSi (W.runV (As := [.int (nI (g / 2 ^ 16))]) (rest := []) ⟨hx, hb, hml, hown, ht⟩ (c_X2_xOf l D hk5 hfr (j := g / 2 ^ 16) (by omega)) (cwV 1 ht (tb_V kl_X2_84 ki_X2_xOf ks_X2_xOf kn_X2 kc_X2_xOf) rfl rfl rfl ⟨rfl, kd_X2_xOf⟩ ⟨Nat.le_of_ble_eq_true rfl, Nat.le_of_ble_eq_true rfl⟩) (ro_preV _ (hP.sub (ws' := [(m0, .inr (2, [.int (nI 0), .int (nI k), .int (nI (tw_P k)), .int (nI (tw_D k)), .int (nI (tw_I k)), .ref mx, .ref my, .ref mr, .ref mb, .int sx, .int sy])), (mr, .inl (cA, 8101, .inl fr))]) [0, 3] rfl) hK (va_recv (ci := 2) (q0 := 0) hK hP rfl rfl)) rfl rfl hl.1 rfl (lv_room (Nat.le_of_ble_eq_true rfl)) dX2_verify_74 ⟨Nat.zero_le _, Nat.zero_le _⟩) (fun r hr9 => ?_)
        subst hr9
        refine lv_iconst (v := (-1)) hx hb dX2_verify_77 (by decide) ?_
        cases er : tw_rd (tw_P k) (tw_D k) (g / 2 ^ 16) with
        | none =>
          rw [tw_xr_none er]
          refine lv_icmp_ne (tgt := 83) hx hb dX2_verify_78 (by decide) (fun c9 => absurd rfl c9) (fun _ => ?_)
          refine lv_iconst (v := (nI 0)) hx hb dX2_verify_81 (by decide) ?_
          exact W.zret hx hb hr rfl (fun t ht9 hW => ⟨⟨_, (sx, sy), rfl, (tw_vf_n c2 er).symm, by rw [ht9]; exact hP, va_K.moved hW.alike hK, hD⟩, hS.F ht9⟩) hS.2.2 dX2_verify_82
        | some q =>
          rw [tw_xr_some er]
          have hq9 := (tw_rd_some hK0 er).1
          have z1 := tw_on1 hP2 hq9
          have z2 := tw_on2 hP2 hq9
          have e5 := (tw_rd_y hK0 hP8 er).1
          have hvf := tw_vf_s (k := k) (R := R) (j := j) (j2 := j2) (msg := msg) c2 er
          refine lv_icmp_ne (tgt := 83) hx hb dX2_verify_78 (by decide) (fun _ => ?_) (fun c9 => absurd c9 (nv_m1 (by omega)))
          have ho1 := (hR j hj).1
          have ho2 := (hR j2 hj2).1
          have hm1 := tw_mu_on hK0 ho1 (g % 2 ^ 16)
          have hm2 := tw_mu_on hK0 ho2 ((g / 2 ^ 16 + msg) % 2 ^ 20)
          have hs2 := tw_clo hK0 hq9 hm2
          refine lv_aload_n hx hb dX2_verify_83 rfl (lv_at hl 1 rfl) ?_
          refine lv_iload hx hb dX2_verify_84 (lv_at hl 0 rfl) ?_
          refine lv_i2l (v := lN (g / 2 ^ 16)) hx hb dX2_verify_86 (nI_l (nv_le (b := 16383) (Nat.div_le_div_right (c := 2 ^ 16) zg) (by decide))) ?_
          refine lv_iload_n hx hb dX2_verify_87 rfl (lv_at hl 4 rfl) ?_
          refine lv_i2l (v := lN msg) hx hb dX2_verify_88 (nI_l (nv_le (b := 1073741824) hmsg (by decide))) ?_
          refine lv_ladd hx hb dX2_verify_89 ?_
          rw [lN_add]
          refine lv_ldc2 (v := lN 1048576) hx hb hown (ht _ kv_X2_109) dX2_verify_90 ?_
          refine lv_lrem hx hb dX2_verify_93 (by decide) ?_
          rw [pk_lRem (Nat.lt_of_le_of_lt (m := 1073758207) (Nat.add_le_add (Nat.div_le_div_right (c := 2 ^ 16) zg) hmsg) (by decide)) (by decide) (by decide)]
          refine lv_aload_n hx hb dX2_verify_94 rfl (lv_at hl 1 rfl) ?_
          refine va_get (D := D) (ci := 2) (v := .ref mx) (C := RX2) (T := TX2) (N := 11) hx hb ht inX2 hown hK hP 0 rfl rfl 5 (by decide) (ht _ kf_X2_13) (fun _ h9 => h9) rfl dX2_verify_95 ?_
          refine lv_iload_n hx hb dX2_verify_98 rfl (lv_at hl 3 rfl) ?_
          refine nv_iald (A := fun _ => True) (H0 := s.heap) hx hb hK hP 1 0 rfl rfl hj2 (by decide) dX2_verify_99 ?_
          rw [(hR _ hj2).2.1]
          refine lv_aload_n hx hb dX2_verify_100 rfl (lv_at hl 1 rfl) ?_
          refine va_get (D := D) (ci := 2) (v := .ref my) (C := RX2) (T := TX2) (N := 11) hx hb ht inX2 hown hK hP 0 rfl rfl 6 (by decide) (ht _ kf_X2_17) (fun _ h9 => h9) rfl dX2_verify_101 ?_
          refine lv_iload_n hx hb dX2_verify_104 rfl (lv_at hl 3 rfl) ?_
          refine nv_iald (A := fun _ => True) (H0 := s.heap) hx hb hK hP 2 0 rfl rfl hj2 (by decide) dX2_verify_105 ?_
          rw [(hR _ hj2).2.2]
          have hPc := hP.sub (ws' := [(m0, .inr (2, [.int (nI 0), .int (nI k), .int (nI (tw_P k)), .int (nI (tw_D k)), .int (nI (tw_I k)), .ref mx, .ref my, .ref mr, .ref mb, .int sx, .int sy]))]) [0] rfl
          have hDc := hD.sub (ws' := [(m0, .inr (2, [.int (nI 0), .int (nI k), .int (nI (tw_P k)), .int (nI (tw_D k)), .int (nI (tw_I k)), .ref mx, .ref my, .ref mr, .ref mb, .int sx, .int sy]))]) [0] (by decide) rfl
          have hFc := va_free (wc := [(m0, .inr (2, [.int (nI 0), .int (nI k), .int (nI (tw_P k)), .int (nI (tw_D k)), .int (nI (tw_I k)), .ref mx, .ref my, .ref mr, .ref mb, .int sx, .int sy]))]) hD hS hA [0] rfl
          refine va_callv (va_runV (As := [.long (lN (((g / 2 ^ 16) + msg) % 2 ^ 20)), .int (nI ((R j2).1)), .int (nI ((R j2).2))]) (rest := []) ⟨hx, hb, hml, hown, ht⟩ (c_X2_often l D hk5 ho2 (lN ((g / 2 ^ 16 + msg) % 2 ^ 20)) H.size) (cwV 3 ht (tb_V kl_X2_91 ki_X2_often ks_X2_often kn_X2 kc_X2_often) rfl rfl rfl ⟨rfl, kd_X2_often⟩ ⟨Nat.le_of_ble_eq_true rfl, Nat.le_of_ble_eq_true rfl⟩) (wd_preV _ hPc (hK.sub (tys' := []) [] rfl) hDc (va_recv (ci := 2) (q0 := 0) hK hP rfl rfl)) rfl rfl hl.1 rfl (lv_room (Nat.le_of_ble_eq_true rfl)) dX2_verify_106 ⟨Nat.le_of_ble_eq_true rfl, Nat.le_of_ble_eq_true rfl⟩) hS (fun q _ h => hFc q h) hFc (fun u9 t9 H1 locs ht9 hvm9 hw9 hB9 hz9 hk9 hS => ?_)
          obtain ⟨hP1, hK1, hD1⟩ := hB9
          rw [ht9] at hP1
          obtain ⟨hP, hD⟩ := va_join (wr := [(mx, .inl (cA, 12, .inl fx)), (my, .inl (cA, 12, .inl fy)), (mr, .inl (cA, 8101, .inl fr)), (mb, .inl (cA, 5, .inl fb))]) (w1 := [(m0, .inr (2, [.int (nI 0), .int (nI k), .int (nI (tw_P k)), .int (nI (tw_D k)), .int (nI (tw_I k)), .ref mx, .ref my, .ref mr, .ref mb, .int (nI (tw_mu (tw_P k) (tw_D k) ((lN ((g / 2 ^ 16 + msg) % 2 ^ 20)).toInt % (tw_N k : Int)).toNat (R j2)).1), .int (nI (tw_mu (tw_P k) (tw_D k) ((lN ((g / 2 ^ 16 + msg) % 2 ^ 20)).toInt % (tw_N k : Int)).toNat (R j2)).2)]))]) hP hD [0] [1, 2, 3, 4] rfl rfl (by decide) (by decide) hk9 hFc hP1 hD1
          have hP := hP.sub (ws' := [(m0, .inr (2, [.int (nI 0), .int (nI k), .int (nI (tw_P k)), .int (nI (tw_D k)), .int (nI (tw_I k)), .ref mx, .ref my, .ref mr, .ref mb, .int (nI (tw_mu (tw_P k) (tw_D k) ((lN ((g / 2 ^ 16 + msg) % 2 ^ 20)).toInt % (tw_N k : Int)).toNat (R j2)).1), .int (nI (tw_mu (tw_P k) (tw_D k) ((lN ((g / 2 ^ 16 + msg) % 2 ^ 20)).toInt % (tw_N k : Int)).toNat (R j2)).2)])), (mx, .inl (cA, 12, .inl fx)), (my, .inl (cA, 12, .inl fy)), (mr, .inl (cA, 8101, .inl fr)), (mb, .inl (cA, 5, .inl fb))]) [4, 0, 1, 2, 3] rfl
          have hD := hD.sub (ws' := [(m0, .inr (2, [.int (nI 0), .int (nI k), .int (nI (tw_P k)), .int (nI (tw_D k)), .int (nI (tw_I k)), .ref mx, .ref my, .ref mr, .ref mb, .int (nI (tw_mu (tw_P k) (tw_D k) ((lN ((g / 2 ^ 16 + msg) % 2 ^ 20)).toInt % (tw_N k : Int)).toNat (R j2)).1), .int (nI (tw_mu (tw_P k) (tw_D k) ((lN ((g / 2 ^ 16 + msg) % 2 ^ 20)).toInt % (tw_N k : Int)).toNat (R j2)).2)])), (mx, .inl (cA, 12, .inl fx)), (my, .inl (cA, 12, .inl fy)), (mr, .inl (cA, 8101, .inl fr)), (mb, .inl (cA, 5, .inl fb))]) [4, 0, 1, 2, 3] (by decide) rfl
          generalize H1 = H at hP hS hz9 ⊢
          rw [tw_mz hk5 ho2 (by omega)] at hP hD
          have hP : va_P D vwCl [(m0, .inr (2, [.int (nI 0), .int (nI k), .int (nI (tw_P k)), .int (nI (tw_D k)), .int (nI (tw_I k)), .ref mx, .ref my, .ref mr, .ref mb, .int (nI (tw_mu (tw_P k) (tw_D k) ((g / 2 ^ 16 + msg) % 2 ^ 20) (R j2)).1), .int (nI (tw_mu (tw_P k) (tw_D k) ((g / 2 ^ 16 + msg) % 2 ^ 20) (R j2)).2)])), (mx, .inl (cA, 12, .inl fx)), (my, .inl (cA, 12, .inl fy)), (mr, .inl (cA, 8101, .inl fr)), (mb, .inl (cA, 5, .inl fb))] H := hP
          have hD : va_D A [(m0, .inr (2, [.int (nI 0), .int (nI k), .int (nI (tw_P k)), .int (nI (tw_D k)), .int (nI (tw_I k)), .ref mx, .ref my, .ref mr, .ref mb, .int (nI (tw_mu (tw_P k) (tw_D k) ((g / 2 ^ 16 + msg) % 2 ^ 20) (R j2)).1), .int (nI (tw_mu (tw_P k) (tw_D k) ((g / 2 ^ 16 + msg) % 2 ^ 20) (R j2)).2)])), (mx, .inl (cA, 12, .inl fx)), (my, .inl (cA, 12, .inl fy)), (mr, .inl (cA, 8101, .inl fr)), (mb, .inl (cA, 5, .inl fb))] := hD
          refine lv_aload_n hx hb dX2_verify_109 rfl (lv_at hl 1 rfl) ?_
          refine lv_aload_n hx hb dX2_verify_110 rfl (lv_at hl 1 rfl) ?_
          refine lv_iload hx hb dX2_verify_111 (lv_at hl 0 rfl) ?_
          refine vp_callSi (W.runV (As := [.int (nI (g / 2 ^ 16))]) (rest := [.ref m0]) ⟨hx, hb, hml, hown, ht⟩ (c_X2_xOf l D hk5 hfr (j := g / 2 ^ 16) (by omega)) (cwV 1 ht (tb_V kl_X2_84 ki_X2_xOf ks_X2_xOf kn_X2 kc_X2_xOf) rfl rfl rfl ⟨rfl, kd_X2_xOf⟩ ⟨Nat.le_of_ble_eq_true rfl, Nat.le_of_ble_eq_true rfl⟩) (ro_preV _ (hP.sub (ws' := [(m0, .inr (2, [.int (nI 0), .int (nI k), .int (nI (tw_P k)), .int (nI (tw_D k)), .int (nI (tw_I k)), .ref mx, .ref my, .ref mr, .ref mb, .int (nI (tw_mu (tw_P k) (tw_D k) ((g / 2 ^ 16 + msg) % 2 ^ 20) (R j2)).1), .int (nI (tw_mu (tw_P k) (tw_D k) ((g / 2 ^ 16 + msg) % 2 ^ 20) (R j2)).2)])), (mr, .inl (cA, 8101, .inl fr))]) [0, 3] rfl) hK (va_recv (ci := 2) (q0 := 0) hK hP rfl rfl)) rfl rfl hl.1 rfl (lv_room (Nat.le_of_ble_eq_true rfl)) dX2_verify_113 ⟨Nat.zero_le _, Nat.zero_le _⟩) (fun r hr9 => ?_)
          subst hr9
          rw [tw_xr_some er]
          refine lv_iload hx hb dX2_verify_116 (lv_at hl 0 rfl) ?_
          refine lv_sipush (v := (nI 8192)) hx hb dX2_verify_118 (by decide) ?_
          refine nv_irem hx hb dX2_verify_121 (by decide) (nv_le (b := 16383) (Nat.div_le_div_right (c := 2 ^ 16) zg) (by decide)) (nv_le (b := 8192) (Nat.le_refl 8192) (by decide)) ?_
          rw [← e5]
          refine lv_aload_n hx hb dX2_verify_122 rfl (lv_at hl 1 rfl) ?_
          refine va_get (D := D) (ci := 2) (v := .int (nI ((tw_mu (tw_P k) (tw_D k) ((g / 2 ^ 16 + msg) % 2 ^ 20) (R j2)).1))) (C := RX2) (T := TX2) (N := 11) hx hb ht inX2 hown hK hP 0 rfl rfl 9 (by decide) (ht _ kf_X2_59) (fun _ h9 => h9) rfl dX2_verify_123 ?_
          refine lv_aload_n hx hb dX2_verify_126 rfl (lv_at hl 1 rfl) ?_
          refine va_get (D := D) (ci := 2) (v := .int (nI ((tw_mu (tw_P k) (tw_D k) ((g / 2 ^ 16 + msg) % 2 ^ 20) (R j2)).2))) (C := RX2) (T := TX2) (N := 11) hx hb ht inX2 hown hK hP 0 rfl rfl 10 (by decide) (ht _ kf_X2_56) (fun _ h9 => h9) rfl dX2_verify_127 ?_
          have hPc := hP.sub (ws' := [(m0, .inr (2, [.int (nI 0), .int (nI k), .int (nI (tw_P k)), .int (nI (tw_D k)), .int (nI (tw_I k)), .ref mx, .ref my, .ref mr, .ref mb, .int (nI (tw_mu (tw_P k) (tw_D k) ((g / 2 ^ 16 + msg) % 2 ^ 20) (R j2)).1), .int (nI (tw_mu (tw_P k) (tw_D k) ((g / 2 ^ 16 + msg) % 2 ^ 20) (R j2)).2)]))]) [0] rfl
          have hDc := hD.sub (ws' := [(m0, .inr (2, [.int (nI 0), .int (nI k), .int (nI (tw_P k)), .int (nI (tw_D k)), .int (nI (tw_I k)), .ref mx, .ref my, .ref mr, .ref mb, .int (nI (tw_mu (tw_P k) (tw_D k) ((g / 2 ^ 16 + msg) % 2 ^ 20) (R j2)).1), .int (nI (tw_mu (tw_P k) (tw_D k) ((g / 2 ^ 16 + msg) % 2 ^ 20) (R j2)).2)]))]) [0] (by decide) rfl
          have hFc := va_free (wc := [(m0, .inr (2, [.int (nI 0), .int (nI k), .int (nI (tw_P k)), .int (nI (tw_D k)), .int (nI (tw_I k)), .ref mx, .ref my, .ref mr, .ref mb, .int (nI (tw_mu (tw_P k) (tw_D k) ((g / 2 ^ 16 + msg) % 2 ^ 20) (R j2)).1), .int (nI (tw_mu (tw_P k) (tw_D k) ((g / 2 ^ 16 + msg) % 2 ^ 20) (R j2)).2)]))]) hD hS hA [0] rfl
          refine va_callv (va_runV (As := [.int (nI q.1), .int (nI q.2), .int (nI ((tw_mu (tw_P k) (tw_D k) ((g / 2 ^ 16 + msg) % 2 ^ 20) (R j2)).1)), .int (nI ((tw_mu (tw_P k) (tw_D k) ((g / 2 ^ 16 + msg) % 2 ^ 20) (R j2)).2))]) (rest := []) ⟨hx, hb, hml, hown, ht⟩ (c_X2_sum l D hk5 (x := (q).1) (y := (q).2) (x2 := (tw_mu (tw_P k) (tw_D k) ((g / 2 ^ 16 + msg) % 2 ^ 20) (R j2)).1) (y2 := (tw_mu (tw_P k) (tw_D k) ((g / 2 ^ 16 + msg) % 2 ^ 20) (R j2)).2) (hq9).1 (hq9).2.1 (hm2).1 (hm2).2.1 H.size) (cwV 4 ht (tb_V kl_X2_62 ki_X2_sum ks_X2_sum kn_X2 kc_X2_sum) rfl rfl rfl ⟨rfl, kd_X2_sum⟩ ⟨Nat.le_of_ble_eq_true rfl, Nat.le_of_ble_eq_true rfl⟩) (wd_preV _ hPc (hK.sub (tys' := []) [] rfl) hDc (va_recv (ci := 2) (q0 := 0) hK hP rfl rfl)) rfl rfl hl.1 rfl (lv_room (Nat.le_of_ble_eq_true rfl)) dX2_verify_130 ⟨Nat.le_of_ble_eq_true rfl, Nat.le_of_ble_eq_true rfl⟩) hS (fun q _ h => hFc q h) hFc (fun v9 t9 H1 locs ht9 hvm9 hw9 hB9 hz9 hk9 hS => ?_)
          obtain ⟨hP1, hK1, hD1⟩ := hB9
          rw [ht9] at hP1
          obtain ⟨hP, hD⟩ := va_join (wr := [(mx, .inl (cA, 12, .inl fx)), (my, .inl (cA, 12, .inl fy)), (mr, .inl (cA, 8101, .inl fr)), (mb, .inl (cA, 5, .inl fb))]) (w1 := [(m0, .inr (2, [.int (nI 0), .int (nI k), .int (nI (tw_P k)), .int (nI (tw_D k)), .int (nI (tw_I k)), .ref mx, .ref my, .ref mr, .ref mb, .int (nI (tw_add (tw_P k) (tw_D k) (q) (tw_mu (tw_P k) (tw_D k) ((g / 2 ^ 16 + msg) % 2 ^ 20) (R j2))).1), .int (nI (tw_add (tw_P k) (tw_D k) (q) (tw_mu (tw_P k) (tw_D k) ((g / 2 ^ 16 + msg) % 2 ^ 20) (R j2))).2)]))]) hP hD [0] [1, 2, 3, 4] rfl rfl (by decide) (by decide) hk9 hFc hP1 hD1
          have hP := hP.sub (ws' := [(m0, .inr (2, [.int (nI 0), .int (nI k), .int (nI (tw_P k)), .int (nI (tw_D k)), .int (nI (tw_I k)), .ref mx, .ref my, .ref mr, .ref mb, .int (nI (tw_add (tw_P k) (tw_D k) (q) (tw_mu (tw_P k) (tw_D k) ((g / 2 ^ 16 + msg) % 2 ^ 20) (R j2))).1), .int (nI (tw_add (tw_P k) (tw_D k) (q) (tw_mu (tw_P k) (tw_D k) ((g / 2 ^ 16 + msg) % 2 ^ 20) (R j2))).2)])), (mx, .inl (cA, 12, .inl fx)), (my, .inl (cA, 12, .inl fy)), (mr, .inl (cA, 8101, .inl fr)), (mb, .inl (cA, 5, .inl fb))]) [4, 0, 1, 2, 3] rfl
          have hD := hD.sub (ws' := [(m0, .inr (2, [.int (nI 0), .int (nI k), .int (nI (tw_P k)), .int (nI (tw_D k)), .int (nI (tw_I k)), .ref mx, .ref my, .ref mr, .ref mb, .int (nI (tw_add (tw_P k) (tw_D k) (q) (tw_mu (tw_P k) (tw_D k) ((g / 2 ^ 16 + msg) % 2 ^ 20) (R j2))).1), .int (nI (tw_add (tw_P k) (tw_D k) (q) (tw_mu (tw_P k) (tw_D k) ((g / 2 ^ 16 + msg) % 2 ^ 20) (R j2))).2)])), (mx, .inl (cA, 12, .inl fx)), (my, .inl (cA, 12, .inl fy)), (mr, .inl (cA, 8101, .inl fr)), (mb, .inl (cA, 5, .inl fb))]) [4, 0, 1, 2, 3] (by decide) rfl
          generalize H1 = H at hP hS hz9 ⊢
          refine lv_aload_n hx hb dX2_verify_133 rfl (lv_at hl 1 rfl) ?_
          refine va_get (D := D) (ci := 2) (v := .int (nI ((tw_add (tw_P k) (tw_D k) (q) (tw_mu (tw_P k) (tw_D k) ((g / 2 ^ 16 + msg) % 2 ^ 20) (R j2))).1))) (C := RX2) (T := TX2) (N := 11) hx hb ht inX2 hown hK hP 0 rfl rfl 9 (by decide) (ht _ kf_X2_59) (fun _ h9 => h9) rfl dX2_verify_134 ?_
          refine lv_istore hx hb dX2_verify_137 hl (by decide) rfl (fun ls hl => ?_)
          have hl : lv_has ls 9 [(7, .int (nI ((tw_add (tw_P k) (tw_D k) (q) (tw_mu (tw_P k) (tw_D k) ((g / 2 ^ 16 + msg) % 2 ^ 20) (R j2))).1))), (6, .int (nI (g / 2 ^ 16))), (0, .ref m0), (1, .int (nI j)), (2, .int (nI j2)), (3, .int (nI msg)), (4, .long (lN g))] := hl
          refine lv_aload_n hx hb dX2_verify_139 rfl (lv_at hl 2 rfl) ?_
          refine va_get (D := D) (ci := 2) (v := .int (nI ((tw_add (tw_P k) (tw_D k) (q) (tw_mu (tw_P k) (tw_D k) ((g / 2 ^ 16 + msg) % 2 ^ 20) (R j2))).2))) (C := RX2) (T := TX2) (N := 11) hx hb ht inX2 hown hK hP 0 rfl rfl 10 (by decide) (ht _ kf_X2_56) (fun _ h9 => h9) rfl dX2_verify_140 ?_
          refine lv_istore hx hb dX2_verify_143 hl (by decide) rfl (fun ls hl => ?_)
          have hl : lv_has ls 9 [(8, .int (nI ((tw_add (tw_P k) (tw_D k) (q) (tw_mu (tw_P k) (tw_D k) ((g / 2 ^ 16 + msg) % 2 ^ 20) (R j2))).2))), (7, .int (nI ((tw_add (tw_P k) (tw_D k) (q) (tw_mu (tw_P k) (tw_D k) ((g / 2 ^ 16 + msg) % 2 ^ 20) (R j2))).1))), (6, .int (nI (g / 2 ^ 16))), (0, .ref m0), (1, .int (nI j)), (2, .int (nI j2)), (3, .int (nI msg)), (4, .long (lN g))] := hl
          refine lv_aload_n hx hb dX2_verify_145 rfl (lv_at hl 3 rfl) ?_
          refine lv_lload hx hb dX2_verify_146 (lv_at hl 7 rfl) ?_
          refine lv_ldc2 (v := lN 65536) hx hb hown (ht _ kv_X2_111) dX2_verify_148 ?_
          refine lv_lrem hx hb dX2_verify_151 (by decide) ?_
          rw [pk_lRem (Nat.lt_of_le_of_lt (m := 1073741823) zg (by decide)) (by decide) (by decide)]
          refine lv_aload_n hx hb dX2_verify_152 rfl (lv_at hl 3 rfl) ?_
          refine va_get (D := D) (ci := 2) (v := .ref mx) (C := RX2) (T := TX2) (N := 11) hx hb ht inX2 hown hK hP 0 rfl rfl 5 (by decide) (ht _ kf_X2_13) (fun _ h9 => h9) rfl dX2_verify_153 ?_
          refine lv_iload_n hx hb dX2_verify_156 rfl (lv_at hl 4 rfl) ?_
          refine nv_iald (A := fun _ => True) (H0 := s.heap) hx hb hK hP 1 0 rfl rfl hj (by decide) dX2_verify_157 ?_
          rw [(hR _ hj).2.1]
          refine lv_aload_n hx hb dX2_verify_158 rfl (lv_at hl 3 rfl) ?_
          refine va_get (D := D) (ci := 2) (v := .ref my) (C := RX2) (T := TX2) (N := 11) hx hb ht inX2 hown hK hP 0 rfl rfl 6 (by decide) (ht _ kf_X2_17) (fun _ h9 => h9) rfl dX2_verify_159 ?_
          refine lv_iload_n hx hb dX2_verify_162 rfl (lv_at hl 4 rfl) ?_
          refine nv_iald (A := fun _ => True) (H0 := s.heap) hx hb hK hP 2 0 rfl rfl hj (by decide) dX2_verify_163 ?_
          rw [(hR _ hj).2.2]
          have hPc := hP.sub (ws' := [(m0, .inr (2, [.int (nI 0), .int (nI k), .int (nI (tw_P k)), .int (nI (tw_D k)), .int (nI (tw_I k)), .ref mx, .ref my, .ref mr, .ref mb, .int (nI (tw_add (tw_P k) (tw_D k) (q) (tw_mu (tw_P k) (tw_D k) ((g / 2 ^ 16 + msg) % 2 ^ 20) (R j2))).1), .int (nI (tw_add (tw_P k) (tw_D k) (q) (tw_mu (tw_P k) (tw_D k) ((g / 2 ^ 16 + msg) % 2 ^ 20) (R j2))).2)]))]) [0] rfl
          have hDc := hD.sub (ws' := [(m0, .inr (2, [.int (nI 0), .int (nI k), .int (nI (tw_P k)), .int (nI (tw_D k)), .int (nI (tw_I k)), .ref mx, .ref my, .ref mr, .ref mb, .int (nI (tw_add (tw_P k) (tw_D k) (q) (tw_mu (tw_P k) (tw_D k) ((g / 2 ^ 16 + msg) % 2 ^ 20) (R j2))).1), .int (nI (tw_add (tw_P k) (tw_D k) (q) (tw_mu (tw_P k) (tw_D k) ((g / 2 ^ 16 + msg) % 2 ^ 20) (R j2))).2)]))]) [0] (by decide) rfl
          have hFc := va_free (wc := [(m0, .inr (2, [.int (nI 0), .int (nI k), .int (nI (tw_P k)), .int (nI (tw_D k)), .int (nI (tw_I k)), .ref mx, .ref my, .ref mr, .ref mb, .int (nI (tw_add (tw_P k) (tw_D k) (q) (tw_mu (tw_P k) (tw_D k) ((g / 2 ^ 16 + msg) % 2 ^ 20) (R j2))).1), .int (nI (tw_add (tw_P k) (tw_D k) (q) (tw_mu (tw_P k) (tw_D k) ((g / 2 ^ 16 + msg) % 2 ^ 20) (R j2))).2)]))]) hD hS hA [0] rfl
          refine va_callv (va_runV (As := [.long (lN (g % 2 ^ 16)), .int (nI ((R j).1)), .int (nI ((R j).2))]) (rest := []) ⟨hx, hb, hml, hown, ht⟩ (c_X2_often l D hk5 ho1 (lN (g % 2 ^ 16)) H.size) (cwV 3 ht (tb_V kl_X2_91 ki_X2_often ks_X2_often kn_X2 kc_X2_often) rfl rfl rfl ⟨rfl, kd_X2_often⟩ ⟨Nat.le_of_ble_eq_true rfl, Nat.le_of_ble_eq_true rfl⟩) (wd_preV _ hPc (hK.sub (tys' := []) [] rfl) hDc (va_recv (ci := 2) (q0 := 0) hK hP rfl rfl)) rfl rfl hl.1 rfl (lv_room (Nat.le_of_ble_eq_true rfl)) dX2_verify_164 ⟨Nat.le_of_ble_eq_true rfl, Nat.le_of_ble_eq_true rfl⟩) hS (fun q _ h => hFc q h) hFc (fun x9 t9 H1 locs ht9 hvm9 hw9 hB9 hz9 hk9 hS => ?_)
          obtain ⟨hP1, hK1, hD1⟩ := hB9
          rw [ht9] at hP1
          obtain ⟨hP, hD⟩ := va_join (wr := [(mx, .inl (cA, 12, .inl fx)), (my, .inl (cA, 12, .inl fy)), (mr, .inl (cA, 8101, .inl fr)), (mb, .inl (cA, 5, .inl fb))]) (w1 := [(m0, .inr (2, [.int (nI 0), .int (nI k), .int (nI (tw_P k)), .int (nI (tw_D k)), .int (nI (tw_I k)), .ref mx, .ref my, .ref mr, .ref mb, .int (nI (tw_mu (tw_P k) (tw_D k) ((lN (g % 2 ^ 16)).toInt % (tw_N k : Int)).toNat (R j)).1), .int (nI (tw_mu (tw_P k) (tw_D k) ((lN (g % 2 ^ 16)).toInt % (tw_N k : Int)).toNat (R j)).2)]))]) hP hD [0] [1, 2, 3, 4] rfl rfl (by decide) (by decide) hk9 hFc hP1 hD1
          have hP := hP.sub (ws' := [(m0, .inr (2, [.int (nI 0), .int (nI k), .int (nI (tw_P k)), .int (nI (tw_D k)), .int (nI (tw_I k)), .ref mx, .ref my, .ref mr, .ref mb, .int (nI (tw_mu (tw_P k) (tw_D k) ((lN (g % 2 ^ 16)).toInt % (tw_N k : Int)).toNat (R j)).1), .int (nI (tw_mu (tw_P k) (tw_D k) ((lN (g % 2 ^ 16)).toInt % (tw_N k : Int)).toNat (R j)).2)])), (mx, .inl (cA, 12, .inl fx)), (my, .inl (cA, 12, .inl fy)), (mr, .inl (cA, 8101, .inl fr)), (mb, .inl (cA, 5, .inl fb))]) [4, 0, 1, 2, 3] rfl
          have hD := hD.sub (ws' := [(m0, .inr (2, [.int (nI 0), .int (nI k), .int (nI (tw_P k)), .int (nI (tw_D k)), .int (nI (tw_I k)), .ref mx, .ref my, .ref mr, .ref mb, .int (nI (tw_mu (tw_P k) (tw_D k) ((lN (g % 2 ^ 16)).toInt % (tw_N k : Int)).toNat (R j)).1), .int (nI (tw_mu (tw_P k) (tw_D k) ((lN (g % 2 ^ 16)).toInt % (tw_N k : Int)).toNat (R j)).2)])), (mx, .inl (cA, 12, .inl fx)), (my, .inl (cA, 12, .inl fy)), (mr, .inl (cA, 8101, .inl fr)), (mb, .inl (cA, 5, .inl fb))]) [4, 0, 1, 2, 3] (by decide) rfl
          generalize H1 = H at hP hS hz9 ⊢
          rw [tw_mz hk5 ho1 (by omega)] at hP hD
          have hP : va_P D vwCl [(m0, .inr (2, [.int (nI 0), .int (nI k), .int (nI (tw_P k)), .int (nI (tw_D k)), .int (nI (tw_I k)), .ref mx, .ref my, .ref mr, .ref mb, .int (nI (tw_mu (tw_P k) (tw_D k) (g % 2 ^ 16) (R j)).1), .int (nI (tw_mu (tw_P k) (tw_D k) (g % 2 ^ 16) (R j)).2)])), (mx, .inl (cA, 12, .inl fx)), (my, .inl (cA, 12, .inl fy)), (mr, .inl (cA, 8101, .inl fr)), (mb, .inl (cA, 5, .inl fb))] H := hP
          have hD : va_D A [(m0, .inr (2, [.int (nI 0), .int (nI k), .int (nI (tw_P k)), .int (nI (tw_D k)), .int (nI (tw_I k)), .ref mx, .ref my, .ref mr, .ref mb, .int (nI (tw_mu (tw_P k) (tw_D k) (g % 2 ^ 16) (R j)).1), .int (nI (tw_mu (tw_P k) (tw_D k) (g % 2 ^ 16) (R j)).2)])), (mx, .inl (cA, 12, .inl fx)), (my, .inl (cA, 12, .inl fy)), (mr, .inl (cA, 8101, .inl fr)), (mb, .inl (cA, 5, .inl fb))] := hD
          refine lv_aload_n hx hb dX2_verify_167 rfl (lv_at hl 3 rfl) ?_
          refine va_get (D := D) (ci := 2) (v := .int (nI ((tw_mu (tw_P k) (tw_D k) (g % 2 ^ 16) (R j)).1))) (C := RX2) (T := TX2) (N := 11) hx hb ht inX2 hown hK hP 0 rfl rfl 9 (by decide) (ht _ kf_X2_59) (fun _ h9 => h9) rfl dX2_verify_168 ?_
          refine lv_iload hx hb dX2_verify_171 (lv_at hl 1 rfl) ?_
          refine nv_icmp_ne (tgt := 189) hx hb dX2_verify_173 (by decide) (nv_le (b := 8100) (tw_on1 hP2 hm1) (by decide)) (nv_le (b := 8100) (tw_on1 hP2 (tw_clo hK0 hq9 hm2)) (by decide)) (fun c173 => ?_) (fun c173 => ?_)
          · refine lv_iconst (v := (nI 0)) hx hb dX2_verify_189 (by decide) ?_
            exact W.zret hx hb hr rfl (fun t ht9 hW => ⟨⟨_, (_, _), rfl, (hvf.trans (if_neg (fun z => c173 (by rw [z])))).symm, by rw [ht9]; exact hP, va_K.moved hW.alike hK, hD⟩, hS.F ht9⟩) hS.2.2 dX2_verify_190
          · refine lv_aload_n hx hb dX2_verify_176 rfl (lv_at hl 3 rfl) ?_
            refine va_get (D := D) (ci := 2) (v := .int (nI ((tw_mu (tw_P k) (tw_D k) (g % 2 ^ 16) (R j)).2))) (C := RX2) (T := TX2) (N := 11) hx hb ht inX2 hown hK hP 0 rfl rfl 10 (by decide) (ht _ kf_X2_56) (fun _ h9 => h9) rfl dX2_verify_177 ?_
            refine lv_iload hx hb dX2_verify_180 (lv_at hl 0 rfl) ?_
            refine nv_icmp_ne (tgt := 189) hx hb dX2_verify_182 (by decide) (nv_le (b := 8100) (tw_on2 hP2 hm1) (by decide)) (nv_le (b := 8100) (tw_on2 hP2 (tw_clo hK0 hq9 hm2)) (by decide)) (fun c182 => ?_) (fun c182 => ?_)
            · refine lv_iconst (v := (nI 0)) hx hb dX2_verify_189 (by decide) ?_
              exact W.zret hx hb hr rfl (fun t ht9 hW => ⟨⟨_, (_, _), rfl, (hvf.trans (if_neg (fun z => c182 (by rw [z])))).symm, by rw [ht9]; exact hP, va_K.moved hW.alike hK, hD⟩, hS.F ht9⟩) hS.2.2 dX2_verify_190
            · refine lv_iconst (v := (nI 1)) hx hb dX2_verify_185 (by decide) ?_
              refine lv_goto (tgt := 190) hx hb dX2_verify_186 (by decide) ?_
              exact W.zret hx hb hr rfl (fun t ht9 hW => ⟨⟨_, (_, _), rfl, (hvf.trans (if_pos (Prod.ext c173 c182))).symm, by rw [ht9]; exact hP, va_K.moved hW.alike hK, hD⟩, hS.F ht9⟩) hS.2.2 dX2_verify_190
      · have c3 : 1073741824 ≤ g := Nat.le_of_not_lt (fun z => c1 ((lg_cmp_lt _ _).mpr ((pk_lLT hg (by decide)).mpr z)))
        refine lv_iconst (v := (nI 0)) hx hb dX2_verify_60 (by decide) ?_
        exact W.zret hx hb hr rfl (fun t ht9 hW => ⟨⟨_, (sx, sy), rfl, (tw_vf_b (by omega)).symm, by rw [ht9]; exact hP, va_K.moved hW.alike hK, hD⟩, hS.F ht9⟩) hS.2.2 dX2_verify_61
  · omega
