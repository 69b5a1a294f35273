/-! the model is made; what it refuses -/
def md_new (D : va_G) (m0 : Nat) (A : Nat → Prop) (t : State) : Prop := ∃ (mx my mr mb : Nat) (cA : ClassId) (fx fy fr : Nat → Int32), wd_at D [(cA, .int)] A [(m0, .inr (2, [.int 0, .int (nI 0), .int (nI (tw_P 0)), .int (nI (tw_D 0)), .int (nI (tw_I 0)), .ref mx, .ref my, .ref mr, .ref mb, .int 0, .int 0])), (mx, .inl (cA, 12, .inl fx)), (my, .inl (cA, 12, .inl fy)), (mr, .inl (cA, 8101, .inl fr)), (mb, .inl (cA, 5, .inl (fun _ => 0)))] t ∧ (∀ j, j < 12 → fx j = nI 0 ∧ fy j = nI 1) ∧ ∀ j, j < tw_P 0 → fr j = tw_rv (tw_P 0) j
set_option maxHeartbeats 4000000 in
set_option maxRecDepth 100000 in
theorem c_X2_init (l : Launch) (D : va_G) {m0 : Nat} (sz : Nat) : Met l yX2_init wX2_init ({ frames := 1, cells := 4, slots := 8130, locals := 22 }) (va_Pc [.ref m0] (wd_pre D [] [(m0, .inr (2, [.int 0, .int 0, .int 0, .int 0, .int 0, .null, .null, .null, .null, .int 0, .int 0]))] sz)) (va_Qv (fun (u : Unit) => u = ()) (fun (_ : Unit) t => md_new D m0 (va_A [(m0, .inr (2, [.int 0, .int 0, .int 0, .int 0, .int 0, .null, .null, .null, .null, .int 0, .int 0]))] sz) t) (va_A [(m0, .inr (2, [.int 0, .int 0, .int 0, .int 0, .int 0, .null, .null, .null, .null, .int 0, .int 0]))] sz)) 4 8130 (va_A [(m0, .inr (2, [.int 0, .int 0, .int 0, .int 0, .int 0, .null, .null, .null, .null, .int 0, .int 0]))] sz) := by
  refine Met.ofW (cc := cX2_init) (maxL := 1) (ret := none) (by decide) rfl ?_
  intro p e s m args below meth c s₁ B hml hv
  obtain ⟨rfl, hsz, hP, hK, hD0⟩ := hv
  have hx := B.exec
  have hb := B.bytes
  have hr := B.returns
  have hts := atoms_spec (ws := wX2_init) B.pre
  have ht : ∀ w ∈ tb_all, w.before _ s = true := fun w h => hts w (List.mem_cons_of_mem _ h)
  have hown : s.vm.findClass RX2 = some m.cls := findClass_of_methodNamed B.named
  have hlocks := B.notSynchronized
  have hin : meth.name = "<init>" := (name_of_methodNamed B.named B.method).1
  subst hsz
  have hD := hD0.self (sz := s.heap.size)
  generalize hAe : va_A [(m0, .inr (2, [.int 0, .int 0, .int 0, .int 0, .int 0, .null, .null, .null, .null, .int 0, .int 0]))] s.heap.size = A at hD ⊢
  have hA : ∀ q : Nat, s.heap.size ≤ q → A q := fun q h => by rw [← hAe]; exact Or.inr h
  have hS : va_S A s.heap s.heap [] := va_S.rf
  have hl := lv_entry ([.ref m0]) (n := 1) (Nat.le_of_ble_eq_true rfl)
  rw [lg_entry_eq]
  generalize (lg_sl ([.ref m0]) ++ List.replicate (1 - (lg_sl ([.ref m0])).length) Slot.unset).toArray = ls at hl ⊢
  have hl : lv_has ls 1 [(0, .ref m0)] := hl
  refine lv_aload_n hx hb dX2_init_0 rfl (lv_at hl 0 rfl) ?_
  refine W.objInit hx hb hown (ht _ kl_X2_1) (ht _ ki_obj) (ht _ kc_obj) rfl (by rw [hml]; exact hl.1) rfl dX2_init_1 (Nat.le_of_ble_eq_true rfl) (Nat.le_of_ble_eq_true rfl) ?_
  refine W.eq (g2 := F0 m 4 ls []) rfl ?_
  refine lv_aload_n hx hb dX2_init_4 rfl (lv_at hl 0 rfl) ?_
  refine lv_bipush (v := (nI 13)) hx hb dX2_init_5 (by decide) ?_
  refine va_put (D := D) (ci := 2) (v := .int (nI 13)) (ty := .int) (C := RX2) (T := TX2) (N := 11) hx hb ht inX2 tyX2 tyX2_ok nmX2 hown hK hP hD hS 0 rfl rfl 2 (by decide) (ht _ kf_X2_7) (fun _ h9 => h9) rfl (by decide +kernel) rfl rfl (Nat.le_of_ble_eq_true rfl) dX2_init_7 (fun H locs hP hD hS => ?_)
  have hP : va_P D vwCl [(m0, .inr (2, [.int 0, .int 0, .int (nI 13), .int 0, .int 0, .null, .null, .null, .null, .int 0, .int 0]))] H := hP
  have hD : va_D A [(m0, .inr (2, [.int 0, .int 0, .int (nI 13), .int 0, .int 0, .null, .null, .null, .null, .int 0, .int 0]))] := hD
  refine lv_aload_n hx hb dX2_init_10 rfl (lv_at hl 0 rfl) ?_
  refine lv_bipush (v := (nI 12)) hx hb dX2_init_11 (by decide) ?_
  refine va_newa (atype := .int) (ty := .int) (n := nI 12) (N' := 12) (a0 := (12, .inl (fun _ => 0))) hx hb (ht _ ka_int) rfl hK hP hD hS hA (fun _ => rfl) (nI_pos (by decide)) (nI_clamp (by decide)) (by decide) (Nat.le_of_ble_eq_true rfl) (Nat.le_of_ble_eq_true rfl) dX2_init_13 (fun mx cA H hK hP hD hS => ?_)
  have hK : va_K D vwCl [(cA, .int)] s := hK
  have hP : va_P D vwCl [(m0, .inr (2, [.int 0, .int 0, .int (nI 13), .int 0, .int 0, .null, .null, .null, .null, .int 0, .int 0])), (mx, .inl (cA, 12, .inl (fun _ => 0)))] H := hP
  have hD : va_D A [(m0, .inr (2, [.int 0, .int 0, .int (nI 13), .int 0, .int 0, .null, .null, .null, .null, .int 0, .int 0])), (mx, .inl (cA, 12, .inl (fun _ => 0)))] := hD
  refine va_putF (D := D) (ci := 2) (v := .ref mx) (ty := (.array .int)) (C := RX2) (T := TX2) (N := 11) hx hb ht inX2 tyX2 tyX2_ok nmX2 hown hK hP hD hS 0 rfl rfl 5 (by decide) (ht _ kf_X2_13) (fun _ h9 => h9) rfl hin rfl (by decide +kernel) rfl rfl (Nat.le_of_ble_eq_true rfl) dX2_init_15 (fun H locs hP hD hS => ?_)
  have hP : va_P D vwCl [(m0, .inr (2, [.int 0, .int 0, .int (nI 13), .int 0, .int 0, .ref mx, .null, .null, .null, .int 0, .int 0])), (mx, .inl (cA, 12, .inl (fun _ => 0)))] H := hP
  have hD : va_D A [(m0, .inr (2, [.int 0, .int 0, .int (nI 13), .int 0, .int 0, .ref mx, .null, .null, .null, .int 0, .int 0])), (mx, .inl (cA, 12, .inl (fun _ => 0)))] := hD
  refine lv_aload_n hx hb dX2_init_18 rfl (lv_at hl 0 rfl) ?_
  refine lv_bipush (v := (nI 12)) hx hb dX2_init_19 (by decide) ?_
  refine va_newa (atype := .int) (ty := .int) (n := nI 12) (N' := 12) (a0 := (12, .inl (fun _ => 0))) hx hb (ht _ ka_int) rfl hK hP hD hS hA (fun _ => rfl) (nI_pos (by decide)) (nI_clamp (by decide)) (by decide) (Nat.le_of_ble_eq_true rfl) (Nat.le_of_ble_eq_true rfl) dX2_init_21 (fun my cB H hK hP hD hS => ?_)
  have ecB := (cA_eq hK).symm
  subst ecB
  have hK := hK.sub (tys' := [(cA, .int)]) [0] rfl
  have hP : va_P D vwCl [(m0, .inr (2, [.int 0, .int 0, .int (nI 13), .int 0, .int 0, .ref mx, .null, .null, .null, .int 0, .int 0])), (mx, .inl (cA, 12, .inl (fun _ => 0))), (my, .inl (cA, 12, .inl (fun _ => 0)))] H := hP
  have hD : va_D A [(m0, .inr (2, [.int 0, .int 0, .int (nI 13), .int 0, .int 0, .ref mx, .null, .null, .null, .int 0, .int 0])), (mx, .inl (cA, 12, .inl (fun _ => 0))), (my, .inl (cA, 12, .inl (fun _ => 0)))] := hD
  refine va_putF (D := D) (ci := 2) (v := .ref my) (ty := (.array .int)) (C := RX2) (T := TX2) (N := 11) hx hb ht inX2 tyX2 tyX2_ok nmX2 hown hK hP hD hS 0 rfl rfl 6 (by decide) (ht _ kf_X2_17) (fun _ h9 => h9) rfl hin rfl (by decide +kernel) rfl rfl (Nat.le_of_ble_eq_true rfl) dX2_init_23 (fun H locs hP hD hS => ?_)
  have hP : va_P D vwCl [(m0, .inr (2, [.int 0, .int 0, .int (nI 13), .int 0, .int 0, .ref mx, .ref my, .null, .null, .int 0, .int 0])), (mx, .inl (cA, 12, .inl (fun _ => 0))), (my, .inl (cA, 12, .inl (fun _ => 0)))] H := hP
  have hD : va_D A [(m0, .inr (2, [.int 0, .int 0, .int (nI 13), .int 0, .int 0, .ref mx, .ref my, .null, .null, .int 0, .int 0])), (mx, .inl (cA, 12, .inl (fun _ => 0))), (my, .inl (cA, 12, .inl (fun _ => 0)))] := hD
  refine lv_aload_n hx hb dX2_init_26 rfl (lv_at hl 0 rfl) ?_
  refine lv_sipush (v := (nI 8101)) hx hb dX2_init_27 (by decide) ?_
  refine va_newa (atype := .int) (ty := .int) (n := nI 8101) (N' := 8101) (a0 := (8101, .inl (fun _ => 0))) hx hb (ht _ ka_int) rfl hK hP hD hS hA (fun _ => rfl) (nI_pos (by decide)) (nI_clamp (by decide)) (by decide) (Nat.le_of_ble_eq_true rfl) (Nat.le_of_ble_eq_true rfl) dX2_init_30 (fun mr cB H hK hP hD hS => ?_)
  have ecB := (cA_eq hK).symm
  subst ecB
  have hK := hK.sub (tys' := [(cA, .int)]) [0] rfl
  have hP : va_P D vwCl [(m0, .inr (2, [.int 0, .int 0, .int (nI 13), .int 0, .int 0, .ref mx, .ref my, .null, .null, .int 0, .int 0])), (mx, .inl (cA, 12, .inl (fun _ => 0))), (my, .inl (cA, 12, .inl (fun _ => 0))), (mr, .inl (cA, 8101, .inl (fun _ => 0)))] H := hP
  have hD : va_D A [(m0, .inr (2, [.int 0, .int 0, .int (nI 13), .int 0, .int 0, .ref mx, .ref my, .null, .null, .int 0, .int 0])), (mx, .inl (cA, 12, .inl (fun _ => 0))), (my, .inl (cA, 12, .inl (fun _ => 0))), (mr, .inl (cA, 8101, .inl (fun _ => 0)))] := hD
  refine va_putF (D := D) (ci := 2) (v := .ref mr) (ty := (.array .int)) (C := RX2) (T := TX2) (N := 11) hx hb ht inX2 tyX2 tyX2_ok nmX2 hown hK hP hD hS 0 rfl rfl 7 (by decide) (ht _ kf_X2_20) (fun _ h9 => h9) rfl hin rfl (by decide +kernel) rfl rfl (Nat.le_of_ble_eq_true rfl) dX2_init_32 (fun H locs hP hD hS => ?_)
  have hP : va_P D vwCl [(m0, .inr (2, [.int 0, .int 0, .int (nI 13), .int 0, .int 0, .ref mx, .ref my, .ref mr, .null, .int 0, .int 0])), (mx, .inl (cA, 12, .inl (fun _ => 0))), (my, .inl (cA, 12, .inl (fun _ => 0))), (mr, .inl (cA, 8101, .inl (fun _ => 0)))] H := hP
  have hD : va_D A [(m0, .inr (2, [.int 0, .int 0, .int (nI 13), .int 0, .int 0, .ref mx, .ref my, .ref mr, .null, .int 0, .int 0])), (mx, .inl (cA, 12, .inl (fun _ => 0))), (my, .inl (cA, 12, .inl (fun _ => 0))), (mr, .inl (cA, 8101, .inl (fun _ => 0)))] := hD
  refine lv_aload_n hx hb dX2_init_35 rfl (lv_at hl 0 rfl) ?_
  refine lv_iconst (v := (nI 5)) hx hb dX2_init_36 (by decide) ?_
  refine va_newa (atype := .int) (ty := .int) (n := nI 5) (N' := 5) (a0 := (5, .inl (fun _ => 0))) hx hb (ht _ ka_int) rfl hK hP hD hS hA (fun _ => rfl) (nI_pos (by decide)) (nI_clamp (by decide)) (by decide) (Nat.le_of_ble_eq_true rfl) (Nat.le_of_ble_eq_true rfl) dX2_init_37 (fun mb cB H hK hP hD hS => ?_)
  have ecB := (cA_eq hK).symm
  subst ecB
  have hK := hK.sub (tys' := [(cA, .int)]) [0] rfl
  have hP : va_P D vwCl [(m0, .inr (2, [.int 0, .int 0, .int (nI 13), .int 0, .int 0, .ref mx, .ref my, .ref mr, .null, .int 0, .int 0])), (mx, .inl (cA, 12, .inl (fun _ => 0))), (my, .inl (cA, 12, .inl (fun _ => 0))), (mr, .inl (cA, 8101, .inl (fun _ => 0))), (mb, .inl (cA, 5, .inl (fun _ => 0)))] H := hP
  have hD : va_D A [(m0, .inr (2, [.int 0, .int 0, .int (nI 13), .int 0, .int 0, .ref mx, .ref my, .ref mr, .null, .int 0, .int 0])), (mx, .inl (cA, 12, .inl (fun _ => 0))), (my, .inl (cA, 12, .inl (fun _ => 0))), (mr, .inl (cA, 8101, .inl (fun _ => 0))), (mb, .inl (cA, 5, .inl (fun _ => 0)))] := hD
  refine va_putF (D := D) (ci := 2) (v := .ref mb) (ty := (.array .int)) (C := RX2) (T := TX2) (N := 11) hx hb ht inX2 tyX2 tyX2_ok nmX2 hown hK hP hD hS 0 rfl rfl 8 (by decide) (ht _ kf_X2_23) (fun _ h9 => h9) rfl hin rfl (by decide +kernel) rfl rfl (Nat.le_of_ble_eq_true rfl) dX2_init_39 (fun H locs hP hD hS => ?_)
  have hP : va_P D vwCl [(m0, .inr (2, [.int 0, .int 0, .int (nI 13), .int 0, .int 0, .ref mx, .ref my, .ref mr, .ref mb, .int 0, .int 0])), (mx, .inl (cA, 12, .inl (fun _ => 0))), (my, .inl (cA, 12, .inl (fun _ => 0))), (mr, .inl (cA, 8101, .inl (fun _ => 0))), (mb, .inl (cA, 5, .inl (fun _ => 0)))] H := hP
  have hD : va_D A [(m0, .inr (2, [.int 0, .int 0, .int (nI 13), .int 0, .int 0, .ref mx, .ref my, .ref mr, .ref mb, .int 0, .int 0])), (mx, .inl (cA, 12, .inl (fun _ => 0))), (my, .inl (cA, 12, .inl (fun _ => 0))), (mr, .inl (cA, 8101, .inl (fun _ => 0))), (mb, .inl (cA, 5, .inl (fun _ => 0)))] := hD
  refine W.widen (k := 4) (n := 8130) (Nat.le_of_ble_eq_true rfl) (Nat.le_of_ble_eq_true rfl) ?_
  refine lv_aload_n hx hb dX2_init_42 rfl (lv_at hl 0 rfl) ?_
  refine lv_iconst (v := (nI 0)) hx hb dX2_init_43 (by decide) ?_
  have hPc := hP.sub (ws' := [(m0, .inr (2, [.int 0, .int 0, .int (nI 13), .int 0, .int 0, .ref mx, .ref my, .ref mr, .ref mb, .int 0, .int 0])), (mx, .inl (cA, 12, .inl (fun _ => 0))), (my, .inl (cA, 12, .inl (fun _ => 0))), (mr, .inl (cA, 8101, .inl (fun _ => 0))), (mb, .inl (cA, 5, .inl (fun _ => 0)))]) [0, 1, 2, 3, 4] rfl
  have hDc := hD.sub (ws' := [(m0, .inr (2, [.int 0, .int 0, .int (nI 13), .int 0, .int 0, .ref mx, .ref my, .ref mr, .ref mb, .int 0, .int 0])), (mx, .inl (cA, 12, .inl (fun _ => 0))), (my, .inl (cA, 12, .inl (fun _ => 0))), (mr, .inl (cA, 8101, .inl (fun _ => 0))), (mb, .inl (cA, 5, .inl (fun _ => 0)))]) [0, 1, 2, 3, 4] (by decide) rfl
  have hFc := va_free (wc := [(m0, .inr (2, [.int 0, .int 0, .int (nI 13), .int 0, .int 0, .ref mx, .ref my, .ref mr, .ref mb, .int 0, .int 0])), (mx, .inl (cA, 12, .inl (fun _ => 0))), (my, .inl (cA, 12, .inl (fun _ => 0))), (mr, .inl (cA, 8101, .inl (fun _ => 0))), (mb, .inl (cA, 5, .inl (fun _ => 0)))]) hD hS hA [0, 1, 2, 3, 4] rfl
  refine va_callv (va_runV (As := [.int (nI 0)]) (rest := []) ⟨hx, hb, hml, hown, ht⟩ (c_X2_set l D (k := 0) (by decide) H.size) (cwV 1 ht (tb_V kl_X2_26 ki_X2_set ks_X2_set kn_X2 kc_X2_set) rfl rfl rfl ⟨rfl, kd_X2_set⟩ ⟨Nat.le_of_ble_eq_true rfl, Nat.le_of_ble_eq_true rfl⟩) (wd_preV _ hPc hK hDc (va_recv (ci := 2) (q0 := 0) hK hP rfl rfl)) rfl rfl hl.1 rfl (lv_room (Nat.le_of_ble_eq_true rfl)) dX2_init_44 ⟨Nat.le_refl _, Nat.le_refl _⟩) hS (fun q _ h => hFc q h) hFc (fun u9 t9 H1 locs ht9 hvm9 hw9 hB9 hz9 hk9 hS => ?_)
  obtain ⟨hP1, hK1, hD1⟩ := hB9
  rw [ht9] at hP1
  obtain ⟨hP, hD⟩ := va_join (wr := []) (w1 := [(m0, .inr (2, [.int 0, .int (nI 0), .int (nI (tw_P 0)), .int (nI (tw_D 0)), .int (nI (tw_I 0)), .ref mx, .ref my, .ref mr, .ref mb, .int 0, .int 0])), (mx, .inl (cA, 12, .inl u9.1)), (my, .inl (cA, 12, .inl u9.2.1)), (mr, .inl (cA, 8101, .inl u9.2.2)), (mb, .inl (cA, 5, .inl (fun _ => 0)))]) hP hD [0, 1, 2, 3, 4] [] rfl rfl (by decide) (by decide) hk9 hFc hP1 hD1
  have hP := hP.sub (ws' := [(m0, .inr (2, [.int 0, .int (nI 0), .int (nI (tw_P 0)), .int (nI (tw_D 0)), .int (nI (tw_I 0)), .ref mx, .ref my, .ref mr, .ref mb, .int 0, .int 0])), (mx, .inl (cA, 12, .inl u9.1)), (my, .inl (cA, 12, .inl u9.2.1)), (mr, .inl (cA, 8101, .inl u9.2.2)), (mb, .inl (cA, 5, .inl (fun _ => 0)))]) [0, 1, 2, 3, 4] rfl
  have hD := hD.sub (ws' := [(m0, .inr (2, [.int 0, .int (nI 0), .int (nI (tw_P 0)), .int (nI (tw_D 0)), .int (nI (tw_I 0)), .ref mx, .ref my, .ref mr, .ref mb, .int 0, .int 0])), (mx, .inl (cA, 12, .inl u9.1)), (my, .inl (cA, 12, .inl u9.2.1)), (mr, .inl (cA, 8101, .inl u9.2.2)), (mb, .inl (cA, 5, .inl (fun _ => 0)))]) [0, 1, 2, 3, 4] (by decide) rfl
  generalize H1 = H at hP hS hz9 ⊢
  exact W.vret hx hb hr (fun t ht9 hW => ⟨⟨(), rfl, rfl, mx, my, mr, mb, cA, u9.1, u9.2.1, u9.2.2, ⟨by rw [ht9]; exact hP, va_K.moved hW.alike hK, hD⟩, hw9⟩, hS.F ht9⟩) hS.2.2 dX2_init_47
