/-! a curve is made -/
theorem ro_preV {D : va_G} {tys : List (ClassId × FieldType)} {WS : va_W} {s : State} {H : Heap} {C : String} {b : Nat} (As : List Value) (hP : va_P D vwCl WS H) (hK : va_K D vwCl tys s) (hc : ∃ cell : Cell, H[b]? = some cell ∧ cell.vm.isStatics = false ∧ s.vm.findClass C = some cell.cls) : PreV s H C b (va_Pc (.ref b :: As) (fun U => va_P D vwCl WS U.heap ∧ va_K D vwCl tys U)) As :=
  ⟨fun a U g mk q => ⟨q.1, q.2.1, va_K.moved (u := U) (U := U.calling g mk a) (Vm.Alike.refl U.vm) q.2.2⟩, hc, fun U hU hW => ⟨rfl, by rw [hU]; exact hP, va_K.moved hW.alike hK⟩⟩
theorem cv_preH {D : va_G} {k n fc h0 ai ar af ap ah ac : Nat} {cA : ClassId} {hk : Int32} {fi fr ff fp fh fn : Nat → Int32} {s : State} {H : Heap} (hP : va_P D vwCl (cv_W h0 ai ar af ap ah ac cA k n fc hk fi fr ff fp fh fn) H) (hK : va_K D vwCl [(cA, .int)] s) (hfi : ∀ j, j < tw_P k → fi j = nI (tw_iv (tw_P k) j)) (hfr : ∀ j, j < tw_P k → fr j = tw_rv (tw_P k) j) (As : List Value) : PreV s H RX0 h0 (va_Pc (.ref h0 :: As) (cv_at D k n fc h0 ff)) As :=
  ⟨fun a U g mk q => ⟨q.1, cv_moved q.2 rfl (Vm.Alike.refl U.vm)⟩, va_recv (ci := 0) (q0 := 0) hK hP rfl rfl, fun U hU hW => ⟨rfl, ⟨ai, ar, af, ap, ah, ac, cA, hk, fi, fr, fp, fh, fn, by rw [hU]; exact hP, va_K.moved hW.alike hK, hfi, hfr⟩⟩⟩
theorem tw_Ik : ∀ k, k < 5 → 2 * tw_I k < tw_P k := by decide
theorem cA_eq {D : va_G} {cl : List vw_C} {cA cB : ClassId} {s : State} (h : va_K D cl ([(cA, .int)] ++ [(cB, .int)]) s) : cB = cA := Option.some.inj ((va_nm_int (h.2 1 _ rfl).2).symm.trans (va_nm_int (h.2 0 _ rfl).2))
/-- a curve's whole picture: what it keeps once made; the rows of halves and steps are said apart -/
def cv_ok (k : Nat) (fi fr ff : Nat → Int32) : Prop := (∀ j, j < tw_P k → fi j = nI (tw_iv (tw_P k) j)) ∧ (∀ j, j < tw_P k → fr j = tw_rv (tw_P k) j) ∧ ∀ j, j < (tw_fs k).length → ff j = nI ((tw_fs k).getD j 0)
def cv_new (D : va_G) (k h0 : Nat) (A : Nat → Prop) (t : State) : Prop := ∃ (ai ar af ap ah ac : Nat) (cA : ClassId) (fi fr ff : Nat → Int32), wd_at D [(cA, .int)] A (cv_W h0 ai ar af ap ah ac cA k (tw_N k) (tw_fs k).length 0 fi fr ff (fun _ => 0) (fun _ => 0) (fun _ => 0)) t ∧ cv_ok k fi fr ff
set_option maxHeartbeats 4000000 in
set_option maxRecDepth 100000 in
theorem c_X0_init (l : Launch) (D : va_G) {k : Nat} (hk5 : k < 5) {h0 : Nat} (sz : Nat) : Met l yX0_init wX0_init ({ frames := 2, cells := 6, slots := 8 * tw_P k + 14, locals := 46 }) (va_Pc [.ref h0, .int (nI (tw_P k))] (wd_pre D [] [(h0, .inr (0, [.int 0, .int 0, .int 0, .int 0, .null, .null, .null, .null, .null, .null, .int 0, .int 0]))] sz)) (va_Qv (fun (u : Unit) => u = ()) (fun (_ : Unit) t => cv_new D k h0 (va_A [(h0, .inr (0, [.int 0, .int 0, .int 0, .int 0, .null, .null, .null, .null, .null, .null, .int 0, .int 0]))] sz) t) (va_A [(h0, .inr (0, [.int 0, .int 0, .int 0, .int 0, .null, .null, .null, .null, .null, .null, .int 0, .int 0]))] sz)) 6 (8 * tw_P k + 14) (va_A [(h0, .inr (0, [.int 0, .int 0, .int 0, .int 0, .null, .null, .null, .null, .null, .null, .int 0, .int 0]))] sz) := by
  refine Met.ofW (cc := cX0_init) (maxL := 2) (ret := none) (by decide) rfl ?_
  intro p e s m args below meth c s₁ B hml hv
  obtain ⟨rfl, hsz, hP, hK, hD0⟩ := hv
  have hx := B.exec
  have hb := B.bytes
  have hr := B.returns
  have hts := atoms_spec (ws := wX0_init) B.pre
  have ht : ∀ w ∈ tb_all, w.before _ s = true := fun w h => hts w (List.mem_cons_of_mem _ h)
  have hown : s.vm.findClass RX0 = some m.cls := findClass_of_methodNamed B.named
  have hlocks := B.notSynchronized
  have hin : meth.name = "<init>" := (name_of_methodNamed B.named B.method).1
  subst hsz
  have hD := hD0.self (sz := s.heap.size)
  generalize hAe : va_A [(h0, .inr (0, [.int 0, .int 0, .int 0, .int 0, .null, .null, .null, .null, .null, .null, .int 0, .int 0]))] s.heap.size = A at hD ⊢
  have hA : ∀ q : Nat, s.heap.size ≤ q → A q := fun q h => by rw [← hAe]; exact Or.inr h
  have hS : va_S A s.heap s.heap [] := va_S.rf
  have hl := lv_entry ([.ref h0, .int (nI (tw_P k))]) (n := 2) (Nat.le_of_ble_eq_true rfl)
  rw [lg_entry_eq]
  generalize (lg_sl ([.ref h0, .int (nI (tw_P k))]) ++ List.replicate (2 - (lg_sl ([.ref h0, .int (nI (tw_P k))])).length) Slot.unset).toArray = ls at hl ⊢
  have hl : lv_has ls 2 [(0, .ref h0), (1, .int (nI (tw_P k)))] := hl
  obtain ⟨hP0, hP2, hD2, hI2, hDP⟩ := tw_kb hk5
  have hK0 := tw_kK k hk5
  have hN := tw_kN k hk5
  refine lv_aload_n hx hb dX0_init_0 rfl (lv_at hl 0 rfl) ?_
  refine W.objInit hx hb hown (ht _ kl_X0_3) (ht _ ki_obj) (ht _ kc_obj) rfl (by rw [hml]; exact hl.1) rfl dX0_init_1 (Nat.le_of_ble_eq_true rfl) (Nat.le_of_ble_eq_true rfl) ?_
  refine W.eq (g2 := F0 m 4 ls []) rfl ?_
  refine lv_aload_n hx hb dX0_init_4 rfl (lv_at hl 0 rfl) ?_
  refine lv_iload_n hx hb dX0_init_5 rfl (lv_at hl 1 rfl) ?_
  refine va_putF (D := D) (ci := 0) (v := .int (nI (tw_P k))) (ty := .int) (C := RX0) (T := TX0) (N := 12) hx hb ht inX0 tyX0 tyX0_ok nmX0 hown hK hP hD hS 0 rfl rfl 0 (by decide) (ht _ kf_X0_9) (fun _ h9 => h9) rfl hin rfl (by decide +kernel) rfl rfl (Nat.le_of_ble_eq_true rfl) dX0_init_6 (fun H locs hP hD hS => ?_)
  have hP : va_P D vwCl [(h0, .inr (0, [.int (nI (tw_P k)), .int 0, .int 0, .int 0, .null, .null, .null, .null, .null, .null, .int 0, .int 0]))] H := hP
  have hD : va_D A [(h0, .inr (0, [.int (nI (tw_P k)), .int 0, .int 0, .int 0, .null, .null, .null, .null, .null, .null, .int 0, .int 0]))] := hD
  refine lv_aload_n hx hb dX0_init_9 rfl (lv_at hl 0 rfl) ?_
  refine lv_iload_n hx hb dX0_init_10 rfl (lv_at hl 1 rfl) ?_
  refine va_newa (atype := .int) (ty := .int) (n := nI (tw_P k)) (N' := tw_P k) (a0 := (tw_P k, .inl (fun _ => 0))) hx hb (ht _ ka_int) rfl hK hP hD hS hA (fun _ => rfl) (nI_pos (nv_le (b := 8101) hP2 (by decide))) (nI_clamp (nv_le (b := 8101) hP2 (by decide))) (by show (tw_P k) * 4 ≤ 536870912; omega) (by show _ ≤ 6; omega) (by show _ ≤ 8 * tw_P k + 14; omega) dX0_init_11 (fun ai cA H hK hP hD hS => ?_)
  have hK : va_K D vwCl [(cA, .int)] s := hK
  have hP : va_P D vwCl [(h0, .inr (0, [.int (nI (tw_P k)), .int 0, .int 0, .int 0, .null, .null, .null, .null, .null, .null, .int 0, .int 0])), (ai, .inl (cA, tw_P k, .inl (fun _ => 0)))] H := hP
  have hD : va_D A [(h0, .inr (0, [.int (nI (tw_P k)), .int 0, .int 0, .int 0, .null, .null, .null, .null, .null, .null, .int 0, .int 0])), (ai, .inl (cA, tw_P k, .inl (fun _ => 0)))] := hD
  refine va_putF (D := D) (ci := 0) (v := .ref ai) (ty := (.array .int)) (C := RX0) (T := TX0) (N := 12) hx hb ht inX0 tyX0 tyX0_ok nmX0 hown hK hP hD hS 0 rfl rfl 4 (by decide) (ht _ kf_X0_13) (fun _ h9 => h9) rfl hin rfl (by decide +kernel) rfl rfl (Nat.le_of_ble_eq_true rfl) dX0_init_13 (fun H locs hP hD hS => ?_)
  have hP : va_P D vwCl [(h0, .inr (0, [.int (nI (tw_P k)), .int 0, .int 0, .int 0, .ref ai, .null, .null, .null, .null, .null, .int 0, .int 0])), (ai, .inl (cA, tw_P k, .inl (fun _ => 0)))] H := hP
  have hD : va_D A [(h0, .inr (0, [.int (nI (tw_P k)), .int 0, .int 0, .int 0, .ref ai, .null, .null, .null, .null, .null, .int 0, .int 0])), (ai, .inl (cA, tw_P k, .inl (fun _ => 0)))] := hD
  refine lv_aload_n hx hb dX0_init_16 rfl (lv_at hl 0 rfl) ?_
  refine lv_iload_n hx hb dX0_init_17 rfl (lv_at hl 1 rfl) ?_
  refine va_newa (atype := .int) (ty := .int) (n := nI (tw_P k)) (N' := tw_P k) (a0 := (tw_P k, .inl (fun _ => 0))) hx hb (ht _ ka_int) rfl hK hP hD hS hA (fun _ => rfl) (nI_pos (nv_le (b := 8101) hP2 (by decide))) (nI_clamp (nv_le (b := 8101) hP2 (by decide))) (by show (tw_P k) * 4 ≤ 536870912; omega) (by show _ ≤ 6; omega) (by show _ ≤ 8 * tw_P k + 14; omega) dX0_init_18 (fun ar cB H hK hP hD hS => ?_)
  have ecB := (cA_eq hK).symm
  subst ecB
  have hK := hK.sub (tys' := [(cA, .int)]) [0] rfl
  have hP : va_P D vwCl [(h0, .inr (0, [.int (nI (tw_P k)), .int 0, .int 0, .int 0, .ref ai, .null, .null, .null, .null, .null, .int 0, .int 0])), (ai, .inl (cA, tw_P k, .inl (fun _ => 0))), (ar, .inl (cA, tw_P k, .inl (fun _ => 0)))] H := hP
  have hD : va_D A [(h0, .inr (0, [.int (nI (tw_P k)), .int 0, .int 0, .int 0, .ref ai, .null, .null, .null, .null, .null, .int 0, .int 0])), (ai, .inl (cA, tw_P k, .inl (fun _ => 0))), (ar, .inl (cA, tw_P k, .inl (fun _ => 0)))] := hD
  refine va_putF (D := D) (ci := 0) (v := .ref ar) (ty := (.array .int)) (C := RX0) (T := TX0) (N := 12) hx hb ht inX0 tyX0 tyX0_ok nmX0 hown hK hP hD hS 0 rfl rfl 5 (by decide) (ht _ kf_X0_17) (fun _ h9 => h9) rfl hin rfl (by decide +kernel) rfl rfl (Nat.le_of_ble_eq_true rfl) dX0_init_20 (fun H locs hP hD hS => ?_)
  have hP : va_P D vwCl [(h0, .inr (0, [.int (nI (tw_P k)), .int 0, .int 0, .int 0, .ref ai, .ref ar, .null, .null, .null, .null, .int 0, .int 0])), (ai, .inl (cA, tw_P k, .inl (fun _ => 0))), (ar, .inl (cA, tw_P k, .inl (fun _ => 0)))] H := hP
  have hD : va_D A [(h0, .inr (0, [.int (nI (tw_P k)), .int 0, .int 0, .int 0, .ref ai, .ref ar, .null, .null, .null, .null, .int 0, .int 0])), (ai, .inl (cA, tw_P k, .inl (fun _ => 0))), (ar, .inl (cA, tw_P k, .inl (fun _ => 0)))] := hD
  refine lv_aload_n hx hb dX0_init_23 rfl (lv_at hl 0 rfl) ?_
  refine lv_bipush (v := (nI 14)) hx hb dX0_init_24 (by decide) ?_
  refine va_newa (atype := .int) (ty := .int) (n := nI (14)) (N' := 14) (a0 := (14, .inl (fun _ => 0))) hx hb (ht _ ka_int) rfl hK hP hD hS hA (fun _ => rfl) (nI_pos (nv_le (b := 14) (Nat.le_refl 14) (by decide))) (nI_clamp (nv_le (b := 14) (Nat.le_refl 14) (by decide))) (by show (14) * 4 ≤ 536870912; omega) (by show _ ≤ 6; omega) (by show _ ≤ 8 * tw_P k + 14; omega) dX0_init_26 (fun af cB H hK hP hD hS => ?_)
  have ecB := (cA_eq hK).symm
  subst ecB
  have hK := hK.sub (tys' := [(cA, .int)]) [0] rfl
  have hP : va_P D vwCl [(h0, .inr (0, [.int (nI (tw_P k)), .int 0, .int 0, .int 0, .ref ai, .ref ar, .null, .null, .null, .null, .int 0, .int 0])), (ai, .inl (cA, tw_P k, .inl (fun _ => 0))), (ar, .inl (cA, tw_P k, .inl (fun _ => 0))), (af, .inl (cA, 14, .inl (fun _ => 0)))] H := hP
  have hD : va_D A [(h0, .inr (0, [.int (nI (tw_P k)), .int 0, .int 0, .int 0, .ref ai, .ref ar, .null, .null, .null, .null, .int 0, .int 0])), (ai, .inl (cA, tw_P k, .inl (fun _ => 0))), (ar, .inl (cA, tw_P k, .inl (fun _ => 0))), (af, .inl (cA, 14, .inl (fun _ => 0)))] := hD
  refine va_putF (D := D) (ci := 0) (v := .ref af) (ty := (.array .int)) (C := RX0) (T := TX0) (N := 12) hx hb ht inX0 tyX0 tyX0_ok nmX0 hown hK hP hD hS 0 rfl rfl 6 (by decide) (ht _ kf_X0_20) (fun _ h9 => h9) rfl hin rfl (by decide +kernel) rfl rfl (Nat.le_of_ble_eq_true rfl) dX0_init_28 (fun H locs hP hD hS => ?_)
  have hP : va_P D vwCl [(h0, .inr (0, [.int (nI (tw_P k)), .int 0, .int 0, .int 0, .ref ai, .ref ar, .ref af, .null, .null, .null, .int 0, .int 0])), (ai, .inl (cA, tw_P k, .inl (fun _ => 0))), (ar, .inl (cA, tw_P k, .inl (fun _ => 0))), (af, .inl (cA, 14, .inl (fun _ => 0)))] H := hP
  have hD : va_D A [(h0, .inr (0, [.int (nI (tw_P k)), .int 0, .int 0, .int 0, .ref ai, .ref ar, .ref af, .null, .null, .null, .int 0, .int 0])), (ai, .inl (cA, tw_P k, .inl (fun _ => 0))), (ar, .inl (cA, tw_P k, .inl (fun _ => 0))), (af, .inl (cA, 14, .inl (fun _ => 0)))] := hD
  refine lv_aload_n hx hb dX0_init_31 rfl (lv_at hl 0 rfl) ?_
  refine lv_iconst (v := (nI 2)) hx hb dX0_init_32 (by decide) ?_
  refine lv_iload_n hx hb dX0_init_33 rfl (lv_at hl 1 rfl) ?_
  refine nv_imul hx hb dX0_init_34 ?_
  refine va_newa (atype := .int) (ty := .int) (n := nI (2 * tw_P k)) (N' := 2 * tw_P k) (a0 := (2 * tw_P k, .inl (fun _ => 0))) hx hb (ht _ ka_int) rfl hK hP hD hS hA (fun _ => rfl) (nI_pos (nv_le (b := 16202) (Nat.mul_le_mul (Nat.le_refl 2) hP2) (by decide))) (nI_clamp (nv_le (b := 16202) (Nat.mul_le_mul (Nat.le_refl 2) hP2) (by decide))) (by show (2 * tw_P k) * 4 ≤ 536870912; omega) (by show _ ≤ 6; omega) (by show _ ≤ 8 * tw_P k + 14; omega) dX0_init_35 (fun ap cB H hK hP hD hS => ?_)
  have ecB := (cA_eq hK).symm
  subst ecB
  have hK := hK.sub (tys' := [(cA, .int)]) [0] rfl
  have hP : va_P D vwCl [(h0, .inr (0, [.int (nI (tw_P k)), .int 0, .int 0, .int 0, .ref ai, .ref ar, .ref af, .null, .null, .null, .int 0, .int 0])), (ai, .inl (cA, tw_P k, .inl (fun _ => 0))), (ar, .inl (cA, tw_P k, .inl (fun _ => 0))), (af, .inl (cA, 14, .inl (fun _ => 0))), (ap, .inl (cA, 2 * tw_P k, .inl (fun _ => 0)))] H := hP
  have hD : va_D A [(h0, .inr (0, [.int (nI (tw_P k)), .int 0, .int 0, .int 0, .ref ai, .ref ar, .ref af, .null, .null, .null, .int 0, .int 0])), (ai, .inl (cA, tw_P k, .inl (fun _ => 0))), (ar, .inl (cA, tw_P k, .inl (fun _ => 0))), (af, .inl (cA, 14, .inl (fun _ => 0))), (ap, .inl (cA, 2 * tw_P k, .inl (fun _ => 0)))] := hD
  refine va_putF (D := D) (ci := 0) (v := .ref ap) (ty := (.array .int)) (C := RX0) (T := TX0) (N := 12) hx hb ht inX0 tyX0 tyX0_ok nmX0 hown hK hP hD hS 0 rfl rfl 7 (by decide) (ht _ kf_X0_23) (fun _ h9 => h9) rfl hin rfl (by decide +kernel) rfl rfl (Nat.le_of_ble_eq_true rfl) dX0_init_37 (fun H locs hP hD hS => ?_)
  have hP : va_P D vwCl [(h0, .inr (0, [.int (nI (tw_P k)), .int 0, .int 0, .int 0, .ref ai, .ref ar, .ref af, .ref ap, .null, .null, .int 0, .int 0])), (ai, .inl (cA, tw_P k, .inl (fun _ => 0))), (ar, .inl (cA, tw_P k, .inl (fun _ => 0))), (af, .inl (cA, 14, .inl (fun _ => 0))), (ap, .inl (cA, 2 * tw_P k, .inl (fun _ => 0)))] H := hP
  have hD : va_D A [(h0, .inr (0, [.int (nI (tw_P k)), .int 0, .int 0, .int 0, .ref ai, .ref ar, .ref af, .ref ap, .null, .null, .int 0, .int 0])), (ai, .inl (cA, tw_P k, .inl (fun _ => 0))), (ar, .inl (cA, tw_P k, .inl (fun _ => 0))), (af, .inl (cA, 14, .inl (fun _ => 0))), (ap, .inl (cA, 2 * tw_P k, .inl (fun _ => 0)))] := hD
  refine lv_aload_n hx hb dX0_init_40 rfl (lv_at hl 0 rfl) ?_
  refine lv_iconst (v := (nI 2)) hx hb dX0_init_41 (by decide) ?_
  refine lv_iload_n hx hb dX0_init_42 rfl (lv_at hl 1 rfl) ?_
  refine nv_imul hx hb dX0_init_43 ?_
  refine va_newa (atype := .int) (ty := .int) (n := nI (2 * tw_P k)) (N' := 2 * tw_P k) (a0 := (2 * tw_P k, .inl (fun _ => 0))) hx hb (ht _ ka_int) rfl hK hP hD hS hA (fun _ => rfl) (nI_pos (nv_le (b := 16202) (Nat.mul_le_mul (Nat.le_refl 2) hP2) (by decide))) (nI_clamp (nv_le (b := 16202) (Nat.mul_le_mul (Nat.le_refl 2) hP2) (by decide))) (by show (2 * tw_P k) * 4 ≤ 536870912; omega) (by show _ ≤ 6; omega) (by show _ ≤ 8 * tw_P k + 14; omega) dX0_init_44 (fun ah cB H hK hP hD hS => ?_)
  have ecB := (cA_eq hK).symm
  subst ecB
  have hK := hK.sub (tys' := [(cA, .int)]) [0] rfl
  have hP : va_P D vwCl [(h0, .inr (0, [.int (nI (tw_P k)), .int 0, .int 0, .int 0, .ref ai, .ref ar, .ref af, .ref ap, .null, .null, .int 0, .int 0])), (ai, .inl (cA, tw_P k, .inl (fun _ => 0))), (ar, .inl (cA, tw_P k, .inl (fun _ => 0))), (af, .inl (cA, 14, .inl (fun _ => 0))), (ap, .inl (cA, 2 * tw_P k, .inl (fun _ => 0))), (ah, .inl (cA, 2 * tw_P k, .inl (fun _ => 0)))] H := hP
  have hD : va_D A [(h0, .inr (0, [.int (nI (tw_P k)), .int 0, .int 0, .int 0, .ref ai, .ref ar, .ref af, .ref ap, .null, .null, .int 0, .int 0])), (ai, .inl (cA, tw_P k, .inl (fun _ => 0))), (ar, .inl (cA, tw_P k, .inl (fun _ => 0))), (af, .inl (cA, 14, .inl (fun _ => 0))), (ap, .inl (cA, 2 * tw_P k, .inl (fun _ => 0))), (ah, .inl (cA, 2 * tw_P k, .inl (fun _ => 0)))] := hD
  refine va_putF (D := D) (ci := 0) (v := .ref ah) (ty := (.array .int)) (C := RX0) (T := TX0) (N := 12) hx hb ht inX0 tyX0 tyX0_ok nmX0 hown hK hP hD hS 0 rfl rfl 8 (by decide) (ht _ kf_X0_26) (fun _ h9 => h9) rfl hin rfl (by decide +kernel) rfl rfl (Nat.le_of_ble_eq_true rfl) dX0_init_46 (fun H locs hP hD hS => ?_)
  have hP : va_P D vwCl [(h0, .inr (0, [.int (nI (tw_P k)), .int 0, .int 0, .int 0, .ref ai, .ref ar, .ref af, .ref ap, .ref ah, .null, .int 0, .int 0])), (ai, .inl (cA, tw_P k, .inl (fun _ => 0))), (ar, .inl (cA, tw_P k, .inl (fun _ => 0))), (af, .inl (cA, 14, .inl (fun _ => 0))), (ap, .inl (cA, 2 * tw_P k, .inl (fun _ => 0))), (ah, .inl (cA, 2 * tw_P k, .inl (fun _ => 0)))] H := hP
  have hD : va_D A [(h0, .inr (0, [.int (nI (tw_P k)), .int 0, .int 0, .int 0, .ref ai, .ref ar, .ref af, .ref ap, .ref ah, .null, .int 0, .int 0])), (ai, .inl (cA, tw_P k, .inl (fun _ => 0))), (ar, .inl (cA, tw_P k, .inl (fun _ => 0))), (af, .inl (cA, 14, .inl (fun _ => 0))), (ap, .inl (cA, 2 * tw_P k, .inl (fun _ => 0))), (ah, .inl (cA, 2 * tw_P k, .inl (fun _ => 0)))] := hD
  refine lv_aload_n hx hb dX0_init_49 rfl (lv_at hl 0 rfl) ?_
  refine lv_iconst (v := (nI 2)) hx hb dX0_init_50 (by decide) ?_
  refine lv_iload_n hx hb dX0_init_51 rfl (lv_at hl 1 rfl) ?_
  refine nv_imul hx hb dX0_init_52 ?_
  refine va_newa (atype := .int) (ty := .int) (n := nI (2 * tw_P k)) (N' := 2 * tw_P k) (a0 := (2 * tw_P k, .inl (fun _ => 0))) hx hb (ht _ ka_int) rfl hK hP hD hS hA (fun _ => rfl) (nI_pos (nv_le (b := 16202) (Nat.mul_le_mul (Nat.le_refl 2) hP2) (by decide))) (nI_clamp (nv_le (b := 16202) (Nat.mul_le_mul (Nat.le_refl 2) hP2) (by decide))) (by show (2 * tw_P k) * 4 ≤ 536870912; omega) (by show _ ≤ 6; omega) (by show _ ≤ 8 * tw_P k + 14; omega) dX0_init_53 (fun ac cB H hK hP hD hS => ?_)
  have ecB := (cA_eq hK).symm
  subst ecB
  have hK := hK.sub (tys' := [(cA, .int)]) [0] rfl
  have hP : va_P D vwCl [(h0, .inr (0, [.int (nI (tw_P k)), .int 0, .int 0, .int 0, .ref ai, .ref ar, .ref af, .ref ap, .ref ah, .null, .int 0, .int 0])), (ai, .inl (cA, tw_P k, .inl (fun _ => 0))), (ar, .inl (cA, tw_P k, .inl (fun _ => 0))), (af, .inl (cA, 14, .inl (fun _ => 0))), (ap, .inl (cA, 2 * tw_P k, .inl (fun _ => 0))), (ah, .inl (cA, 2 * tw_P k, .inl (fun _ => 0))), (ac, .inl (cA, 2 * tw_P k, .inl (fun _ => 0)))] H := hP
  have hD : va_D A [(h0, .inr (0, [.int (nI (tw_P k)), .int 0, .int 0, .int 0, .ref ai, .ref ar, .ref af, .ref ap, .ref ah, .null, .int 0, .int 0])), (ai, .inl (cA, tw_P k, .inl (fun _ => 0))), (ar, .inl (cA, tw_P k, .inl (fun _ => 0))), (af, .inl (cA, 14, .inl (fun _ => 0))), (ap, .inl (cA, 2 * tw_P k, .inl (fun _ => 0))), (ah, .inl (cA, 2 * tw_P k, .inl (fun _ => 0))), (ac, .inl (cA, 2 * tw_P k, .inl (fun _ => 0)))] := hD
  refine va_putF (D := D) (ci := 0) (v := .ref ac) (ty := (.array .int)) (C := RX0) (T := TX0) (N := 12) hx hb ht inX0 tyX0 tyX0_ok nmX0 hown hK hP hD hS 0 rfl rfl 9 (by decide) (ht _ kf_X0_29) (fun _ h9 => h9) rfl hin rfl (by decide +kernel) rfl rfl (Nat.le_of_ble_eq_true rfl) dX0_init_55 (fun H locs hP hD hS => ?_)
  have hP : va_P D vwCl [(h0, .inr (0, [.int (nI (tw_P k)), .int 0, .int 0, .int 0, .ref ai, .ref ar, .ref af, .ref ap, .ref ah, .ref ac, .int 0, .int 0])), (ai, .inl (cA, tw_P k, .inl (fun _ => 0))), (ar, .inl (cA, tw_P k, .inl (fun _ => 0))), (af, .inl (cA, 14, .inl (fun _ => 0))), (ap, .inl (cA, 2 * tw_P k, .inl (fun _ => 0))), (ah, .inl (cA, 2 * tw_P k, .inl (fun _ => 0))), (ac, .inl (cA, 2 * tw_P k, .inl (fun _ => 0)))] H := hP
  have hD : va_D A [(h0, .inr (0, [.int (nI (tw_P k)), .int 0, .int 0, .int 0, .ref ai, .ref ar, .ref af, .ref ap, .ref ah, .ref ac, .int 0, .int 0])), (ai, .inl (cA, tw_P k, .inl (fun _ => 0))), (ar, .inl (cA, tw_P k, .inl (fun _ => 0))), (af, .inl (cA, 14, .inl (fun _ => 0))), (ap, .inl (cA, 2 * tw_P k, .inl (fun _ => 0))), (ah, .inl (cA, 2 * tw_P k, .inl (fun _ => 0))), (ac, .inl (cA, 2 * tw_P k, .inl (fun _ => 0)))] := hD
  refine W.widen (k := 6) (n := 8 * tw_P k + 14) (by omega) (by omega) ?_
  refine lv_aload_n hx hb dX0_init_58 rfl (lv_at hl 0 rfl) ?_
  have hPc := hP.sub (ws' := [(h0, .inr (0, [.int (nI (tw_P k)), .int 0, .int 0, .int 0, .ref ai, .ref ar, .ref af, .ref ap, .ref ah, .ref ac, .int 0, .int 0])), (ai, .inl (cA, tw_P k, .inl (fun _ => 0)))]) [0, 1] rfl
  have hDc := hD.sub (ws' := [(h0, .inr (0, [.int (nI (tw_P k)), .int 0, .int 0, .int 0, .ref ai, .ref ar, .ref af, .ref ap, .ref ah, .ref ac, .int 0, .int 0])), (ai, .inl (cA, tw_P k, .inl (fun _ => 0)))]) [0, 1] (by decide) rfl
  have hFc := va_free (wc := [(h0, .inr (0, [.int (nI (tw_P k)), .int 0, .int 0, .int 0, .ref ai, .ref ar, .ref af, .ref ap, .ref ah, .ref ac, .int 0, .int 0])), (ai, .inl (cA, tw_P k, .inl (fun _ => 0)))]) hD hS hA [0, 1] rfl
  refine va_callv (va_runV (As := []) (rest := []) ⟨hx, hb, hml, hown, ht⟩ (c_X0_fillInverses l D hk5 (ai := ai) (fs := [.int (nI (tw_P k)), .int 0, .int 0, .int 0, .ref ai, .ref ar, .ref af, .ref ap, .ref ah, .ref ac, .int 0, .int 0]) rfl rfl H.size) (cwV 0 ht (tb_V kl_X0_32 ki_X0_fillInverses ks_X0_fillInverses kn_X0 kc_X0_fillInverses) rfl rfl rfl ⟨rfl, kd_X0_fillInverses⟩ ⟨Nat.le_of_ble_eq_true rfl, Nat.le_of_ble_eq_true rfl⟩) (wd_preV _ hPc hK hDc (va_recv (ci := 0) (q0 := 0) hK hP rfl rfl)) rfl rfl hl.1 rfl (lv_room (Nat.le_of_ble_eq_true rfl)) dX0_init_59 ⟨Nat.le_refl _, Nat.le_refl _⟩) hS (fun q _ h => hFc q h) hFc (fun fi t9 H1 locs ht9 hvm9 hw9 hB9 hz9 hk9 hS => ?_)
  obtain ⟨hP1, hK1, hD1⟩ := hB9
  rw [ht9] at hP1
  obtain ⟨hP, hD⟩ := va_join (wr := [(ar, .inl (cA, tw_P k, .inl (fun _ => 0))), (af, .inl (cA, 14, .inl (fun _ => 0))), (ap, .inl (cA, 2 * tw_P k, .inl (fun _ => 0))), (ah, .inl (cA, 2 * tw_P k, .inl (fun _ => 0))), (ac, .inl (cA, 2 * tw_P k, .inl (fun _ => 0)))]) (w1 := [(h0, .inr (0, [.int (nI (tw_P k)), .int 0, .int 0, .int 0, .ref ai, .ref ar, .ref af, .ref ap, .ref ah, .ref ac, .int 0, .int 0])), (ai, .inl (cA, tw_P k, .inl fi))]) hP hD [0, 1] [2, 3, 4, 5, 6] rfl rfl (by decide) (by decide) hk9 hFc hP1 hD1
  have hP := hP.sub (ws' := [(h0, .inr (0, [.int (nI (tw_P k)), .int 0, .int 0, .int 0, .ref ai, .ref ar, .ref af, .ref ap, .ref ah, .ref ac, .int 0, .int 0])), (ai, .inl (cA, tw_P k, .inl fi)), (ar, .inl (cA, tw_P k, .inl (fun _ => 0))), (af, .inl (cA, 14, .inl (fun _ => 0))), (ap, .inl (cA, 2 * tw_P k, .inl (fun _ => 0))), (ah, .inl (cA, 2 * tw_P k, .inl (fun _ => 0))), (ac, .inl (cA, 2 * tw_P k, .inl (fun _ => 0)))]) [5, 6, 0, 1, 2, 3, 4] rfl
  have hD := hD.sub (ws' := [(h0, .inr (0, [.int (nI (tw_P k)), .int 0, .int 0, .int 0, .ref ai, .ref ar, .ref af, .ref ap, .ref ah, .ref ac, .int 0, .int 0])), (ai, .inl (cA, tw_P k, .inl fi)), (ar, .inl (cA, tw_P k, .inl (fun _ => 0))), (af, .inl (cA, 14, .inl (fun _ => 0))), (ap, .inl (cA, 2 * tw_P k, .inl (fun _ => 0))), (ah, .inl (cA, 2 * tw_P k, .inl (fun _ => 0))), (ac, .inl (cA, 2 * tw_P k, .inl (fun _ => 0)))]) [5, 6, 0, 1, 2, 3, 4] (by decide) rfl
  generalize H1 = H at hP hS hz9 ⊢
  have hfi := hw9
  refine lv_aload_n hx hb dX0_init_62 rfl (lv_at hl 0 rfl) ?_
  have hPc := hP.sub (ws' := [(h0, .inr (0, [.int (nI (tw_P k)), .int 0, .int 0, .int 0, .ref ai, .ref ar, .ref af, .ref ap, .ref ah, .ref ac, .int 0, .int 0])), (ar, .inl (cA, tw_P k, .inl (fun _ => 0)))]) [0, 2] rfl
  have hDc := hD.sub (ws' := [(h0, .inr (0, [.int (nI (tw_P k)), .int 0, .int 0, .int 0, .ref ai, .ref ar, .ref af, .ref ap, .ref ah, .ref ac, .int 0, .int 0])), (ar, .inl (cA, tw_P k, .inl (fun _ => 0)))]) [0, 2] (by decide) rfl
  have hFc := va_free (wc := [(h0, .inr (0, [.int (nI (tw_P k)), .int 0, .int 0, .int 0, .ref ai, .ref ar, .ref af, .ref ap, .ref ah, .ref ac, .int 0, .int 0])), (ar, .inl (cA, tw_P k, .inl (fun _ => 0)))]) hD hS hA [0, 2] rfl
  refine va_callv (va_runV (As := []) (rest := []) ⟨hx, hb, hml, hown, ht⟩ (c_X0_fillRoots l D hk5 (ar := ar) (fs := [.int (nI (tw_P k)), .int 0, .int 0, .int 0, .ref ai, .ref ar, .ref af, .ref ap, .ref ah, .ref ac, .int 0, .int 0]) rfl rfl (f := fun _ => 0) H.size) (cwV 0 ht (tb_V kl_X0_35 ki_X0_fillRoots ks_X0_fillRoots kn_X0 kc_X0_fillRoots) rfl rfl rfl ⟨rfl, kd_X0_fillRoots⟩ ⟨Nat.le_of_ble_eq_true rfl, Nat.le_of_ble_eq_true rfl⟩) (wd_preV _ hPc hK hDc (va_recv (ci := 0) (q0 := 0) hK hP rfl rfl)) rfl rfl hl.1 rfl (lv_room (Nat.le_of_ble_eq_true rfl)) dX0_init_63 ⟨Nat.le_refl _, Nat.le_refl _⟩) hS (fun q _ h => hFc q h) hFc (fun fr t9 H1 locs ht9 hvm9 hw9 hB9 hz9 hk9 hS => ?_)
  obtain ⟨hP1, hK1, hD1⟩ := hB9
  rw [ht9] at hP1
  obtain ⟨hP, hD⟩ := va_join (wr := [(ai, .inl (cA, tw_P k, .inl fi)), (af, .inl (cA, 14, .inl (fun _ => 0))), (ap, .inl (cA, 2 * tw_P k, .inl (fun _ => 0))), (ah, .inl (cA, 2 * tw_P k, .inl (fun _ => 0))), (ac, .inl (cA, 2 * tw_P k, .inl (fun _ => 0)))]) (w1 := [(h0, .inr (0, [.int (nI (tw_P k)), .int 0, .int 0, .int 0, .ref ai, .ref ar, .ref af, .ref ap, .ref ah, .ref ac, .int 0, .int 0])), (ar, .inl (cA, tw_P k, .inl fr))]) hP hD [0, 2] [1, 3, 4, 5, 6] rfl rfl (by decide) (by decide) hk9 hFc hP1 hD1
  have hP := hP.sub (ws' := [(h0, .inr (0, [.int (nI (tw_P k)), .int 0, .int 0, .int 0, .ref ai, .ref ar, .ref af, .ref ap, .ref ah, .ref ac, .int 0, .int 0])), (ai, .inl (cA, tw_P k, .inl fi)), (ar, .inl (cA, tw_P k, .inl fr)), (af, .inl (cA, 14, .inl (fun _ => 0))), (ap, .inl (cA, 2 * tw_P k, .inl (fun _ => 0))), (ah, .inl (cA, 2 * tw_P k, .inl (fun _ => 0))), (ac, .inl (cA, 2 * tw_P k, .inl (fun _ => 0)))]) [5, 0, 6, 1, 2, 3, 4] rfl
  have hD := hD.sub (ws' := [(h0, .inr (0, [.int (nI (tw_P k)), .int 0, .int 0, .int 0, .ref ai, .ref ar, .ref af, .ref ap, .ref ah, .ref ac, .int 0, .int 0])), (ai, .inl (cA, tw_P k, .inl fi)), (ar, .inl (cA, tw_P k, .inl fr)), (af, .inl (cA, 14, .inl (fun _ => 0))), (ap, .inl (cA, 2 * tw_P k, .inl (fun _ => 0))), (ah, .inl (cA, 2 * tw_P k, .inl (fun _ => 0))), (ac, .inl (cA, 2 * tw_P k, .inl (fun _ => 0)))]) [5, 0, 6, 1, 2, 3, 4] (by decide) rfl
  generalize H1 = H at hP hS hz9 ⊢
  have hfr := hw9
  refine lv_aload_n hx hb dX0_init_66 rfl (lv_at hl 0 rfl) ?_
  refine lv_aload_n hx hb dX0_init_67 rfl (lv_at hl 0 rfl) ?_
  have hPc := hP.sub (ws' := [(h0, .inr (0, [.int (nI (tw_P k)), .int 0, .int 0, .int 0, .ref ai, .ref ar, .ref af, .ref ap, .ref ah, .ref ac, .int 0, .int 0])), (ar, .inl (cA, tw_P k, .inl fr))]) [0, 2] rfl
  refine vp_callSi (W.runV (As := []) (rest := [.ref h0]) ⟨hx, hb, hml, hown, ht⟩ (c_X0_leastNonSquare l D hk5 (ar := ar) (cA := cA) (fs := [.int (nI (tw_P k)), .int 0, .int 0, .int 0, .ref ai, .ref ar, .ref af, .ref ap, .ref ah, .ref ac, .int 0, .int 0]) rfl rfl hfr) (cwV 0 ht (tb_V kl_X0_38 ki_X0_leastNonSquare ks_X0_leastNonSquare kn_X0 kc_X0_leastNonSquare) rfl rfl rfl ⟨rfl, kd_X0_leastNonSquare⟩ ⟨Nat.le_of_ble_eq_true rfl, Nat.le_of_ble_eq_true rfl⟩) (ro_preV _ hPc hK (va_recv (ci := 0) (q0 := 0) hK hP rfl rfl)) rfl rfl hl.1 rfl (lv_room (Nat.le_of_ble_eq_true rfl)) dX0_init_68 ⟨Nat.le_refl _, Nat.le_refl _⟩) (fun r hr9 => ?_)
  subst hr9
  refine va_putF (D := D) (ci := 0) (v := .int (nI (tw_D k))) (ty := .int) (C := RX0) (T := TX0) (N := 12) hx hb ht inX0 tyX0 tyX0_ok nmX0 hown hK hP hD hS 0 rfl rfl 1 (by decide) (ht _ kf_X0_42) (fun _ h9 => h9) rfl hin rfl (by decide +kernel) rfl rfl (Nat.le_of_ble_eq_true rfl) dX0_init_71 (fun H locs hP hD hS => ?_)
  have hP : va_P D vwCl [(h0, .inr (0, [.int (nI (tw_P k)), .int (nI (tw_D k)), .int 0, .int 0, .ref ai, .ref ar, .ref af, .ref ap, .ref ah, .ref ac, .int 0, .int 0])), (ai, .inl (cA, tw_P k, .inl fi)), (ar, .inl (cA, tw_P k, .inl fr)), (af, .inl (cA, 14, .inl (fun _ => 0))), (ap, .inl (cA, 2 * tw_P k, .inl (fun _ => 0))), (ah, .inl (cA, 2 * tw_P k, .inl (fun _ => 0))), (ac, .inl (cA, 2 * tw_P k, .inl (fun _ => 0)))] H := hP
  have hD : va_D A [(h0, .inr (0, [.int (nI (tw_P k)), .int (nI (tw_D k)), .int 0, .int 0, .ref ai, .ref ar, .ref af, .ref ap, .ref ah, .ref ac, .int 0, .int 0])), (ai, .inl (cA, tw_P k, .inl fi)), (ar, .inl (cA, tw_P k, .inl fr)), (af, .inl (cA, 14, .inl (fun _ => 0))), (ap, .inl (cA, 2 * tw_P k, .inl (fun _ => 0))), (ah, .inl (cA, 2 * tw_P k, .inl (fun _ => 0))), (ac, .inl (cA, 2 * tw_P k, .inl (fun _ => 0)))] := hD
  refine lv_aload_n hx hb dX0_init_74 rfl (lv_at hl 0 rfl) ?_
  refine lv_aload_n hx hb dX0_init_75 rfl (lv_at hl 0 rfl) ?_
  refine va_get (D := D) (ci := 0) (v := .ref ar) (C := RX0) (T := TX0) (N := 12) hx hb ht inX0 hown hK hP 0 rfl rfl 5 (by decide) (ht _ kf_X0_17) (fun _ h9 => h9) rfl dX0_init_76 ?_
  refine lv_iload_n hx hb dX0_init_79 rfl (lv_at hl 1 rfl) ?_
  refine lv_iconst (v := (nI 1)) hx hb dX0_init_80 (by decide) ?_
  refine nv_isub hx hb dX0_init_81 hP0 ?_
  refine nv_iald (A := fun _ => True) (H0 := s.heap) hx hb hK hP 2 0 rfl rfl (by omega) (nv_le hP2 (by decide)) dX0_init_82 ?_
  have e9 : fr (tw_P k - 1) = nI (tw_I k) := by rw [hfr _ (by omega)]; unfold tw_rv; rw [tw_rt_m1 hK0 (tw_Ik k hk5)]
  rw [e9]
  refine va_putF (D := D) (ci := 0) (v := .int (nI (tw_I k))) (ty := .int) (C := RX0) (T := TX0) (N := 12) hx hb ht inX0 tyX0 tyX0_ok nmX0 hown hK hP hD hS 0 rfl rfl 2 (by decide) (ht _ kf_X0_45) (fun _ h9 => h9) rfl hin rfl (by decide +kernel) rfl rfl (Nat.le_of_ble_eq_true rfl) dX0_init_83 (fun H locs hP hD hS => ?_)
  have hP : va_P D vwCl [(h0, .inr (0, [.int (nI (tw_P k)), .int (nI (tw_D k)), .int (nI (tw_I k)), .int 0, .ref ai, .ref ar, .ref af, .ref ap, .ref ah, .ref ac, .int 0, .int 0])), (ai, .inl (cA, tw_P k, .inl fi)), (ar, .inl (cA, tw_P k, .inl fr)), (af, .inl (cA, 14, .inl (fun _ => 0))), (ap, .inl (cA, 2 * tw_P k, .inl (fun _ => 0))), (ah, .inl (cA, 2 * tw_P k, .inl (fun _ => 0))), (ac, .inl (cA, 2 * tw_P k, .inl (fun _ => 0)))] H := hP
  have hD : va_D A [(h0, .inr (0, [.int (nI (tw_P k)), .int (nI (tw_D k)), .int (nI (tw_I k)), .int 0, .ref ai, .ref ar, .ref af, .ref ap, .ref ah, .ref ac, .int 0, .int 0])), (ai, .inl (cA, tw_P k, .inl fi)), (ar, .inl (cA, tw_P k, .inl fr)), (af, .inl (cA, 14, .inl (fun _ => 0))), (ap, .inl (cA, 2 * tw_P k, .inl (fun _ => 0))), (ah, .inl (cA, 2 * tw_P k, .inl (fun _ => 0))), (ac, .inl (cA, 2 * tw_P k, .inl (fun _ => 0)))] := hD
  refine lv_aload_n hx hb dX0_init_86 rfl (lv_at hl 0 rfl) ?_
  refine lv_aload_n hx hb dX0_init_87 rfl (lv_at hl 0 rfl) ?_
  have hP : va_P D vwCl (cv_W h0 ai ar af ap ah ac cA k 0 0 0 fi fr (fun _ => 0) (fun _ => 0) (fun _ => 0) (fun _ => 0)) H := hP
  refine vp_callSi (W.runV (As := []) (rest := [.ref h0]) ⟨hx, hb, hml, hown, ht⟩ (c_X0_countPoints l D hk5) (cwV 0 ht (tb_V kl_X0_48 ki_X0_countPoints ks_X0_countPoints kn_X0 kc_X0_countPoints) rfl rfl rfl ⟨rfl, kd_X0_countPoints⟩ ⟨Nat.le_of_ble_eq_true rfl, Nat.le_of_ble_eq_true rfl⟩) (cv_preH hP hK hfi hfr _) rfl rfl hl.1 rfl (lv_room (Nat.le_of_ble_eq_true rfl)) dX0_init_88 ⟨Nat.le_refl _, Nat.le_refl _⟩) (fun r hr9 => ?_)
  subst hr9
  refine va_putF (D := D) (ci := 0) (v := .int (nI (tw_N k))) (ty := .int) (C := RX0) (T := TX0) (N := 12) hx hb ht inX0 tyX0 tyX0_ok nmX0 hown hK hP hD hS 0 rfl rfl 3 (by decide) (ht _ kf_X0_51) (fun _ h9 => h9) rfl hin rfl (by decide +kernel) rfl rfl (Nat.le_of_ble_eq_true rfl) dX0_init_91 (fun H locs hP hD hS => ?_)
  have hP : va_P D vwCl [(h0, .inr (0, [.int (nI (tw_P k)), .int (nI (tw_D k)), .int (nI (tw_I k)), .int (nI (tw_N k)), .ref ai, .ref ar, .ref af, .ref ap, .ref ah, .ref ac, .int 0, .int 0])), (ai, .inl (cA, tw_P k, .inl fi)), (ar, .inl (cA, tw_P k, .inl fr)), (af, .inl (cA, 14, .inl (fun _ => 0))), (ap, .inl (cA, 2 * tw_P k, .inl (fun _ => 0))), (ah, .inl (cA, 2 * tw_P k, .inl (fun _ => 0))), (ac, .inl (cA, 2 * tw_P k, .inl (fun _ => 0)))] H := hP
  have hD : va_D A [(h0, .inr (0, [.int (nI (tw_P k)), .int (nI (tw_D k)), .int (nI (tw_I k)), .int (nI (tw_N k)), .ref ai, .ref ar, .ref af, .ref ap, .ref ah, .ref ac, .int 0, .int 0])), (ai, .inl (cA, tw_P k, .inl fi)), (ar, .inl (cA, tw_P k, .inl fr)), (af, .inl (cA, 14, .inl (fun _ => 0))), (ap, .inl (cA, 2 * tw_P k, .inl (fun _ => 0))), (ah, .inl (cA, 2 * tw_P k, .inl (fun _ => 0))), (ac, .inl (cA, 2 * tw_P k, .inl (fun _ => 0)))] := hD
  refine lv_aload_n hx hb dX0_init_94 rfl (lv_at hl 0 rfl) ?_
  have hPc := hP.sub (ws' := [(h0, .inr (0, [.int (nI (tw_P k)), .int (nI (tw_D k)), .int (nI (tw_I k)), .int (nI (tw_N k)), .ref ai, .ref ar, .ref af, .ref ap, .ref ah, .ref ac, .int 0, .int 0])), (af, .inl (cA, 14, .inl (fun _ => 0)))]) [0, 3] rfl
  have hDc := hD.sub (ws' := [(h0, .inr (0, [.int (nI (tw_P k)), .int (nI (tw_D k)), .int (nI (tw_I k)), .int (nI (tw_N k)), .ref ai, .ref ar, .ref af, .ref ap, .ref ah, .ref ac, .int 0, .int 0])), (af, .inl (cA, 14, .inl (fun _ => 0)))]) [0, 3] (by decide) rfl
  have hFc := va_free (wc := [(h0, .inr (0, [.int (nI (tw_P k)), .int (nI (tw_D k)), .int (nI (tw_I k)), .int (nI (tw_N k)), .ref ai, .ref ar, .ref af, .ref ap, .ref ah, .ref ac, .int 0, .int 0])), (af, .inl (cA, 14, .inl (fun _ => 0)))]) hD hS hA [0, 3] rfl
  refine va_callv (va_runV (As := []) (rest := []) ⟨hx, hb, hml, hown, ht⟩ (c_X0_fillFactors l D hk5 (af := af) H.size) (cwV 0 ht (tb_V kl_X0_54 ki_X0_fillFactors ks_X0_fillFactors kn_X0 kc_X0_fillFactors) rfl rfl rfl ⟨rfl, kd_X0_fillFactors⟩ ⟨Nat.le_of_ble_eq_true rfl, Nat.le_of_ble_eq_true rfl⟩) (wd_preV _ hPc hK hDc (va_recv (ci := 0) (q0 := 0) hK hP rfl rfl)) rfl rfl hl.1 rfl (lv_room (Nat.le_of_ble_eq_true rfl)) dX0_init_95 ⟨Nat.le_refl _, Nat.le_refl _⟩) hS (fun q _ h => hFc q h) hFc (fun ff t9 H1 locs ht9 hvm9 hw9 hB9 hz9 hk9 hS => ?_)
  obtain ⟨hP1, hK1, hD1⟩ := hB9
  rw [ht9] at hP1
  obtain ⟨hP, hD⟩ := va_join (wr := [(ai, .inl (cA, tw_P k, .inl fi)), (ar, .inl (cA, tw_P k, .inl fr)), (ap, .inl (cA, 2 * tw_P k, .inl (fun _ => 0))), (ah, .inl (cA, 2 * tw_P k, .inl (fun _ => 0))), (ac, .inl (cA, 2 * tw_P k, .inl (fun _ => 0)))]) (w1 := [(h0, .inr (0, [.int (nI (tw_P k)), .int (nI (tw_D k)), .int (nI (tw_I k)), .int (nI (tw_N k)), .ref ai, .ref ar, .ref af, .ref ap, .ref ah, .ref ac, .int (nI (tw_fs k).length), .int 0])), (af, .inl (cA, 14, .inl ff))]) hP hD [0, 3] [1, 2, 4, 5, 6] rfl rfl (by decide) (by decide) hk9 hFc hP1 hD1
  have hP := hP.sub (ws' := [(h0, .inr (0, [.int (nI (tw_P k)), .int (nI (tw_D k)), .int (nI (tw_I k)), .int (nI (tw_N k)), .ref ai, .ref ar, .ref af, .ref ap, .ref ah, .ref ac, .int (nI (tw_fs k).length), .int 0])), (ai, .inl (cA, tw_P k, .inl fi)), (ar, .inl (cA, tw_P k, .inl fr)), (af, .inl (cA, 14, .inl ff)), (ap, .inl (cA, 2 * tw_P k, .inl (fun _ => 0))), (ah, .inl (cA, 2 * tw_P k, .inl (fun _ => 0))), (ac, .inl (cA, 2 * tw_P k, .inl (fun _ => 0)))]) [5, 0, 1, 6, 2, 3, 4] rfl
  have hD := hD.sub (ws' := [(h0, .inr (0, [.int (nI (tw_P k)), .int (nI (tw_D k)), .int (nI (tw_I k)), .int (nI (tw_N k)), .ref ai, .ref ar, .ref af, .ref ap, .ref ah, .ref ac, .int (nI (tw_fs k).length), .int 0])), (ai, .inl (cA, tw_P k, .inl fi)), (ar, .inl (cA, tw_P k, .inl fr)), (af, .inl (cA, 14, .inl ff)), (ap, .inl (cA, 2 * tw_P k, .inl (fun _ => 0))), (ah, .inl (cA, 2 * tw_P k, .inl (fun _ => 0))), (ac, .inl (cA, 2 * tw_P k, .inl (fun _ => 0)))]) [5, 0, 1, 6, 2, 3, 4] (by decide) rfl
  generalize H1 = H at hP hS hz9 ⊢
  refine W.widen (k := 6) (n := 8 * tw_P k + 14) (Nat.le_refl _) (Nat.le_refl _) ?_
  exact W.vret hx hb hr (fun t ht9 hW => ⟨⟨(), rfl, rfl, ai, ar, af, ap, ah, ac, cA, fi, fr, ff, ⟨by rw [ht9]; exact hP, va_K.moved hW.alike hK, hD⟩, hfi, hfr, hw9⟩, hS.F ht9⟩) hS.2.2 dX0_init_98
