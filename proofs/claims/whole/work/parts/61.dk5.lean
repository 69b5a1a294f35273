/-! the desk is made, and begun -/
theorem wz_preV {tp : Nat} {D : va_G} {tys : List (ClassId × FieldType)} {WS : va_W} {A A1 : Nat → Prop} {s : State} {H : Heap} {locs : List Loc} {C : String} {b : Nat} (As : List Value) (hP : va_P D vwCl WS H) (hK : va_K D vwCl tys s) (hD : va_D A1 WS) (hZ : tw_Z tp A s s.heap) (hS : va_S A s.heap H locs) (hF : ∀ q, va_A WS H.size q → A q) (hc : ∃ cell : Cell, H[b]? = some cell ∧ cell.vm.isStatics = false ∧ s.vm.findClass C = some cell.cls) : PreV s H C b (va_Pc (.ref b :: As) (wz_pre tp D tys WS H.size)) As :=
  ⟨fun a U g mk q => ⟨q.1, ⟨q.2.1.1, q.2.1.2.1, va_K.moved (u := U) (U := U.calling g mk a) (Vm.Alike.refl U.vm) q.2.1.2.2.1, q.2.1.2.2.2⟩, tw_Z.moved (u := U) (U := U.calling g mk a) (Vm.Alike.refl U.vm) q.2.2⟩, hc, fun U hU hW => ⟨rfl, ⟨by rw [hU], by rw [hU]; exact hP, va_K.moved hW.alike hK, hD.weaken (fun _ _ _ _ => trivial)⟩, by rw [hU]; exact tw_Z.moved hW.alike ((hZ.kept hS.2.1).narrow hF)⟩⟩
def wa_pre (tp : Nat) (D : va_G) (tys : List (ClassId × FieldType)) (WS : va_W) (sz : Nat) (U : State) : Prop := wz_pre tp D tys WS sz U ∧ va_AO RX0 U
def dk_new (D : va_G) (d0 : Nat) (A : Nat → Prop) (t : State) : Prop := ∃ (dc dr : Nat) (cA cQ : ClassId) (u : Nat → Int32), (∀ j, j < 12 → u j = nI 1) ∧ dk_open D 0 d0 dc dr cA cQ (fun _ => none) A u t
set_option maxHeartbeats 4000000 in
set_option maxRecDepth 100000 in
theorem c_X1_init (l : Launch) (tp : Nat) (D : va_G) {d0 : Nat} (sz : Nat) : Met l yX1_init wX1_init ({ frames := 4, cells := 9, slots := 147, locals := 88 }) (va_Pc [.ref d0] (wa_pre tp D [] [(d0, .inr (1, [.null, .null, .int 0, .null]))] sz)) (va_Qv (fun (u : Unit) => u = ()) (fun (_ : Unit) t => dk_new D d0 (va_A [(d0, .inr (1, [.null, .null, .int 0, .null]))] sz) t) (va_A [(d0, .inr (1, [.null, .null, .int 0, .null]))] sz)) 9 147 (va_A [(d0, .inr (1, [.null, .null, .int 0, .null]))] sz) := by
  refine Met.ofW (cc := cX1_init) (maxL := 1) (ret := none) (by decide) rfl ?_
  intro p e s m args below meth c s₁ B hml hv
  obtain ⟨rfl, ⟨⟨hsz, hP, hK, hD0⟩, hZ⟩, hAO⟩ := hv
  have hx := B.exec
  have hb := B.bytes
  have hr := B.returns
  have hts := atoms_spec (ws := wX1_init) B.pre
  have ht : ∀ w ∈ tb_all, w.before _ s = true := fun w h => hts w (List.mem_cons_of_mem _ h)
  have hown : s.vm.findClass RX1 = some m.cls := findClass_of_methodNamed B.named
  have hlocks := B.notSynchronized
  have hin : meth.name = "<init>" := (name_of_methodNamed B.named B.method).1
  subst hsz
  have hD := hD0.self (sz := s.heap.size)
  generalize hAe : va_A [(d0, .inr (1, [.null, .null, .int 0, .null]))] s.heap.size = A at hD hZ ⊢
  have hA : ∀ q : Nat, s.heap.size ≤ q → A q := fun q h => by rw [← hAe]; exact Or.inr h
  have hS : va_S A s.heap s.heap [] := va_S.rf
  have hl := lv_entry ([.ref d0]) (n := 1) (Nat.le_of_ble_eq_true rfl)
  rw [lg_entry_eq]
  generalize (lg_sl ([.ref d0]) ++ List.replicate (1 - (lg_sl ([.ref d0])).length) Slot.unset).toArray = ls at hl ⊢
  have hl : lv_has ls 1 [(0, .ref d0)] := hl
  refine lv_aload_n hx hb dX1_init_0 rfl (lv_at hl 0 rfl) ?_
  refine W.objInit hx hb hown (ht _ kl_X1_3) (ht _ ki_obj) (ht _ kc_obj) rfl (by rw [hml]; exact hl.1) rfl dX1_init_1 (Nat.le_of_ble_eq_true rfl) (Nat.le_of_ble_eq_true rfl) ?_
  refine W.eq (g2 := F0 m 4 ls []) rfl ?_
  refine lv_aload_n hx hb dX1_init_4 rfl (lv_at hl 0 rfl) ?_
  refine va_gets hx hb hZ.1 hS hown (ht _ kf_X1_9) (fun _ h9 => h9) dX1_init_5 ?_
  refine va_tlen (v := nI 5) hx hb hZ.2 hS rfl dX1_init_8 ?_
  refine va_newq (own := RX1) (C := RX0) (n := nI 5) (N' := 5) hx hb hown (ht _ kk_X1_13) hAO hK hP hD hS hA (nI_pos (by decide)) (nI_clamp (by decide)) (by decide) (Nat.le_of_ble_eq_true rfl) (Nat.le_of_ble_eq_true rfl) dX1_init_9 (fun dc cQ H hK hP hD hS => ?_)
  have hK : va_K D vwCl [(cQ, .object RX0)] s := hK
  have hP : va_P D vwCl [(d0, .inr (1, [.null, .null, .int 0, .null])), (dc, .inl (cQ, 5, .inr (.inr (.inr (.inr (fun _ => none))))))] H := hP
  have hD : va_D A [(d0, .inr (1, [.null, .null, .int 0, .null])), (dc, .inl (cQ, 5, .inr (.inr (.inr (.inr (fun _ => none))))))] := hD
  refine va_putF (D := D) (ci := 1) (v := .ref dc) (ty := (.array (.object "TwistDesk$Curve"))) (C := RX1) (T := TX1) (N := 4) hx hb ht inX1 tyX1 tyX1_ok nmX1 hown hK hP hD hS 0 rfl rfl 0 (by decide) (ht _ kf_X1_15) (fun _ h9 => h9) rfl hin rfl (by decide +kernel) rfl rfl (Nat.le_of_ble_eq_true rfl) dX1_init_12 (fun H locs hP hD hS => ?_)
  have hP : va_P D vwCl [(d0, .inr (1, [.ref dc, .null, .int 0, .null])), (dc, .inl (cQ, 5, .inr (.inr (.inr (.inr (fun _ => none))))))] H := hP
  have hD : va_D A [(d0, .inr (1, [.ref dc, .null, .int 0, .null])), (dc, .inl (cQ, 5, .inr (.inr (.inr (.inr (fun _ => none))))))] := hD
  refine lv_aload_n hx hb dX1_init_15 rfl (lv_at hl 0 rfl) ?_
  refine lv_bipush (v := (nI 12)) hx hb dX1_init_16 (by decide) ?_
  refine va_newa (atype := .int) (ty := .int) (n := nI 12) (N' := 12) (a0 := (12, .inl (fun _ => 0))) hx hb (ht _ ka_int) rfl hK hP hD hS hA (fun _ => rfl) (nI_pos (by decide)) (nI_clamp (by decide)) (by decide) (Nat.le_of_ble_eq_true rfl) (Nat.le_of_ble_eq_true rfl) dX1_init_18 (fun dr cA H hK hP hD hS => ?_)
  have hK := hK.sub (tys' := [(cA, .int), (cQ, .object RX0)]) [1, 0] rfl
  have hP : va_P D vwCl [(d0, .inr (1, [.ref dc, .null, .int 0, .null])), (dc, .inl (cQ, 5, .inr (.inr (.inr (.inr (fun _ => none)))))), (dr, .inl (cA, 12, .inl (fun _ => 0)))] H := hP
  have hD : va_D A [(d0, .inr (1, [.ref dc, .null, .int 0, .null])), (dc, .inl (cQ, 5, .inr (.inr (.inr (.inr (fun _ => none)))))), (dr, .inl (cA, 12, .inl (fun _ => 0)))] := hD
  refine va_putF (D := D) (ci := 1) (v := .ref dr) (ty := (.array .int)) (C := RX1) (T := TX1) (N := 4) hx hb ht inX1 tyX1 tyX1_ok nmX1 hown hK hP hD hS 0 rfl rfl 1 (by decide) (ht _ kf_X1_19) (fun _ h9 => h9) rfl hin rfl (by decide +kernel) rfl rfl (Nat.le_of_ble_eq_true rfl) dX1_init_20 (fun H locs hP hD hS => ?_)
  have hP : va_P D vwCl [(d0, .inr (1, [.ref dc, .ref dr, .int 0, .null])), (dc, .inl (cQ, 5, .inr (.inr (.inr (.inr (fun _ => none)))))), (dr, .inl (cA, 12, .inl (fun _ => 0)))] H := hP
  have hD : va_D A [(d0, .inr (1, [.ref dc, .ref dr, .int 0, .null])), (dc, .inl (cQ, 5, .inr (.inr (.inr (.inr (fun _ => none)))))), (dr, .inl (cA, 12, .inl (fun _ => 0)))] := hD
  refine lv_aload_n hx hb dX1_init_23 rfl (lv_at hl 0 rfl) ?_
  refine lv_iconst (v := (nI 0)) hx hb dX1_init_24 (by decide) ?_
  have hPc := hP.sub (ws' := [(d0, .inr (1, [.ref dc, .ref dr, .int 0, .null])), (dc, .inl (cQ, 5, .inr (.inr (.inr (.inr (fun _ => none)))))), (dr, .inl (cA, 12, .inl (fun _ => 0)))]) [0, 1, 2] rfl
  have hDc := hD.sub (ws' := [(d0, .inr (1, [.ref dc, .ref dr, .int 0, .null])), (dc, .inl (cQ, 5, .inr (.inr (.inr (.inr (fun _ => none)))))), (dr, .inl (cA, 12, .inl (fun _ => 0)))]) [0, 1, 2] (by decide) rfl
  have hFc := va_free (wc := [(d0, .inr (1, [.ref dc, .ref dr, .int 0, .null])), (dc, .inl (cQ, 5, .inr (.inr (.inr (.inr (fun _ => none)))))), (dr, .inl (cA, 12, .inl (fun _ => 0)))]) hD hS hA [0, 1, 2] rfl
  refine va_callv (va_runV (As := [.int (nI 0)]) (rest := []) ⟨hx, hb, hml, hown, ht⟩ (c_X1_openN l tp D (k := 0) (by decide) (F := fun _ => none) rfl H.size) (cwV 1 ht (tb_V kl_X1_22 ki_X1_open ks_X1_open kn_X1 kc_X1_open) rfl rfl rfl ⟨rfl, kd_X1_open⟩ ⟨Nat.le_of_ble_eq_true rfl, Nat.le_of_ble_eq_true rfl⟩) (wz_preV _ hPc hK hDc hZ hS hFc (va_recv (ci := 1) (q0 := 0) hK hP rfl rfl)) rfl rfl hl.1 rfl (lv_room (Nat.le_of_ble_eq_true rfl)) dX1_init_25 ⟨Nat.le_of_ble_eq_true rfl, Nat.le_of_ble_eq_true rfl⟩) hS (fun q _ h => hFc q h) hFc (fun u9 t9 H1 locs ht9 hvm9 hw9 hB9 hz9 hk9 hS => ?_)
  obtain ⟨h0, ai, ar, af, ap, ah, ac, fi, fr, ff, ⟨hP1, hK1, hD1⟩, hok⟩ := hB9
  rw [ht9] at hP1
  refine W.widen (k := 9) (n := 147) (Nat.le_of_ble_eq_true rfl) (Nat.le_of_ble_eq_true rfl) ?_
  exact W.vret hx hb hr (fun t ht8 hW => ⟨⟨(), rfl, rfl, dc, dr, cA, cQ, u9, hw9, h0, ai, ar, af, ap, ah, ac, fi, fr, ff, ⟨by rw [ht8]; exact hP1, va_K.moved hW.alike hK, hD1.weaken (fun _ _ _ h => hFc _ h)⟩, hok⟩, hS.F ht8⟩) hS.2.2 dX1_init_28
set_option maxHeartbeats 4000000 in
set_option maxRecDepth 100000 in
theorem c_X1_beginS (l : Launch) (tp : Nat) (D : va_G) {k : Nat} (hk5 : k < 5) {d0 dc dr : Nat} {cA cQ : ClassId} {kd : Int32} {vc : Value} {F : Nat → Option Nat} {rg : Nat → Int32} {h0 ai ar af ap ah ac : Nat} {hk : Int32} {fi fr ff fp fh fn : Nat → Int32} (hF : F k = some h0) (sz : Nat) : Met l yX1_begin wX1_begin ({ frames := 2, cells := 0, slots := 0, locals := 45 }) (va_Pc [.ref d0, .int (nI k)] (wz_pre tp D [(cA, .int), (cQ, .object RX0)] [(d0, .inr (1, [.ref dc, .ref dr, .int kd, vc])), (dc, .inl (cQ, 5, .inr (.inr (.inr (.inr F))))), (dr, .inl (cA, 12, .inl rg)), (h0, .inr (0, [.int (nI (tw_P k)), .int (nI (tw_D k)), .int (nI (tw_I k)), .int (nI (tw_N k)), .ref ai, .ref ar, .ref af, .ref ap, .ref ah, .ref ac, .int (nI ((tw_fs k).length)), .int hk])), (ai, .inl (cA, tw_P k, .inl fi)), (ar, .inl (cA, tw_P k, .inl fr)), (af, .inl (cA, 14, .inl ff)), (ap, .inl (cA, 2 * tw_P k, .inl fp)), (ah, .inl (cA, 2 * tw_P k, .inl fh)), (ac, .inl (cA, 2 * tw_P k, .inl fn))] sz)) (va_Qi (fun (r : Int32) (u : Nat → Int32) => r = nI (tw_P k) ∧ ∀ j, j < 12 → u j = nI 1) (fun (u : Nat → Int32) t => wd_at D [(cA, .int), (cQ, .object RX0)] (va_A [(d0, .inr (1, [.ref dc, .ref dr, .int kd, vc])), (dc, .inl (cQ, 5, .inr (.inr (.inr (.inr F))))), (dr, .inl (cA, 12, .inl rg)), (h0, .inr (0, [.int (nI (tw_P k)), .int (nI (tw_D k)), .int (nI (tw_I k)), .int (nI (tw_N k)), .ref ai, .ref ar, .ref af, .ref ap, .ref ah, .ref ac, .int (nI ((tw_fs k).length)), .int hk])), (ai, .inl (cA, tw_P k, .inl fi)), (ar, .inl (cA, tw_P k, .inl fr)), (af, .inl (cA, 14, .inl ff)), (ap, .inl (cA, 2 * tw_P k, .inl fp)), (ah, .inl (cA, 2 * tw_P k, .inl fh)), (ac, .inl (cA, 2 * tw_P k, .inl fn))] sz) [(d0, .inr (1, [.ref dc, .ref dr, .int (nI k), .ref h0])), (dc, .inl (cQ, 5, .inr (.inr (.inr (.inr F))))), (dr, .inl (cA, 12, .inl u)), (h0, .inr (0, [.int (nI (tw_P k)), .int (nI (tw_D k)), .int (nI (tw_I k)), .int (nI (tw_N k)), .ref ai, .ref ar, .ref af, .ref ap, .ref ah, .ref ac, .int (nI ((tw_fs k).length)), .int hk])), (ai, .inl (cA, tw_P k, .inl fi)), (ar, .inl (cA, tw_P k, .inl fr)), (af, .inl (cA, 14, .inl ff)), (ap, .inl (cA, 2 * tw_P k, .inl fp)), (ah, .inl (cA, 2 * tw_P k, .inl fh)), (ac, .inl (cA, 2 * tw_P k, .inl fn))] t) (va_A [(d0, .inr (1, [.ref dc, .ref dr, .int kd, vc])), (dc, .inl (cQ, 5, .inr (.inr (.inr (.inr F))))), (dr, .inl (cA, 12, .inl rg)), (h0, .inr (0, [.int (nI (tw_P k)), .int (nI (tw_D k)), .int (nI (tw_I k)), .int (nI (tw_N k)), .ref ai, .ref ar, .ref af, .ref ap, .ref ah, .ref ac, .int (nI ((tw_fs k).length)), .int hk])), (ai, .inl (cA, tw_P k, .inl fi)), (ar, .inl (cA, tw_P k, .inl fr)), (af, .inl (cA, 14, .inl ff)), (ap, .inl (cA, 2 * tw_P k, .inl fp)), (ah, .inl (cA, 2 * tw_P k, .inl fh)), (ac, .inl (cA, 2 * tw_P k, .inl fn))] sz)) 0 0 (va_A [(d0, .inr (1, [.ref dc, .ref dr, .int kd, vc])), (dc, .inl (cQ, 5, .inr (.inr (.inr (.inr F))))), (dr, .inl (cA, 12, .inl rg)), (h0, .inr (0, [.int (nI (tw_P k)), .int (nI (tw_D k)), .int (nI (tw_I k)), .int (nI (tw_N k)), .ref ai, .ref ar, .ref af, .ref ap, .ref ah, .ref ac, .int (nI ((tw_fs k).length)), .int hk])), (ai, .inl (cA, tw_P k, .inl fi)), (ar, .inl (cA, tw_P k, .inl fr)), (af, .inl (cA, 14, .inl ff)), (ap, .inl (cA, 2 * tw_P k, .inl fp)), (ah, .inl (cA, 2 * tw_P k, .inl fh)), (ac, .inl (cA, 2 * tw_P k, .inl fn))] sz) := by
  refine Met.ofW (cc := cX1_begin) (maxL := 2) (ret := (some .int)) (by decide) rfl ?_
  intro p e s m args below meth c s₁ B hml hv
  obtain ⟨rfl, ⟨hsz, hP, hK, hD0⟩, hZ⟩ := hv
  have hx := B.exec
  have hb := B.bytes
  have hr := B.returns
  have hts := atoms_spec (ws := wX1_begin) B.pre
  have ht : ∀ w ∈ tb_all, w.before _ s = true := fun w h => hts w (List.mem_cons_of_mem _ h)
  have hown : s.vm.findClass RX1 = some m.cls := findClass_of_methodNamed B.named
  have hlocks := B.notSynchronized
  have hin : meth.name = "begin" := (name_of_methodNamed B.named B.method).1
  subst hsz
  have hD := hD0.self (sz := s.heap.size)
  generalize hAe : va_A [(d0, .inr (1, [.ref dc, .ref dr, .int kd, vc])), (dc, .inl (cQ, 5, .inr (.inr (.inr (.inr F))))), (dr, .inl (cA, 12, .inl rg)), (h0, .inr (0, [.int (nI (tw_P k)), .int (nI (tw_D k)), .int (nI (tw_I k)), .int (nI (tw_N k)), .ref ai, .ref ar, .ref af, .ref ap, .ref ah, .ref ac, .int (nI ((tw_fs k).length)), .int hk])), (ai, .inl (cA, tw_P k, .inl fi)), (ar, .inl (cA, tw_P k, .inl fr)), (af, .inl (cA, 14, .inl ff)), (ap, .inl (cA, 2 * tw_P k, .inl fp)), (ah, .inl (cA, 2 * tw_P k, .inl fh)), (ac, .inl (cA, 2 * tw_P k, .inl fn))] s.heap.size = A at hD hZ ⊢
  have hA : ∀ q : Nat, s.heap.size ≤ q → A q := fun q h => by rw [← hAe]; exact Or.inr h
  have hS : va_S A s.heap s.heap [] := va_S.rf
  have hl := lv_entry ([.ref d0, .int (nI k)]) (n := 2) (Nat.le_of_ble_eq_true rfl)
  rw [lg_entry_eq]
  generalize (lg_sl ([.ref d0, .int (nI k)]) ++ List.replicate (2 - (lg_sl ([.ref d0, .int (nI k)])).length) Slot.unset).toArray = ls at hl ⊢
  have hl : lv_has ls 2 [(0, .ref d0), (1, .int (nI k))] := hl
  obtain ⟨hP0, hP2, hD2, hI2, hDP⟩ := tw_kb hk5
  have hK0 := tw_kK k hk5
  have hP8 : tw_P k ≤ 8192 := by omega
  have hN := tw_kN k hk5
  have zk : k ≤ 4 := by omega
  have ek : (nI k).toNatClampNeg = k := nI_clamp (by omega)
  refine lv_iload_n hx hb dX1_begin_0 rfl (lv_at hl 1 rfl) ?_
  refine nv_if_lt (tgt := 12) hx hb dX1_begin_1 (by decide) (nv_le (b := 4) zk (by decide)) ?_
  refine lv_iload_n hx hb dX1_begin_4 rfl (lv_at hl 1 rfl) ?_
  refine va_gets hx hb hZ.1 hS hown (ht _ kf_X1_9) (fun _ h9 => h9) dX1_begin_5 ?_
  refine va_tlen (v := nI 5) hx hb hZ.2 hS rfl dX1_begin_8 ?_
  refine nv_icmp_lt (tgt := 22) hx hb dX1_begin_9 (by decide) (nv_le (b := 4) zk (by decide)) (nv_le (b := 5) (Nat.le_refl 5) (by decide)) (fun c9 => ?_) (fun c9 => ?_)
  · refine lv_aload_n hx hb dX1_begin_22 rfl (lv_at hl 0 rfl) ?_
    refine lv_iload_n hx hb dX1_begin_23 rfl (lv_at hl 1 rfl) ?_
    have hPc := hP.sub (ws' := [(d0, .inr (1, [.ref dc, .ref dr, .int kd, vc])), (dc, .inl (cQ, 5, .inr (.inr (.inr (.inr F))))), (dr, .inl (cA, 12, .inl rg))]) [0, 1, 2] rfl
    have hDc := hD.sub (ws' := [(d0, .inr (1, [.ref dc, .ref dr, .int kd, vc])), (dc, .inl (cQ, 5, .inr (.inr (.inr (.inr F))))), (dr, .inl (cA, 12, .inl rg))]) [0, 1, 2] (by decide) rfl
    have hFc := va_free (wc := [(d0, .inr (1, [.ref dc, .ref dr, .int kd, vc])), (dc, .inl (cQ, 5, .inr (.inr (.inr (.inr F))))), (dr, .inl (cA, 12, .inl rg))]) hD hS hA [0, 1, 2] rfl
    refine va_callv (va_runV (As := [.int (nI k)]) (rest := []) ⟨hx, hb, hml, hown, ht⟩ (c_X1_openS l tp D hk5 hF s.heap.size) (cwV 1 ht (tb_V kl_X1_22 ki_X1_open ks_X1_open kn_X1 kc_X1_open) rfl rfl rfl ⟨rfl, kd_X1_open⟩ ⟨Nat.le_of_ble_eq_true rfl, Nat.le_of_ble_eq_true rfl⟩) (wz_preV _ hPc hK hDc hZ hS hFc (va_recv (ci := 1) (q0 := 0) hK hP rfl rfl)) rfl rfl hl.1 rfl (lv_room (Nat.le_of_ble_eq_true rfl)) dX1_begin_24 ⟨Nat.zero_le _, Nat.zero_le _⟩) hS (fun q _ h => hFc q h) hFc (fun u9 t9 H1 locs ht9 hvm9 hw9 hB9 hz9 hk9 hS => ?_)
    obtain ⟨hP1, hK1, hD1⟩ := hB9
    rw [ht9] at hP1
    obtain ⟨hP, hD⟩ := va_join (wr := [(h0, .inr (0, [.int (nI (tw_P k)), .int (nI (tw_D k)), .int (nI (tw_I k)), .int (nI (tw_N k)), .ref ai, .ref ar, .ref af, .ref ap, .ref ah, .ref ac, .int (nI ((tw_fs k).length)), .int hk])), (ai, .inl (cA, tw_P k, .inl fi)), (ar, .inl (cA, tw_P k, .inl fr)), (af, .inl (cA, 14, .inl ff)), (ap, .inl (cA, 2 * tw_P k, .inl fp)), (ah, .inl (cA, 2 * tw_P k, .inl fh)), (ac, .inl (cA, 2 * tw_P k, .inl fn))]) (w1 := [(d0, .inr (1, [.ref dc, .ref dr, .int (nI k), .ref h0])), (dc, .inl (cQ, 5, .inr (.inr (.inr (.inr F))))), (dr, .inl (cA, 12, .inl u9))]) hP hD [0, 1, 2] [3, 4, 5, 6, 7, 8, 9] rfl rfl (by decide) (by decide) hk9 hFc hP1 hD1
    have hP := hP.sub (ws' := [(d0, .inr (1, [.ref dc, .ref dr, .int (nI k), .ref h0])), (dc, .inl (cQ, 5, .inr (.inr (.inr (.inr F))))), (dr, .inl (cA, 12, .inl u9)), (h0, .inr (0, [.int (nI (tw_P k)), .int (nI (tw_D k)), .int (nI (tw_I k)), .int (nI (tw_N k)), .ref ai, .ref ar, .ref af, .ref ap, .ref ah, .ref ac, .int (nI ((tw_fs k).length)), .int hk])), (ai, .inl (cA, tw_P k, .inl fi)), (ar, .inl (cA, tw_P k, .inl fr)), (af, .inl (cA, 14, .inl ff)), (ap, .inl (cA, 2 * tw_P k, .inl fp)), (ah, .inl (cA, 2 * tw_P k, .inl fh)), (ac, .inl (cA, 2 * tw_P k, .inl fn))]) [7, 8, 9, 0, 1, 2, 3, 4, 5, 6] rfl
    have hD := hD.sub (ws' := [(d0, .inr (1, [.ref dc, .ref dr, .int (nI k), .ref h0])), (dc, .inl (cQ, 5, .inr (.inr (.inr (.inr F))))), (dr, .inl (cA, 12, .inl u9)), (h0, .inr (0, [.int (nI (tw_P k)), .int (nI (tw_D k)), .int (nI (tw_I k)), .int (nI (tw_N k)), .ref ai, .ref ar, .ref af, .ref ap, .ref ah, .ref ac, .int (nI ((tw_fs k).length)), .int hk])), (ai, .inl (cA, tw_P k, .inl fi)), (ar, .inl (cA, tw_P k, .inl fr)), (af, .inl (cA, 14, .inl ff)), (ap, .inl (cA, 2 * tw_P k, .inl fp)), (ah, .inl (cA, 2 * tw_P k, .inl fh)), (ac, .inl (cA, 2 * tw_P k, .inl fn))]) [7, 8, 9, 0, 1, 2, 3, 4, 5, 6] (by decide) rfl
    generalize H1 = H at hP hS hz9 ⊢
    refine lv_aload_n hx hb dX1_begin_27 rfl (lv_at hl 0 rfl) ?_
    refine va_get (D := D) (ci := 1) (v := .ref h0) (C := RX1) (T := TX1) (N := 4) hx hb ht inX1 hown hK hP 0 rfl rfl 3 (by decide) (ht _ kf_X1_33) (fun _ h9 => h9) rfl dX1_begin_28 ?_
    refine va_get (D := D) (ci := 0) (v := .int (nI (tw_P k))) (C := RX0) (T := TX0) (N := 12) hx hb ht inX0 hown hK hP 3 rfl rfl 0 (by decide) (ht _ kf_X1_37) (fun _ h9 => h9) rfl dX1_begin_31 ?_
    exact W.iret hx hb hr (fun t ht9 hW => ⟨⟨_, u9, rfl, ⟨rfl, hw9⟩, by rw [ht9]; exact hP, va_K.moved hW.alike hK, hD⟩, hS.F ht9⟩) hS.2.2 dX1_begin_34
  · omega
set_option maxHeartbeats 4000000 in
set_option maxRecDepth 100000 in
theorem c_X1_beginN (l : Launch) (tp : Nat) (D : va_G) {k : Nat} (hk5 : k < 5) {d0 dc dr : Nat} {cA cQ : ClassId} {kd : Int32} {vc : Value} {F : Nat → Option Nat} {rg : Nat → Int32} (hF : F k = none) (sz : Nat) : Met l yX1_begin wX1_begin ({ frames := 4, cells := 7, slots := 8 * tw_P k + 26, locals := 88 }) (va_Pc [.ref d0, .int (nI k)] (wz_pre tp D [(cA, .int), (cQ, .object RX0)] [(d0, .inr (1, [.ref dc, .ref dr, .int kd, vc])), (dc, .inl (cQ, 5, .inr (.inr (.inr (.inr F))))), (dr, .inl (cA, 12, .inl rg))] sz)) (va_Qi (fun (r : Int32) (u : Nat → Int32) => r = nI (tw_P k) ∧ ∀ j, j < 12 → u j = nI 1) (fun (u : Nat → Int32) t => dk_open D k d0 dc dr cA cQ F (va_A [(d0, .inr (1, [.ref dc, .ref dr, .int kd, vc])), (dc, .inl (cQ, 5, .inr (.inr (.inr (.inr F))))), (dr, .inl (cA, 12, .inl rg))] sz) u t) (va_A [(d0, .inr (1, [.ref dc, .ref dr, .int kd, vc])), (dc, .inl (cQ, 5, .inr (.inr (.inr (.inr F))))), (dr, .inl (cA, 12, .inl rg))] sz)) 7 (8 * tw_P k + 26) (va_A [(d0, .inr (1, [.ref dc, .ref dr, .int kd, vc])), (dc, .inl (cQ, 5, .inr (.inr (.inr (.inr F))))), (dr, .inl (cA, 12, .inl rg))] sz) := by
  refine Met.ofW (cc := cX1_begin) (maxL := 2) (ret := (some .int)) (by decide) rfl ?_
  intro p e s m args below meth c s₁ B hml hv
  obtain ⟨rfl, ⟨hsz, hP, hK, hD0⟩, hZ⟩ := hv
  have hx := B.exec
  have hb := B.bytes
  have hr := B.returns
  have hts := atoms_spec (ws := wX1_begin) B.pre
  have ht : ∀ w ∈ tb_all, w.before _ s = true := fun w h => hts w (List.mem_cons_of_mem _ h)
  have hown : s.vm.findClass RX1 = some m.cls := findClass_of_methodNamed B.named
  have hlocks := B.notSynchronized
  have hin : meth.name = "begin" := (name_of_methodNamed B.named B.method).1
  subst hsz
  have hD := hD0.self (sz := s.heap.size)
  generalize hAe : va_A [(d0, .inr (1, [.ref dc, .ref dr, .int kd, vc])), (dc, .inl (cQ, 5, .inr (.inr (.inr (.inr F))))), (dr, .inl (cA, 12, .inl rg))] s.heap.size = A at hD hZ ⊢
  have hA : ∀ q : Nat, s.heap.size ≤ q → A q := fun q h => by rw [← hAe]; exact Or.inr h
  have hS : va_S A s.heap s.heap [] := va_S.rf
  have hl := lv_entry ([.ref d0, .int (nI k)]) (n := 2) (Nat.le_of_ble_eq_true rfl)
  rw [lg_entry_eq]
  generalize (lg_sl ([.ref d0, .int (nI k)]) ++ List.replicate (2 - (lg_sl ([.ref d0, .int (nI k)])).length) Slot.unset).toArray = ls at hl ⊢
  have hl : lv_has ls 2 [(0, .ref d0), (1, .int (nI k))] := hl
  obtain ⟨hP0, hP2, hD2, hI2, hDP⟩ := tw_kb hk5
  have hK0 := tw_kK k hk5
  have hP8 : tw_P k ≤ 8192 := by omega
  have hN := tw_kN k hk5
  have zk : k ≤ 4 := by omega
  have ek : (nI k).toNatClampNeg = k := nI_clamp (by omega)
  refine lv_iload_n hx hb dX1_begin_0 rfl (lv_at hl 1 rfl) ?_
  refine nv_if_lt (tgt := 12) hx hb dX1_begin_1 (by decide) (nv_le (b := 4) zk (by decide)) ?_
  refine lv_iload_n hx hb dX1_begin_4 rfl (lv_at hl 1 rfl) ?_
  refine va_gets hx hb hZ.1 hS hown (ht _ kf_X1_9) (fun _ h9 => h9) dX1_begin_5 ?_
  refine va_tlen (v := nI 5) hx hb hZ.2 hS rfl dX1_begin_8 ?_
  refine nv_icmp_lt (tgt := 22) hx hb dX1_begin_9 (by decide) (nv_le (b := 4) zk (by decide)) (nv_le (b := 5) (Nat.le_refl 5) (by decide)) (fun c9 => ?_) (fun c9 => ?_)
  · refine lv_aload_n hx hb dX1_begin_22 rfl (lv_at hl 0 rfl) ?_
    refine lv_iload_n hx hb dX1_begin_23 rfl (lv_at hl 1 rfl) ?_
    have hPc := hP.sub (ws' := [(d0, .inr (1, [.ref dc, .ref dr, .int kd, vc])), (dc, .inl (cQ, 5, .inr (.inr (.inr (.inr F))))), (dr, .inl (cA, 12, .inl rg))]) [0, 1, 2] rfl
    have hDc := hD.sub (ws' := [(d0, .inr (1, [.ref dc, .ref dr, .int kd, vc])), (dc, .inl (cQ, 5, .inr (.inr (.inr (.inr F))))), (dr, .inl (cA, 12, .inl rg))]) [0, 1, 2] (by decide) rfl
    have hFc := va_free (wc := [(d0, .inr (1, [.ref dc, .ref dr, .int kd, vc])), (dc, .inl (cQ, 5, .inr (.inr (.inr (.inr F))))), (dr, .inl (cA, 12, .inl rg))]) hD hS hA [0, 1, 2] rfl
    refine va_callv (va_runV (As := [.int (nI k)]) (rest := []) ⟨hx, hb, hml, hown, ht⟩ (c_X1_openN l tp D hk5 hF s.heap.size) (cwV 1 ht (tb_V kl_X1_22 ki_X1_open ks_X1_open kn_X1 kc_X1_open) rfl rfl rfl ⟨rfl, kd_X1_open⟩ ⟨Nat.le_of_ble_eq_true rfl, Nat.le_of_ble_eq_true rfl⟩) (wz_preV _ hPc hK hDc hZ hS hFc (va_recv (ci := 1) (q0 := 0) hK hP rfl rfl)) rfl rfl hl.1 rfl (lv_room (Nat.le_of_ble_eq_true rfl)) dX1_begin_24 ⟨by show 0 + 7 ≤ 7; omega, by show 0 + (8 * tw_P k + 26) ≤ 8 * tw_P k + 26; omega⟩) hS (fun q _ h => hFc q h) hFc (fun u9 t9 H1 locs ht9 hvm9 hw9 hB9 hz9 hk9 hS => ?_)
    obtain ⟨h0, ai, ar, af, ap, ah, ac, fi, fr, ff, ⟨hP1, hK1, hD1⟩, hok⟩ := hB9
    rw [ht9] at hP1
    have hD := hD1.weaken (B := A) (fun _ _ _ h => hFc _ h)
    have hP : va_P D vwCl [(d0, .inr (1, [.ref dc, .ref dr, .int (nI k), .ref h0])), (dc, .inl (cQ, 5, .inr (.inr (.inr (.inr (va_up F k (some h0))))))), (dr, .inl (cA, 12, .inl u9)), (h0, .inr (0, [.int (nI (tw_P k)), .int (nI (tw_D k)), .int (nI (tw_I k)), .int (nI (tw_N k)), .ref ai, .ref ar, .ref af, .ref ap, .ref ah, .ref ac, .int (nI ((tw_fs k).length)), .int 0])), (ai, .inl (cA, tw_P k, .inl fi)), (ar, .inl (cA, tw_P k, .inl fr)), (af, .inl (cA, 14, .inl ff)), (ap, .inl (cA, 2 * tw_P k, .inl (fun _ => 0))), (ah, .inl (cA, 2 * tw_P k, .inl (fun _ => 0))), (ac, .inl (cA, 2 * tw_P k, .inl (fun _ => 0)))] H1 := hP1
    generalize H1 = H at hP hS hz9 ⊢
    refine W.widen (k := 7) (n := 8 * tw_P k + 26) (by omega) (by omega) ?_
    refine lv_aload_n hx hb dX1_begin_27 rfl (lv_at hl 0 rfl) ?_
    refine va_get (D := D) (ci := 1) (v := .ref h0) (C := RX1) (T := TX1) (N := 4) hx hb ht inX1 hown hK hP 0 rfl rfl 3 (by decide) (ht _ kf_X1_33) (fun _ h9 => h9) rfl dX1_begin_28 ?_
    refine va_get (D := D) (ci := 0) (v := .int (nI (tw_P k))) (C := RX0) (T := TX0) (N := 12) hx hb ht inX0 hown hK hP 3 rfl rfl 0 (by decide) (ht _ kf_X1_37) (fun _ h9 => h9) rfl dX1_begin_31 ?_
    exact W.iret hx hb hr (fun t ht8 hW => ⟨⟨_, u9, rfl, ⟨rfl, hw9⟩, h0, ai, ar, af, ap, ah, ac, fi, fr, ff, ⟨by rw [ht8]; exact hP, va_K.moved hW.alike hK, hD⟩, hok⟩, hS.F ht8⟩) hS.2.2 dX1_begin_34
  · omega
