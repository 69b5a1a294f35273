/-! the desk: a kind is opened -/
/-- the table of primes, as the class keeps it -/
def tw_Z (tp : Nat) (A : Nat → Prop) (U : State) (H : Heap) : Prop := va_Z RX1 "PRIMES" "[I" (.ref tp) A U H ∧ va_T .int tp 5 (fun j => .int (nI (tw_P j))) A U H
theorem tw_Z.moved {tp : Nat} {A : Nat → Prop} {u U : State} {H : Heap} (hvm : u.vm.Alike U.vm) (h : tw_Z tp A u H) : tw_Z tp A U H := ⟨va_Z.moved hvm h.1, va_T.moved hvm h.2⟩
theorem tw_Z.kept {tp : Nat} {A : Nat → Prop} {U : State} {H H1 : Heap} (h : tw_Z tp A U H) (hq : ∀ a : Nat, a < H.size → ¬ A a → H1[a]? = H[a]?) : tw_Z tp A U H1 := ⟨h.1.kept hq, h.2.kept hq⟩
theorem tw_Z.narrow {tp : Nat} {A B : Nat → Prop} {U : State} {H : Heap} (h : tw_Z tp A U H) (hAB : ∀ q, B q → A q) : tw_Z tp B U H := ⟨h.1.narrow hAB, h.2.narrow hAB⟩
/-- a method's world, and the table of primes beside it -/
def wz_pre (tp : Nat) (D : va_G) (tys : List (ClassId × FieldType)) (WS : va_W) (sz : Nat) (U : State) : Prop := wd_pre D tys WS sz U ∧ tw_Z tp (va_A WS sz) U U.heap
def dk_open (D : va_G) (k d0 dc dr : Nat) (cA cQ : ClassId) (F : Nat → Option Nat) (A : Nat → Prop) (u : Nat → Int32) (t : State) : Prop := ∃ (h0 ai ar af ap ah ac : Nat) (fi fr ff : Nat → Int32), wd_at D [(cA, .int), (cQ, .object RX0)] A [(d0, .inr (1, [.ref dc, .ref dr, .int (nI k), .ref h0])), (dc, .inl (cQ, 5, .inr (.inr (.inr (.inr (va_up F k (some h0))))))), (dr, .inl (cA, 12, .inl u)), (h0, .inr (0, [.int (nI (tw_P k)), .int (nI (tw_D k)), .int (nI (tw_I k)), .int (nI (tw_N k)), .ref ai, .ref ar, .ref af, .ref ap, .ref ah, .ref ac, .int (nI ((tw_fs k).length)), .int 0])), (ai, .inl (cA, tw_P k, .inl fi)), (ar, .inl (cA, tw_P k, .inl fr)), (af, .inl (cA, 14, .inl ff)), (ap, .inl (cA, 2 * tw_P k, .inl (fun _ => 0))), (ah, .inl (cA, 2 * tw_P k, .inl (fun _ => 0))), (ac, .inl (cA, 2 * tw_P k, .inl (fun _ => 0)))] t ∧ cv_ok k fi fr ff
set_option maxHeartbeats 4000000 in
set_option maxRecDepth 100000 in
theorem c_X1_openS (l : Launch) (tp : Nat) (D : va_G) {k : Nat} (hk5 : k < 5) {d0 dc dr : Nat} {cA cQ : ClassId} {kd : Int32} {vc : Value} {F : Nat → Option Nat} {rg : Nat → Int32} {h0 : Nat} (hF : F k = some h0) (sz : Nat) : Met l yX1_open wX1_open ({ frames := 1, cells := 0, slots := 0, locals := 24 }) (va_Pc [.ref d0, .int (nI k)] (wz_pre tp D [(cA, .int), (cQ, .object RX0)] [(d0, .inr (1, [.ref dc, .ref dr, .int kd, vc])), (dc, .inl (cQ, 5, .inr (.inr (.inr (.inr F))))), (dr, .inl (cA, 12, .inl rg))] sz)) (va_Qv (fun (u : Nat → Int32) => ∀ j, j < 12 → u j = nI 1) (fun (u : Nat → Int32) t => wd_at D [(cA, .int), (cQ, .object RX0)] (va_A [(d0, .inr (1, [.ref dc, .ref dr, .int kd, vc])), (dc, .inl (cQ, 5, .inr (.inr (.inr (.inr F))))), (dr, .inl (cA, 12, .inl rg))] sz) [(d0, .inr (1, [.ref dc, .ref dr, .int (nI k), .ref h0])), (dc, .inl (cQ, 5, .inr (.inr (.inr (.inr F))))), (dr, .inl (cA, 12, .inl u))] t) (va_A [(d0, .inr (1, [.ref dc, .ref dr, .int kd, vc])), (dc, .inl (cQ, 5, .inr (.inr (.inr (.inr F))))), (dr, .inl (cA, 12, .inl rg))] sz)) 0 0 (va_A [(d0, .inr (1, [.ref dc, .ref dr, .int kd, vc])), (dc, .inl (cQ, 5, .inr (.inr (.inr (.inr F))))), (dr, .inl (cA, 12, .inl rg))] sz) := by
  refine Met.ofW (cc := cX1_open) (maxL := 2) (ret := none) (by decide) rfl ?_
  intro p e s m args below meth c s₁ B hml hv
  obtain ⟨rfl, ⟨hsz, hP, hK, hD0⟩, hZ⟩ := hv
  have hx := B.exec
  have hb := B.bytes
  have hr := B.returns
  have hts := atoms_spec (ws := wX1_open) B.pre
  have ht : ∀ w ∈ tb_all, w.before _ s = true := fun w h => hts w (List.mem_cons_of_mem _ h)
  have hown : s.vm.findClass RX1 = some m.cls := findClass_of_methodNamed B.named
  have hlocks := B.notSynchronized
  have hin : meth.name = "open" := (name_of_methodNamed B.named B.method).1
  subst hsz
  have hD := hD0.self (sz := s.heap.size)
  generalize hAe : va_A [(d0, .inr (1, [.ref dc, .ref dr, .int kd, vc])), (dc, .inl (cQ, 5, .inr (.inr (.inr (.inr F))))), (dr, .inl (cA, 12, .inl rg))] s.heap.size = A at hD hZ ⊢
  have hA : ∀ q : Nat, s.heap.size ≤ q → A q := fun q h => by rw [← hAe]; exact Or.inr h
  have hS : va_S A s.heap s.heap [] := va_S.rf
  have hl := lv_entry ([.ref d0, .int (nI k)]) (n := 2) (Nat.le_of_ble_eq_true rfl)
  rw [lg_entry_eq]
  generalize (lg_sl ([.ref d0, .int (nI k)]) ++ List.replicate (2 - (lg_sl ([.ref d0, .int (nI k)])).length) Slot.unset).toArray = ls at hl ⊢
  have hl : lv_has ls 2 [(0, .ref d0), (1, .int (nI k))] := hl
  obtain ⟨hP0, hP2, hD2, hI2, hDP⟩ := tw_kb hk5
  have hK0 := tw_kK k hk5
  have hP8 : tw_P k ≤ 8192 := by omega
  have hN := tw_kN k hk5
  have zk : k ≤ 4 := by omega
  have ek : (nI k).toNatClampNeg = k := nI_clamp (by omega)
  refine lv_aload_n hx hb dX1_open_0 rfl (lv_at hl 0 rfl) ?_
  refine va_get (D := D) (ci := 1) (v := .ref dc) (C := RX1) (T := TX1) (N := 4) hx hb ht inX1 hown hK hP 0 rfl rfl 0 (by decide) (ht _ kf_X1_15) (fun _ h9 => h9) rfl dX1_open_1 ?_
  refine lv_iload_n hx hb dX1_open_4 rfl (lv_at hl 1 rfl) ?_
  refine va_aldq hx hb hK hP 1 1 rfl rfl (nv_in hk5 (by decide)) dX1_open_5 ?_
  rw [ek, hF]
  refine lv_ifnonnull (tgt := 27) hx hb dX1_open_6 (by decide) ?_
  refine lv_aload_n hx hb dX1_open_27 rfl (lv_at hl 0 rfl) ?_
  refine lv_iload_n hx hb dX1_open_28 rfl (lv_at hl 1 rfl) ?_
  refine va_put (D := D) (ci := 1) (v := .int (nI k)) (ty := .int) (C := RX1) (T := TX1) (N := 4) hx hb ht inX1 tyX1 tyX1_ok nmX1 hown hK hP hD hS 0 rfl rfl 2 (by decide) (ht _ kf_X1_120) (fun _ h9 => h9) rfl (by decide +kernel) rfl rfl (Nat.le_of_ble_eq_true rfl) dX1_open_29 (fun H locs hP hD hS => ?_)
  have hP : va_P D vwCl [(d0, .inr (1, [.ref dc, .ref dr, .int (nI k), vc])), (dc, .inl (cQ, 5, .inr (.inr (.inr (.inr F))))), (dr, .inl (cA, 12, .inl rg))] H := hP
  have hD : va_D A [(d0, .inr (1, [.ref dc, .ref dr, .int (nI k), vc])), (dc, .inl (cQ, 5, .inr (.inr (.inr (.inr F))))), (dr, .inl (cA, 12, .inl rg))] := hD
  refine lv_aload_n hx hb dX1_open_32 rfl (lv_at hl 0 rfl) ?_
  refine lv_aload_n hx hb dX1_open_33 rfl (lv_at hl 0 rfl) ?_
  refine va_get (D := D) (ci := 1) (v := .ref dc) (C := RX1) (T := TX1) (N := 4) hx hb ht inX1 hown hK hP 0 rfl rfl 0 (by decide) (ht _ kf_X1_15) (fun _ h9 => h9) rfl dX1_open_34 ?_
  refine lv_iload_n hx hb dX1_open_37 rfl (lv_at hl 1 rfl) ?_
  refine va_aldq hx hb hK hP 1 1 rfl rfl (nv_in hk5 (by decide)) dX1_open_38 ?_
  rw [ek, hF]
  refine va_put (D := D) (ci := 1) (v := .ref h0) (ty := (.object "TwistDesk$Curve")) (C := RX1) (T := TX1) (N := 4) hx hb ht inX1 tyX1 tyX1_ok nmX1 hown hK hP hD hS 0 rfl rfl 3 (by decide) (ht _ kf_X1_33) (fun _ h9 => h9) rfl (by decide +kernel) rfl rfl (Nat.le_of_ble_eq_true rfl) dX1_open_39 (fun H locs hP hD hS => ?_)
  have hP : va_P D vwCl [(d0, .inr (1, [.ref dc, .ref dr, .int (nI k), .ref h0])), (dc, .inl (cQ, 5, .inr (.inr (.inr (.inr F))))), (dr, .inl (cA, 12, .inl rg))] H := hP
  have hD : va_D A [(d0, .inr (1, [.ref dc, .ref dr, .int (nI k), .ref h0])), (dc, .inl (cQ, 5, .inr (.inr (.inr (.inr F))))), (dr, .inl (cA, 12, .inl rg))] := hD
  refine lv_aload_n hx hb dX1_open_42 rfl (lv_at hl 0 rfl) ?_
  refine va_get (D := D) (ci := 1) (v := .ref dr) (C := RX1) (T := TX1) (N := 4) hx hb ht inX1 hown hK hP 0 rfl rfl 1 (by decide) (ht _ kf_X1_19) (fun _ h9 => h9) rfl dX1_open_43 ?_
  refine lv_iconst (v := (nI 1)) hx hb dX1_open_46 (by decide) ?_
  have hPc := hP.sub (ws' := [(dr, .inl (cA, 12, .inl rg))]) [2] rfl
  have hDc := hD.sub (ws' := [(dr, .inl (cA, 12, .inl rg))]) [2] (by decide) rfl
  have hFc := va_free (wc := [(dr, .inl (cA, 12, .inl rg))]) hD hS hA [2] rfl
  refine va_callv (va_runS (As := [.ref dr, .int (nI 1)]) (rest := []) ⟨hx, hb, hml, hown, ht⟩ (c_J7_fill l D (by decide) H.size) (va_cwS 2 ht (tb_S kl_X1_134 kt_J7_fill kn_J7 kc_J7_fill) rfl rfl rfl kd_J7_fill ⟨Nat.le_of_ble_eq_true rfl, Nat.le_of_ble_eq_true rfl⟩) (wd_preS _ hPc (hK.sub (tys' := [(cA, .int)]) [0] rfl) hDc) rfl rfl hl.1 rfl (lv_room (Nat.le_of_ble_eq_true rfl)) dX1_open_47 ⟨Nat.le_of_ble_eq_true rfl, Nat.le_of_ble_eq_true rfl⟩) hS (fun q _ h => hFc q h) hFc (fun u9 t9 H1 locs ht9 hvm9 hw9 hB9 hz9 hk9 hS => ?_)
  obtain ⟨hP1, hK1, hD1⟩ := hB9
  rw [ht9] at hP1
  obtain ⟨hP, hD⟩ := va_join (wr := [(d0, .inr (1, [.ref dc, .ref dr, .int (nI k), .ref h0])), (dc, .inl (cQ, 5, .inr (.inr (.inr (.inr F)))))]) (w1 := [(dr, .inl (cA, 12, .inl u9))]) hP hD [2] [0, 1] rfl rfl (by decide) (by decide) hk9 hFc hP1 hD1
  have hP := hP.sub (ws' := [(d0, .inr (1, [.ref dc, .ref dr, .int (nI k), .ref h0])), (dc, .inl (cQ, 5, .inr (.inr (.inr (.inr F))))), (dr, .inl (cA, 12, .inl u9))]) [0, 1, 2] rfl
  have hD := hD.sub (ws' := [(d0, .inr (1, [.ref dc, .ref dr, .int (nI k), .ref h0])), (dc, .inl (cQ, 5, .inr (.inr (.inr (.inr F))))), (dr, .inl (cA, 12, .inl u9))]) [0, 1, 2] (by decide) rfl
  generalize H1 = H at hP hS hz9 ⊢
  exact W.vret hx hb hr (fun t ht9 hW => ⟨⟨u9, rfl, hw9, by rw [ht9]; exact hP, va_K.moved hW.alike hK, hD⟩, hS.F ht9⟩) hS.2.2 dX1_open_50
set_option maxHeartbeats 4000000 in
set_option maxRecDepth 100000 in
theorem c_X1_openN (l : Launch) (tp : Nat) (D : va_G) {k : Nat} (hk5 : k < 5) {d0 dc dr : Nat} {cA cQ : ClassId} {kd : Int32} {vc : Value} {F : Nat → Option Nat} {rg : Nat → Int32} (hF : F k = none) (sz : Nat) : Met l yX1_open wX1_open ({ frames := 3, cells := 7, slots := 8 * tw_P k + 26, locals := 67 }) (va_Pc [.ref d0, .int (nI k)] (wz_pre tp D [(cA, .int), (cQ, .object RX0)] [(d0, .inr (1, [.ref dc, .ref dr, .int kd, vc])), (dc, .inl (cQ, 5, .inr (.inr (.inr (.inr F))))), (dr, .inl (cA, 12, .inl rg))] sz)) (va_Qv (fun (u : Nat → Int32) => ∀ j, j < 12 → u j = nI 1) (fun (u : Nat → Int32) t => dk_open D k d0 dc dr cA cQ F (va_A [(d0, .inr (1, [.ref dc, .ref dr, .int kd, vc])), (dc, .inl (cQ, 5, .inr (.inr (.inr (.inr F))))), (dr, .inl (cA, 12, .inl rg))] sz) u t) (va_A [(d0, .inr (1, [.ref dc, .ref dr, .int kd, vc])), (dc, .inl (cQ, 5, .inr (.inr (.inr (.inr F))))), (dr, .inl (cA, 12, .inl rg))] sz)) 7 (8 * tw_P k + 26) (va_A [(d0, .inr (1, [.ref dc, .ref dr, .int kd, vc])), (dc, .inl (cQ, 5, .inr (.inr (.inr (.inr F))))), (dr, .inl (cA, 12, .inl rg))] sz) := by
  refine Met.ofW (cc := cX1_open) (maxL := 2) (ret := none) (by decide) rfl ?_
  intro p e s m args below meth c s₁ B hml hv
  obtain ⟨rfl, ⟨hsz, hP, hK, hD0⟩, hZ⟩ := hv
  have hx := B.exec
  have hb := B.bytes
  have hr := B.returns
  have hts := atoms_spec (ws := wX1_open) B.pre
  have ht : ∀ w ∈ tb_all, w.before _ s = true := fun w h => hts w (List.mem_cons_of_mem _ h)
  have hown : s.vm.findClass RX1 = some m.cls := findClass_of_methodNamed B.named
  have hlocks := B.notSynchronized
  have hin : meth.name = "open" := (name_of_methodNamed B.named B.method).1
  subst hsz
  have hD := hD0.self (sz := s.heap.size)
  generalize hAe : va_A [(d0, .inr (1, [.ref dc, .ref dr, .int kd, vc])), (dc, .inl (cQ, 5, .inr (.inr (.inr (.inr F))))), (dr, .inl (cA, 12, .inl rg))] s.heap.size = A at hD hZ ⊢
  have hA : ∀ q : Nat, s.heap.size ≤ q → A q := fun q h => by rw [← hAe]; exact Or.inr h
  have hS : va_S A s.heap s.heap [] := va_S.rf
  have hl := lv_entry ([.ref d0, .int (nI k)]) (n := 2) (Nat.le_of_ble_eq_true rfl)
  rw [lg_entry_eq]
  generalize (lg_sl ([.ref d0, .int (nI k)]) ++ List.replicate (2 - (lg_sl ([.ref d0, .int (nI k)])).length) Slot.unset).toArray = ls at hl ⊢
  have hl : lv_has ls 2 [(0, .ref d0), (1, .int (nI k))] := hl
  obtain ⟨hP0, hP2, hD2, hI2, hDP⟩ := tw_kb hk5
  have hK0 := tw_kK k hk5
  have hP8 : tw_P k ≤ 8192 := by omega
  have hN := tw_kN k hk5
  have zk : k ≤ 4 := by omega
  have ek : (nI k).toNatClampNeg = k := nI_clamp (by omega)
  refine lv_aload_n hx hb dX1_open_0 rfl (lv_at hl 0 rfl) ?_
  refine va_get (D := D) (ci := 1) (v := .ref dc) (C := RX1) (T := TX1) (N := 4) hx hb ht inX1 hown hK hP 0 rfl rfl 0 (by decide) (ht _ kf_X1_15) (fun _ h9 => h9) rfl dX1_open_1 ?_
  refine lv_iload_n hx hb dX1_open_4 rfl (lv_at hl 1 rfl) ?_
  refine va_aldq hx hb hK hP 1 1 rfl rfl (nv_in hk5 (by decide)) dX1_open_5 ?_
  rw [ek, hF]
  refine lv_ifnonnullN hx hb dX1_open_6 ?_
  refine lv_aload_n hx hb dX1_open_9 rfl (lv_at hl 0 rfl) ?_
  refine va_get (D := D) (ci := 1) (v := .ref dc) (C := RX1) (T := TX1) (N := 4) hx hb ht inX1 hown hK hP 0 rfl rfl 0 (by decide) (ht _ kf_X1_15) (fun _ h9 => h9) rfl dX1_open_10 ?_
  refine lv_iload_n hx hb dX1_open_13 rfl (lv_at hl 1 rfl) ?_
  refine va_new (D := D) (own := RX1) (C := RX0) (T := TX0) (N := 12) (ci := 0) (fs := [.int 0, .int 0, .int 0, .int 0, .null, .null, .null, .null, .null, .null, .int 0, .int 0]) hx hb ht inX0 tyX0 tyX0_ok hown (ht _ kk_X1_13) (ht _ kz_X0) (ht _ kn_X0) hK hP hD hS hA rfl (fun j9 h9 => match j9, h9 with | 0, _ => rfl | 1, _ => rfl | 2, _ => rfl | 3, _ => rfl | 4, _ => rfl | 5, _ => rfl | 6, _ => rfl | 7, _ => rfl | 8, _ => rfl | 9, _ => rfl | 10, _ => rfl | 11, _ => rfl | j8 + 12, h8 => absurd h8 (by omega)) (Nat.le_of_ble_eq_true rfl) (by show 0 + 12 ≤ 8 * tw_P k + 26; omega) dX1_open_14 (fun h0 H hP hD hS => ?_)
  have hP : va_P D vwCl [(d0, .inr (1, [.ref dc, .ref dr, .int kd, vc])), (dc, .inl (cQ, 5, .inr (.inr (.inr (.inr F))))), (dr, .inl (cA, 12, .inl rg)), (h0, .inr (0, [.int 0, .int 0, .int 0, .int 0, .null, .null, .null, .null, .null, .null, .int 0, .int 0]))] H := hP
  have hD : va_D A [(d0, .inr (1, [.ref dc, .ref dr, .int kd, vc])), (dc, .inl (cQ, 5, .inr (.inr (.inr (.inr F))))), (dr, .inl (cA, 12, .inl rg)), (h0, .inr (0, [.int 0, .int 0, .int 0, .int 0, .null, .null, .null, .null, .null, .null, .int 0, .int 0]))] := hD
  refine lv_dup hx hb dX1_open_17 rfl ?_
  refine va_gets hx hb hZ.1 hS hown (ht _ kf_X1_9) (fun _ h9 => h9) dX1_open_18 ?_
  refine lv_iload_n hx hb dX1_open_21 rfl (lv_at hl 1 rfl) ?_
  refine va_ti (v := .int (nI (tw_P k))) hx hb hZ.2 hS (nv_in hk5 (by decide)) (by rw [ek]) dX1_open_22 ?_
  have hPc := hP.sub (ws' := [(h0, .inr (0, [.int 0, .int 0, .int 0, .int 0, .null, .null, .null, .null, .null, .null, .int 0, .int 0]))]) [3] rfl
  have hDc := hD.sub (ws' := [(h0, .inr (0, [.int 0, .int 0, .int 0, .int 0, .null, .null, .null, .null, .null, .null, .int 0, .int 0]))]) [3] (by decide) rfl
  have hFc := va_free (wc := [(h0, .inr (0, [.int 0, .int 0, .int 0, .int 0, .null, .null, .null, .null, .null, .null, .int 0, .int 0]))]) hD hS hA [3] rfl
  refine va_callv (va_runI (As := [.int (nI (tw_P k))]) (rest := [.ref h0, .int (nI k), .ref dc]) ⟨hx, hb, hml, hown, ht⟩ (c_X0_init l D hk5 H.size) (cwI 1 ht (tb_cons kc_X0_init) rfl rfl rfl (ht _ kn_X0) (ht _ kl_X1_132) (ht _ ki_X0_init) rfl kd_X0_init ⟨Nat.le_of_ble_eq_true rfl, Nat.le_of_ble_eq_true rfl⟩) (wd_preS _ hPc (hK.sub (tys' := []) [] rfl) hDc) rfl rfl hl.1 rfl (lv_room (Nat.le_of_ble_eq_true rfl)) dX1_open_23 ⟨Nat.le_of_ble_eq_true rfl, by show 0 + 12 + (8 * tw_P k + 14) ≤ 8 * tw_P k + 26; omega⟩) hS (fun q _ h => hFc q h) hFc (fun u9 t9 H1 locs ht9 hvm9 hw9 hB9 hz9 hk9 hS => ?_)
  obtain ⟨ai, ar, af, ap, ah, ac, cB, fi, fr, ff, ⟨hP1, hK1, hD1⟩, hok⟩ := hB9
  rw [ht9] at hP1
  have ecB := (cA_eq ((va_K.moved hvm9 (hK.sub (tys' := [(cA, .int)]) [0] rfl)).app hK1)).symm
  subst ecB
  obtain ⟨hP, hD⟩ := va_join (wr := [(d0, .inr (1, [.ref dc, .ref dr, .int kd, vc])), (dc, .inl (cQ, 5, .inr (.inr (.inr (.inr F))))), (dr, .inl (cA, 12, .inl rg))]) (w1 := [(h0, .inr (0, [.int (nI (tw_P k)), .int (nI (tw_D k)), .int (nI (tw_I k)), .int (nI (tw_N k)), .ref ai, .ref ar, .ref af, .ref ap, .ref ah, .ref ac, .int (nI ((tw_fs k).length)), .int 0])), (ai, .inl (cA, tw_P k, .inl fi)), (ar, .inl (cA, tw_P k, .inl fr)), (af, .inl (cA, 14, .inl ff)), (ap, .inl (cA, 2 * tw_P k, .inl (fun _ => 0))), (ah, .inl (cA, 2 * tw_P k, .inl (fun _ => 0))), (ac, .inl (cA, 2 * tw_P k, .inl (fun _ => 0)))]) hP hD [3] [0, 1, 2] rfl rfl (by decide) (by decide) hk9 hFc hP1 hD1
  generalize H1 = H at hP hS hz9 ⊢
  have hP : va_P D vwCl [(d0, .inr (1, [.ref dc, .ref dr, .int kd, vc])), (dc, .inl (cQ, 5, .inr (.inr (.inr (.inr F))))), (dr, .inl (cA, 12, .inl rg)), (h0, .inr (0, [.int (nI (tw_P k)), .int (nI (tw_D k)), .int (nI (tw_I k)), .int (nI (tw_N k)), .ref ai, .ref ar, .ref af, .ref ap, .ref ah, .ref ac, .int (nI ((tw_fs k).length)), .int 0])), (ai, .inl (cA, tw_P k, .inl fi)), (ar, .inl (cA, tw_P k, .inl fr)), (af, .inl (cA, 14, .inl ff)), (ap, .inl (cA, 2 * tw_P k, .inl (fun _ => 0))), (ah, .inl (cA, 2 * tw_P k, .inl (fun _ => 0))), (ac, .inl (cA, 2 * tw_P k, .inl (fun _ => 0)))] H := hP
  have hD : va_D A [(d0, .inr (1, [.ref dc, .ref dr, .int kd, vc])), (dc, .inl (cQ, 5, .inr (.inr (.inr (.inr F))))), (dr, .inl (cA, 12, .inl rg)), (h0, .inr (0, [.int (nI (tw_P k)), .int (nI (tw_D k)), .int (nI (tw_I k)), .int (nI (tw_N k)), .ref ai, .ref ar, .ref af, .ref ap, .ref ah, .ref ac, .int (nI ((tw_fs k).length)), .int 0])), (ai, .inl (cA, tw_P k, .inl fi)), (ar, .inl (cA, tw_P k, .inl fr)), (af, .inl (cA, 14, .inl ff)), (ap, .inl (cA, 2 * tw_P k, .inl (fun _ => 0))), (ah, .inl (cA, 2 * tw_P k, .inl (fun _ => 0))), (ac, .inl (cA, 2 * tw_P k, .inl (fun _ => 0)))] := hD
  refine W.widen (k := 7) (n := 8 * tw_P k + 26) (by omega) (by omega) ?_
  refine va_astq hx hb hK hP hD hS 1 1 3 0 rfl rfl rfl rfl (nv_in hk5 (by decide)) dX1_open_26 (fun H locs hP hD hS => ?_)
  rw [ek] at hP hD
  have hP : va_P D vwCl [(d0, .inr (1, [.ref dc, .ref dr, .int kd, vc])), (dc, .inl (cQ, 5, .inr (.inr (.inr (.inr (va_up F k (some h0))))))), (dr, .inl (cA, 12, .inl rg)), (h0, .inr (0, [.int (nI (tw_P k)), .int (nI (tw_D k)), .int (nI (tw_I k)), .int (nI (tw_N k)), .ref ai, .ref ar, .ref af, .ref ap, .ref ah, .ref ac, .int (nI ((tw_fs k).length)), .int 0])), (ai, .inl (cA, tw_P k, .inl fi)), (ar, .inl (cA, tw_P k, .inl fr)), (af, .inl (cA, 14, .inl ff)), (ap, .inl (cA, 2 * tw_P k, .inl (fun _ => 0))), (ah, .inl (cA, 2 * tw_P k, .inl (fun _ => 0))), (ac, .inl (cA, 2 * tw_P k, .inl (fun _ => 0)))] H := hP
  have hD : va_D A [(d0, .inr (1, [.ref dc, .ref dr, .int kd, vc])), (dc, .inl (cQ, 5, .inr (.inr (.inr (.inr (va_up F k (some h0))))))), (dr, .inl (cA, 12, .inl rg)), (h0, .inr (0, [.int (nI (tw_P k)), .int (nI (tw_D k)), .int (nI (tw_I k)), .int (nI (tw_N k)), .ref ai, .ref ar, .ref af, .ref ap, .ref ah, .ref ac, .int (nI ((tw_fs k).length)), .int 0])), (ai, .inl (cA, tw_P k, .inl fi)), (ar, .inl (cA, tw_P k, .inl fr)), (af, .inl (cA, 14, .inl ff)), (ap, .inl (cA, 2 * tw_P k, .inl (fun _ => 0))), (ah, .inl (cA, 2 * tw_P k, .inl (fun _ => 0))), (ac, .inl (cA, 2 * tw_P k, .inl (fun _ => 0)))] := hD
  refine lv_aload_n hx hb dX1_open_27 rfl (lv_at hl 0 rfl) ?_
  refine lv_iload_n hx hb dX1_open_28 rfl (lv_at hl 1 rfl) ?_
  refine va_put (D := D) (ci := 1) (v := .int (nI k)) (ty := .int) (C := RX1) (T := TX1) (N := 4) hx hb ht inX1 tyX1 tyX1_ok nmX1 hown hK hP hD hS 0 rfl rfl 2 (by decide) (ht _ kf_X1_120) (fun _ h9 => h9) rfl (by decide +kernel) rfl rfl (Nat.le_of_ble_eq_true rfl) dX1_open_29 (fun H locs hP hD hS => ?_)
  have hP : va_P D vwCl [(d0, .inr (1, [.ref dc, .ref dr, .int (nI k), vc])), (dc, .inl (cQ, 5, .inr (.inr (.inr (.inr (va_up F k (some h0))))))), (dr, .inl (cA, 12, .inl rg)), (h0, .inr (0, [.int (nI (tw_P k)), .int (nI (tw_D k)), .int (nI (tw_I k)), .int (nI (tw_N k)), .ref ai, .ref ar, .ref af, .ref ap, .ref ah, .ref ac, .int (nI ((tw_fs k).length)), .int 0])), (ai, .inl (cA, tw_P k, .inl fi)), (ar, .inl (cA, tw_P k, .inl fr)), (af, .inl (cA, 14, .inl ff)), (ap, .inl (cA, 2 * tw_P k, .inl (fun _ => 0))), (ah, .inl (cA, 2 * tw_P k, .inl (fun _ => 0))), (ac, .inl (cA, 2 * tw_P k, .inl (fun _ => 0)))] H := hP
  have hD : va_D A [(d0, .inr (1, [.ref dc, .ref dr, .int (nI k), vc])), (dc, .inl (cQ, 5, .inr (.inr (.inr (.inr (va_up F k (some h0))))))), (dr, .inl (cA, 12, .inl rg)), (h0, .inr (0, [.int (nI (tw_P k)), .int (nI (tw_D k)), .int (nI (tw_I k)), .int (nI (tw_N k)), .ref ai, .ref ar, .ref af, .ref ap, .ref ah, .ref ac, .int (nI ((tw_fs k).length)), .int 0])), (ai, .inl (cA, tw_P k, .inl fi)), (ar, .inl (cA, tw_P k, .inl fr)), (af, .inl (cA, 14, .inl ff)), (ap, .inl (cA, 2 * tw_P k, .inl (fun _ => 0))), (ah, .inl (cA, 2 * tw_P k, .inl (fun _ => 0))), (ac, .inl (cA, 2 * tw_P k, .inl (fun _ => 0)))] := hD
  refine lv_aload_n hx hb dX1_open_32 rfl (lv_at hl 0 rfl) ?_
  refine lv_aload_n hx hb dX1_open_33 rfl (lv_at hl 0 rfl) ?_
  refine va_get (D := D) (ci := 1) (v := .ref dc) (C := RX1) (T := TX1) (N := 4) hx hb ht inX1 hown hK hP 0 rfl rfl 0 (by decide) (ht _ kf_X1_15) (fun _ h9 => h9) rfl dX1_open_34 ?_
  refine lv_iload_n hx hb dX1_open_37 rfl (lv_at hl 1 rfl) ?_
  refine va_aldq hx hb hK hP 1 1 rfl rfl (nv_in hk5 (by decide)) dX1_open_38 ?_
  rw [ek, va_up_self]
  refine va_put (D := D) (ci := 1) (v := .ref h0) (ty := (.object "TwistDesk$Curve")) (C := RX1) (T := TX1) (N := 4) hx hb ht inX1 tyX1 tyX1_ok nmX1 hown hK hP hD hS 0 rfl rfl 3 (by decide) (ht _ kf_X1_33) (fun _ h9 => h9) rfl (by decide +kernel) rfl rfl (Nat.le_of_ble_eq_true rfl) dX1_open_39 (fun H locs hP hD hS => ?_)
  have hP : va_P D vwCl [(d0, .inr (1, [.ref dc, .ref dr, .int (nI k), .ref h0])), (dc, .inl (cQ, 5, .inr (.inr (.inr (.inr (va_up F k (some h0))))))), (dr, .inl (cA, 12, .inl rg)), (h0, .inr (0, [.int (nI (tw_P k)), .int (nI (tw_D k)), .int (nI (tw_I k)), .int (nI (tw_N k)), .ref ai, .ref ar, .ref af, .ref ap, .ref ah, .ref ac, .int (nI ((tw_fs k).length)), .int 0])), (ai, .inl (cA, tw_P k, .inl fi)), (ar, .inl (cA, tw_P k, .inl fr)), (af, .inl (cA, 14, .inl ff)), (ap, .inl (cA, 2 * tw_P k, .inl (fun _ => 0))), (ah, .inl (cA, 2 * tw_P k, .inl (fun _ => 0))), (ac, .inl (cA, 2 * tw_P k, .inl (fun _ => 0)))] H := hP
  have hD : va_D A [(d0, .inr (1, [.ref dc, .ref dr, .int (nI k), .ref h0])), (dc, .inl (cQ, 5, .inr (.inr (.inr (.inr (va_up F k (some h0))))))), (dr, .inl (cA, 12, .inl rg)), (h0, .inr (0, [.int (nI (tw_P k)), .int (nI (tw_D k)), .int (nI (tw_I k)), .int (nI (tw_N k)), .ref ai, .ref ar, .ref af, .ref ap, .ref ah, .ref ac, .int (nI ((tw_fs k).length)), .int 0])), (ai, .inl (cA, tw_P k, .inl fi)), (ar, .inl (cA, tw_P k, .inl fr)), (af, .inl (cA, 14, .inl ff)), (ap, .inl (cA, 2 * tw_P k, .inl (fun _ => 0))), (ah, .inl (cA, 2 * tw_P k, .inl (fun _ => 0))), (ac, .inl (cA, 2 * tw_P k, .inl (fun _ => 0)))] := hD
  refine lv_aload_n hx hb dX1_open_42 rfl (lv_at hl 0 rfl) ?_
  refine va_get (D := D) (ci := 1) (v := .ref dr) (C := RX1) (T := TX1) (N := 4) hx hb ht inX1 hown hK hP 0 rfl rfl 1 (by decide) (ht _ kf_X1_19) (fun _ h9 => h9) rfl dX1_open_43 ?_
  refine lv_iconst (v := (nI 1)) hx hb dX1_open_46 (by decide) ?_
  have hPc := hP.sub (ws' := [(dr, .inl (cA, 12, .inl rg))]) [2] rfl
  have hDc := hD.sub (ws' := [(dr, .inl (cA, 12, .inl rg))]) [2] (by decide) rfl
  have hFc := va_free (wc := [(dr, .inl (cA, 12, .inl rg))]) hD hS hA [2] rfl
  refine va_callv (va_runS (As := [.ref dr, .int (nI 1)]) (rest := []) ⟨hx, hb, hml, hown, ht⟩ (c_J7_fill l D (by decide) H.size) (va_cwS 2 ht (tb_S kl_X1_134 kt_J7_fill kn_J7 kc_J7_fill) rfl rfl rfl kd_J7_fill ⟨Nat.le_of_ble_eq_true rfl, Nat.le_of_ble_eq_true rfl⟩) (wd_preS _ hPc (hK.sub (tys' := [(cA, .int)]) [0] rfl) hDc) rfl rfl hl.1 rfl (lv_room (Nat.le_of_ble_eq_true rfl)) dX1_open_47 ⟨Nat.le_refl _, Nat.le_refl _⟩) hS (fun q _ h => hFc q h) hFc (fun u9 t9 H1 locs ht9 hvm9 hw9 hB9 hz9 hk9 hS => ?_)
  obtain ⟨hP1, hK1, hD1⟩ := hB9
  rw [ht9] at hP1
  obtain ⟨hP, hD⟩ := va_join (wr := [(d0, .inr (1, [.ref dc, .ref dr, .int (nI k), .ref h0])), (dc, .inl (cQ, 5, .inr (.inr (.inr (.inr (va_up F k (some h0))))))), (h0, .inr (0, [.int (nI (tw_P k)), .int (nI (tw_D k)), .int (nI (tw_I k)), .int (nI (tw_N k)), .ref ai, .ref ar, .ref af, .ref ap, .ref ah, .ref ac, .int (nI ((tw_fs k).length)), .int 0])), (ai, .inl (cA, tw_P k, .inl fi)), (ar, .inl (cA, tw_P k, .inl fr)), (af, .inl (cA, 14, .inl ff)), (ap, .inl (cA, 2 * tw_P k, .inl (fun _ => 0))), (ah, .inl (cA, 2 * tw_P k, .inl (fun _ => 0))), (ac, .inl (cA, 2 * tw_P k, .inl (fun _ => 0)))]) (w1 := [(dr, .inl (cA, 12, .inl u9))]) hP hD [2] [0, 1, 3, 4, 5, 6, 7, 8, 9] rfl rfl (by decide) (by decide) hk9 hFc hP1 hD1
  have hP := hP.sub (ws' := [(d0, .inr (1, [.ref dc, .ref dr, .int (nI k), .ref h0])), (dc, .inl (cQ, 5, .inr (.inr (.inr (.inr (va_up F k (some h0))))))), (dr, .inl (cA, 12, .inl u9)), (h0, .inr (0, [.int (nI (tw_P k)), .int (nI (tw_D k)), .int (nI (tw_I k)), .int (nI (tw_N k)), .ref ai, .ref ar, .ref af, .ref ap, .ref ah, .ref ac, .int (nI ((tw_fs k).length)), .int 0])), (ai, .inl (cA, tw_P k, .inl fi)), (ar, .inl (cA, tw_P k, .inl fr)), (af, .inl (cA, 14, .inl ff)), (ap, .inl (cA, 2 * tw_P k, .inl (fun _ => 0))), (ah, .inl (cA, 2 * tw_P k, .inl (fun _ => 0))), (ac, .inl (cA, 2 * tw_P k, .inl (fun _ => 0)))]) [0, 1, 9, 2, 3, 4, 5, 6, 7, 8] rfl
  have hD := hD.sub (ws' := [(d0, .inr (1, [.ref dc, .ref dr, .int (nI k), .ref h0])), (dc, .inl (cQ, 5, .inr (.inr (.inr (.inr (va_up F k (some h0))))))), (dr, .inl (cA, 12, .inl u9)), (h0, .inr (0, [.int (nI (tw_P k)), .int (nI (tw_D k)), .int (nI (tw_I k)), .int (nI (tw_N k)), .ref ai, .ref ar, .ref af, .ref ap, .ref ah, .ref ac, .int (nI ((tw_fs k).length)), .int 0])), (ai, .inl (cA, tw_P k, .inl fi)), (ar, .inl (cA, tw_P k, .inl fr)), (af, .inl (cA, 14, .inl ff)), (ap, .inl (cA, 2 * tw_P k, .inl (fun _ => 0))), (ah, .inl (cA, 2 * tw_P k, .inl (fun _ => 0))), (ac, .inl (cA, 2 * tw_P k, .inl (fun _ => 0)))]) [0, 1, 9, 2, 3, 4, 5, 6, 7, 8] (by decide) rfl
  generalize H1 = H at hP hS hz9 ⊢
  refine W.widen (k := 7) (n := 8 * tw_P k + 26) (Nat.le_refl _) (Nat.le_refl _) ?_
  exact W.vret hx hb hr (fun t ht9 hW => ⟨⟨u9, rfl, hw9, h0, ai, ar, af, ap, ah, ac, fi, fr, ff, ⟨by rw [ht9]; exact hP, va_K.moved hW.alike hK, hD⟩, hok⟩, hS.F ht9⟩) hS.2.2 dX1_open_50
