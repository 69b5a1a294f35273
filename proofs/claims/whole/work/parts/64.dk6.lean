/-! what the desk's throws need, carried from the launch on -/
abbrev nS : String := "java/util/NoSuchElementException"
abbrev nA : String := "java/lang/IllegalArgumentException"
abbrev nT : String := "java/lang/IllegalStateException"
abbrev nxN : List String := ["java/lang/RuntimeException", "java/lang/Exception"]
def nx_D (U : State) : Prop := (va_Nw (.declares (Bundle.initS "java/lang/RuntimeException")) U ∧ va_Nw (.declares (Bundle.initS "java/lang/Exception")) U ∧ va_Nw (.declares (Bundle.initS Bundle.tN)) U) ∧ (va_Nw (.castable nS nS) U ∧ va_Nw (.castable nA nA) U ∧ va_Nw (.castable nT nT) U) ∧ (va_Nc nA nS U ∧ va_Nc nT nS U ∧ va_Nc nT nA U)
def nx_S (g : Nat → Nat) (U : State) : Prop := vk_R RX1 28 "no such kind" (g 0) U ∧ vk_R RX1 145 "no such register" (g 1) U ∧ vk_R RX1 48 "no point" (g 2) U ∧ vk_R RX1 58 "no point is so packed" (g 3) U ∧ vk_R RX1 149 "no number from 0 to 2^30" (g 4) U ∧ vk_R RX1 106 "the base is neutral" (g 5) U
def nx_K (l : Launch) (g : Nat → Nat) (A : Nat → Prop) (U : State) (H : Heap) : Prop := l.stackTraces = false ∧ vx_Zq Bundle.tN "UNASSIGNED_STACK" Bundle.steD A U H ∧ vx_Zq Bundle.tN "SUPPRESSED_SENTINEL" Bundle.listD A U H ∧ nx_D U ∧ nx_S g U
theorem nx_K.warm {l : Launch} {g : Nat → Nat} {A : Nat → Prop} {s U : State} {H : Heap} (hW : s.WarmedH U.vm) (h : nx_K l g A s H) : nx_K l g A U H := by
  obtain ⟨h1, h2, h3, ⟨⟨a1, a2, a3⟩, ⟨b1, b2, b3⟩, c1, c2, c3⟩, d1, d2, d3, d4, d5, d6⟩ := h
  exact ⟨h1, vx_Zq.moved hW.alike h2, vx_Zq.moved hW.alike h3, ⟨⟨a1.warmD hW, a2.warmD hW, a3.warmD hW⟩, ⟨b1.warmC hW, b2.warmC hW, b3.warmC hW⟩, c1.moved hW.alike, c2.moved hW.alike, c3.moved hW.alike⟩, d1.warm hW, d2.warm hW, d3.warm hW, d4.warm hW, d5.warm hW, d6.warm hW⟩
theorem nx_K.kept {l : Launch} {g : Nat → Nat} {A : Nat → Prop} {U : State} {H H1 : Heap} (h : nx_K l g A U H) (hq : ∀ a : Nat, a < H.size → ¬ A a → H1[a]? = H[a]?) : nx_K l g A U H1 := ⟨h.1, h.2.1.kept hq, h.2.2.1.kept hq, h.2.2.2⟩
theorem nx_K.narrow {l : Launch} {g : Nat → Nat} {A B : Nat → Prop} {U : State} {H : Heap} (h : nx_K l g A U H) (hAB : ∀ q, B q → A q) : nx_K l g B U H := ⟨h.1, h.2.1.narrow hAB, h.2.2.1.narrow hAB, h.2.2.2⟩
/-- what is thrown, and that nothing old has changed -/
abbrev nx_X (cls : String) : String → State → State → Prop := vx_X (S := Unit) (fun _ => True) (fun E _ _ => E = cls) (fun _ => False)
abbrev nx_LS : List Cond := nx_at RX1 147 nS 13 prog_13_method_4_code "java/lang/RuntimeException" ["java/lang/Exception"]
abbrev nx_LA : List Cond := vx_atS RX1 30 nA nxN
abbrev nx_LT : List Cond := vx_atS RX1 108 nT nxN
theorem nx_gS : GoodIn tb_all (nx_LS.filter goodWord) := goodIn_r _ [33, 205, 212, 216, 218, 220, 206, 207, 46, 47, 208, 211, 217, 235, 195, 236, 197, 237, 199, 209, 210, 201, 231, 232, 234, 201, 267, 268, 269, 225, 225, 226, 227, 228, 228, 229, 230, 231, 266, 259, 260, 215, 261, 262, 263, 264, 204, 203, 265] (by decide +kernel) (by decide +kernel)
theorem nx_gA : GoodIn tb_all (nx_LA.filter goodWord) := goodIn_r _ [33, 205, 212, 216, 218, 220, 206, 207, 46, 47, 208, 211, 217, 235, 195, 236, 197, 237, 199, 209, 210, 201, 231, 232, 234, 201, 222, 223, 224, 225, 225, 226, 227, 228, 228, 229, 230, 231, 221, 191, 192, 193, 194, 196, 198, 200, 204, 203, 202] (by decide +kernel) (by decide +kernel)
theorem nx_gT : GoodIn tb_all (nx_LT.filter goodWord) := goodIn_r _ [33, 205, 212, 216, 218, 220, 206, 207, 46, 47, 208, 211, 217, 235, 195, 236, 197, 237, 199, 209, 210, 201, 231, 232, 234, 201, 403, 404, 405, 225, 225, 226, 227, 228, 228, 229, 230, 231, 402, 395, 396, 214, 397, 398, 399, 400, 204, 203, 401] (by decide +kernel) (by decide +kernel)
theorem nx_k1 : GoodIn tb_all [Cond.classLink RX1 143 nS, Cond.initialized nS, Cond.classLink RX1 26 nA, Cond.initialized nA, Cond.classLink RX1 104 nT, Cond.initialized nT] := goodIn_r _ [258, 37, 190, 36, 394, 39] (by decide +kernel) (by decide +kernel)
theorem nx_hS {args : Array Value} {s : State} (ht : ∀ w ∈ tb_all, w.before args s = true) (h : nx_D s) : ∀ w ∈ nx_LS, w.before args s = true :=
  vx_hat (B := [.declares (Bundle.initS "java/lang/RuntimeException"), .declares (Bundle.initS "java/lang/Exception"), .declares (Bundle.initS Bundle.tN), .castable nS nS]) (fun w hw => ht w (nx_gS w hw).1) (by decide +kernel) (vx_c (va_Nw.use rfl h.1.1) (vx_c (va_Nw.use rfl h.1.2.1) (vx_c (va_Nw.use rfl h.1.2.2) (vx_c (va_Nw.use rfl h.2.1.1) vx_n))))
theorem nx_hA {args : Array Value} {s : State} (ht : ∀ w ∈ tb_all, w.before args s = true) (h : nx_D s) : ∀ w ∈ nx_LA, w.before args s = true :=
  vx_hat (B := [.declares (Bundle.initS "java/lang/RuntimeException"), .declares (Bundle.initS "java/lang/Exception"), .declares (Bundle.initS Bundle.tN), .castable nA nA]) (fun w hw => ht w (nx_gA w hw).1) (by decide +kernel) (vx_c (va_Nw.use rfl h.1.1) (vx_c (va_Nw.use rfl h.1.2.1) (vx_c (va_Nw.use rfl h.1.2.2) (vx_c (va_Nw.use rfl h.2.1.2.1) vx_n))))
theorem nx_hT {args : Array Value} {s : State} (ht : ∀ w ∈ tb_all, w.before args s = true) (h : nx_D s) : ∀ w ∈ nx_LT, w.before args s = true :=
  vx_hat (B := [.declares (Bundle.initS "java/lang/RuntimeException"), .declares (Bundle.initS "java/lang/Exception"), .declares (Bundle.initS Bundle.tN), .castable nT nT]) (fun w hw => ht w (nx_gT w hw).1) (by decide +kernel) (vx_c (va_Nw.use rfl h.1.1) (vx_c (va_Nw.use rfl h.1.2.1) (vx_c (va_Nw.use rfl h.1.2.2) (vx_c (va_Nw.use rfl h.2.1.2.2) vx_n))))
theorem nx_oS : ∀ w ∈ Cond.classLink RX1 143 nS :: Cond.initialized nS :: nx_LS, vx_ot w = true := by decide +kernel
theorem nx_oA : ∀ w ∈ Cond.classLink RX1 26 nA :: Cond.initialized nA :: nx_LA, vx_ot w = true := by decide +kernel
theorem nx_oT : ∀ w ∈ Cond.classLink RX1 104 nT :: Cond.initialized nT :: nx_LT, vx_ot w = true := by decide +kernel
theorem nx_preS {l : Launch} {gs : Nat → Nat} {A : Nat → Prop} {s : State} {H : Heap} {locs : List Loc} (As : List Value) (hZ : nx_K l gs A s s.heap) (hS : va_S A s.heap H locs) : PreS s H (va_Pc As (fun U => nx_K l gs (fun _ => False) U U.heap)) As :=
  ⟨fun a U g mk q => ⟨q.1, nx_K.warm (s := U) (U := U.calling g mk a) (State.WarmedH.refl U) q.2⟩, fun U hU hW => ⟨rfl, by show nx_K l gs (fun _ => False) U U.heap; rw [hU]; exact ((hZ.kept hS.2.1).narrow (fun _ h => h.elim)).warm hW⟩⟩
theorem nx_preV {l : Launch} {gs : Nat → Nat} {A : Nat → Prop} {s : State} {H : Heap} {locs : List Loc} {C : String} {b : Nat} (As : List Value) (hZ : nx_K l gs A s s.heap) (hS : va_S A s.heap H locs) (hc : ∃ cell : Cell, H[b]? = some cell ∧ cell.vm.isStatics = false ∧ s.vm.findClass C = some cell.cls) : PreV s H C b (va_Pc (.ref b :: As) (fun U => nx_K l gs (fun _ => False) U U.heap)) As :=
  ⟨fun a U g mk q => ⟨q.1, nx_K.warm (s := U) (U := U.calling g mk a) (State.WarmedH.refl U) q.2⟩, hc, fun U hU hW => ⟨rfl, by show nx_K l gs (fun _ => False) U U.heap; rw [hU]; exact ((hZ.kept hS.2.1).narrow (fun _ h => h.elim)).warm hW⟩⟩
theorem nx_preW {l : Launch} {gs : Nat → Nat} {A : Nat → Prop} {D : va_G} {tys : List (ClassId × FieldType)} {WS : va_W} {s : State} {H : Heap} {locs : List Loc} {C : String} {b : Nat} (As : List Value) (hZ : nx_K l gs A s s.heap) (hS : va_S A s.heap H locs) (hP : va_P D vwCl WS H) (hK : va_K D vwCl tys s) (hc : ∃ cell : Cell, H[b]? = some cell ∧ cell.vm.isStatics = false ∧ s.vm.findClass C = some cell.cls) : PreV s H C b (va_Pc (.ref b :: As) (fun U => nx_K l gs (fun _ => False) U U.heap ∧ va_P D vwCl WS U.heap ∧ va_K D vwCl tys U)) As :=
  ⟨fun a U g mk q => ⟨q.1, nx_K.warm (s := U) (U := U.calling g mk a) (State.WarmedH.refl U) q.2.1, q.2.2.1, va_K.moved (u := U) (U := U.calling g mk a) (Vm.Alike.refl U.vm) q.2.2.2⟩, hc, fun U hU hW => ⟨rfl, by rw [hU]; exact ((hZ.kept hS.2.1).narrow (fun _ h => h.elim)).warm hW, by rw [hU]; exact hP, va_K.moved hW.alike hK⟩⟩
theorem nx_preZ {l : Launch} {gs : Nat → Nat} {A : Nat → Prop} {tp : Nat} {s : State} {H : Heap} {locs : List Loc} {C : String} {b : Nat} (As : List Value) (hZ : nx_K l gs A s s.heap) (hS : va_S A s.heap H locs) (hT : tw_Z tp A s s.heap) (hc : ∃ cell : Cell, H[b]? = some cell ∧ cell.vm.isStatics = false ∧ s.vm.findClass C = some cell.cls) : PreV s H C b (va_Pc (.ref b :: As) (fun U => nx_K l gs (fun _ => False) U U.heap ∧ tw_Z tp (fun _ => False) U U.heap)) As :=
  ⟨fun a U g mk q => ⟨q.1, nx_K.warm (s := U) (U := U.calling g mk a) (State.WarmedH.refl U) q.2.1, tw_Z.moved (u := U) (U := U.calling g mk a) (Vm.Alike.refl U.vm) q.2.2⟩, hc, fun U hU hW => ⟨rfl, by rw [hU]; exact ((hZ.kept hS.2.1).narrow (fun _ h => h.elim)).warm hW, by rw [hU]; exact tw_Z.moved hW.alike ((hT.kept hS.2.1).narrow (fun _ h => h.elim))⟩⟩
set_option maxHeartbeats 4000000 in
set_option maxRecDepth 100000 in
theorem c_X1_needRegisterR (l : Launch) (gs : Nat → Nat) {z1 : Int32} (hz : md_bad z1) : vx_Met l yX1_needRegister wX1_needRegister ({ frames := 6, cells := 1, slots := 6, locals := 82 }) (va_Pc [.int z1] (fun U => nx_K l gs (fun _ => False) U U.heap)) (va_Qv (S := Unit) (fun _ => False) (fun _ _ => True) (fun _ => False)) (nx_X nS) 1 6 (fun _ => False) := by
  refine vx_ofW (cc := cX1_needRegister) (maxL := 1) (ret := none) (by decide) rfl ?_
  intro p e s m args below meth c s₁ B hml hex hv
  obtain ⟨rfl, hZ⟩ := hv
  have hx := B.exec
  have hb := B.bytes
  have hr := B.returns
  have hts := atoms_spec (ws := wX1_needRegister) B.pre
  have ht : ∀ w ∈ tb_all, w.before _ s = true := fun w h => hts w (List.mem_cons_of_mem _ h)
  have hown : s.vm.findClass RX1 = some m.cls := findClass_of_methodNamed B.named
  have hlocks := B.notSynchronized
  have hS : va_S (fun _ => False) s.heap s.heap [] := va_S.rf
  have hl := lv_entry ([.int z1]) (n := 1) (Nat.le_of_ble_eq_true rfl)
  rw [lg_entry_eq]
  generalize (lg_sl ([.int z1]) ++ List.replicate (1 - (lg_sl ([.int z1])).length) Slot.unset).toArray = ls at hl ⊢
  have hl : lv_has ls 1 [(0, .int z1)] := hl
  refine lv_iload_n hx hb dX1_needRegister_0 rfl (lv_at hl 0 rfl) ?_
  refine lv_if_lt (tgt := 10) hx hb dX1_needRegister_1 (by decide) (fun _ => ?_) (fun c1 => ?_)
  · exact nx_throw hx hb hZ.1 (cy := "java/lang/RuntimeException") (rs := ["java/lang/Exception"]) (by decide +kernel) (by decide +kernel) (by decide +kernel) (by decide +kernel) hown (by decide +kernel) (by decide +kernel) (by decide +kernel) (ht _ (nx_k1 _ (List.mem_of_getElem? (i := 0) rfl)).1) (ht _ (nx_k1 _ (List.mem_of_getElem? (i := 1) rfl)).1) hZ.2.2.2.2.2.1 (nx_hS ht hZ.2.2.2.1) nx_oS hZ.2.1 hZ.2.2.1 hS (hl.1.trans hml.symm) dX1_needRegister_10 dX1_needRegister_13 dX1_needRegister_14 dX1_needRegister_16 dX1_needRegister_19 (fun x h9 => (hex x h9).elim) (Nat.le_of_ble_eq_true rfl) (Nat.le_of_ble_eq_true rfl) (Nat.le_of_ble_eq_true rfl) (Nat.le_of_ble_eq_true rfl) hlocks (fun t _ h1 h2 => ⟨(), trivial, rfl, h1, fun q hq _ => h2 q hq⟩) (fun z h9 => nomatch h9) (Nat.le_refl _) (Nat.le_refl _)
  · refine lv_iload_n hx hb dX1_needRegister_4 rfl (lv_at hl 0 rfl) ?_
    refine lv_bipush (v := (nI 12)) hx hb dX1_needRegister_5 (by decide) ?_
    refine lv_icmp_lt (tgt := 20) hx hb dX1_needRegister_7 (by decide) (fun c4 => ?_) (fun _ => ?_)
    · rcases hz with q | q
      · exact absurd q c1
      · rw [Int32.lt_iff_toInt_lt] at q c4
        have e1 : (nI 11).toInt = 11 := by decide
        have e2 : (nI 12).toInt = 12 := by decide
        omega
    · exact nx_throw hx hb hZ.1 (cy := "java/lang/RuntimeException") (rs := ["java/lang/Exception"]) (by decide +kernel) (by decide +kernel) (by decide +kernel) (by decide +kernel) hown (by decide +kernel) (by decide +kernel) (by decide +kernel) (ht _ (nx_k1 _ (List.mem_of_getElem? (i := 0) rfl)).1) (ht _ (nx_k1 _ (List.mem_of_getElem? (i := 1) rfl)).1) hZ.2.2.2.2.2.1 (nx_hS ht hZ.2.2.2.1) nx_oS hZ.2.1 hZ.2.2.1 hS (hl.1.trans hml.symm) dX1_needRegister_10 dX1_needRegister_13 dX1_needRegister_14 dX1_needRegister_16 dX1_needRegister_19 (fun x h9 => (hex x h9).elim) (Nat.le_of_ble_eq_true rfl) (Nat.le_of_ble_eq_true rfl) (Nat.le_of_ble_eq_true rfl) (Nat.le_of_ble_eq_true rfl) hlocks (fun t _ h1 h2 => ⟨(), trivial, rfl, h1, fun q hq _ => h2 q hq⟩) (fun z h9 => nomatch h9) (Nat.le_refl _) (Nat.le_refl _)
set_option maxHeartbeats 4000000 in
set_option maxRecDepth 100000 in
theorem c_X1_needNumberN (l : Launch) (gs : Nat → Nat) {z1 : Int32} (hz : md_nb z1) : vx_Met l yX1_needNumber wX1_needNumber ({ frames := 6, cells := 1, slots := 6, locals := 82 }) (va_Pc [.int z1] (fun U => nx_K l gs (fun _ => False) U U.heap)) (va_Qv (S := Unit) (fun _ => False) (fun _ _ => True) (fun _ => False)) (nx_X nA) 1 6 (fun _ => False) := by
  refine vx_ofW (cc := cX1_needNumber) (maxL := 1) (ret := none) (by decide) rfl ?_
  intro p e s m args below meth c s₁ B hml hex hv
  obtain ⟨rfl, hZ⟩ := hv
  have hx := B.exec
  have hb := B.bytes
  have hr := B.returns
  have hts := atoms_spec (ws := wX1_needNumber) B.pre
  have ht : ∀ w ∈ tb_all, w.before _ s = true := fun w h => hts w (List.mem_cons_of_mem _ h)
  have hown : s.vm.findClass RX1 = some m.cls := findClass_of_methodNamed B.named
  have hlocks := B.notSynchronized
  have hS : va_S (fun _ => False) s.heap s.heap [] := va_S.rf
  have hl := lv_entry ([.int z1]) (n := 1) (Nat.le_of_ble_eq_true rfl)
  rw [lg_entry_eq]
  generalize (lg_sl ([.int z1]) ++ List.replicate (1 - (lg_sl ([.int z1])).length) Slot.unset).toArray = ls at hl ⊢
  have hl : lv_has ls 1 [(0, .int z1)] := hl
  refine lv_iload_n hx hb dX1_needNumber_0 rfl (lv_at hl 0 rfl) ?_
  refine lv_if_lt (tgt := 10) hx hb dX1_needNumber_1 (by decide) (fun _ => ?_) (fun c1 => ?_)
  · exact vx_throwS hx hb hZ.1 (names := nxN) hown (by decide +kernel) (by decide +kernel) (ht _ (nx_k1 _ (List.mem_of_getElem? (i := 2) rfl)).1) (ht _ (nx_k1 _ (List.mem_of_getElem? (i := 3) rfl)).1) hZ.2.2.2.2.2.2.2.2.1 (nx_hA ht hZ.2.2.2.1) nx_oA hZ.2.1 hZ.2.2.1 hS (hl.1.trans hml.symm) dX1_needNumber_10 dX1_needNumber_13 dX1_needNumber_14 dX1_needNumber_16 dX1_needNumber_19 (fun x h9 => (hex x h9).elim) (Nat.le_of_ble_eq_true rfl) (Nat.le_of_ble_eq_true rfl) (Nat.le_of_ble_eq_true rfl) (Nat.le_of_ble_eq_true rfl) hlocks (fun t _ h1 h2 => ⟨(), trivial, rfl, h1, fun q hq _ => h2 q hq⟩) (fun z h9 => nomatch h9) (Nat.le_refl _) (Nat.le_refl _)
  · refine lv_iload_n hx hb dX1_needNumber_4 rfl (lv_at hl 0 rfl) ?_
    refine lv_ldc (v := nI 1073741824) hx hb hown (ht _ kv_X1_148) dX1_needNumber_5 ?_
    refine lv_icmp_le (tgt := 20) hx hb dX1_needNumber_7 (by decide) (fun c4 => ?_) (fun _ => ?_)
    · exact absurd hz (md_nle c1 c4)
    · exact vx_throwS hx hb hZ.1 (names := nxN) hown (by decide +kernel) (by decide +kernel) (ht _ (nx_k1 _ (List.mem_of_getElem? (i := 2) rfl)).1) (ht _ (nx_k1 _ (List.mem_of_getElem? (i := 3) rfl)).1) hZ.2.2.2.2.2.2.2.2.1 (nx_hA ht hZ.2.2.2.1) nx_oA hZ.2.1 hZ.2.2.1 hS (hl.1.trans hml.symm) dX1_needNumber_10 dX1_needNumber_13 dX1_needNumber_14 dX1_needNumber_16 dX1_needNumber_19 (fun x h9 => (hex x h9).elim) (Nat.le_of_ble_eq_true rfl) (Nat.le_of_ble_eq_true rfl) (Nat.le_of_ble_eq_true rfl) (Nat.le_of_ble_eq_true rfl) hlocks (fun t _ h1 h2 => ⟨(), trivial, rfl, h1, fun q hq _ => h2 q hq⟩) (fun z h9 => nomatch h9) (Nat.le_refl _) (Nat.le_refl _)
set_option maxHeartbeats 4000000 in
set_option maxRecDepth 100000 in
theorem c_X1_packedR (l : Launch) (gs : Nat → Nat) {d0 : Nat} {z1 : Int32} (hz : md_bad z1) : vx_Met l yX1_packed wX1_packed ({ frames := 7, cells := 1, slots := 6, locals := 110 }) (va_Pc [.ref d0, .int z1] (fun U => nx_K l gs (fun _ => False) U U.heap)) (va_Qi (S := Unit) (fun _ _ => False) (fun _ _ => True) (fun _ => False)) (nx_X nS) 1 6 (fun _ => False) := by
  refine vx_ofW (cc := cX1_packed) (maxL := 2) (ret := (some .int)) (by decide) rfl ?_
  intro p e s m args below meth c s₁ B hml hex hv
  obtain ⟨rfl, hZ⟩ := hv
  have hx := B.exec
  have hb := B.bytes
  have hr := B.returns
  have hts := atoms_spec (ws := wX1_packed) B.pre
  have ht : ∀ w ∈ tb_all, w.before _ s = true := fun w h => hts w (List.mem_cons_of_mem _ h)
  have hown : s.vm.findClass RX1 = some m.cls := findClass_of_methodNamed B.named
  have hlocks := B.notSynchronized
  have hS : va_S (fun _ => False) s.heap s.heap [] := va_S.rf
  have hl := lv_entry ([.ref d0, .int z1]) (n := 2) (Nat.le_of_ble_eq_true rfl)
  rw [lg_entry_eq]
  generalize (lg_sl ([.ref d0, .int z1]) ++ List.replicate (2 - (lg_sl ([.ref d0, .int z1])).length) Slot.unset).toArray = ls at hl ⊢
  have hl : lv_has ls 2 [(0, .ref d0), (1, .int z1)] := hl
  refine lv_iload_n hx hb dX1_packed_0 rfl (lv_at hl 1 rfl) ?_
  by_cases b1 : md_bad z1
  · exact vx_callv (vx_runS (As := [.int z1]) (rest := []) ⟨hx, hb, hml, hown, ht⟩ (c_X1_needRegisterR l gs b1) (va_cwS 1 ht (tb_S kl_X1_41 kt_X1_needRegister kn_X1 kc_X1_needRegister) rfl rfl rfl kd_X1_needRegister ⟨Nat.le_of_ble_eq_true rfl, Nat.le_of_ble_eq_true rfl⟩) (nx_preS _ hZ hS) rfl rfl hl.1 rfl (lv_room (Nat.le_of_ble_eq_true rfl)) dX1_packed_1 ⟨Nat.le_of_ble_eq_true rfl, Nat.le_of_ble_eq_true rfl⟩) hS (fun _ _ h => h) (fun _ h => h) (fun _ _ h => h) (fun E ce q9 u t H1 locs1 ht9 hvm _ hE hz hk hS hce hcv hcl => vx_out (fun x h9 => (hex x h9).elim) hlocks hce hcv hcl (fun t h8 _ => ⟨(), trivial, hE, by rw [h8]; exact hz, fun q hq hn => by rw [h8]; exact hk q hq hn⟩) hS.2.2 (Nat.le_refl _) (Nat.le_refl _)) (fun _ _ _ _ _ _ hu => hu.elim)
  · contradiction
set_option maxHeartbeats 4000000 in
set_option maxRecDepth 100000 in
theorem c_X1_getR (l : Launch) (gs : Nat → Nat) {d0 : Nat} {z1 y1 : Int32} (hz : md_bad z1) : vx_Met l yX1_get wX1_get ({ frames := 7, cells := 1, slots := 6, locals := 110 }) (va_Pc [.ref d0, .int z1, .int y1] (fun U => nx_K l gs (fun _ => False) U U.heap)) (va_Qi (S := Unit) (fun _ _ => False) (fun _ _ => True) (fun _ => False)) (nx_X nS) 1 6 (fun _ => False) := by
  refine vx_ofW (cc := cX1_get) (maxL := 3) (ret := (some .int)) (by decide) rfl ?_
  intro p e s m args below meth c s₁ B hml hex hv
  obtain ⟨rfl, hZ⟩ := hv
  have hx := B.exec
  have hb := B.bytes
  have hr := B.returns
  have hts := atoms_spec (ws := wX1_get) B.pre
  have ht : ∀ w ∈ tb_all, w.before _ s = true := fun w h => hts w (List.mem_cons_of_mem _ h)
  have hown : s.vm.findClass RX1 = some m.cls := findClass_of_methodNamed B.named
  have hlocks := B.notSynchronized
  have hS : va_S (fun _ => False) s.heap s.heap [] := va_S.rf
  have hl := lv_entry ([.ref d0, .int z1, .int y1]) (n := 3) (Nat.le_of_ble_eq_true rfl)
  rw [lg_entry_eq]
  generalize (lg_sl ([.ref d0, .int z1, .int y1]) ++ List.replicate (3 - (lg_sl ([.ref d0, .int z1, .int y1])).length) Slot.unset).toArray = ls at hl ⊢
  have hl : lv_has ls 3 [(0, .ref d0), (1, .int z1), (2, .int y1)] := hl
  refine lv_iload_n hx hb dX1_get_0 rfl (lv_at hl 1 rfl) ?_
  by_cases b1 : md_bad z1
  · exact vx_callv (vx_runS (As := [.int z1]) (rest := []) ⟨hx, hb, hml, hown, ht⟩ (c_X1_needRegisterR l gs b1) (va_cwS 1 ht (tb_S kl_X1_41 kt_X1_needRegister kn_X1 kc_X1_needRegister) rfl rfl rfl kd_X1_needRegister ⟨Nat.le_of_ble_eq_true rfl, Nat.le_of_ble_eq_true rfl⟩) (nx_preS _ hZ hS) rfl rfl hl.1 rfl (lv_room (Nat.le_of_ble_eq_true rfl)) dX1_get_1 ⟨Nat.le_of_ble_eq_true rfl, Nat.le_of_ble_eq_true rfl⟩) hS (fun _ _ h => h) (fun _ h => h) (fun _ _ h => h) (fun E ce q9 u t H1 locs1 ht9 hvm _ hE hz hk hS hce hcv hcl => vx_out (fun x h9 => (hex x h9).elim) hlocks hce hcv hcl (fun t h8 _ => ⟨(), trivial, hE, by rw [h8]; exact hz, fun q hq hn => by rw [h8]; exact hk q hq hn⟩) hS.2.2 (Nat.le_refl _) (Nat.le_refl _)) (fun _ _ _ _ _ _ hu => hu.elim)
  · contradiction
set_option maxHeartbeats 4000000 in
set_option maxRecDepth 100000 in
theorem c_X1_orderR (l : Launch) (gs : Nat → Nat) {d0 : Nat} {z1 : Int32} (hz : md_bad z1) : vx_Met l yX1_order wX1_order ({ frames := 7, cells := 1, slots := 6, locals := 110 }) (va_Pc [.ref d0, .int z1] (fun U => nx_K l gs (fun _ => False) U U.heap)) (va_Qi (S := Unit) (fun _ _ => False) (fun _ _ => True) (fun _ => False)) (nx_X nS) 1 6 (fun _ => False) := by
  refine vx_ofW (cc := cX1_order) (maxL := 2) (ret := (some .int)) (by decide) rfl ?_
  intro p e s m args below meth c s₁ B hml hex hv
  obtain ⟨rfl, hZ⟩ := hv
  have hx := B.exec
  have hb := B.bytes
  have hr := B.returns
  have hts := atoms_spec (ws := wX1_order) B.pre
  have ht : ∀ w ∈ tb_all, w.before _ s = true := fun w h => hts w (List.mem_cons_of_mem _ h)
  have hown : s.vm.findClass RX1 = some m.cls := findClass_of_methodNamed B.named
  have hlocks := B.notSynchronized
  have hS : va_S (fun _ => False) s.heap s.heap [] := va_S.rf
  have hl := lv_entry ([.ref d0, .int z1]) (n := 2) (Nat.le_of_ble_eq_true rfl)
  rw [lg_entry_eq]
  generalize (lg_sl ([.ref d0, .int z1]) ++ List.replicate (2 - (lg_sl ([.ref d0, .int z1])).length) Slot.unset).toArray = ls at hl ⊢
  have hl : lv_has ls 2 [(0, .ref d0), (1, .int z1)] := hl
  refine lv_iload_n hx hb dX1_order_0 rfl (lv_at hl 1 rfl) ?_
  by_cases b1 : md_bad z1
  · exact vx_callv (vx_runS (As := [.int z1]) (rest := []) ⟨hx, hb, hml, hown, ht⟩ (c_X1_needRegisterR l gs b1) (va_cwS 1 ht (tb_S kl_X1_41 kt_X1_needRegister kn_X1 kc_X1_needRegister) rfl rfl rfl kd_X1_needRegister ⟨Nat.le_of_ble_eq_true rfl, Nat.le_of_ble_eq_true rfl⟩) (nx_preS _ hZ hS) rfl rfl hl.1 rfl (lv_room (Nat.le_of_ble_eq_true rfl)) dX1_order_1 ⟨Nat.le_of_ble_eq_true rfl, Nat.le_of_ble_eq_true rfl⟩) hS (fun _ _ h => h) (fun _ h => h) (fun _ _ h => h) (fun E ce q9 u t H1 locs1 ht9 hvm _ hE hz hk hS hce hcv hcl => vx_out (fun x h9 => (hex x h9).elim) hlocks hce hcv hcl (fun t h8 _ => ⟨(), trivial, hE, by rw [h8]; exact hz, fun q hq hn => by rw [h8]; exact hk q hq hn⟩) hS.2.2 (Nat.le_refl _) (Nat.le_refl _)) (fun _ _ _ _ _ _ hu => hu.elim)
  · contradiction
set_option maxHeartbeats 4000000 in
set_option maxRecDepth 100000 in
theorem c_X1_putR (l : Launch) (gs : Nat → Nat) {d0 : Nat} {z1 y1 y2 : Int32} (hz : md_bad z1) : vx_Met l yX1_put wX1_put ({ frames := 7, cells := 1, slots := 6, locals := 110 }) (va_Pc [.ref d0, .int z1, .int y1, .int y2] (fun U => nx_K l gs (fun _ => False) U U.heap)) (va_Qv (S := Unit) (fun _ => False) (fun _ _ => True) (fun _ => False)) (nx_X nS) 1 6 (fun _ => False) := by
  refine vx_ofW (cc := cX1_put) (maxL := 4) (ret := none) (by decide) rfl ?_
  intro p e s m args below meth c s₁ B hml hex hv
  obtain ⟨rfl, hZ⟩ := hv
  have hx := B.exec
  have hb := B.bytes
  have hr := B.returns
  have hts := atoms_spec (ws := wX1_put) B.pre
  have ht : ∀ w ∈ tb_all, w.before _ s = true := fun w h => hts w (List.mem_cons_of_mem _ h)
  have hown : s.vm.findClass RX1 = some m.cls := findClass_of_methodNamed B.named
  have hlocks := B.notSynchronized
  have hS : va_S (fun _ => False) s.heap s.heap [] := va_S.rf
  have hl := lv_entry ([.ref d0, .int z1, .int y1, .int y2]) (n := 4) (Nat.le_of_ble_eq_true rfl)
  rw [lg_entry_eq]
  generalize (lg_sl ([.ref d0, .int z1, .int y1, .int y2]) ++ List.replicate (4 - (lg_sl ([.ref d0, .int z1, .int y1, .int y2])).length) Slot.unset).toArray = ls at hl ⊢
  have hl : lv_has ls 4 [(0, .ref d0), (1, .int z1), (2, .int y1), (3, .int y2)] := hl
  refine lv_iload_n hx hb dX1_put_0 rfl (lv_at hl 1 rfl) ?_
  by_cases b1 : md_bad z1
  · exact vx_callv (vx_runS (As := [.int z1]) (rest := []) ⟨hx, hb, hml, hown, ht⟩ (c_X1_needRegisterR l gs b1) (va_cwS 1 ht (tb_S kl_X1_41 kt_X1_needRegister kn_X1 kc_X1_needRegister) rfl rfl rfl kd_X1_needRegister ⟨Nat.le_of_ble_eq_true rfl, Nat.le_of_ble_eq_true rfl⟩) (nx_preS _ hZ hS) rfl rfl hl.1 rfl (lv_room (Nat.le_of_ble_eq_true rfl)) dX1_put_1 ⟨Nat.le_of_ble_eq_true rfl, Nat.le_of_ble_eq_true rfl⟩) hS (fun _ _ h => h) (fun _ h => h) (fun _ _ h => h) (fun E ce q9 u t H1 locs1 ht9 hvm _ hE hz hk hS hce hcv hcl => vx_out (fun x h9 => (hex x h9).elim) hlocks hce hcv hcl (fun t h8 _ => ⟨(), trivial, hE, by rw [h8]; exact hz, fun q hq hn => by rw [h8]; exact hk q hq hn⟩) hS.2.2 (Nat.le_refl _) (Nat.le_refl _)) (fun _ _ _ _ _ _ hu => hu.elim)
  · contradiction
set_option maxHeartbeats 4000000 in
set_option maxRecDepth 100000 in
theorem c_X1_unpackR (l : Launch) (gs : Nat → Nat) {d0 : Nat} {z1 y1 : Int32} (hz : md_bad z1) : vx_Met l yX1_unpack wX1_unpack ({ frames := 7, cells := 1, slots := 6, locals := 110 }) (va_Pc [.ref d0, .int z1, .int y1] (fun U => nx_K l gs (fun _ => False) U U.heap)) (va_Qv (S := Unit) (fun _ => False) (fun _ _ => True) (fun _ => False)) (nx_X nS) 1 6 (fun _ => False) := by
  refine vx_ofW (cc := cX1_unpack) (maxL := 4) (ret := none) (by decide) rfl ?_
  intro p e s m args below meth c s₁ B hml hex hv
  obtain ⟨rfl, hZ⟩ := hv
  have hx := B.exec
  have hb := B.bytes
  have hr := B.returns
  have hts := atoms_spec (ws := wX1_unpack) B.pre
  have ht : ∀ w ∈ tb_all, w.before _ s = true := fun w h => hts w (List.mem_cons_of_mem _ h)
  have hown : s.vm.findClass RX1 = some m.cls := findClass_of_methodNamed B.named
  have hlocks := B.notSynchronized
  have hS : va_S (fun _ => False) s.heap s.heap [] := va_S.rf
  have hl := lv_entry ([.ref d0, .int z1, .int y1]) (n := 4) (Nat.le_of_ble_eq_true rfl)
  rw [lg_entry_eq]
  generalize (lg_sl ([.ref d0, .int z1, .int y1]) ++ List.replicate (4 - (lg_sl ([.ref d0, .int z1, .int y1])).length) Slot.unset).toArray = ls at hl ⊢
  have hl : lv_has ls 4 [(0, .ref d0), (1, .int z1), (2, .int y1)] := hl
  refine lv_iload_n hx hb dX1_unpack_0 rfl (lv_at hl 1 rfl) ?_
  by_cases b1 : md_bad z1
  · exact vx_callv (vx_runS (As := [.int z1]) (rest := []) ⟨hx, hb, hml, hown, ht⟩ (c_X1_needRegisterR l gs b1) (va_cwS 1 ht (tb_S kl_X1_41 kt_X1_needRegister kn_X1 kc_X1_needRegister) rfl rfl rfl kd_X1_needRegister ⟨Nat.le_of_ble_eq_true rfl, Nat.le_of_ble_eq_true rfl⟩) (nx_preS _ hZ hS) rfl rfl hl.1 rfl (lv_room (Nat.le_of_ble_eq_true rfl)) dX1_unpack_1 ⟨Nat.le_of_ble_eq_true rfl, Nat.le_of_ble_eq_true rfl⟩) hS (fun _ _ h => h) (fun _ h => h) (fun _ _ h => h) (fun E ce q9 u t H1 locs1 ht9 hvm _ hE hz hk hS hce hcv hcl => vx_out (fun x h9 => (hex x h9).elim) hlocks hce hcv hcl (fun t h8 _ => ⟨(), trivial, hE, by rw [h8]; exact hz, fun q hq hn => by rw [h8]; exact hk q hq hn⟩) hS.2.2 (Nat.le_refl _) (Nat.le_refl _)) (fun _ _ _ _ _ _ hu => hu.elim)
  · contradiction
set_option maxHeartbeats 4000000 in
set_option maxRecDepth 100000 in
theorem c_X1_joinR (l : Launch) (gs : Nat → Nat) {d0 : Nat} {z1 z2 z3 y1 : Int32} (hz : md_bad z1 ∨ md_bad z2 ∨ md_bad z3) : vx_Met l yX1_join wX1_join ({ frames := 7, cells := 1, slots := 6, locals := 110 }) (va_Pc [.ref d0, .int z1, .int z2, .int z3, .int y1] (fun U => nx_K l gs (fun _ => False) U U.heap)) (va_Qi (S := Unit) (fun _ _ => False) (fun _ _ => True) (fun _ => False)) (nx_X nS) 1 6 (fun _ => False) := by
  refine vx_ofW (cc := cX1_join) (maxL := 6) (ret := (some .int)) (by decide) rfl ?_
  intro p e s m args below meth c s₁ B hml hex hv
  obtain ⟨rfl, hZ⟩ := hv
  have hx := B.exec
  have hb := B.bytes
  have hr := B.returns
  have hts := atoms_spec (ws := wX1_join) B.pre
  have ht : ∀ w ∈ tb_all, w.before _ s = true := fun w h => hts w (List.mem_cons_of_mem _ h)
  have hown : s.vm.findClass RX1 = some m.cls := findClass_of_methodNamed B.named
  have hlocks := B.notSynchronized
  have hS : va_S (fun _ => False) s.heap s.heap [] := va_S.rf
  have hl := lv_entry ([.ref d0, .int z1, .int z2, .int z3, .int y1]) (n := 6) (Nat.le_of_ble_eq_true rfl)
  rw [lg_entry_eq]
  generalize (lg_sl ([.ref d0, .int z1, .int z2, .int z3, .int y1]) ++ List.replicate (6 - (lg_sl ([.ref d0, .int z1, .int z2, .int z3, .int y1])).length) Slot.unset).toArray = ls at hl ⊢
  have hl : lv_has ls 6 [(0, .ref d0), (1, .int z1), (2, .int z2), (3, .int z3), (4, .int y1)] := hl
  refine lv_iload_n hx hb dX1_join_0 rfl (lv_at hl 1 rfl) ?_
  by_cases b1 : md_bad z1
  · exact vx_callv (vx_runS (As := [.int z1]) (rest := []) ⟨hx, hb, hml, hown, ht⟩ (c_X1_needRegisterR l gs b1) (va_cwS 1 ht (tb_S kl_X1_41 kt_X1_needRegister kn_X1 kc_X1_needRegister) rfl rfl rfl kd_X1_needRegister ⟨Nat.le_of_ble_eq_true rfl, Nat.le_of_ble_eq_true rfl⟩) (nx_preS _ hZ hS) rfl rfl hl.1 rfl (lv_room (Nat.le_of_ble_eq_true rfl)) dX1_join_1 ⟨Nat.le_of_ble_eq_true rfl, Nat.le_of_ble_eq_true rfl⟩) hS (fun _ _ h => h) (fun _ h => h) (fun _ _ h => h) (fun E ce q9 u t H1 locs1 ht9 hvm _ hE hz hk hS hce hcv hcl => vx_out (fun x h9 => (hex x h9).elim) hlocks hce hcv hcl (fun t h8 _ => ⟨(), trivial, hE, by rw [h8]; exact hz, fun q hq hn => by rw [h8]; exact hk q hq hn⟩) hS.2.2 (Nat.le_refl _) (Nat.le_refl _)) (fun _ _ _ _ _ _ hu => hu.elim)
  · obtain ⟨n1, hn1, e1⟩ := md_good b1
    subst e1
    refine va_csv (W.runS (As := [.int (nI n1)]) (rest := []) ⟨hx, hb, hml, hown, ht⟩ (c_X1_needRegister l hn1) (va_cwS 1 ht (tb_S kl_X1_41 kt_X1_needRegister kn_X1 kc_X1_needRegister) rfl rfl rfl kd_X1_needRegister ⟨Nat.le_of_ble_eq_true rfl, Nat.le_of_ble_eq_true rfl⟩) (st_pre _) rfl rfl hl.1 rfl (lv_room (Nat.le_of_ble_eq_true rfl)) dX1_join_1 ⟨Nat.zero_le _, Nat.zero_le _⟩) (fun _ => ?_)
    refine lv_iload_n hx hb dX1_join_4 rfl (lv_at hl 2 rfl) ?_
    by_cases b2 : md_bad z2
    · exact vx_callv (vx_runS (As := [.int z2]) (rest := []) ⟨hx, hb, hml, hown, ht⟩ (c_X1_needRegisterR l gs b2) (va_cwS 1 ht (tb_S kl_X1_41 kt_X1_needRegister kn_X1 kc_X1_needRegister) rfl rfl rfl kd_X1_needRegister ⟨Nat.le_of_ble_eq_true rfl, Nat.le_of_ble_eq_true rfl⟩) (nx_preS _ hZ hS) rfl rfl hl.1 rfl (lv_room (Nat.le_of_ble_eq_true rfl)) dX1_join_5 ⟨Nat.le_of_ble_eq_true rfl, Nat.le_of_ble_eq_true rfl⟩) hS (fun _ _ h => h) (fun _ h => h) (fun _ _ h => h) (fun E ce q9 u t H1 locs1 ht9 hvm _ hE hz hk hS hce hcv hcl => vx_out (fun x h9 => (hex x h9).elim) hlocks hce hcv hcl (fun t h8 _ => ⟨(), trivial, hE, by rw [h8]; exact hz, fun q hq hn => by rw [h8]; exact hk q hq hn⟩) hS.2.2 (Nat.le_refl _) (Nat.le_refl _)) (fun _ _ _ _ _ _ hu => hu.elim)
    · obtain ⟨n2, hn2, e2⟩ := md_good b2
      subst e2
      refine va_csv (W.runS (As := [.int (nI n2)]) (rest := []) ⟨hx, hb, hml, hown, ht⟩ (c_X1_needRegister l hn2) (va_cwS 1 ht (tb_S kl_X1_41 kt_X1_needRegister kn_X1 kc_X1_needRegister) rfl rfl rfl kd_X1_needRegister ⟨Nat.le_of_ble_eq_true rfl, Nat.le_of_ble_eq_true rfl⟩) (st_pre _) rfl rfl hl.1 rfl (lv_room (Nat.le_of_ble_eq_true rfl)) dX1_join_5 ⟨Nat.zero_le _, Nat.zero_le _⟩) (fun _ => ?_)
      refine lv_iload_n hx hb dX1_join_8 rfl (lv_at hl 3 rfl) ?_
      by_cases b3 : md_bad z3
      · exact vx_callv (vx_runS (As := [.int z3]) (rest := []) ⟨hx, hb, hml, hown, ht⟩ (c_X1_needRegisterR l gs b3) (va_cwS 1 ht (tb_S kl_X1_41 kt_X1_needRegister kn_X1 kc_X1_needRegister) rfl rfl rfl kd_X1_needRegister ⟨Nat.le_of_ble_eq_true rfl, Nat.le_of_ble_eq_true rfl⟩) (nx_preS _ hZ hS) rfl rfl hl.1 rfl (lv_room (Nat.le_of_ble_eq_true rfl)) dX1_join_9 ⟨Nat.le_of_ble_eq_true rfl, Nat.le_of_ble_eq_true rfl⟩) hS (fun _ _ h => h) (fun _ h => h) (fun _ _ h => h) (fun E ce q9 u t H1 locs1 ht9 hvm _ hE hz hk hS hce hcv hcl => vx_out (fun x h9 => (hex x h9).elim) hlocks hce hcv hcl (fun t h8 _ => ⟨(), trivial, hE, by rw [h8]; exact hz, fun q hq hn => by rw [h8]; exact hk q hq hn⟩) hS.2.2 (Nat.le_refl _) (Nat.le_refl _)) (fun _ _ _ _ _ _ hu => hu.elim)
      · rcases hz with q1 | q2 | q3 <;> contradiction
set_option maxHeartbeats 4000000 in
set_option maxRecDepth 100000 in
theorem c_X1_timesR (l : Launch) (gs : Nat → Nat) {d0 : Nat} {z1 z2 : Int32} {l1 : Int64} (hz : md_bad z1 ∨ md_bad z2) : vx_Met l yX1_times wX1_times ({ frames := 7, cells := 1, slots := 6, locals := 110 }) (va_Pc [.ref d0, .int z1, .long l1, .int z2] (fun U => nx_K l gs (fun _ => False) U U.heap)) (va_Qi (S := Unit) (fun _ _ => False) (fun _ _ => True) (fun _ => False)) (nx_X nS) 1 6 (fun _ => False) := by
  refine vx_ofW (cc := cX1_times) (maxL := 5) (ret := (some .int)) (by decide) rfl ?_
  intro p e s m args below meth c s₁ B hml hex hv
  obtain ⟨rfl, hZ⟩ := hv
  have hx := B.exec
  have hb := B.bytes
  have hr := B.returns
  have hts := atoms_spec (ws := wX1_times) B.pre
  have ht : ∀ w ∈ tb_all, w.before _ s = true := fun w h => hts w (List.mem_cons_of_mem _ h)
  have hown : s.vm.findClass RX1 = some m.cls := findClass_of_methodNamed B.named
  have hlocks := B.notSynchronized
  have hS : va_S (fun _ => False) s.heap s.heap [] := va_S.rf
  have hl := lv_entry ([.ref d0, .int z1, .long l1, .int z2]) (n := 5) (Nat.le_of_ble_eq_true rfl)
  rw [lg_entry_eq]
  generalize (lg_sl ([.ref d0, .int z1, .long l1, .int z2]) ++ List.replicate (5 - (lg_sl ([.ref d0, .int z1, .long l1, .int z2])).length) Slot.unset).toArray = ls at hl ⊢
  have hl : lv_has ls 5 [(0, .ref d0), (1, .int z1), (2, .long l1), (4, .int z2)] := hl
  refine lv_iload_n hx hb dX1_times_0 rfl (lv_at hl 1 rfl) ?_
  by_cases b1 : md_bad z1
  · exact vx_callv (vx_runS (As := [.int z1]) (rest := []) ⟨hx, hb, hml, hown, ht⟩ (c_X1_needRegisterR l gs b1) (va_cwS 1 ht (tb_S kl_X1_41 kt_X1_needRegister kn_X1 kc_X1_needRegister) rfl rfl rfl kd_X1_needRegister ⟨Nat.le_of_ble_eq_true rfl, Nat.le_of_ble_eq_true rfl⟩) (nx_preS _ hZ hS) rfl rfl hl.1 rfl (lv_room (Nat.le_of_ble_eq_true rfl)) dX1_times_1 ⟨Nat.le_of_ble_eq_true rfl, Nat.le_of_ble_eq_true rfl⟩) hS (fun _ _ h => h) (fun _ h => h) (fun _ _ h => h) (fun E ce q9 u t H1 locs1 ht9 hvm _ hE hz hk hS hce hcv hcl => vx_out (fun x h9 => (hex x h9).elim) hlocks hce hcv hcl (fun t h8 _ => ⟨(), trivial, hE, by rw [h8]; exact hz, fun q hq hn => by rw [h8]; exact hk q hq hn⟩) hS.2.2 (Nat.le_refl _) (Nat.le_refl _)) (fun _ _ _ _ _ _ hu => hu.elim)
  · obtain ⟨n1, hn1, e1⟩ := md_good b1
    subst e1
    refine va_csv (W.runS (As := [.int (nI n1)]) (rest := []) ⟨hx, hb, hml, hown, ht⟩ (c_X1_needRegister l hn1) (va_cwS 1 ht (tb_S kl_X1_41 kt_X1_needRegister kn_X1 kc_X1_needRegister) rfl rfl rfl kd_X1_needRegister ⟨Nat.le_of_ble_eq_true rfl, Nat.le_of_ble_eq_true rfl⟩) (st_pre _) rfl rfl hl.1 rfl (lv_room (Nat.le_of_ble_eq_true rfl)) dX1_times_1 ⟨Nat.zero_le _, Nat.zero_le _⟩) (fun _ => ?_)
    refine lv_iload hx hb dX1_times_4 (lv_at hl 3 rfl) ?_
    by_cases b2 : md_bad z2
    · exact vx_callv (vx_runS (As := [.int z2]) (rest := []) ⟨hx, hb, hml, hown, ht⟩ (c_X1_needRegisterR l gs b2) (va_cwS 1 ht (tb_S kl_X1_41 kt_X1_needRegister kn_X1 kc_X1_needRegister) rfl rfl rfl kd_X1_needRegister ⟨Nat.le_of_ble_eq_true rfl, Nat.le_of_ble_eq_true rfl⟩) (nx_preS _ hZ hS) rfl rfl hl.1 rfl (lv_room (Nat.le_of_ble_eq_true rfl)) dX1_times_6 ⟨Nat.le_of_ble_eq_true rfl, Nat.le_of_ble_eq_true rfl⟩) hS (fun _ _ h => h) (fun _ h => h) (fun _ _ h => h) (fun E ce q9 u t H1 locs1 ht9 hvm _ hE hz hk hS hce hcv hcl => vx_out (fun x h9 => (hex x h9).elim) hlocks hce hcv hcl (fun t h8 _ => ⟨(), trivial, hE, by rw [h8]; exact hz, fun q hq hn => by rw [h8]; exact hk q hq hn⟩) hS.2.2 (Nat.le_refl _) (Nat.le_refl _)) (fun _ _ _ _ _ _ hu => hu.elim)
    · rcases hz with q1 | q2 <;> contradiction
set_option maxHeartbeats 4000000 in
set_option maxRecDepth 100000 in
theorem c_X1_bothR (l : Launch) (gs : Nat → Nat) {d0 : Nat} {z1 z2 z3 : Int32} {l1 : Int64} {l2 : Int64} (hz : md_bad z1 ∨ md_bad z2 ∨ md_bad z3) : vx_Met l yX1_both wX1_both ({ frames := 7, cells := 1, slots := 6, locals := 110 }) (va_Pc [.ref d0, .int z1, .long l1, .int z2, .long l2, .int z3] (fun U => nx_K l gs (fun _ => False) U U.heap)) (va_Qi (S := Unit) (fun _ _ => False) (fun _ _ => True) (fun _ => False)) (nx_X nS) 1 6 (fun _ => False) := by
  refine vx_ofW (cc := cX1_both) (maxL := 10) (ret := (some .int)) (by decide) rfl ?_
  intro p e s m args below meth c s₁ B hml hex hv
  obtain ⟨rfl, hZ⟩ := hv
  have hx := B.exec
  have hb := B.bytes
  have hr := B.returns
  have hts := atoms_spec (ws := wX1_both) B.pre
  have ht : ∀ w ∈ tb_all, w.before _ s = true := fun w h => hts w (List.mem_cons_of_mem _ h)
  have hown : s.vm.findClass RX1 = some m.cls := findClass_of_methodNamed B.named
  have hlocks := B.notSynchronized
  have hS : va_S (fun _ => False) s.heap s.heap [] := va_S.rf
  have hl := lv_entry ([.ref d0, .int z1, .long l1, .int z2, .long l2, .int z3]) (n := 10) (Nat.le_of_ble_eq_true rfl)
  rw [lg_entry_eq]
  generalize (lg_sl ([.ref d0, .int z1, .long l1, .int z2, .long l2, .int z3]) ++ List.replicate (10 - (lg_sl ([.ref d0, .int z1, .long l1, .int z2, .long l2, .int z3])).length) Slot.unset).toArray = ls at hl ⊢
  have hl : lv_has ls 10 [(0, .ref d0), (1, .int z1), (2, .long l1), (4, .int z2), (5, .long l2), (7, .int z3)] := hl
  refine lv_iload_n hx hb dX1_both_0 rfl (lv_at hl 1 rfl) ?_
  by_cases b1 : md_bad z1
  · exact vx_callv (vx_runS (As := [.int z1]) (rest := []) ⟨hx, hb, hml, hown, ht⟩ (c_X1_needRegisterR l gs b1) (va_cwS 1 ht (tb_S kl_X1_41 kt_X1_needRegister kn_X1 kc_X1_needRegister) rfl rfl rfl kd_X1_needRegister ⟨Nat.le_of_ble_eq_true rfl, Nat.le_of_ble_eq_true rfl⟩) (nx_preS _ hZ hS) rfl rfl hl.1 rfl (lv_room (Nat.le_of_ble_eq_true rfl)) dX1_both_1 ⟨Nat.le_of_ble_eq_true rfl, Nat.le_of_ble_eq_true rfl⟩) hS (fun _ _ h => h) (fun _ h => h) (fun _ _ h => h) (fun E ce q9 u t H1 locs1 ht9 hvm _ hE hz hk hS hce hcv hcl => vx_out (fun x h9 => (hex x h9).elim) hlocks hce hcv hcl (fun t h8 _ => ⟨(), trivial, hE, by rw [h8]; exact hz, fun q hq hn => by rw [h8]; exact hk q hq hn⟩) hS.2.2 (Nat.le_refl _) (Nat.le_refl _)) (fun _ _ _ _ _ _ hu => hu.elim)
  · obtain ⟨n1, hn1, e1⟩ := md_good b1
    subst e1
    refine va_csv (W.runS (As := [.int (nI n1)]) (rest := []) ⟨hx, hb, hml, hown, ht⟩ (c_X1_needRegister l hn1) (va_cwS 1 ht (tb_S kl_X1_41 kt_X1_needRegister kn_X1 kc_X1_needRegister) rfl rfl rfl kd_X1_needRegister ⟨Nat.le_of_ble_eq_true rfl, Nat.le_of_ble_eq_true rfl⟩) (st_pre _) rfl rfl hl.1 rfl (lv_room (Nat.le_of_ble_eq_true rfl)) dX1_both_1 ⟨Nat.zero_le _, Nat.zero_le _⟩) (fun _ => ?_)
    refine lv_iload hx hb dX1_both_4 (lv_at hl 3 rfl) ?_
    by_cases b2 : md_bad z2
    · exact vx_callv (vx_runS (As := [.int z2]) (rest := []) ⟨hx, hb, hml, hown, ht⟩ (c_X1_needRegisterR l gs b2) (va_cwS 1 ht (tb_S kl_X1_41 kt_X1_needRegister kn_X1 kc_X1_needRegister) rfl rfl rfl kd_X1_needRegister ⟨Nat.le_of_ble_eq_true rfl, Nat.le_of_ble_eq_true rfl⟩) (nx_preS _ hZ hS) rfl rfl hl.1 rfl (lv_room (Nat.le_of_ble_eq_true rfl)) dX1_both_6 ⟨Nat.le_of_ble_eq_true rfl, Nat.le_of_ble_eq_true rfl⟩) hS (fun _ _ h => h) (fun _ h => h) (fun _ _ h => h) (fun E ce q9 u t H1 locs1 ht9 hvm _ hE hz hk hS hce hcv hcl => vx_out (fun x h9 => (hex x h9).elim) hlocks hce hcv hcl (fun t h8 _ => ⟨(), trivial, hE, by rw [h8]; exact hz, fun q hq hn => by rw [h8]; exact hk q hq hn⟩) hS.2.2 (Nat.le_refl _) (Nat.le_refl _)) (fun _ _ _ _ _ _ hu => hu.elim)
    · obtain ⟨n2, hn2, e2⟩ := md_good b2
      subst e2
      refine va_csv (W.runS (As := [.int (nI n2)]) (rest := []) ⟨hx, hb, hml, hown, ht⟩ (c_X1_needRegister l hn2) (va_cwS 1 ht (tb_S kl_X1_41 kt_X1_needRegister kn_X1 kc_X1_needRegister) rfl rfl rfl kd_X1_needRegister ⟨Nat.le_of_ble_eq_true rfl, Nat.le_of_ble_eq_true rfl⟩) (st_pre _) rfl rfl hl.1 rfl (lv_room (Nat.le_of_ble_eq_true rfl)) dX1_both_6 ⟨Nat.zero_le _, Nat.zero_le _⟩) (fun _ => ?_)
      refine lv_iload hx hb dX1_both_9 (lv_at hl 5 rfl) ?_
      by_cases b3 : md_bad z3
      · exact vx_callv (vx_runS (As := [.int z3]) (rest := []) ⟨hx, hb, hml, hown, ht⟩ (c_X1_needRegisterR l gs b3) (va_cwS 1 ht (tb_S kl_X1_41 kt_X1_needRegister kn_X1 kc_X1_needRegister) rfl rfl rfl kd_X1_needRegister ⟨Nat.le_of_ble_eq_true rfl, Nat.le_of_ble_eq_true rfl⟩) (nx_preS _ hZ hS) rfl rfl hl.1 rfl (lv_room (Nat.le_of_ble_eq_true rfl)) dX1_both_11 ⟨Nat.le_of_ble_eq_true rfl, Nat.le_of_ble_eq_true rfl⟩) hS (fun _ _ h => h) (fun _ h => h) (fun _ _ h => h) (fun E ce q9 u t H1 locs1 ht9 hvm _ hE hz hk hS hce hcv hcl => vx_out (fun x h9 => (hex x h9).elim) hlocks hce hcv hcl (fun t h8 _ => ⟨(), trivial, hE, by rw [h8]; exact hz, fun q hq hn => by rw [h8]; exact hk q hq hn⟩) hS.2.2 (Nat.le_refl _) (Nat.le_refl _)) (fun _ _ _ _ _ _ hu => hu.elim)
      · rcases hz with q1 | q2 | q3 <;> contradiction
set_option maxHeartbeats 4000000 in
set_option maxRecDepth 100000 in
theorem c_X1_logR (l : Launch) (gs : Nat → Nat) {d0 : Nat} {z1 z2 : Int32} (hz : md_bad z1 ∨ md_bad z2) : vx_Met l yX1_log wX1_log ({ frames := 7, cells := 1, slots := 6, locals := 110 }) (va_Pc [.ref d0, .int z1, .int z2] (fun U => nx_K l gs (fun _ => False) U U.heap)) (va_Qi (S := Unit) (fun _ _ => False) (fun _ _ => True) (fun _ => False)) (nx_X nS) 1 6 (fun _ => False) := by
  refine vx_ofW (cc := cX1_log) (maxL := 3) (ret := (some .int)) (by decide) rfl ?_
  intro p e s m args below meth c s₁ B hml hex hv
  obtain ⟨rfl, hZ⟩ := hv
  have hx := B.exec
  have hb := B.bytes
  have hr := B.returns
  have hts := atoms_spec (ws := wX1_log) B.pre
  have ht : ∀ w ∈ tb_all, w.before _ s = true := fun w h => hts w (List.mem_cons_of_mem _ h)
  have hown : s.vm.findClass RX1 = some m.cls := findClass_of_methodNamed B.named
  have hlocks := B.notSynchronized
  have hS : va_S (fun _ => False) s.heap s.heap [] := va_S.rf
  have hl := lv_entry ([.ref d0, .int z1, .int z2]) (n := 3) (Nat.le_of_ble_eq_true rfl)
  rw [lg_entry_eq]
  generalize (lg_sl ([.ref d0, .int z1, .int z2]) ++ List.replicate (3 - (lg_sl ([.ref d0, .int z1, .int z2])).length) Slot.unset).toArray = ls at hl ⊢
  have hl : lv_has ls 3 [(0, .ref d0), (1, .int z1), (2, .int z2)] := hl
  refine lv_iload_n hx hb dX1_log_0 rfl (lv_at hl 1 rfl) ?_
  by_cases b1 : md_bad z1
  · exact vx_callv (vx_runS (As := [.int z1]) (rest := []) ⟨hx, hb, hml, hown, ht⟩ (c_X1_needRegisterR l gs b1) (va_cwS 1 ht (tb_S kl_X1_41 kt_X1_needRegister kn_X1 kc_X1_needRegister) rfl rfl rfl kd_X1_needRegister ⟨Nat.le_of_ble_eq_true rfl, Nat.le_of_ble_eq_true rfl⟩) (nx_preS _ hZ hS) rfl rfl hl.1 rfl (lv_room (Nat.le_of_ble_eq_true rfl)) dX1_log_1 ⟨Nat.le_of_ble_eq_true rfl, Nat.le_of_ble_eq_true rfl⟩) hS (fun _ _ h => h) (fun _ h => h) (fun _ _ h => h) (fun E ce q9 u t H1 locs1 ht9 hvm _ hE hz hk hS hce hcv hcl => vx_out (fun x h9 => (hex x h9).elim) hlocks hce hcv hcl (fun t h8 _ => ⟨(), trivial, hE, by rw [h8]; exact hz, fun q hq hn => by rw [h8]; exact hk q hq hn⟩) hS.2.2 (Nat.le_refl _) (Nat.le_refl _)) (fun _ _ _ _ _ _ hu => hu.elim)
  · obtain ⟨n1, hn1, e1⟩ := md_good b1
    subst e1
    refine va_csv (W.runS (As := [.int (nI n1)]) (rest := []) ⟨hx, hb, hml, hown, ht⟩ (c_X1_needRegister l hn1) (va_cwS 1 ht (tb_S kl_X1_41 kt_X1_needRegister kn_X1 kc_X1_needRegister) rfl rfl rfl kd_X1_needRegister ⟨Nat.le_of_ble_eq_true rfl, Nat.le_of_ble_eq_true rfl⟩) (st_pre _) rfl rfl hl.1 rfl (lv_room (Nat.le_of_ble_eq_true rfl)) dX1_log_1 ⟨Nat.zero_le _, Nat.zero_le _⟩) (fun _ => ?_)
    refine lv_iload_n hx hb dX1_log_4 rfl (lv_at hl 2 rfl) ?_
    by_cases b2 : md_bad z2
    · exact vx_callv (vx_runS (As := [.int z2]) (rest := []) ⟨hx, hb, hml, hown, ht⟩ (c_X1_needRegisterR l gs b2) (va_cwS 1 ht (tb_S kl_X1_41 kt_X1_needRegister kn_X1 kc_X1_needRegister) rfl rfl rfl kd_X1_needRegister ⟨Nat.le_of_ble_eq_true rfl, Nat.le_of_ble_eq_true rfl⟩) (nx_preS _ hZ hS) rfl rfl hl.1 rfl (lv_room (Nat.le_of_ble_eq_true rfl)) dX1_log_5 ⟨Nat.le_of_ble_eq_true rfl, Nat.le_of_ble_eq_true rfl⟩) hS (fun _ _ h => h) (fun _ h => h) (fun _ _ h => h) (fun E ce q9 u t H1 locs1 ht9 hvm _ hE hz hk hS hce hcv hcl => vx_out (fun x h9 => (hex x h9).elim) hlocks hce hcv hcl (fun t h8 _ => ⟨(), trivial, hE, by rw [h8]; exact hz, fun q hq hn => by rw [h8]; exact hk q hq hn⟩) hS.2.2 (Nat.le_refl _) (Nat.le_refl _)) (fun _ _ _ _ _ _ hu => hu.elim)
    · rcases hz with q1 | q2 <;> contradiction
set_option maxHeartbeats 4000000 in
set_option maxRecDepth 100000 in
theorem c_X1_halfR (l : Launch) (gs : Nat → Nat) {d0 : Nat} {z1 z2 : Int32} (hz : md_bad z1 ∨ md_bad z2) : vx_Met l yX1_half wX1_half ({ frames := 7, cells := 1, slots := 6, locals := 110 }) (va_Pc [.ref d0, .int z1, .int z2] (fun U => nx_K l gs (fun _ => False) U U.heap)) (va_Qi (S := Unit) (fun _ _ => False) (fun _ _ => True) (fun _ => False)) (nx_X nS) 1 6 (fun _ => False) := by
  refine vx_ofW (cc := cX1_half) (maxL := 5) (ret := (some .int)) (by decide) rfl ?_
  intro p e s m args below meth c s₁ B hml hex hv
  obtain ⟨rfl, hZ⟩ := hv
  have hx := B.exec
  have hb := B.bytes
  have hr := B.returns
  have hts := atoms_spec (ws := wX1_half) B.pre
  have ht : ∀ w ∈ tb_all, w.before _ s = true := fun w h => hts w (List.mem_cons_of_mem _ h)
  have hown : s.vm.findClass RX1 = some m.cls := findClass_of_methodNamed B.named
  have hlocks := B.notSynchronized
  have hS : va_S (fun _ => False) s.heap s.heap [] := va_S.rf
  have hl := lv_entry ([.ref d0, .int z1, .int z2]) (n := 5) (Nat.le_of_ble_eq_true rfl)
  rw [lg_entry_eq]
  generalize (lg_sl ([.ref d0, .int z1, .int z2]) ++ List.replicate (5 - (lg_sl ([.ref d0, .int z1, .int z2])).length) Slot.unset).toArray = ls at hl ⊢
  have hl : lv_has ls 5 [(0, .ref d0), (1, .int z1), (2, .int z2)] := hl
  refine lv_iload_n hx hb dX1_half_0 rfl (lv_at hl 1 rfl) ?_
  by_cases b1 : md_bad z1
  · exact vx_callv (vx_runS (As := [.int z1]) (rest := []) ⟨hx, hb, hml, hown, ht⟩ (c_X1_needRegisterR l gs b1) (va_cwS 1 ht (tb_S kl_X1_41 kt_X1_needRegister kn_X1 kc_X1_needRegister) rfl rfl rfl kd_X1_needRegister ⟨Nat.le_of_ble_eq_true rfl, Nat.le_of_ble_eq_true rfl⟩) (nx_preS _ hZ hS) rfl rfl hl.1 rfl (lv_room (Nat.le_of_ble_eq_true rfl)) dX1_half_1 ⟨Nat.le_of_ble_eq_true rfl, Nat.le_of_ble_eq_true rfl⟩) hS (fun _ _ h => h) (fun _ h => h) (fun _ _ h => h) (fun E ce q9 u t H1 locs1 ht9 hvm _ hE hz hk hS hce hcv hcl => vx_out (fun x h9 => (hex x h9).elim) hlocks hce hcv hcl (fun t h8 _ => ⟨(), trivial, hE, by rw [h8]; exact hz, fun q hq hn => by rw [h8]; exact hk q hq hn⟩) hS.2.2 (Nat.le_refl _) (Nat.le_refl _)) (fun _ _ _ _ _ _ hu => hu.elim)
  · obtain ⟨n1, hn1, e1⟩ := md_good b1
    subst e1
    refine va_csv (W.runS (As := [.int (nI n1)]) (rest := []) ⟨hx, hb, hml, hown, ht⟩ (c_X1_needRegister l hn1) (va_cwS 1 ht (tb_S kl_X1_41 kt_X1_needRegister kn_X1 kc_X1_needRegister) rfl rfl rfl kd_X1_needRegister ⟨Nat.le_of_ble_eq_true rfl, Nat.le_of_ble_eq_true rfl⟩) (st_pre _) rfl rfl hl.1 rfl (lv_room (Nat.le_of_ble_eq_true rfl)) dX1_half_1 ⟨Nat.zero_le _, Nat.zero_le _⟩) (fun _ => ?_)
    refine lv_iload_n hx hb dX1_half_4 rfl (lv_at hl 2 rfl) ?_
    by_cases b2 : md_bad z2
    · exact vx_callv (vx_runS (As := [.int z2]) (rest := []) ⟨hx, hb, hml, hown, ht⟩ (c_X1_needRegisterR l gs b2) (va_cwS 1 ht (tb_S kl_X1_41 kt_X1_needRegister kn_X1 kc_X1_needRegister) rfl rfl rfl kd_X1_needRegister ⟨Nat.le_of_ble_eq_true rfl, Nat.le_of_ble_eq_true rfl⟩) (nx_preS _ hZ hS) rfl rfl hl.1 rfl (lv_room (Nat.le_of_ble_eq_true rfl)) dX1_half_5 ⟨Nat.le_of_ble_eq_true rfl, Nat.le_of_ble_eq_true rfl⟩) hS (fun _ _ h => h) (fun _ h => h) (fun _ _ h => h) (fun E ce q9 u t H1 locs1 ht9 hvm _ hE hz hk hS hce hcv hcl => vx_out (fun x h9 => (hex x h9).elim) hlocks hce hcv hcl (fun t h8 _ => ⟨(), trivial, hE, by rw [h8]; exact hz, fun q hq hn => by rw [h8]; exact hk q hq hn⟩) hS.2.2 (Nat.le_refl _) (Nat.le_refl _)) (fun _ _ _ _ _ _ hu => hu.elim)
    · rcases hz with q1 | q2 <;> contradiction
set_option maxHeartbeats 4000000 in
set_option maxRecDepth 100000 in
theorem c_X1_signR (l : Launch) (gs : Nat → Nat) {d0 : Nat} {z1 y1 y2 : Int32} (hz : md_bad z1) : vx_Met l yX1_sign wX1_sign ({ frames := 7, cells := 1, slots := 6, locals := 110 }) (va_Pc [.ref d0, .int z1, .int y1, .int y2] (fun U => nx_K l gs (fun _ => False) U U.heap)) (va_Ql (S := Unit) (fun _ _ => False) (fun _ _ => True) (fun _ => False)) (nx_X nS) 1 6 (fun _ => False) := by
  refine vx_ofW (cc := cX1_sign) (maxL := 12) (ret := (some .long)) (by decide) rfl ?_
  intro p e s m args below meth c s₁ B hml hex hv
  obtain ⟨rfl, hZ⟩ := hv
  have hx := B.exec
  have hb := B.bytes
  have hr := B.returns
  have hts := atoms_spec (ws := wX1_sign) B.pre
  have ht : ∀ w ∈ tb_all, w.before _ s = true := fun w h => hts w (List.mem_cons_of_mem _ h)
  have hown : s.vm.findClass RX1 = some m.cls := findClass_of_methodNamed B.named
  have hlocks := B.notSynchronized
  have hS : va_S (fun _ => False) s.heap s.heap [] := va_S.rf
  have hl := lv_entry ([.ref d0, .int z1, .int y1, .int y2]) (n := 12) (Nat.le_of_ble_eq_true rfl)
  rw [lg_entry_eq]
  generalize (lg_sl ([.ref d0, .int z1, .int y1, .int y2]) ++ List.replicate (12 - (lg_sl ([.ref d0, .int z1, .int y1, .int y2])).length) Slot.unset).toArray = ls at hl ⊢
  have hl : lv_has ls 12 [(0, .ref d0), (1, .int z1), (2, .int y1), (3, .int y2)] := hl
  refine lv_iload_n hx hb dX1_sign_0 rfl (lv_at hl 1 rfl) ?_
  by_cases b1 : md_bad z1
  · exact vx_callv (vx_runS (As := [.int z1]) (rest := []) ⟨hx, hb, hml, hown, ht⟩ (c_X1_needRegisterR l gs b1) (va_cwS 1 ht (tb_S kl_X1_41 kt_X1_needRegister kn_X1 kc_X1_needRegister) rfl rfl rfl kd_X1_needRegister ⟨Nat.le_of_ble_eq_true rfl, Nat.le_of_ble_eq_true rfl⟩) (nx_preS _ hZ hS) rfl rfl hl.1 rfl (lv_room (Nat.le_of_ble_eq_true rfl)) dX1_sign_1 ⟨Nat.le_of_ble_eq_true rfl, Nat.le_of_ble_eq_true rfl⟩) hS (fun _ _ h => h) (fun _ h => h) (fun _ _ h => h) (fun E ce q9 u t H1 locs1 ht9 hvm _ hE hz hk hS hce hcv hcl => vx_out (fun x h9 => (hex x h9).elim) hlocks hce hcv hcl (fun t h8 _ => ⟨(), trivial, hE, by rw [h8]; exact hz, fun q hq hn => by rw [h8]; exact hk q hq hn⟩) hS.2.2 (Nat.le_refl _) (Nat.le_refl _)) (fun _ _ _ _ _ _ hu => hu.elim)
  · contradiction
set_option maxHeartbeats 4000000 in
set_option maxRecDepth 100000 in
theorem c_X1_verifyR (l : Launch) (gs : Nat → Nat) {d0 : Nat} {z1 z2 y1 : Int32} {l1 : Int64} (hz : md_bad z1 ∨ md_bad z2) : vx_Met l yX1_verify wX1_verify ({ frames := 7, cells := 1, slots := 6, locals := 110 }) (va_Pc [.ref d0, .int z1, .int z2, .int y1, .long l1] (fun U => nx_K l gs (fun _ => False) U U.heap)) (va_Qi (S := Unit) (fun _ _ => False) (fun _ _ => True) (fun _ => False)) (nx_X nS) 1 6 (fun _ => False) := by
  refine vx_ofW (cc := cX1_verify) (maxL := 12) (ret := (some .boolean)) (by decide) rfl ?_
  intro p e s m args below meth c s₁ B hml hex hv
  obtain ⟨rfl, hZ⟩ := hv
  have hx := B.exec
  have hb := B.bytes
  have hr := B.returns
  have hts := atoms_spec (ws := wX1_verify) B.pre
  have ht : ∀ w ∈ tb_all, w.before _ s = true := fun w h => hts w (List.mem_cons_of_mem _ h)
  have hown : s.vm.findClass RX1 = some m.cls := findClass_of_methodNamed B.named
  have hlocks := B.notSynchronized
  have hS : va_S (fun _ => False) s.heap s.heap [] := va_S.rf
  have hl := lv_entry ([.ref d0, .int z1, .int z2, .int y1, .long l1]) (n := 12) (Nat.le_of_ble_eq_true rfl)
  rw [lg_entry_eq]
  generalize (lg_sl ([.ref d0, .int z1, .int z2, .int y1, .long l1]) ++ List.replicate (12 - (lg_sl ([.ref d0, .int z1, .int z2, .int y1, .long l1])).length) Slot.unset).toArray = ls at hl ⊢
  have hl : lv_has ls 12 [(0, .ref d0), (1, .int z1), (2, .int z2), (3, .int y1), (4, .long l1)] := hl
  refine lv_iload_n hx hb dX1_verify_0 rfl (lv_at hl 1 rfl) ?_
  by_cases b1 : md_bad z1
  · exact vx_callv (vx_runS (As := [.int z1]) (rest := []) ⟨hx, hb, hml, hown, ht⟩ (c_X1_needRegisterR l gs b1) (va_cwS 1 ht (tb_S kl_X1_41 kt_X1_needRegister kn_X1 kc_X1_needRegister) rfl rfl rfl kd_X1_needRegister ⟨Nat.le_of_ble_eq_true rfl, Nat.le_of_ble_eq_true rfl⟩) (nx_preS _ hZ hS) rfl rfl hl.1 rfl (lv_room (Nat.le_of_ble_eq_true rfl)) dX1_verify_1 ⟨Nat.le_of_ble_eq_true rfl, Nat.le_of_ble_eq_true rfl⟩) hS (fun _ _ h => h) (fun _ h => h) (fun _ _ h => h) (fun E ce q9 u t H1 locs1 ht9 hvm _ hE hz hk hS hce hcv hcl => vx_out (fun x h9 => (hex x h9).elim) hlocks hce hcv hcl (fun t h8 _ => ⟨(), trivial, hE, by rw [h8]; exact hz, fun q hq hn => by rw [h8]; exact hk q hq hn⟩) hS.2.2 (Nat.le_refl _) (Nat.le_refl _)) (fun _ _ _ _ _ _ hu => hu.elim)
  · obtain ⟨n1, hn1, e1⟩ := md_good b1
    subst e1
    refine va_csv (W.runS (As := [.int (nI n1)]) (rest := []) ⟨hx, hb, hml, hown, ht⟩ (c_X1_needRegister l hn1) (va_cwS 1 ht (tb_S kl_X1_41 kt_X1_needRegister kn_X1 kc_X1_needRegister) rfl rfl rfl kd_X1_needRegister ⟨Nat.le_of_ble_eq_true rfl, Nat.le_of_ble_eq_true rfl⟩) (st_pre _) rfl rfl hl.1 rfl (lv_room (Nat.le_of_ble_eq_true rfl)) dX1_verify_1 ⟨Nat.zero_le _, Nat.zero_le _⟩) (fun _ => ?_)
    refine lv_iload_n hx hb dX1_verify_4 rfl (lv_at hl 2 rfl) ?_
    by_cases b2 : md_bad z2
    · exact vx_callv (vx_runS (As := [.int z2]) (rest := []) ⟨hx, hb, hml, hown, ht⟩ (c_X1_needRegisterR l gs b2) (va_cwS 1 ht (tb_S kl_X1_41 kt_X1_needRegister kn_X1 kc_X1_needRegister) rfl rfl rfl kd_X1_needRegister ⟨Nat.le_of_ble_eq_true rfl, Nat.le_of_ble_eq_true rfl⟩) (nx_preS _ hZ hS) rfl rfl hl.1 rfl (lv_room (Nat.le_of_ble_eq_true rfl)) dX1_verify_5 ⟨Nat.le_of_ble_eq_true rfl, Nat.le_of_ble_eq_true rfl⟩) hS (fun _ _ h => h) (fun _ h => h) (fun _ _ h => h) (fun E ce q9 u t H1 locs1 ht9 hvm _ hE hz hk hS hce hcv hcl => vx_out (fun x h9 => (hex x h9).elim) hlocks hce hcv hcl (fun t h8 _ => ⟨(), trivial, hE, by rw [h8]; exact hz, fun q hq hn => by rw [h8]; exact hk q hq hn⟩) hS.2.2 (Nat.le_refl _) (Nat.le_refl _)) (fun _ _ _ _ _ _ hu => hu.elim)
    · rcases hz with q1 | q2 <;> contradiction
set_option maxHeartbeats 4000000 in
set_option maxRecDepth 100000 in
theorem c_X1_signN (l : Launch) (gs : Nat → Nat) {d0 j : Nat} (hj : j < 12) {y1 y2 : Int32} (hz : md_nb y1 ∨ md_nb y2) : vx_Met l yX1_sign wX1_sign ({ frames := 7, cells := 1, slots := 6, locals := 110 }) (va_Pc [.ref d0, .int (nI j), .int y1, .int y2] (fun U => nx_K l gs (fun _ => False) U U.heap)) (va_Ql (S := Unit) (fun _ _ => False) (fun _ _ => True) (fun _ => False)) (nx_X nA) 1 6 (fun _ => False) := by
  refine vx_ofW (cc := cX1_sign) (maxL := 12) (ret := (some .long)) (by decide) rfl ?_
  intro p e s m args below meth c s₁ B hml hex hv
  obtain ⟨rfl, hZ⟩ := hv
  have hx := B.exec
  have hb := B.bytes
  have hr := B.returns
  have hts := atoms_spec (ws := wX1_sign) B.pre
  have ht : ∀ w ∈ tb_all, w.before _ s = true := fun w h => hts w (List.mem_cons_of_mem _ h)
  have hown : s.vm.findClass RX1 = some m.cls := findClass_of_methodNamed B.named
  have hlocks := B.notSynchronized
  have hS : va_S (fun _ => False) s.heap s.heap [] := va_S.rf
  have hl := lv_entry ([.ref d0, .int (nI j), .int y1, .int y2]) (n := 12) (Nat.le_of_ble_eq_true rfl)
  rw [lg_entry_eq]
  generalize (lg_sl ([.ref d0, .int (nI j), .int y1, .int y2]) ++ List.replicate (12 - (lg_sl ([.ref d0, .int (nI j), .int y1, .int y2])).length) Slot.unset).toArray = ls at hl ⊢
  have hl : lv_has ls 12 [(0, .ref d0), (1, .int (nI j)), (2, .int y1), (3, .int y2)] := hl
  refine lv_iload_n hx hb dX1_sign_0 rfl (lv_at hl 1 rfl) ?_
  refine va_csv (W.runS (As := [.int (nI j)]) (rest := []) ⟨hx, hb, hml, hown, ht⟩ (c_X1_needRegister l hj) (va_cwS 1 ht (tb_S kl_X1_41 kt_X1_needRegister kn_X1 kc_X1_needRegister) rfl rfl rfl kd_X1_needRegister ⟨Nat.le_of_ble_eq_true rfl, Nat.le_of_ble_eq_true rfl⟩) (st_pre _) rfl rfl hl.1 rfl (lv_room (Nat.le_of_ble_eq_true rfl)) dX1_sign_1 ⟨Nat.zero_le _, Nat.zero_le _⟩) (fun _ => ?_)
  refine lv_iload_n hx hb dX1_sign_4 rfl (lv_at hl 2 rfl) ?_
  by_cases b1 : md_nb y1
  · exact vx_callv (vx_runS (As := [.int y1]) (rest := []) ⟨hx, hb, hml, hown, ht⟩ (c_X1_needNumberN l gs b1) (va_cwS 1 ht (tb_S kl_X1_101 kt_X1_needNumber kn_X1 kc_X1_needNumber) rfl rfl rfl kd_X1_needNumber ⟨Nat.le_of_ble_eq_true rfl, Nat.le_of_ble_eq_true rfl⟩) (nx_preS _ hZ hS) rfl rfl hl.1 rfl (lv_room (Nat.le_of_ble_eq_true rfl)) dX1_sign_5 ⟨Nat.le_of_ble_eq_true rfl, Nat.le_of_ble_eq_true rfl⟩) hS (fun _ _ h => h) (fun _ h => h) (fun _ _ h => h) (fun E ce q9 u t H1 locs1 ht9 hvm _ hE hz hk hS hce hcv hcl => vx_out (fun x h9 => (hex x h9).elim) hlocks hce hcv hcl (fun t h8 _ => ⟨(), trivial, hE, by rw [h8]; exact hz, fun q hq hn => by rw [h8]; exact hk q hq hn⟩) hS.2.2 (Nat.le_refl _) (Nat.le_refl _)) (fun _ _ _ _ _ _ hu => hu.elim)
  · obtain ⟨n1, hn1, e1⟩ := md_gn b1
    subst e1
    refine va_csv (W.runS (As := [.int (nI n1)]) (rest := []) ⟨hx, hb, hml, hown, ht⟩ (c_X1_needNumber l hn1) (va_cwS 1 ht (tb_S kl_X1_101 kt_X1_needNumber kn_X1 kc_X1_needNumber) rfl rfl rfl kd_X1_needNumber ⟨Nat.le_of_ble_eq_true rfl, Nat.le_of_ble_eq_true rfl⟩) (st_pre _) rfl rfl hl.1 rfl (lv_room (Nat.le_of_ble_eq_true rfl)) dX1_sign_5 ⟨Nat.zero_le _, Nat.zero_le _⟩) (fun _ => ?_)
    refine lv_iload_n hx hb dX1_sign_8 rfl (lv_at hl 3 rfl) ?_
    exact vx_callv (vx_runS (As := [.int y2]) (rest := []) ⟨hx, hb, hml, hown, ht⟩ (c_X1_needNumberN l gs (hz.resolve_left b1)) (va_cwS 1 ht (tb_S kl_X1_101 kt_X1_needNumber kn_X1 kc_X1_needNumber) rfl rfl rfl kd_X1_needNumber ⟨Nat.le_of_ble_eq_true rfl, Nat.le_of_ble_eq_true rfl⟩) (nx_preS _ hZ hS) rfl rfl hl.1 rfl (lv_room (Nat.le_of_ble_eq_true rfl)) dX1_sign_9 ⟨Nat.le_of_ble_eq_true rfl, Nat.le_of_ble_eq_true rfl⟩) hS (fun _ _ h => h) (fun _ h => h) (fun _ _ h => h) (fun E ce q9 u t H1 locs1 ht9 hvm _ hE hz hk hS hce hcv hcl => vx_out (fun x h9 => (hex x h9).elim) hlocks hce hcv hcl (fun t h8 _ => ⟨(), trivial, hE, by rw [h8]; exact hz, fun q hq hn => by rw [h8]; exact hk q hq hn⟩) hS.2.2 (Nat.le_refl _) (Nat.le_refl _)) (fun _ _ _ _ _ _ hu => hu.elim)
set_option maxHeartbeats 4000000 in
set_option maxRecDepth 100000 in
theorem c_X1_verifyN (l : Launch) (gs : Nat → Nat) {d0 j j2 : Nat} (hj : j < 12) (hj2 : j2 < 12) {y1 : Int32} {l1 : Int64} (hz : md_nb y1) : vx_Met l yX1_verify wX1_verify ({ frames := 7, cells := 1, slots := 6, locals := 110 }) (va_Pc [.ref d0, .int (nI j), .int (nI j2), .int y1, .long l1] (fun U => nx_K l gs (fun _ => False) U U.heap)) (va_Qi (S := Unit) (fun _ _ => False) (fun _ _ => True) (fun _ => False)) (nx_X nA) 1 6 (fun _ => False) := by
  refine vx_ofW (cc := cX1_verify) (maxL := 12) (ret := (some .boolean)) (by decide) rfl ?_
  intro p e s m args below meth c s₁ B hml hex hv
  obtain ⟨rfl, hZ⟩ := hv
  have hx := B.exec
  have hb := B.bytes
  have hr := B.returns
  have hts := atoms_spec (ws := wX1_verify) B.pre
  have ht : ∀ w ∈ tb_all, w.before _ s = true := fun w h => hts w (List.mem_cons_of_mem _ h)
  have hown : s.vm.findClass RX1 = some m.cls := findClass_of_methodNamed B.named
  have hlocks := B.notSynchronized
  have hS : va_S (fun _ => False) s.heap s.heap [] := va_S.rf
  have hl := lv_entry ([.ref d0, .int (nI j), .int (nI j2), .int y1, .long l1]) (n := 12) (Nat.le_of_ble_eq_true rfl)
  rw [lg_entry_eq]
  generalize (lg_sl ([.ref d0, .int (nI j), .int (nI j2), .int y1, .long l1]) ++ List.replicate (12 - (lg_sl ([.ref d0, .int (nI j), .int (nI j2), .int y1, .long l1])).length) Slot.unset).toArray = ls at hl ⊢
  have hl : lv_has ls 12 [(0, .ref d0), (1, .int (nI j)), (2, .int (nI j2)), (3, .int y1), (4, .long l1)] := hl
  refine lv_iload_n hx hb dX1_verify_0 rfl (lv_at hl 1 rfl) ?_
  refine va_csv (W.runS (As := [.int (nI j)]) (rest := []) ⟨hx, hb, hml, hown, ht⟩ (c_X1_needRegister l hj) (va_cwS 1 ht (tb_S kl_X1_41 kt_X1_needRegister kn_X1 kc_X1_needRegister) rfl rfl rfl kd_X1_needRegister ⟨Nat.le_of_ble_eq_true rfl, Nat.le_of_ble_eq_true rfl⟩) (st_pre _) rfl rfl hl.1 rfl (lv_room (Nat.le_of_ble_eq_true rfl)) dX1_verify_1 ⟨Nat.zero_le _, Nat.zero_le _⟩) (fun _ => ?_)
  refine lv_iload_n hx hb dX1_verify_4 rfl (lv_at hl 2 rfl) ?_
  refine va_csv (W.runS (As := [.int (nI j2)]) (rest := []) ⟨hx, hb, hml, hown, ht⟩ (c_X1_needRegister l hj2) (va_cwS 1 ht (tb_S kl_X1_41 kt_X1_needRegister kn_X1 kc_X1_needRegister) rfl rfl rfl kd_X1_needRegister ⟨Nat.le_of_ble_eq_true rfl, Nat.le_of_ble_eq_true rfl⟩) (st_pre _) rfl rfl hl.1 rfl (lv_room (Nat.le_of_ble_eq_true rfl)) dX1_verify_5 ⟨Nat.zero_le _, Nat.zero_le _⟩) (fun _ => ?_)
  refine lv_iload_n hx hb dX1_verify_8 rfl (lv_at hl 3 rfl) ?_
  exact vx_callv (vx_runS (As := [.int y1]) (rest := []) ⟨hx, hb, hml, hown, ht⟩ (c_X1_needNumberN l gs hz) (va_cwS 1 ht (tb_S kl_X1_101 kt_X1_needNumber kn_X1 kc_X1_needNumber) rfl rfl rfl kd_X1_needNumber ⟨Nat.le_of_ble_eq_true rfl, Nat.le_of_ble_eq_true rfl⟩) (nx_preS _ hZ hS) rfl rfl hl.1 rfl (lv_room (Nat.le_of_ble_eq_true rfl)) dX1_verify_9 ⟨Nat.le_of_ble_eq_true rfl, Nat.le_of_ble_eq_true rfl⟩) hS (fun _ _ h => h) (fun _ h => h) (fun _ _ h => h) (fun E ce q9 u t H1 locs1 ht9 hvm _ hE hz hk hS hce hcv hcl => vx_out (fun x h9 => (hex x h9).elim) hlocks hce hcv hcl (fun t h8 _ => ⟨(), trivial, hE, by rw [h8]; exact hz, fun q hq hn => by rw [h8]; exact hk q hq hn⟩) hS.2.2 (Nat.le_refl _) (Nat.le_refl _)) (fun _ _ _ _ _ _ hu => hu.elim)
set_option maxHeartbeats 4000000 in
set_option maxRecDepth 100000 in
theorem c_X1_putN (l : Launch) (gs : Nat → Nat) (D : va_G) {k : Nat} (hk5 : k < 5) {d0 dc dr h0 ai ar af ap ah ac : Nat} {cA : ClassId} {hk : Int32} {rg fi fr ff fp fh fn : Nat → Int32} {R : Nat → Nat × Nat} (hok : cv_ok k fi fr ff) (hrg : ∀ j, j < 12 → tw_on (tw_P k) (tw_D k) (R j) ∧ rg j = nI (tw_en (R j))) {j : Nat} (hj : j < 12) {y1 y2 : Int32} (hz : ∀ x y, y1 = nI x → y2 = nI y → ¬ tw_on (tw_P k) (tw_D k) (x, y)) : vx_Met l yX1_put wX1_put ({ frames := 7, cells := 1, slots := 6, locals := 110 }) (va_Pc [.ref d0, .int (nI j), .int y1, .int y2] (fun U => nx_K l gs (fun _ => False) U U.heap ∧ va_P D vwCl [(d0, .inr (1, [.ref dc, .ref dr, .int (nI k), .ref h0])), (dr, .inl (cA, 12, .inl rg)), (h0, .inr (0, [.int (nI (tw_P k)), .int (nI (tw_D k)), .int (nI (tw_I k)), .int (nI (tw_N k)), .ref ai, .ref ar, .ref af, .ref ap, .ref ah, .ref ac, .int (nI ((tw_fs k).length)), .int hk])), (ai, .inl (cA, tw_P k, .inl fi)), (ar, .inl (cA, tw_P k, .inl fr)), (af, .inl (cA, 14, .inl ff)), (ap, .inl (cA, 2 * tw_P k, .inl fp)), (ah, .inl (cA, 2 * tw_P k, .inl fh)), (ac, .inl (cA, 2 * tw_P k, .inl fn))] U.heap ∧ va_K D vwCl [(cA, .int)] U)) (va_Qv (S := Unit) (fun _ => False) (fun _ _ => True) (fun _ => False)) (nx_X nA) 1 6 (fun _ => False) := by
  refine vx_ofW (cc := cX1_put) (maxL := 4) (ret := none) (by decide) rfl ?_
  intro p e s m args below meth c s₁ B hml hex hv
  obtain ⟨rfl, hZ, hP, hK⟩ := hv
  have hx := B.exec
  have hb := B.bytes
  have hr := B.returns
  have hts := atoms_spec (ws := wX1_put) B.pre
  have ht : ∀ w ∈ tb_all, w.before _ s = true := fun w h => hts w (List.mem_cons_of_mem _ h)
  have hown : s.vm.findClass RX1 = some m.cls := findClass_of_methodNamed B.named
  have hlocks := B.notSynchronized
  have hS : va_S (fun _ => False) s.heap s.heap [] := va_S.rf
  have hl := lv_entry ([.ref d0, .int (nI j), .int y1, .int y2]) (n := 4) (Nat.le_of_ble_eq_true rfl)
  rw [lg_entry_eq]
  generalize (lg_sl ([.ref d0, .int (nI j), .int y1, .int y2]) ++ List.replicate (4 - (lg_sl ([.ref d0, .int (nI j), .int y1, .int y2])).length) Slot.unset).toArray = ls at hl ⊢
  have hl : lv_has ls 4 [(0, .ref d0), (1, .int (nI j)), (2, .int y1), (3, .int y2)] := hl
  obtain ⟨hP0, hP2, hD2, hI2, hDP⟩ := tw_kb hk5
  have hK0 := tw_kK k hk5
  have hP8 : tw_P k ≤ 8192 := by omega
  have hN := tw_kN k hk5
  have zk : k ≤ 4 := by omega
  obtain ⟨hfi, hfr, hff⟩ := hok
  refine lv_iload_n hx hb dX1_put_0 rfl (lv_at hl 1 rfl) ?_
  refine va_csv (W.runS (As := [.int (nI j)]) (rest := []) ⟨hx, hb, hml, hown, ht⟩ (c_X1_needRegister l hj) (va_cwS 1 ht (tb_S kl_X1_41 kt_X1_needRegister kn_X1 kc_X1_needRegister) rfl rfl rfl kd_X1_needRegister ⟨Nat.le_of_ble_eq_true rfl, Nat.le_of_ble_eq_true rfl⟩) (st_pre _) rfl rfl hl.1 rfl (lv_room (Nat.le_of_ble_eq_true rfl)) dX1_put_1 ⟨Nat.zero_le _, Nat.zero_le _⟩) (fun _ => ?_)
  refine lv_aload_n hx hb dX1_put_4 rfl (lv_at hl 0 rfl) ?_
  refine va_get (D := D) (ci := 1) (v := .ref h0) (C := RX1) (T := TX1) (N := 4) hx hb ht inX1 hown hK hP 0 rfl rfl 3 (by decide) (ht _ kf_X1_33) (fun _ h9 => h9) rfl dX1_put_5 ?_
  refine lv_iload_n hx hb dX1_put_8 rfl (lv_at hl 2 rfl) ?_
  refine lv_iload_n hx hb dX1_put_9 rfl (lv_at hl 3 rfl) ?_
  by_cases b1 : y1 < 0 ∨ nI (tw_P k) ≤ y1 ∨ y2 < 0 ∨ nI (tw_P k) ≤ y2
  · refine vp_callSi (W.runV (As := [.int y1, .int y2]) (rest := []) ⟨hx, hb, hml, hown, ht⟩ (c_X0_holdsM l D hk5 b1) (cwV 2 ht (tb_V kl_X1_44 ki_X0_holds ks_X0_holds kn_X0 kc_X0_holds) rfl rfl rfl ⟨rfl, kd_X0_holds⟩ ⟨Nat.le_of_ble_eq_true rfl, Nat.le_of_ble_eq_true rfl⟩) (cv_preH (hP.sub (ws' := [(h0, .inr (0, [.int (nI (tw_P k)), .int (nI (tw_D k)), .int (nI (tw_I k)), .int (nI (tw_N k)), .ref ai, .ref ar, .ref af, .ref ap, .ref ah, .ref ac, .int (nI ((tw_fs k).length)), .int hk])), (ai, .inl (cA, tw_P k, .inl fi)), (ar, .inl (cA, tw_P k, .inl fr)), (af, .inl (cA, 14, .inl ff)), (ap, .inl (cA, 2 * tw_P k, .inl fp)), (ah, .inl (cA, 2 * tw_P k, .inl fh)), (ac, .inl (cA, 2 * tw_P k, .inl fn))]) [2, 3, 4, 5, 6, 7, 8] rfl) hK hfi hfr _) rfl rfl hl.1 rfl (lv_room (Nat.le_of_ble_eq_true rfl)) dX1_put_10 ⟨Nat.zero_le _, Nat.zero_le _⟩) (fun r hr9 => ?_)
    subst hr9
    refine lv_if_ne (tgt := 26) hx hb dX1_put_13 (by decide) (fun c9 => absurd rfl c9) (fun _ => ?_)
    exact vx_throwS hx hb hZ.1 (names := nxN) hown (by decide +kernel) (by decide +kernel) (ht _ (nx_k1 _ (List.mem_of_getElem? (i := 2) rfl)).1) (ht _ (nx_k1 _ (List.mem_of_getElem? (i := 3) rfl)).1) hZ.2.2.2.2.2.2.1 (nx_hA ht hZ.2.2.2.1) nx_oA hZ.2.1 hZ.2.2.1 hS (hl.1.trans hml.symm) dX1_put_16 dX1_put_19 dX1_put_20 dX1_put_22 dX1_put_25 (fun x h9 => (hex x h9).elim) (Nat.le_of_ble_eq_true rfl) (Nat.le_of_ble_eq_true rfl) (Nat.le_of_ble_eq_true rfl) (Nat.le_of_ble_eq_true rfl) hlocks (fun t _ h1 h2 => ⟨(), trivial, rfl, h1, fun q hq _ => h2 q hq⟩) (fun z h9 => nomatch h9) (Nat.le_refl _) (Nat.le_refl _)
  · obtain ⟨x, hx9, e1⟩ := md_lo (fun q => b1 (Or.inl q)) (fun q => b1 (Or.inr (Or.inl q))) (by omega)
    obtain ⟨y, hy9, e2⟩ := md_lo (fun q => b1 (Or.inr (Or.inr (Or.inl q)))) (fun q => b1 (Or.inr (Or.inr (Or.inr q)))) (by omega)
    subst e1
    subst e2
    refine vp_callSi (W.runV (As := [.int (nI x), .int (nI y)]) (rest := []) ⟨hx, hb, hml, hown, ht⟩ (c_X0_holds l D hk5 hx9 hy9) (cwV 2 ht (tb_V kl_X1_44 ki_X0_holds ks_X0_holds kn_X0 kc_X0_holds) rfl rfl rfl ⟨rfl, kd_X0_holds⟩ ⟨Nat.le_of_ble_eq_true rfl, Nat.le_of_ble_eq_true rfl⟩) (cv_preH (hP.sub (ws' := [(h0, .inr (0, [.int (nI (tw_P k)), .int (nI (tw_D k)), .int (nI (tw_I k)), .int (nI (tw_N k)), .ref ai, .ref ar, .ref af, .ref ap, .ref ah, .ref ac, .int (nI ((tw_fs k).length)), .int hk])), (ai, .inl (cA, tw_P k, .inl fi)), (ar, .inl (cA, tw_P k, .inl fr)), (af, .inl (cA, 14, .inl ff)), (ap, .inl (cA, 2 * tw_P k, .inl fp)), (ah, .inl (cA, 2 * tw_P k, .inl fh)), (ac, .inl (cA, 2 * tw_P k, .inl fn))]) [2, 3, 4, 5, 6, 7, 8] rfl) hK hfi hfr _) rfl rfl hl.1 rfl (lv_room (Nat.le_of_ble_eq_true rfl)) dX1_put_10 ⟨Nat.zero_le _, Nat.zero_le _⟩) (fun r hr9 => ?_)
    subst hr9
    rw [if_neg (fun q => hz x y rfl rfl ⟨hx9, hy9, q⟩)]
    refine lv_if_ne (tgt := 26) hx hb dX1_put_13 (by decide) (fun c9 => absurd rfl c9) (fun _ => ?_)
    exact vx_throwS hx hb hZ.1 (names := nxN) hown (by decide +kernel) (by decide +kernel) (ht _ (nx_k1 _ (List.mem_of_getElem? (i := 2) rfl)).1) (ht _ (nx_k1 _ (List.mem_of_getElem? (i := 3) rfl)).1) hZ.2.2.2.2.2.2.1 (nx_hA ht hZ.2.2.2.1) nx_oA hZ.2.1 hZ.2.2.1 hS (hl.1.trans hml.symm) dX1_put_16 dX1_put_19 dX1_put_20 dX1_put_22 dX1_put_25 (fun x h9 => (hex x h9).elim) (Nat.le_of_ble_eq_true rfl) (Nat.le_of_ble_eq_true rfl) (Nat.le_of_ble_eq_true rfl) (Nat.le_of_ble_eq_true rfl) hlocks (fun t _ h1 h2 => ⟨(), trivial, rfl, h1, fun q hq _ => h2 q hq⟩) (fun z h9 => nomatch h9) (Nat.le_refl _) (Nat.le_refl _)
set_option maxHeartbeats 4000000 in
set_option maxRecDepth 100000 in
theorem c_X1_unpackN (l : Launch) (gs : Nat → Nat) (D : va_G) {k : Nat} (hk5 : k < 5) {d0 dc dr h0 ai ar af ap ah ac : Nat} {cA : ClassId} {hk : Int32} {rg fi fr ff fp fh fn : Nat → Int32} {R : Nat → Nat × Nat} (hok : cv_ok k fi fr ff) (hrg : ∀ j, j < 12 → tw_on (tw_P k) (tw_D k) (R j) ∧ rg j = nI (tw_en (R j))) {j : Nat} (hj : j < 12) {y1 : Int32} (hz : y1 < 0 ∨ ∃ m9, m9 < 2 ^ 31 ∧ y1 = nI m9 ∧ tw_rd (tw_P k) (tw_D k) m9 = none) : vx_Met l yX1_unpack wX1_unpack ({ frames := 7, cells := 1, slots := 6, locals := 110 }) (va_Pc [.ref d0, .int (nI j), .int y1] (fun U => nx_K l gs (fun _ => False) U U.heap ∧ va_P D vwCl [(d0, .inr (1, [.ref dc, .ref dr, .int (nI k), .ref h0])), (dr, .inl (cA, 12, .inl rg)), (h0, .inr (0, [.int (nI (tw_P k)), .int (nI (tw_D k)), .int (nI (tw_I k)), .int (nI (tw_N k)), .ref ai, .ref ar, .ref af, .ref ap, .ref ah, .ref ac, .int (nI ((tw_fs k).length)), .int hk])), (ai, .inl (cA, tw_P k, .inl fi)), (ar, .inl (cA, tw_P k, .inl fr)), (af, .inl (cA, 14, .inl ff)), (ap, .inl (cA, 2 * tw_P k, .inl fp)), (ah, .inl (cA, 2 * tw_P k, .inl fh)), (ac, .inl (cA, 2 * tw_P k, .inl fn))] U.heap ∧ va_K D vwCl [(cA, .int)] U)) (va_Qv (S := Unit) (fun _ => False) (fun _ _ => True) (fun _ => False)) (nx_X nA) 1 6 (fun _ => False) := by
  refine vx_ofW (cc := cX1_unpack) (maxL := 4) (ret := none) (by decide) rfl ?_
  intro p e s m args below meth c s₁ B hml hex hv
  obtain ⟨rfl, hZ, hP, hK⟩ := hv
  have hx := B.exec
  have hb := B.bytes
  have hr := B.returns
  have hts := atoms_spec (ws := wX1_unpack) B.pre
  have ht : ∀ w ∈ tb_all, w.before _ s = true := fun w h => hts w (List.mem_cons_of_mem _ h)
  have hown : s.vm.findClass RX1 = some m.cls := findClass_of_methodNamed B.named
  have hlocks := B.notSynchronized
  have hS : va_S (fun _ => False) s.heap s.heap [] := va_S.rf
  have hl := lv_entry ([.ref d0, .int (nI j), .int y1]) (n := 4) (Nat.le_of_ble_eq_true rfl)
  rw [lg_entry_eq]
  generalize (lg_sl ([.ref d0, .int (nI j), .int y1]) ++ List.replicate (4 - (lg_sl ([.ref d0, .int (nI j), .int y1])).length) Slot.unset).toArray = ls at hl ⊢
  have hl : lv_has ls 4 [(0, .ref d0), (1, .int (nI j)), (2, .int y1)] := hl
  obtain ⟨hP0, hP2, hD2, hI2, hDP⟩ := tw_kb hk5
  have hK0 := tw_kK k hk5
  have hP8 : tw_P k ≤ 8192 := by omega
  have hN := tw_kN k hk5
  have zk : k ≤ 4 := by omega
  obtain ⟨hfi, hfr, hff⟩ := hok
  refine lv_iload_n hx hb dX1_unpack_0 rfl (lv_at hl 1 rfl) ?_
  refine va_csv (W.runS (As := [.int (nI j)]) (rest := []) ⟨hx, hb, hml, hown, ht⟩ (c_X1_needRegister l hj) (va_cwS 1 ht (tb_S kl_X1_41 kt_X1_needRegister kn_X1 kc_X1_needRegister) rfl rfl rfl kd_X1_needRegister ⟨Nat.le_of_ble_eq_true rfl, Nat.le_of_ble_eq_true rfl⟩) (st_pre _) rfl rfl hl.1 rfl (lv_room (Nat.le_of_ble_eq_true rfl)) dX1_unpack_1 ⟨Nat.zero_le _, Nat.zero_le _⟩) (fun _ => ?_)
  refine lv_aload_n hx hb dX1_unpack_4 rfl (lv_at hl 0 rfl) ?_
  refine va_get (D := D) (ci := 1) (v := .ref h0) (C := RX1) (T := TX1) (N := 4) hx hb ht inX1 hown hK hP 0 rfl rfl 3 (by decide) (ht _ kf_X1_33) (fun _ h9 => h9) rfl dX1_unpack_5 ?_
  refine lv_iload_n hx hb dX1_unpack_8 rfl (lv_at hl 2 rfl) ?_
  rcases hz with hz | ⟨m9, hm9, e9, hz⟩
  · refine vp_callSi (W.runV (As := [.int y1]) (rest := []) ⟨hx, hb, hml, hown, ht⟩ (c_X0_readM l D hz) (cwV 1 ht (tb_V kl_X1_54 ki_X0_read ks_X0_read kn_X0 kc_X0_read) rfl rfl rfl ⟨rfl, kd_X0_read⟩ ⟨Nat.le_of_ble_eq_true rfl, Nat.le_of_ble_eq_true rfl⟩) (cv_preH (hP.sub (ws' := [(h0, .inr (0, [.int (nI (tw_P k)), .int (nI (tw_D k)), .int (nI (tw_I k)), .int (nI (tw_N k)), .ref ai, .ref ar, .ref af, .ref ap, .ref ah, .ref ac, .int (nI ((tw_fs k).length)), .int hk])), (ai, .inl (cA, tw_P k, .inl fi)), (ar, .inl (cA, tw_P k, .inl fr)), (af, .inl (cA, 14, .inl ff)), (ap, .inl (cA, 2 * tw_P k, .inl fp)), (ah, .inl (cA, 2 * tw_P k, .inl fh)), (ac, .inl (cA, 2 * tw_P k, .inl fn))]) [2, 3, 4, 5, 6, 7, 8] rfl) hK hfi hfr _) rfl rfl hl.1 rfl (lv_room (Nat.le_of_ble_eq_true rfl)) dX1_unpack_9 ⟨Nat.zero_le _, Nat.zero_le _⟩) (fun r hr9 => ?_)
    subst hr9
    refine lv_istore_n hx hb dX1_unpack_12 rfl hl (by decide) rfl (fun ls hl => ?_)
    have hl : lv_has ls 4 [(3, .int (-1)), (0, .ref d0), (1, .int (nI j)), (2, .int y1)] := hl
    refine lv_iload_n hx hb dX1_unpack_13 rfl (lv_at hl 0 rfl) ?_
    refine lv_iconst (v := (-1)) hx hb dX1_unpack_14 (by decide) ?_
    refine lv_icmp_ne (tgt := 28) hx hb dX1_unpack_15 (by decide) (fun c9 => absurd rfl c9) (fun _ => ?_)
    exact vx_throwS hx hb hZ.1 (names := nxN) hown (by decide +kernel) (by decide +kernel) (ht _ (nx_k1 _ (List.mem_of_getElem? (i := 2) rfl)).1) (ht _ (nx_k1 _ (List.mem_of_getElem? (i := 3) rfl)).1) hZ.2.2.2.2.2.2.2.1 (nx_hA ht hZ.2.2.2.1) nx_oA hZ.2.1 hZ.2.2.1 hS (hl.1.trans hml.symm) dX1_unpack_18 dX1_unpack_21 dX1_unpack_22 dX1_unpack_24 dX1_unpack_27 (fun x h9 => (hex x h9).elim) (Nat.le_of_ble_eq_true rfl) (Nat.le_of_ble_eq_true rfl) (Nat.le_of_ble_eq_true rfl) (Nat.le_of_ble_eq_true rfl) hlocks (fun t _ h1 h2 => ⟨(), trivial, rfl, h1, fun q hq _ => h2 q hq⟩) (fun z h9 => nomatch h9) (Nat.le_refl _) (Nat.le_refl _)
  · subst e9
    refine vp_callSi (W.runV (As := [.int (nI m9)]) (rest := []) ⟨hx, hb, hml, hown, ht⟩ (c_X0_read l D hk5 hm9) (cwV 1 ht (tb_V kl_X1_54 ki_X0_read ks_X0_read kn_X0 kc_X0_read) rfl rfl rfl ⟨rfl, kd_X0_read⟩ ⟨Nat.le_of_ble_eq_true rfl, Nat.le_of_ble_eq_true rfl⟩) (cv_preH (hP.sub (ws' := [(h0, .inr (0, [.int (nI (tw_P k)), .int (nI (tw_D k)), .int (nI (tw_I k)), .int (nI (tw_N k)), .ref ai, .ref ar, .ref af, .ref ap, .ref ah, .ref ac, .int (nI ((tw_fs k).length)), .int hk])), (ai, .inl (cA, tw_P k, .inl fi)), (ar, .inl (cA, tw_P k, .inl fr)), (af, .inl (cA, 14, .inl ff)), (ap, .inl (cA, 2 * tw_P k, .inl fp)), (ah, .inl (cA, 2 * tw_P k, .inl fh)), (ac, .inl (cA, 2 * tw_P k, .inl fn))]) [2, 3, 4, 5, 6, 7, 8] rfl) hK hfi hfr _) rfl rfl hl.1 rfl (lv_room (Nat.le_of_ble_eq_true rfl)) dX1_unpack_9 ⟨Nat.zero_le _, Nat.zero_le _⟩) (fun r hr9 => ?_)
    subst hr9
    rw [tw_rr_none hz]
    refine lv_istore_n hx hb dX1_unpack_12 rfl hl (by decide) rfl (fun ls hl => ?_)
    have hl : lv_has ls 4 [(3, .int (-1)), (0, .ref d0), (1, .int (nI j)), (2, .int (nI m9))] := hl
    refine lv_iload_n hx hb dX1_unpack_13 rfl (lv_at hl 0 rfl) ?_
    refine lv_iconst (v := (-1)) hx hb dX1_unpack_14 (by decide) ?_
    refine lv_icmp_ne (tgt := 28) hx hb dX1_unpack_15 (by decide) (fun c9 => absurd rfl c9) (fun _ => ?_)
    exact vx_throwS hx hb hZ.1 (names := nxN) hown (by decide +kernel) (by decide +kernel) (ht _ (nx_k1 _ (List.mem_of_getElem? (i := 2) rfl)).1) (ht _ (nx_k1 _ (List.mem_of_getElem? (i := 3) rfl)).1) hZ.2.2.2.2.2.2.2.1 (nx_hA ht hZ.2.2.2.1) nx_oA hZ.2.1 hZ.2.2.1 hS (hl.1.trans hml.symm) dX1_unpack_18 dX1_unpack_21 dX1_unpack_22 dX1_unpack_24 dX1_unpack_27 (fun x h9 => (hex x h9).elim) (Nat.le_of_ble_eq_true rfl) (Nat.le_of_ble_eq_true rfl) (Nat.le_of_ble_eq_true rfl) (Nat.le_of_ble_eq_true rfl) hlocks (fun t _ h1 h2 => ⟨(), trivial, rfl, h1, fun q hq _ => h2 q hq⟩) (fun z h9 => nomatch h9) (Nat.le_refl _) (Nat.le_refl _)
set_option maxHeartbeats 4000000 in
set_option maxRecDepth 100000 in
theorem c_X1_signZ (l : Launch) (gs : Nat → Nat) (D : va_G) {k : Nat} (hk5 : k < 5) {d0 dc dr h0 ai ar af ap ah ac : Nat} {cA : ClassId} {hk : Int32} {rg fi fr ff fp fh fn : Nat → Int32} {R : Nat → Nat × Nat} (hok : cv_ok k fi fr ff) (hrg : ∀ j, j < 12 → tw_on (tw_P k) (tw_D k) (R j) ∧ rg j = nI (tw_en (R j))) {j key msg : Nat} (hj : j < 12) (hkey : key ≤ 1073741824) (hmsg : msg ≤ 1073741824) (hne : R j = (0, 1)) : vx_Met l yX1_sign wX1_sign ({ frames := 7, cells := 1, slots := 6, locals := 110 }) (va_Pc [.ref d0, .int (nI j), .int (nI key), .int (nI msg)] (fun U => nx_K l gs (fun _ => False) U U.heap ∧ va_P D vwCl [(d0, .inr (1, [.ref dc, .ref dr, .int (nI k), .ref h0])), (dr, .inl (cA, 12, .inl rg)), (h0, .inr (0, [.int (nI (tw_P k)), .int (nI (tw_D k)), .int (nI (tw_I k)), .int (nI (tw_N k)), .ref ai, .ref ar, .ref af, .ref ap, .ref ah, .ref ac, .int (nI ((tw_fs k).length)), .int hk])), (ai, .inl (cA, tw_P k, .inl fi)), (ar, .inl (cA, tw_P k, .inl fr)), (af, .inl (cA, 14, .inl ff)), (ap, .inl (cA, 2 * tw_P k, .inl fp)), (ah, .inl (cA, 2 * tw_P k, .inl fh)), (ac, .inl (cA, 2 * tw_P k, .inl fn))] U.heap ∧ va_K D vwCl [(cA, .int)] U)) (va_Ql (S := Unit) (fun _ _ => False) (fun _ _ => True) (fun _ => False)) (nx_X nT) 1 6 (fun _ => False) := by
  refine vx_ofW (cc := cX1_sign) (maxL := 12) (ret := (some .long)) (by decide) rfl ?_
  intro p e s m args below meth c s₁ B hml hex hv
  obtain ⟨rfl, hZ, hP, hK⟩ := hv
  have hx := B.exec
  have hb := B.bytes
  have hr := B.returns
  have hts := atoms_spec (ws := wX1_sign) B.pre
  have ht : ∀ w ∈ tb_all, w.before _ s = true := fun w h => hts w (List.mem_cons_of_mem _ h)
  have hown : s.vm.findClass RX1 = some m.cls := findClass_of_methodNamed B.named
  have hlocks := B.notSynchronized
  have hS : va_S (fun _ => False) s.heap s.heap [] := va_S.rf
  have hl := lv_entry ([.ref d0, .int (nI j), .int (nI key), .int (nI msg)]) (n := 12) (Nat.le_of_ble_eq_true rfl)
  rw [lg_entry_eq]
  generalize (lg_sl ([.ref d0, .int (nI j), .int (nI key), .int (nI msg)]) ++ List.replicate (12 - (lg_sl ([.ref d0, .int (nI j), .int (nI key), .int (nI msg)])).length) Slot.unset).toArray = ls at hl ⊢
  have hl : lv_has ls 12 [(0, .ref d0), (1, .int (nI j)), (2, .int (nI key)), (3, .int (nI msg))] := hl
  obtain ⟨hP0, hP2, hD2, hI2, hDP⟩ := tw_kb hk5
  have hK0 := tw_kK k hk5
  have hP8 : tw_P k ≤ 8192 := by omega
  have hN := tw_kN k hk5
  have zk : k ≤ 4 := by omega
  obtain ⟨hfi, hfr, hff⟩ := hok
  refine lv_iload_n hx hb dX1_sign_0 rfl (lv_at hl 1 rfl) ?_
  refine va_csv (W.runS (As := [.int (nI j)]) (rest := []) ⟨hx, hb, hml, hown, ht⟩ (c_X1_needRegister l hj) (va_cwS 1 ht (tb_S kl_X1_41 kt_X1_needRegister kn_X1 kc_X1_needRegister) rfl rfl rfl kd_X1_needRegister ⟨Nat.le_of_ble_eq_true rfl, Nat.le_of_ble_eq_true rfl⟩) (st_pre _) rfl rfl hl.1 rfl (lv_room (Nat.le_of_ble_eq_true rfl)) dX1_sign_1 ⟨Nat.zero_le _, Nat.zero_le _⟩) (fun _ => ?_)
  refine lv_iload_n hx hb dX1_sign_4 rfl (lv_at hl 2 rfl) ?_
  refine va_csv (W.runS (As := [.int (nI key)]) (rest := []) ⟨hx, hb, hml, hown, ht⟩ (c_X1_needNumber l hkey) (va_cwS 1 ht (tb_S kl_X1_101 kt_X1_needNumber kn_X1 kc_X1_needNumber) rfl rfl rfl kd_X1_needNumber ⟨Nat.le_of_ble_eq_true rfl, Nat.le_of_ble_eq_true rfl⟩) (st_pre _) rfl rfl hl.1 rfl (lv_room (Nat.le_of_ble_eq_true rfl)) dX1_sign_5 ⟨Nat.zero_le _, Nat.zero_le _⟩) (fun _ => ?_)
  refine lv_iload_n hx hb dX1_sign_8 rfl (lv_at hl 3 rfl) ?_
  refine va_csv (W.runS (As := [.int (nI msg)]) (rest := []) ⟨hx, hb, hml, hown, ht⟩ (c_X1_needNumber l hmsg) (va_cwS 1 ht (tb_S kl_X1_101 kt_X1_needNumber kn_X1 kc_X1_needNumber) rfl rfl rfl kd_X1_needNumber ⟨Nat.le_of_ble_eq_true rfl, Nat.le_of_ble_eq_true rfl⟩) (st_pre _) rfl rfl hl.1 rfl (lv_room (Nat.le_of_ble_eq_true rfl)) dX1_sign_9 ⟨Nat.zero_le _, Nat.zero_le _⟩) (fun _ => ?_)
  refine lv_aload_n hx hb dX1_sign_12 rfl (lv_at hl 0 rfl) ?_
  refine va_get (D := D) (ci := 1) (v := .ref dr) (C := RX1) (T := TX1) (N := 4) hx hb ht inX1 hown hK hP 0 rfl rfl 1 (by decide) (ht _ kf_X1_19) (fun _ h9 => h9) rfl dX1_sign_13 ?_
  refine lv_iload_n hx hb dX1_sign_16 rfl (lv_at hl 1 rfl) ?_
  refine nv_iald (A := fun _ => True) (H0 := s.heap) hx hb hK hP 1 0 rfl rfl hj (by decide) dX1_sign_17 ?_
  rw [(hrg _ hj).2]
  refine lv_istore hx hb dX1_sign_18 hl (by decide) rfl (fun ls hl => ?_)
  have hl : lv_has ls 12 [(4, .int (nI (tw_en (R j)))), (0, .ref d0), (1, .int (nI j)), (2, .int (nI key)), (3, .int (nI msg))] := hl
  refine lv_iload hx hb dX1_sign_20 (lv_at hl 0 rfl) ?_
  refine lv_iconst (v := (nI 1)) hx hb dX1_sign_22 (by decide) ?_
  refine nv_icmp_ne (tgt := 36) hx hb dX1_sign_23 (by decide) (nv_le (b := 67108863) (tw_en_le hP2 (hrg _ hj).1) (by decide)) (nv_le (b := 1) (Nat.le_refl 1) (by decide)) (fun c23 => ?_) (fun c23 => ?_)
  · exact absurd (by rw [hne]; rfl) c23
  · exact vx_throwS hx hb hZ.1 (names := nxN) hown (by decide +kernel) (by decide +kernel) (ht _ (nx_k1 _ (List.mem_of_getElem? (i := 4) rfl)).1) (ht _ (nx_k1 _ (List.mem_of_getElem? (i := 5) rfl)).1) hZ.2.2.2.2.2.2.2.2.2 (nx_hT ht hZ.2.2.2.1) nx_oT hZ.2.1 hZ.2.2.1 hS (hl.1.trans hml.symm) dX1_sign_26 dX1_sign_29 dX1_sign_30 dX1_sign_32 dX1_sign_35 (fun x h9 => (hex x h9).elim) (Nat.le_of_ble_eq_true rfl) (Nat.le_of_ble_eq_true rfl) (Nat.le_of_ble_eq_true rfl) (Nat.le_of_ble_eq_true rfl) hlocks (fun t _ h1 h2 => ⟨(), trivial, rfl, h1, fun q hq _ => h2 q hq⟩) (fun z h9 => nomatch h9) (Nat.le_refl _) (Nat.le_refl _)
set_option maxHeartbeats 4000000 in
set_option maxRecDepth 100000 in
theorem c_X1_beginR (l : Launch) (gs : Nat → Nat) {tp d0 : Nat} {z1 : Int32} (hz : z1 < 0 ∨ nI 4 < z1) : vx_Met l yX1_begin wX1_begin ({ frames := 7, cells := 1, slots := 6, locals := 110 }) (va_Pc [.ref d0, .int z1] (fun U => nx_K l gs (fun _ => False) U U.heap ∧ tw_Z tp (fun _ => False) U U.heap)) (va_Qi (S := Unit) (fun _ _ => False) (fun _ _ => True) (fun _ => False)) (nx_X nA) 1 6 (fun _ => False) := by
  refine vx_ofW (cc := cX1_begin) (maxL := 2) (ret := (some .int)) (by decide) rfl ?_
  intro p e s m args below meth c s₁ B hml hex hv
  obtain ⟨rfl, hZ, hT⟩ := hv
  have hx := B.exec
  have hb := B.bytes
  have hr := B.returns
  have hts := atoms_spec (ws := wX1_begin) B.pre
  have ht : ∀ w ∈ tb_all, w.before _ s = true := fun w h => hts w (List.mem_cons_of_mem _ h)
  have hown : s.vm.findClass RX1 = some m.cls := findClass_of_methodNamed B.named
  have hlocks := B.notSynchronized
  have hS : va_S (fun _ => False) s.heap s.heap [] := va_S.rf
  have hl := lv_entry ([.ref d0, .int z1]) (n := 2) (Nat.le_of_ble_eq_true rfl)
  rw [lg_entry_eq]
  generalize (lg_sl ([.ref d0, .int z1]) ++ List.replicate (2 - (lg_sl ([.ref d0, .int z1])).length) Slot.unset).toArray = ls at hl ⊢
  have hl : lv_has ls 2 [(0, .ref d0), (1, .int z1)] := hl
  refine lv_iload_n hx hb dX1_begin_0 rfl (lv_at hl 1 rfl) ?_
  refine lv_if_lt (tgt := 12) hx hb dX1_begin_1 (by decide) (fun _ => ?_) (fun c1 => ?_)
  · exact vx_throwS hx hb hZ.1 (names := nxN) hown (by decide +kernel) (by decide +kernel) (ht _ (nx_k1 _ (List.mem_of_getElem? (i := 2) rfl)).1) (ht _ (nx_k1 _ (List.mem_of_getElem? (i := 3) rfl)).1) hZ.2.2.2.2.1 (nx_hA ht hZ.2.2.2.1) nx_oA hZ.2.1 hZ.2.2.1 hS (hl.1.trans hml.symm) dX1_begin_12 dX1_begin_15 dX1_begin_16 dX1_begin_18 dX1_begin_21 (fun x h9 => (hex x h9).elim) (Nat.le_of_ble_eq_true rfl) (Nat.le_of_ble_eq_true rfl) (Nat.le_of_ble_eq_true rfl) (Nat.le_of_ble_eq_true rfl) hlocks (fun t _ h1 h2 => ⟨(), trivial, rfl, h1, fun q hq _ => h2 q hq⟩) (fun z h9 => nomatch h9) (Nat.le_refl _) (Nat.le_refl _)
  · refine lv_iload_n hx hb dX1_begin_4 rfl (lv_at hl 1 rfl) ?_
    refine va_gets hx hb hT.1 hS hown (ht _ kf_X1_9) (fun _ h9 => h9) dX1_begin_5 ?_
    refine va_tlen (v := nI 5) hx hb hT.2 hS rfl dX1_begin_8 ?_
    refine lv_icmp_lt (tgt := 22) hx hb dX1_begin_9 (by decide) (fun c4 => ?_) (fun _ => ?_)
    · rcases hz with q | q
      · exact absurd q c1
      · rw [Int32.lt_iff_toInt_lt] at q c4
        have e1 : (nI 4).toInt = 4 := by decide
        have e2 : (nI 5).toInt = 5 := by decide
        omega
    · exact vx_throwS hx hb hZ.1 (names := nxN) hown (by decide +kernel) (by decide +kernel) (ht _ (nx_k1 _ (List.mem_of_getElem? (i := 2) rfl)).1) (ht _ (nx_k1 _ (List.mem_of_getElem? (i := 3) rfl)).1) hZ.2.2.2.2.1 (nx_hA ht hZ.2.2.2.1) nx_oA hZ.2.1 hZ.2.2.1 hS (hl.1.trans hml.symm) dX1_begin_12 dX1_begin_15 dX1_begin_16 dX1_begin_18 dX1_begin_21 (fun x h9 => (hex x h9).elim) (Nat.le_of_ble_eq_true rfl) (Nat.le_of_ble_eq_true rfl) (Nat.le_of_ble_eq_true rfl) (Nat.le_of_ble_eq_true rfl) hlocks (fun t _ h1 h2 => ⟨(), trivial, rfl, h1, fun q hq _ => h2 q hq⟩) (fun z h9 => nomatch h9) (Nat.le_refl _) (Nat.le_refl _)
