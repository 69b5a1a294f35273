/-! multiples, orders, the base -/
theorem tw_en_1 {p : Nat × Nat} (h : p.2 ≤ 8191) : tw_en p = 1 ↔ p = (0, 1) := by
  obtain ⟨x, y⟩ := p
  unfold tw_en
  dsimp only at h ⊢
  constructor
  · intro e
    have a : x = 0 := by omega
    have b : y = 1 := by omega
    rw [a, b]
  · intro e
    cases e
    rfl
theorem tw_en_le {P D : Nat} {p : Nat × Nat} (hP : P ≤ 8101) (h : tw_on P D p) : tw_en p ≤ 67108863 := by
  have a := h.1
  have b := h.2.1
  unfold tw_en
  omega
theorem tw_en_inj {p q : Nat × Nat} (h1 : p.2 ≤ 8191) (h2 : q.2 ≤ 8191) (e : tw_en p = tw_en q) : p = q := by
  unfold tw_en at e
  exact Prod.ext (by omega) (by omega)
theorem tw_fsb : ∀ k, k < 5 → (tw_fs k).length ≤ 14 ∧ ∀ j, j < (tw_fs k).length → 2 ≤ (tw_fs k).getD j 0 ∧ (tw_fs k).getD j 0 ≤ 43 := by decide
theorem tw_ocs {t : Nat → Bool} {fs : List Nat} {i o : Nat} (h : i < fs.length) : tw_oc t (fs.drop i) o = if t (o / fs.getD i 0) then tw_oc t (fs.drop (i + 1)) (o / fs.getD i 0) else tw_oc t (fs.drop (i + 1)) o := by
  rw [List.drop_eq_getElem_cons h]
  have e : fs.getD i 0 = fs[i] := by
    rw [List.getD_eq_getElem?_getD, List.getElem?_eq_getElem h]
    rfl
  rw [e]
  rfl
theorem tw_mN {k : Nat} (hk : k < 5) {p : Nat × Nat} (hp : tw_on (tw_P k) (tw_D k) p) (m : Nat) : tw_mu (tw_P k) (tw_D k) (m % tw_N k) p = tw_mu (tw_P k) (tw_D k) m p := (tw_od_mod (N := 0) (tw_kK k hk) hp (tw_kM hk hp) m).symm
theorem tw_lNm {a b : Nat} (h : a < 2 ^ 31) : ((lN a).toInt % (b : Int)).toNat = a % b := by
  rw [lN_toInt h, ← Int.natCast_emod, Int.toNat_natCast]
/-- the greatest order and the least packed number that has it, of the packed numbers below j -/
def tw_bst (P D N : Nat) : Nat → Nat × Nat
  | 0 => (0, 0)
  | j + 1 => match tw_rd P D j with
    | none => tw_bst P D N j
    | some q => if (tw_bst P D N j).1 < tw_od P D N q then (tw_od P D N q, j) else tw_bst P D N j
theorem tw_bst_n {P D N j : Nat} (h : tw_rd P D j = none) : tw_bst P D N (j + 1) = tw_bst P D N j := by
  show (match tw_rd P D j with
    | none => tw_bst P D N j
    | some q => if (tw_bst P D N j).1 < tw_od P D N q then (tw_od P D N q, j) else tw_bst P D N j) = _
  rw [h]
theorem tw_bst_s {P D N j : Nat} {q : Nat × Nat} (h : tw_rd P D j = some q) : tw_bst P D N (j + 1) = if (tw_bst P D N j).1 < tw_od P D N q then (tw_od P D N q, j) else tw_bst P D N j := by
  show (match tw_rd P D j with
    | none => tw_bst P D N j
    | some q => if (tw_bst P D N j).1 < tw_od P D N q then (tw_od P D N q, j) else tw_bst P D N j) = _
  rw [h]
theorem tw_bst_b {k : Nat} (hk : k < 5) : ∀ j, (tw_bst (tw_P k) (tw_D k) (tw_N k) j).1 ≤ tw_N k ∧ (tw_bst (tw_P k) (tw_D k) (tw_N k) j).2 ≤ j
  | 0 => ⟨Nat.zero_le _, Nat.zero_le _⟩
  | j + 1 => by
    have ih := tw_bst_b hk j
    cases e : tw_rd (tw_P k) (tw_D k) j with
    | none =>
      rw [tw_bst_n e]
      exact ⟨ih.1, by omega⟩
    | some q =>
      rw [tw_bst_s e]
      have hq := (tw_rd_some (tw_kK k hk) e).1
      have hN := tw_kN k hk
      have ho := tw_od_spec (by omega) (tw_kM hk hq)
      split
      · exact ⟨ho.2.1, Nat.le_succ j⟩
      · exact ⟨ih.1, by omega⟩
theorem tw_bst_e {k : Nat} (hk : k < 5) {j : Nat} (h : tw_N k ≤ (tw_bst (tw_P k) (tw_D k) (tw_N k) j).1) : ∀ i, tw_bst (tw_P k) (tw_D k) (tw_N k) (j + i) = tw_bst (tw_P k) (tw_D k) (tw_N k) j
  | 0 => rfl
  | i + 1 => by
    have ih := tw_bst_e hk h i
    show tw_bst (tw_P k) (tw_D k) (tw_N k) (j + i + 1) = _
    cases e : tw_rd (tw_P k) (tw_D k) (j + i) with
    | none => rw [tw_bst_n e, ih]
    | some q =>
      rw [tw_bst_s e, ih]
      have hq := (tw_rd_some (tw_kK k hk) e).1
      have hN := tw_kN k hk
      have ho := tw_od_spec (by omega) (tw_kM hk hq)
      rw [if_neg (by omega)]
set_option maxHeartbeats 4000000 in
set_option maxRecDepth 100000 in
theorem c_X0_holds (l : Launch) (D : va_G) {k : Nat} (hk5 : k < 5) {n fc h0 : Nat} {ff : Nat → Int32} {x y : Nat} (hx1 : x < tw_P k) (hy1 : y < tw_P k) : Met l yX0_holds wX0_holds ({ frames := 0, cells := 0, slots := 0, locals := 0 }) (va_Pc [.ref h0, .int (nI x), .int (nI y)] (cv_at D k n fc h0 ff)) (vp_Si (fun r => r = if (tw_P k - x * x % tw_P k + y * y % tw_P k) % tw_P k = (1 + tw_D k * ((x * x % tw_P k) * (y * y % tw_P k) % tw_P k)) % tw_P k then 1 else 0)) 0 0 (fun _ => False) := by
  refine Met.ofW (cc := cX0_holds) (maxL := 7) (ret := (some .boolean)) (by decide) rfl ?_
  intro p e s m args below meth c s₁ B hml hv
  obtain ⟨rfl, hv⟩ := hv
  have hx := B.exec
  have hb := B.bytes
  have hr := B.returns
  have hts := atoms_spec (ws := wX0_holds) B.pre
  have ht : ∀ w ∈ tb_all, w.before _ s = true := fun w h => hts w (List.mem_cons_of_mem _ h)
  have hown : s.vm.findClass RX0 = some m.cls := findClass_of_methodNamed B.named
  have hlocks := B.notSynchronized
  have hl := lv_entry ([.ref h0, .int (nI x), .int (nI y)]) (n := 7) (Nat.le_of_ble_eq_true rfl)
  rw [lg_entry_eq]
  generalize (lg_sl ([.ref h0, .int (nI x), .int (nI y)]) ++ List.replicate (7 - (lg_sl ([.ref h0, .int (nI x), .int (nI y)])).length) Slot.unset).toArray = ls at hl ⊢
  have hl : lv_has ls 7 [(0, .ref h0), (1, .int (nI x)), (2, .int (nI y))] := hl
  obtain ⟨hP0, hP2, hD2, hI2, hDP⟩ := tw_kb hk5
  have hat := hv
  obtain ⟨ai, ar, af, ap, ah, ac, cA, hk, fi, fr, fp, fh, fn, hP, hK, hfi, hfr⟩ := hv
  have zx : x ≤ 8100 := by omega
  have zy : y ≤ 8100 := by omega
  refine lv_iload_n hx hb dX0_holds_0 rfl (lv_at hl 1 rfl) ?_
  refine nv_if_lt (tgt := 24) hx hb dX0_holds_1 (by decide) (nv_le (b := 8100) zx (by decide)) ?_
  refine lv_iload_n hx hb dX0_holds_4 rfl (lv_at hl 1 rfl) ?_
  refine lv_aload_n hx hb dX0_holds_5 rfl (lv_at hl 0 rfl) ?_
  refine va_get (D := D) (ci := 0) (v := .int (nI (tw_P k))) (C := RX0) (T := TX0) (N := 12) hx hb ht inX0 hown hK hP 0 rfl rfl 0 (by decide) (ht _ kf_X0_9) (fun _ h9 => h9) rfl dX0_holds_6 ?_
  refine nv_icmp_ge (tgt := 24) hx hb dX0_holds_9 (by decide) (nv_le (b := 8100) zx (by decide)) (nv_le (b := 8101) hP2 (by decide)) (fun c9 => ?_) (fun c9 => ?_)
  · exact absurd hx1 (Nat.not_lt.mpr c9)
  · refine lv_iload_n hx hb dX0_holds_12 rfl (lv_at hl 2 rfl) ?_
    refine nv_if_lt (tgt := 24) hx hb dX0_holds_13 (by decide) (nv_le (b := 8100) zy (by decide)) ?_
    refine lv_iload_n hx hb dX0_holds_16 rfl (lv_at hl 2 rfl) ?_
    refine lv_aload_n hx hb dX0_holds_17 rfl (lv_at hl 0 rfl) ?_
    refine va_get (D := D) (ci := 0) (v := .int (nI (tw_P k))) (C := RX0) (T := TX0) (N := 12) hx hb ht inX0 hown hK hP 0 rfl rfl 0 (by decide) (ht _ kf_X0_9) (fun _ h9 => h9) rfl dX0_holds_18 ?_
    refine nv_icmp_lt (tgt := 26) hx hb dX0_holds_21 (by decide) (nv_le (b := 8100) zy (by decide)) (nv_le (b := 8101) hP2 (by decide)) (fun c21 => ?_) (fun c21 => ?_)
    · refine lv_iload_n hx hb dX0_holds_26 rfl (lv_at hl 1 rfl) ?_
      refine lv_iload_n hx hb dX0_holds_27 rfl (lv_at hl 1 rfl) ?_
      refine nv_imul hx hb dX0_holds_28 ?_
      refine lv_aload_n hx hb dX0_holds_29 rfl (lv_at hl 0 rfl) ?_
      refine va_get (D := D) (ci := 0) (v := .int (nI (tw_P k))) (C := RX0) (T := TX0) (N := 12) hx hb ht inX0 hown hK hP 0 rfl rfl 0 (by decide) (ht _ kf_X0_9) (fun _ h9 => h9) rfl dX0_holds_30 ?_
      refine nv_irem hx hb dX0_holds_33 hP0 (nv_le (b := 65610000) (Nat.mul_le_mul zx zx) (by decide)) (nv_le (b := 8101) hP2 (by decide)) ?_
      refine lv_istore_n hx hb dX0_holds_34 rfl hl (by decide) rfl (fun ls hl => ?_)
      have hl : lv_has ls 7 [(3, .int (nI ((x * x) % (tw_P k)))), (0, .ref h0), (1, .int (nI x)), (2, .int (nI y))] := hl
      refine lv_iload_n hx hb dX0_holds_35 rfl (lv_at hl 3 rfl) ?_
      refine lv_iload_n hx hb dX0_holds_36 rfl (lv_at hl 3 rfl) ?_
      refine nv_imul hx hb dX0_holds_37 ?_
      refine lv_aload_n hx hb dX0_holds_38 rfl (lv_at hl 1 rfl) ?_
      refine va_get (D := D) (ci := 0) (v := .int (nI (tw_P k))) (C := RX0) (T := TX0) (N := 12) hx hb ht inX0 hown hK hP 0 rfl rfl 0 (by decide) (ht _ kf_X0_9) (fun _ h9 => h9) rfl dX0_holds_39 ?_
      refine nv_irem hx hb dX0_holds_42 hP0 (nv_le (b := 65610000) (Nat.mul_le_mul zy zy) (by decide)) (nv_le (b := 8101) hP2 (by decide)) ?_
      refine lv_istore hx hb dX0_holds_43 hl (by decide) rfl (fun ls hl => ?_)
      have hl : lv_has ls 7 [(4, .int (nI ((y * y) % (tw_P k)))), (3, .int (nI ((x * x) % (tw_P k)))), (0, .ref h0), (1, .int (nI x)), (2, .int (nI y))] := hl
      refine lv_aload_n hx hb dX0_holds_45 rfl (lv_at hl 2 rfl) ?_
      refine va_get (D := D) (ci := 0) (v := .int (nI (tw_P k))) (C := RX0) (T := TX0) (N := 12) hx hb ht inX0 hown hK hP 0 rfl rfl 0 (by decide) (ht _ kf_X0_9) (fun _ h9 => h9) rfl dX0_holds_46 ?_
      refine lv_iload_n hx hb dX0_holds_49 rfl (lv_at hl 1 rfl) ?_
      refine nv_isub hx hb dX0_holds_50 (Nat.le_of_lt (Nat.mod_lt _ hP0)) ?_
      refine lv_iload hx hb dX0_holds_51 (lv_at hl 0 rfl) ?_
      refine nv_iadd hx hb dX0_holds_53 ?_
      refine lv_aload_n hx hb dX0_holds_54 rfl (lv_at hl 2 rfl) ?_
      refine va_get (D := D) (ci := 0) (v := .int (nI (tw_P k))) (C := RX0) (T := TX0) (N := 12) hx hb ht inX0 hown hK hP 0 rfl rfl 0 (by decide) (ht _ kf_X0_9) (fun _ h9 => h9) rfl dX0_holds_55 ?_
      refine nv_irem hx hb dX0_holds_58 hP0 (nv_le (b := 16201) (Nat.add_le_add (Nat.le_trans (Nat.sub_le _ _) hP2) (nv_md hP0 hP2)) (by decide)) (nv_le (b := 8101) hP2 (by decide)) ?_
      refine lv_istore hx hb dX0_holds_59 hl (by decide) rfl (fun ls hl => ?_)
      have hl : lv_has ls 7 [(5, .int (nI ((((tw_P k) - ((x * x) % (tw_P k))) + ((y * y) % (tw_P k))) % (tw_P k)))), (4, .int (nI ((y * y) % (tw_P k)))), (3, .int (nI ((x * x) % (tw_P k)))), (0, .ref h0), (1, .int (nI x)), (2, .int (nI y))] := hl
      refine lv_iconst (v := (nI 1)) hx hb dX0_holds_61 (by decide) ?_
      refine lv_aload_n hx hb dX0_holds_62 rfl (lv_at hl 3 rfl) ?_
      refine va_get (D := D) (ci := 0) (v := .int (nI (tw_D k))) (C := RX0) (T := TX0) (N := 12) hx hb ht inX0 hown hK hP 0 rfl rfl 1 (by decide) (ht _ kf_X0_42) (fun _ h9 => h9) rfl dX0_holds_63 ?_
      refine lv_iload_n hx hb dX0_holds_66 rfl (lv_at hl 2 rfl) ?_
      refine lv_iload hx hb dX0_holds_67 (lv_at hl 1 rfl) ?_
      refine nv_imul hx hb dX0_holds_69 ?_
      refine lv_aload_n hx hb dX0_holds_70 rfl (lv_at hl 3 rfl) ?_
      refine va_get (D := D) (ci := 0) (v := .int (nI (tw_P k))) (C := RX0) (T := TX0) (N := 12) hx hb ht inX0 hown hK hP 0 rfl rfl 0 (by decide) (ht _ kf_X0_9) (fun _ h9 => h9) rfl dX0_holds_71 ?_
      refine nv_irem hx hb dX0_holds_74 hP0 (nv_le (b := 65610000) (Nat.mul_le_mul (nv_md hP0 hP2) (nv_md hP0 hP2)) (by decide)) (nv_le (b := 8101) hP2 (by decide)) ?_
      refine nv_imul hx hb dX0_holds_75 ?_
      refine nv_iadd hx hb dX0_holds_76 ?_
      refine lv_aload_n hx hb dX0_holds_77 rfl (lv_at hl 3 rfl) ?_
      refine va_get (D := D) (ci := 0) (v := .int (nI (tw_P k))) (C := RX0) (T := TX0) (N := 12) hx hb ht inX0 hown hK hP 0 rfl rfl 0 (by decide) (ht _ kf_X0_9) (fun _ h9 => h9) rfl dX0_holds_78 ?_
      refine nv_irem hx hb dX0_holds_81 hP0 (nv_le (b := 65610001) (Nat.add_le_add (Nat.le_refl 1) (Nat.mul_le_mul hD2 (nv_md hP0 hP2))) (by decide)) (nv_le (b := 8101) hP2 (by decide)) ?_
      refine lv_istore hx hb dX0_holds_82 hl (by decide) rfl (fun ls hl => ?_)
      have hl : lv_has ls 7 [(6, .int (nI ((1 + ((tw_D k) * ((((x * x) % (tw_P k)) * ((y * y) % (tw_P k))) % (tw_P k)))) % (tw_P k)))), (5, .int (nI ((((tw_P k) - ((x * x) % (tw_P k))) + ((y * y) % (tw_P k))) % (tw_P k)))), (4, .int (nI ((y * y) % (tw_P k)))), (3, .int (nI ((x * x) % (tw_P k)))), (0, .ref h0), (1, .int (nI x)), (2, .int (nI y))] := hl
      refine lv_iload hx hb dX0_holds_84 (lv_at hl 1 rfl) ?_
      refine lv_iload hx hb dX0_holds_86 (lv_at hl 0 rfl) ?_
      refine nv_icmp_ne (tgt := 95) hx hb dX0_holds_88 (by decide) (nv_le (b := 8100) (nv_md hP0 hP2) (by decide)) (nv_le (b := 8100) (nv_md hP0 hP2) (by decide)) (fun c88 => ?_) (fun c88 => ?_)
      · refine lv_iconst (v := (nI 0)) hx hb dX0_holds_95 (by decide) ?_
        exact W.zret hx hb hr rfl (fun t ht hW => ⟨_, rfl, (if_neg c88).symm, ht⟩) (fun q h => nomatch h) dX0_holds_96
      · refine lv_iconst (v := (nI 1)) hx hb dX0_holds_91 (by decide) ?_
        refine lv_goto (tgt := 96) hx hb dX0_holds_92 (by decide) ?_
        exact W.zret hx hb hr rfl (fun t ht hW => ⟨_, rfl, (if_pos c88).symm, ht⟩) (fun q h => nomatch h) dX0_holds_96
    · exact absurd hy1 (Nat.not_lt.mpr c21)
set_option maxHeartbeats 4000000 in
set_option maxRecDepth 100000 in
theorem c_X0_holdsM (l : Launch) (D : va_G) {k : Nat} (hk5 : k < 5) {n fc h0 : Nat} {ff : Nat → Int32} {x y : Int32} (hn : x < 0 ∨ nI (tw_P k) ≤ x ∨ y < 0 ∨ nI (tw_P k) ≤ y) : Met l yX0_holds wX0_holds ({ frames := 0, cells := 0, slots := 0, locals := 0 }) (va_Pc [.ref h0, .int x, .int y] (cv_at D k n fc h0 ff)) (vp_Si (fun r => r = 0)) 0 0 (fun _ => False) := by
  refine Met.ofW (cc := cX0_holds) (maxL := 7) (ret := (some .boolean)) (by decide) rfl ?_
  intro p e s m args below meth c s₁ B hml hv
  obtain ⟨rfl, hv⟩ := hv
  have hx := B.exec
  have hb := B.bytes
  have hr := B.returns
  have hts := atoms_spec (ws := wX0_holds) B.pre
  have ht : ∀ w ∈ tb_all, w.before _ s = true := fun w h => hts w (List.mem_cons_of_mem _ h)
  have hown : s.vm.findClass RX0 = some m.cls := findClass_of_methodNamed B.named
  have hlocks := B.notSynchronized
  have hl := lv_entry ([.ref h0, .int x, .int y]) (n := 7) (Nat.le_of_ble_eq_true rfl)
  rw [lg_entry_eq]
  generalize (lg_sl ([.ref h0, .int x, .int y]) ++ List.replicate (7 - (lg_sl ([.ref h0, .int x, .int y])).length) Slot.unset).toArray = ls at hl ⊢
  have hl : lv_has ls 7 [(0, .ref h0), (1, .int x), (2, .int y)] := hl
  obtain ⟨hP0, hP2, hD2, hI2, hDP⟩ := tw_kb hk5
  have hat := hv
  obtain ⟨ai, ar, af, ap, ah, ac, cA, hk, fi, fr, fp, fh, fn, hP, hK, hfi, hfr⟩ := hv
  refine lv_iload_n hx hb dX0_holds_0 rfl (lv_at hl 1 rfl) ?_
  refine lv_if_lt (tgt := 24) hx hb dX0_holds_1 (by decide) (fun c1 => ?_) (fun c1 => ?_)
  · refine lv_iconst (v := (nI 0)) hx hb dX0_holds_24 (by decide) ?_
    exact W.zret hx hb hr rfl (fun t ht hW => ⟨_, rfl, rfl, ht⟩) (fun q h => nomatch h) dX0_holds_25
  · refine lv_iload_n hx hb dX0_holds_4 rfl (lv_at hl 1 rfl) ?_
    refine lv_aload_n hx hb dX0_holds_5 rfl (lv_at hl 0 rfl) ?_
    refine va_get (D := D) (ci := 0) (v := .int (nI (tw_P k))) (C := RX0) (T := TX0) (N := 12) hx hb ht inX0 hown hK hP 0 rfl rfl 0 (by decide) (ht _ kf_X0_9) (fun _ h9 => h9) rfl dX0_holds_6 ?_
    refine lv_icmp_ge (tgt := 24) hx hb dX0_holds_9 (by decide) (fun c2 => ?_) (fun c2 => ?_)
    · refine lv_iconst (v := (nI 0)) hx hb dX0_holds_24 (by decide) ?_
      exact W.zret hx hb hr rfl (fun t ht hW => ⟨_, rfl, rfl, ht⟩) (fun q h => nomatch h) dX0_holds_25
    · refine lv_iload_n hx hb dX0_holds_12 rfl (lv_at hl 2 rfl) ?_
      refine lv_if_lt (tgt := 24) hx hb dX0_holds_13 (by decide) (fun c3 => ?_) (fun c3 => ?_)
      · refine lv_iconst (v := (nI 0)) hx hb dX0_holds_24 (by decide) ?_
        exact W.zret hx hb hr rfl (fun t ht hW => ⟨_, rfl, rfl, ht⟩) (fun q h => nomatch h) dX0_holds_25
      · refine lv_iload_n hx hb dX0_holds_16 rfl (lv_at hl 2 rfl) ?_
        refine lv_aload_n hx hb dX0_holds_17 rfl (lv_at hl 0 rfl) ?_
        refine va_get (D := D) (ci := 0) (v := .int (nI (tw_P k))) (C := RX0) (T := TX0) (N := 12) hx hb ht inX0 hown hK hP 0 rfl rfl 0 (by decide) (ht _ kf_X0_9) (fun _ h9 => h9) rfl dX0_holds_18 ?_
        refine lv_icmp_lt (tgt := 26) hx hb dX0_holds_21 (by decide) (fun c4 => ?_) (fun c4 => ?_)
        · rcases hn with hn | hn | hn | hn
          · exact absurd hn c1
          · exact absurd hn c2
          · exact absurd hn c3
          · rw [Int32.le_iff_toInt_le] at hn
            rw [Int32.lt_iff_toInt_lt] at c4
            omega
        · refine lv_iconst (v := (nI 0)) hx hb dX0_holds_24 (by decide) ?_
          exact W.zret hx hb hr rfl (fun t ht hW => ⟨_, rfl, rfl, ht⟩) (fun q h => nomatch h) dX0_holds_25
set_option maxHeartbeats 4000000 in
set_option maxRecDepth 100000 in
theorem c_X0_multiple (l : Launch) (D : va_G) {k : Nat} (hk5 : k < 5) {n fc h0 : Nat} {ff : Nat → Int32} (hn0 : 0 < n) (hn : n ≤ 8232) (z : Int64) {p9 : Nat × Nat} (hp9 : tw_on (tw_P k) (tw_D k) p9) : Met l yX0_multiple wX0_multiple ({ frames := 2, cells := 0, slots := 0, locals := 50 }) (va_Pc [.ref h0, .long z, .int (nI (tw_en p9))] (cv_at D k n fc h0 ff)) (vp_Si (fun r => r = nI (tw_en (tw_mu (tw_P k) (tw_D k) (z.toInt % (n : Int)).toNat p9)))) 0 0 (fun _ => False) := by
  refine Met.ofW (cc := cX0_multiple) (maxL := 7) (ret := (some .int)) (by decide) rfl ?_
  intro p e s m args below meth c s₁ B hml hv
  obtain ⟨rfl, hv⟩ := hv
  have hx := B.exec
  have hb := B.bytes
  have hr := B.returns
  have hts := atoms_spec (ws := wX0_multiple) B.pre
  have ht : ∀ w ∈ tb_all, w.before _ s = true := fun w h => hts w (List.mem_cons_of_mem _ h)
  have hown : s.vm.findClass RX0 = some m.cls := findClass_of_methodNamed B.named
  have hlocks := B.notSynchronized
  have hl := lv_entry ([.ref h0, .long z, .int (nI (tw_en p9))]) (n := 7) (Nat.le_of_ble_eq_true rfl)
  rw [lg_entry_eq]
  generalize (lg_sl ([.ref h0, .long z, .int (nI (tw_en p9))]) ++ List.replicate (7 - (lg_sl ([.ref h0, .long z, .int (nI (tw_en p9))])).length) Slot.unset).toArray = ls at hl ⊢
  have hl : lv_has ls 7 [(0, .ref h0), (1, .long z), (3, .int (nI (tw_en p9)))] := hl
  obtain ⟨hP0, hP2, hD2, hI2, hDP⟩ := tw_kb hk5
  have hat := hv
  obtain ⟨ai, ar, af, ap, ah, ac, cA, hk, fi, fr, fp, fh, fn, hP, hK, hfi, hfr⟩ := hv
  have hK0 := tw_kK k hk5
  have zp := tw_en_le hP2 hp9
  refine lv_iconst (v := (nI 1)) hx hb dX0_multiple_0 (by decide) ?_
  refine lv_istore hx hb dX0_multiple_1 hl (by decide) rfl (fun ls hl => ?_)
  have hl : lv_has ls 7 [(4, .int (nI 1)), (0, .ref h0), (1, .long z), (3, .int (nI (tw_en p9)))] := hl
  refine lv_iload_n hx hb dX0_multiple_3 rfl (lv_at hl 3 rfl) ?_
  refine lv_istore hx hb dX0_multiple_4 hl (by decide) rfl (fun ls hl => ?_)
  have hl : lv_has ls 7 [(5, .int (nI (tw_en p9))), (4, .int (nI 1)), (0, .ref h0), (1, .long z), (3, .int (nI (tw_en p9)))] := hl
  refine lv_lload_n hx hb dX0_multiple_6 rfl (lv_at hl 3 rfl) ?_
  refine lv_aload_n hx hb dX0_multiple_7 rfl (lv_at hl 2 rfl) ?_
  refine va_get (D := D) (ci := 0) (v := .int (nI n)) (C := RX0) (T := TX0) (N := 12) hx hb ht inX0 hown hK hP 0 rfl rfl 3 (by decide) (ht _ kf_X0_51) (fun _ h9 => h9) rfl dX0_multiple_8 ?_
  refine lv_i2l (v := lN n) hx hb dX0_multiple_11 (nI_l (nv_le (b := 8232) hn (by decide))) ?_
  have zm : (z.toInt % (n : Int)).toNat ≤ 8231 := by
    have a1 : 0 ≤ z.toInt % (n : Int) := Int.emod_nonneg _ (by omega)
    have a2 : z.toInt % (n : Int) < n := Int.emod_lt_of_pos _ (by omega)
    omega
  refine vp_callSl (W.runS (As := [.long z, .long (lN n)]) (rest := []) ⟨hx, hb, hml, hown, ht⟩ (c_J9_floorMod l z hn0 (by omega)) (va_cwS 2 ht (tb_S kl_X0_71 kt_J9_floorMod kn_J9 kc_J9_floorMod) rfl rfl rfl kd_J9_floorMod ⟨Nat.le_of_ble_eq_true rfl, Nat.le_of_ble_eq_true rfl⟩) (st_pre _) rfl rfl hl.1 rfl (lv_room (Nat.le_of_ble_eq_true rfl)) dX0_multiple_12 ⟨Nat.zero_le _, Nat.zero_le _⟩) (fun r hr9 => ?_)
  subst hr9
  refine lv_l2i (v := nI ((z.toInt % (n : Int)).toNat)) hx hb dX0_multiple_15 (lN_i _) ?_
  refine lv_istore hx hb dX0_multiple_16 hl (by decide) rfl (fun ls hl => ?_)
  have hl : lv_has ls 7 [(6, .int (nI ((z.toInt % (n : Int)).toNat))), (5, .int (nI (tw_en p9))), (4, .int (nI 1)), (0, .ref h0), (1, .long z), (3, .int (nI (tw_en p9)))] := hl
  have loop : ∀ (f left : Nat) (t d : Nat × Nat) (ls : Array Slot), left < f → left ≤ 8231 → tw_on (tw_P k) (tw_D k) t → tw_on (tw_P k) (tw_D k) d → tw_add (tw_P k) (tw_D k) t (tw_mu (tw_P k) (tw_D k) left d) = tw_mu (tw_P k) (tw_D k) (z.toInt % (n : Int)).toNat p9 → lv_has ls 7 [(6, .int (nI left)), (5, .int (nI (tw_en d))), (4, .int (nI (tw_en t))), (0, .ref h0)] → W p l e (headSpec wX0_multiple ({ frames := 2, cells := 0, slots := 0, locals := 50 })).room s m ([.ref h0, .long z, .int (nI (tw_en p9))]).toArray below meth c s.heap [] 0 0 (MQ below (vp_Si (fun r => r = nI (tw_en (tw_mu (tw_P k) (tw_D k) (z.toInt % (n : Int)).toNat p9)))) ([.ref h0, .long z, .int (nI (tw_en p9))]).toArray s 0 0 (fun _ => False)) (F0 m 18 ls []) := by
    intro f
    induction f with
    | zero => intro left t d ls h1; exact absurd h1 (Nat.not_lt_zero _)
    | succ f ih =>
      intro left t d ls h1 h2 ht0 hd0 hinv hl
      have zd := tw_en_le hP2 hd0
      have zt := tw_en_le hP2 ht0
      refine lv_iload hx hb dX0_multiple_18 (lv_at hl 0 rfl) ?_
      refine nv_if_le (tgt := 60) hx hb dX0_multiple_20 (by decide) (nv_le (b := 8231) h2 (by decide)) (fun c20 => ?_) (fun c20 => ?_)
      · subst c20
        have e9 : t = tw_mu (tw_P k) (tw_D k) (z.toInt % (n : Int)).toNat p9 := by rw [← hinv]; exact (tw_zer hK0 ht0.1 ht0.2.1).symm
        refine lv_iload hx hb dX0_multiple_60 (lv_at hl 2 rfl) ?_
        exact W.iret hx hb hr (fun t ht hW => ⟨_, rfl, by rw [← e9], ht⟩) (fun q h => nomatch h) dX0_multiple_62
      · refine lv_iload hx hb dX0_multiple_23 (lv_at hl 0 rfl) ?_
        refine lv_iconst (v := (nI 1)) hx hb dX0_multiple_25 (by decide) ?_
        refine nv_iand hx hb 1 dX0_multiple_26 (Nat.lt_trans (nv_le (b := 8231) h2 (by decide)) (by decide)) (by decide) ?_
        refine lv_iconst (v := (nI 1)) hx hb dX0_multiple_27 (by decide) ?_
        refine nv_icmp_ne (tgt := 41) hx hb dX0_multiple_28 (by decide) (nv_le (b := 1) (Nat.le_of_lt_succ (Nat.mod_lt _ (by decide))) (by decide)) (nv_le (b := 1) (Nat.le_refl 1) (by decide)) (fun c28 => ?_) (fun c28 => ?_)
        · refine lv_aload_n hx hb dX0_multiple_41 rfl (lv_at hl 3 rfl) ?_
          refine lv_iload hx hb dX0_multiple_42 (lv_at hl 1 rfl) ?_
          refine lv_iload hx hb dX0_multiple_44 (lv_at hl 1 rfl) ?_
          refine vp_callSi (W.runV (As := [.int (nI (tw_en d)), .int (nI (tw_en d))]) (rest := []) ⟨hx, hb, hml, hown, ht⟩ (c_X0_sum l D hk5 (x := d.1) (y := d.2) (u := d.1) (v := d.2) hd0.1 hd0.2.1 hd0.1 hd0.2.1) (cwV 2 ht (tb_V kl_X0_77 ki_X0_sum ks_X0_sum kn_X0 kc_X0_sum) rfl rfl rfl ⟨rfl, kd_X0_sum⟩ ⟨Nat.le_of_ble_eq_true rfl, Nat.le_of_ble_eq_true rfl⟩) (cv_pre hat _) rfl rfl hl.1 rfl (lv_room (Nat.le_of_ble_eq_true rfl)) dX0_multiple_46 ⟨Nat.zero_le _, Nat.zero_le _⟩) (fun r hr9 => ?_)
          subst hr9
          refine lv_istore hx hb dX0_multiple_49 hl (by decide) rfl (fun ls hl => ?_)
          have hl : lv_has ls 7 [(5, .int (nI (tw_en (tw_add (tw_P k) (tw_D k) d d)))), (6, .int (nI left)), (4, .int (nI (tw_en t))), (0, .ref h0)] := hl
          refine lv_iload hx hb dX0_multiple_51 (lv_at hl 1 rfl) ?_
          refine lv_iconst (v := (nI 1)) hx hb dX0_multiple_53 (by decide) ?_
          refine nv_ishr hx hb 1 dX0_multiple_54 (by decide) (nv_le (b := 8231) h2 (by decide)) ?_
          refine lv_istore hx hb dX0_multiple_55 hl (by decide) rfl (fun ls hl => ?_)
          have hl : lv_has ls 7 [(6, .int (nI (left / 2 ^ 1))), (5, .int (nI (tw_en (tw_add (tw_P k) (tw_D k) d d)))), (4, .int (nI (tw_en t))), (0, .ref h0)] := hl
          refine lv_goto (tgt := 18) hx hb dX0_multiple_57 (by decide) ?_
          refine ih (left / 2) (t) (tw_add (tw_P k) (tw_D k) d d) ls (by omega) (by omega) ht0 (tw_clo hK0 hd0 hd0) ?_ (lv_sub hl [0, 1, 2, 3] rfl)
          rw [← hinv]
          rw [tw_stp0 hK0 hd0 (by have q : ¬ left % 2 = 1 := c28; omega)]
        · refine lv_aload_n hx hb dX0_multiple_31 rfl (lv_at hl 3 rfl) ?_
          refine lv_iload hx hb dX0_multiple_32 (lv_at hl 2 rfl) ?_
          refine lv_iload hx hb dX0_multiple_34 (lv_at hl 1 rfl) ?_
          refine vp_callSi (W.runV (As := [.int (nI (tw_en t)), .int (nI (tw_en d))]) (rest := []) ⟨hx, hb, hml, hown, ht⟩ (c_X0_sum l D hk5 (x := t.1) (y := t.2) (u := d.1) (v := d.2) ht0.1 ht0.2.1 hd0.1 hd0.2.1) (cwV 2 ht (tb_V kl_X0_77 ki_X0_sum ks_X0_sum kn_X0 kc_X0_sum) rfl rfl rfl ⟨rfl, kd_X0_sum⟩ ⟨Nat.le_of_ble_eq_true rfl, Nat.le_of_ble_eq_true rfl⟩) (cv_pre hat _) rfl rfl hl.1 rfl (lv_room (Nat.le_of_ble_eq_true rfl)) dX0_multiple_36 ⟨Nat.zero_le _, Nat.zero_le _⟩) (fun r hr9 => ?_)
          subst hr9
          refine lv_istore hx hb dX0_multiple_39 hl (by decide) rfl (fun ls hl => ?_)
          have hl : lv_has ls 7 [(4, .int (nI (tw_en (tw_add (tw_P k) (tw_D k) t d)))), (6, .int (nI left)), (5, .int (nI (tw_en d))), (0, .ref h0)] := hl
          refine lv_aload_n hx hb dX0_multiple_41 rfl (lv_at hl 3 rfl) ?_
          refine lv_iload hx hb dX0_multiple_42 (lv_at hl 2 rfl) ?_
          refine lv_iload hx hb dX0_multiple_44 (lv_at hl 2 rfl) ?_
          refine vp_callSi (W.runV (As := [.int (nI (tw_en d)), .int (nI (tw_en d))]) (rest := []) ⟨hx, hb, hml, hown, ht⟩ (c_X0_sum l D hk5 (x := d.1) (y := d.2) (u := d.1) (v := d.2) hd0.1 hd0.2.1 hd0.1 hd0.2.1) (cwV 2 ht (tb_V kl_X0_77 ki_X0_sum ks_X0_sum kn_X0 kc_X0_sum) rfl rfl rfl ⟨rfl, kd_X0_sum⟩ ⟨Nat.le_of_ble_eq_true rfl, Nat.le_of_ble_eq_true rfl⟩) (cv_pre hat _) rfl rfl hl.1 rfl (lv_room (Nat.le_of_ble_eq_true rfl)) dX0_multiple_46 ⟨Nat.zero_le _, Nat.zero_le _⟩) (fun r hr9 => ?_)
          subst hr9
          refine lv_istore hx hb dX0_multiple_49 hl (by decide) rfl (fun ls hl => ?_)
          have hl : lv_has ls 7 [(5, .int (nI (tw_en (tw_add (tw_P k) (tw_D k) d d)))), (4, .int (nI (tw_en (tw_add (tw_P k) (tw_D k) t d)))), (6, .int (nI left)), (0, .ref h0)] := hl
          refine lv_iload hx hb dX0_multiple_51 (lv_at hl 2 rfl) ?_
          refine lv_iconst (v := (nI 1)) hx hb dX0_multiple_53 (by decide) ?_
          refine nv_ishr hx hb 1 dX0_multiple_54 (by decide) (nv_le (b := 8231) h2 (by decide)) ?_
          refine lv_istore hx hb dX0_multiple_55 hl (by decide) rfl (fun ls hl => ?_)
          have hl : lv_has ls 7 [(6, .int (nI (left / 2 ^ 1))), (5, .int (nI (tw_en (tw_add (tw_P k) (tw_D k) d d)))), (4, .int (nI (tw_en (tw_add (tw_P k) (tw_D k) t d)))), (0, .ref h0)] := hl
          refine lv_goto (tgt := 18) hx hb dX0_multiple_57 (by decide) ?_
          refine ih (left / 2) (tw_add (tw_P k) (tw_D k) t d) (tw_add (tw_P k) (tw_D k) d d) ls (by omega) (by omega) (tw_clo hK0 ht0 hd0) (tw_clo hK0 hd0 hd0) ?_ (lv_sub hl [0, 1, 2, 3] rfl)
          rw [← hinv]
          exact tw_stp1 hK0 ht0 hd0 c28
  refine loop ((z.toInt % (n : Int)).toNat + 1) _ (0, 1) p9 ls (Nat.lt_succ_self _) zm (tw_on0 hK0) hp9 ?_ (lv_sub hl [0, 1, 2, 3] rfl)
  have q := tw_mu_on hK0 hp9 (z.toInt % (n : Int)).toNat
  exact tw_zel hK0 q.1 q.2.1
