/-! the model is set to a kind, begun, made -/
def md_d (n : Nat) : Int32 := match n with
  | 0 => -1
  | j + 1 => nI j
theorem md_dec (n : Nat) : nI n + Int32.ofInt (-1) = md_d n := by
  cases n with
  | zero => decide
  | succ j =>
    show nI (j + 1) + Int32.ofInt (-1) = nI j
    rw [← nv_inc, Int32.add_assoc]
    have e : Int32.ofInt 1 + Int32.ofInt (-1) = 0 := by decide
    rw [e, Int32.add_zero]
def md_ri (P n w : Nat) (x : Int32) : Prop := (x = -1 ∧ ∀ r, n ≤ r → r < P → r * r % P ≠ w) ∨ ∃ r, n ≤ r ∧ r < P ∧ r * r % P = w ∧ x = nI r ∧ ∀ q, n ≤ q → q < r → q * q % P ≠ w
theorem md_ri_P (P w : Nat) : md_ri P P w (-1) := Or.inl ⟨rfl, fun r h1 h2 => absurd h2 (Nat.not_lt.mpr h1)⟩
theorem md_ri_s {P n w : Nat} {g : Nat → Int32} (hn : n < P) (h : md_ri P (n + 1) w (g w)) : md_ri P n w (upd g (n * n % P) (nI n) w) := by
  by_cases c : w = n * n % P
  · subst c
    rw [up_at]
    exact Or.inr ⟨n, Nat.le_refl n, hn, rfl, rfl, fun q h1 h2 => absurd h2 (Nat.not_lt.mpr h1)⟩
  · rw [up_ne c]
    rcases h with ⟨h1, h2⟩ | ⟨r, h1, h2, h3, h4, h5⟩
    · refine Or.inl ⟨h1, fun r a b => ?_⟩
      by_cases d : r = n
      · rw [d]; exact fun z => c z.symm
      · exact h2 r (by omega) b
    · refine Or.inr ⟨r, by omega, h2, h3, h4, fun q a b => ?_⟩
      by_cases d : q = n
      · rw [d]; exact fun z => c z.symm
      · exact h5 q (by omega) b
theorem md_ri_0 {P w : Nat} {x : Int32} (h : md_ri P 0 w x) : x = tw_rv P w := by
  unfold tw_rv
  cases e : tw_rt P w with
  | none =>
    have hn := tw_rt_none e
    rcases h with ⟨h1, h2⟩ | ⟨r, h1, h2, h3, h4, h5⟩
    · exact h1
    · exact absurd h3 (hn r h2)
  | some r' =>
    obtain ⟨a1, a2, a3⟩ := tw_rt_some e
    rcases h with ⟨h1, h2⟩ | ⟨r, h1, h2, h3, h4, h5⟩
    · exact absurd a2 (h2 r' (Nat.zero_le _) a1)
    · have e1 : ¬ r < r' := fun z => a3 r z h3
      have e2 : ¬ r' < r := fun z => h5 r' (Nat.zero_le _) z a2
      have e3 : r = r' := by omega
      rw [h4, e3]
theorem md_Ik : ∀ k, k < 5 → 2 ≤ tw_I k := by decide
theorem md_Is {k : Nat} (hk : k < 5) {i : Nat} (h : i < tw_I k) : i * i % tw_P k ≠ tw_P k - 1 := (tw_rt_some (tw_rt_m1 (tw_kK k hk) (tw_Ik k hk))).2.2 i h
set_option maxHeartbeats 4000000 in
set_option maxRecDepth 100000 in
theorem c_X2_set (l : Launch) (D : va_G) {k : Nat} (hk5 : k < 5) {m0 mx my mr mb : Nat} {th sx sy kd pp dd ii : Int32} {cA : ClassId} {fx fy fr fb : Nat → Int32} (sz : Nat) : Met l yX2_set wX2_set ({ frames := 0, cells := 0, slots := 0, locals := 0 }) (va_Pc [.ref m0, .int (nI k)] (wd_pre D [(cA, .int)] [(m0, .inr (2, [.int th, .int kd, .int pp, .int dd, .int ii, .ref mx, .ref my, .ref mr, .ref mb, .int sx, .int sy])), (mx, .inl (cA, 12, .inl fx)), (my, .inl (cA, 12, .inl fy)), (mr, .inl (cA, 8101, .inl fr)), (mb, .inl (cA, 5, .inl fb))] sz)) (va_Qv (fun (u : (Nat → Int32) × (Nat → Int32) × (Nat → Int32)) => (∀ j, j < 12 → u.1 j = nI 0 ∧ u.2.1 j = nI 1) ∧ ∀ j, j < tw_P k → u.2.2 j = tw_rv (tw_P k) j) (fun (u : (Nat → Int32) × (Nat → Int32) × (Nat → Int32)) t => wd_at D [(cA, .int)] (va_A [(m0, .inr (2, [.int th, .int kd, .int pp, .int dd, .int ii, .ref mx, .ref my, .ref mr, .ref mb, .int sx, .int sy])), (mx, .inl (cA, 12, .inl fx)), (my, .inl (cA, 12, .inl fy)), (mr, .inl (cA, 8101, .inl fr)), (mb, .inl (cA, 5, .inl fb))] sz) [(m0, .inr (2, [.int th, .int (nI k), .int (nI (tw_P k)), .int (nI (tw_D k)), .int (nI (tw_I k)), .ref mx, .ref my, .ref mr, .ref mb, .int sx, .int sy])), (mx, .inl (cA, 12, .inl u.1)), (my, .inl (cA, 12, .inl u.2.1)), (mr, .inl (cA, 8101, .inl u.2.2)), (mb, .inl (cA, 5, .inl fb))] t) (va_A [(m0, .inr (2, [.int th, .int kd, .int pp, .int dd, .int ii, .ref mx, .ref my, .ref mr, .ref mb, .int sx, .int sy])), (mx, .inl (cA, 12, .inl fx)), (my, .inl (cA, 12, .inl fy)), (mr, .inl (cA, 8101, .inl fr)), (mb, .inl (cA, 5, .inl fb))] sz)) 0 0 (va_A [(m0, .inr (2, [.int th, .int kd, .int pp, .int dd, .int ii, .ref mx, .ref my, .ref mr, .ref mb, .int sx, .int sy])), (mx, .inl (cA, 12, .inl fx)), (my, .inl (cA, 12, .inl fy)), (mr, .inl (cA, 8101, .inl fr)), (mb, .inl (cA, 5, .inl fb))] sz) := by
  refine Met.ofW (cc := cX2_set) (maxL := 3) (ret := none) (by decide) rfl ?_
  intro p e s m args below meth c s₁ B hml hv
  obtain ⟨rfl, hsz, hP, hK, hD0⟩ := hv
  have hx := B.exec
  have hb := B.bytes
  have hr := B.returns
  have hts := atoms_spec (ws := wX2_set) B.pre
  have ht : ∀ w ∈ tb_all, w.before _ s = true := fun w h => hts w (List.mem_cons_of_mem _ h)
  have hown : s.vm.findClass RX2 = some m.cls := findClass_of_methodNamed B.named
  have hlocks := B.notSynchronized
  have hin : meth.name = "set" := (name_of_methodNamed B.named B.method).1
  subst hsz
  have hD := hD0.self (sz := s.heap.size)
  generalize hAe : va_A [(m0, .inr (2, [.int th, .int kd, .int pp, .int dd, .int ii, .ref mx, .ref my, .ref mr, .ref mb, .int sx, .int sy])), (mx, .inl (cA, 12, .inl fx)), (my, .inl (cA, 12, .inl fy)), (mr, .inl (cA, 8101, .inl fr)), (mb, .inl (cA, 5, .inl fb))] s.heap.size = A at hD ⊢
  have hA : ∀ q : Nat, s.heap.size ≤ q → A q := fun q h => by rw [← hAe]; exact Or.inr h
  have hS : va_S A s.heap s.heap [] := va_S.rf
  have hl := lv_entry ([.ref m0, .int (nI k)]) (n := 3) (Nat.le_of_ble_eq_true rfl)
  rw [lg_entry_eq]
  generalize (lg_sl ([.ref m0, .int (nI k)]) ++ List.replicate (3 - (lg_sl ([.ref m0, .int (nI k)])).length) Slot.unset).toArray = ls at hl ⊢
  have hl : lv_has ls 3 [(0, .ref m0), (1, .int (nI k))] := hl
  obtain ⟨hP0, hP2, hD2, hI2, hDP⟩ := tw_kb hk5
  have hK0 := tw_kK k hk5
  have hP8 : tw_P k ≤ 8192 := by omega
  have hN := tw_kN k hk5
  have zk : k ≤ 4 := by omega
  have hDk := tw_Dk k hk5
  have hIk := md_Ik k hk5
  have hI2k := tw_Ik k hk5
  have L4 : ∀ (f9 : Nat) (i : Nat) (gx gy gr : Nat → Int32) (H : Heap) (locs : List Loc) (ls : Array Slot), 12 - i < f9 → i ≤ 12 → (∀ j, j < i → gx j = nI 0 ∧ gy j = nI 1) → (∀ j, j < tw_P k → gr j = tw_rv (tw_P k) j) → va_P D vwCl [(m0, .inr (2, [.int th, .int (nI k), .int (nI (tw_P k)), .int (nI (tw_D k)), .int (nI (tw_I k)), .ref mx, .ref my, .ref mr, .ref mb, .int sx, .int sy])), (mx, .inl (cA, 12, .inl gx)), (my, .inl (cA, 12, .inl gy)), (mr, .inl (cA, 8101, .inl gr)), (mb, .inl (cA, 5, .inl fb))] H → va_D A [(m0, .inr (2, [.int th, .int (nI k), .int (nI (tw_P k)), .int (nI (tw_D k)), .int (nI (tw_I k)), .ref mx, .ref my, .ref mr, .ref mb, .int sx, .int sy])), (mx, .inl (cA, 12, .inl gx)), (my, .inl (cA, 12, .inl gy)), (mr, .inl (cA, 8101, .inl gr)), (mb, .inl (cA, 5, .inl fb))] → va_S A s.heap H locs → lv_has ls 3 [(2, .int (nI i)), (1, .int (nI k)), (0, .ref m0)] → W p l e (headSpec wX2_set ({ frames := 0, cells := 0, slots := 0, locals := 0 })).room s m ([.ref m0, .int (nI k)]).toArray below meth c H locs 0 0 (MQ below (va_Qv (fun (u : (Nat → Int32) × (Nat → Int32) × (Nat → Int32)) => (∀ j, j < 12 → u.1 j = nI 0 ∧ u.2.1 j = nI 1) ∧ ∀ j, j < tw_P k → u.2.2 j = tw_rv (tw_P k) j) (fun (u : (Nat → Int32) × (Nat → Int32) × (Nat → Int32)) t => wd_at D [(cA, .int)] (A) [(m0, .inr (2, [.int th, .int (nI k), .int (nI (tw_P k)), .int (nI (tw_D k)), .int (nI (tw_I k)), .ref mx, .ref my, .ref mr, .ref mb, .int sx, .int sy])), (mx, .inl (cA, 12, .inl u.1)), (my, .inl (cA, 12, .inl u.2.1)), (mr, .inl (cA, 8101, .inl u.2.2)), (mb, .inl (cA, 5, .inl fb))] t) A) ([.ref m0, .int (nI k)]).toArray s 0 0 A) (F0 m 180 ls []) := by
    intro f9
    induction f9 with
    | zero => intro i gx gy gr H locs ls h1; exact absurd h1 (Nat.not_lt_zero _)
    | succ f9 ih =>
      intro i gx gy gr H locs ls h1 h2 h3 h4 hP hD hS hl
      refine lv_iload_n hx hb dX2_set_180 rfl (lv_at hl 0 rfl) ?_
      refine lv_bipush (v := (nI 12)) hx hb dX2_set_181 (by decide) ?_
      refine nv_icmp_ge (tgt := 206) hx hb dX2_set_183 (by decide) (nv_le (b := 12) h2 (by decide)) (nv_le (b := 12) (Nat.le_refl 12) (by decide)) (fun c183 => ?_) (fun c183 => ?_)
      · have e8 : i = 12 := Nat.le_antisymm h2 c183
        subst e8
        exact W.vret hx hb hr (fun t ht9 hW => ⟨⟨(gx, gy, gr), rfl, ⟨h3, h4⟩, by rw [ht9]; exact hP, va_K.moved hW.alike hK, hD⟩, hS.F ht9⟩) hS.2.2 dX2_set_206
      · refine lv_aload_n hx hb dX2_set_186 rfl (lv_at hl 2 rfl) ?_
        refine va_get (D := D) (ci := 2) (v := .ref mx) (C := RX2) (T := TX2) (N := 11) hx hb ht inX2 hown hK hP 0 rfl rfl 5 (by decide) (ht _ kf_X2_13) (fun _ h9 => h9) rfl dX2_set_187 ?_
        refine lv_iload_n hx hb dX2_set_190 rfl (lv_at hl 0 rfl) ?_
        refine lv_iconst (v := (nI 0)) hx hb dX2_set_191 (by decide) ?_
        refine nv_iast hx hb hK hP hD hS 1 0 rfl rfl c183 (by decide) dX2_set_192 (fun H locs hP hD hS => ?_)
        have hP : va_P D vwCl [(m0, .inr (2, [.int th, .int (nI k), .int (nI (tw_P k)), .int (nI (tw_D k)), .int (nI (tw_I k)), .ref mx, .ref my, .ref mr, .ref mb, .int sx, .int sy])), (mx, .inl (cA, 12, .inl (upd gx i (nI 0)))), (my, .inl (cA, 12, .inl gy)), (mr, .inl (cA, 8101, .inl gr)), (mb, .inl (cA, 5, .inl fb))] H := hP
        have hD : va_D A [(m0, .inr (2, [.int th, .int (nI k), .int (nI (tw_P k)), .int (nI (tw_D k)), .int (nI (tw_I k)), .ref mx, .ref my, .ref mr, .ref mb, .int sx, .int sy])), (mx, .inl (cA, 12, .inl (upd gx i (nI 0)))), (my, .inl (cA, 12, .inl gy)), (mr, .inl (cA, 8101, .inl gr)), (mb, .inl (cA, 5, .inl fb))] := hD
        refine lv_aload_n hx hb dX2_set_193 rfl (lv_at hl 2 rfl) ?_
        refine va_get (D := D) (ci := 2) (v := .ref my) (C := RX2) (T := TX2) (N := 11) hx hb ht inX2 hown hK hP 0 rfl rfl 6 (by decide) (ht _ kf_X2_17) (fun _ h9 => h9) rfl dX2_set_194 ?_
        refine lv_iload_n hx hb dX2_set_197 rfl (lv_at hl 0 rfl) ?_
        refine lv_iconst (v := (nI 1)) hx hb dX2_set_198 (by decide) ?_
        refine nv_iast hx hb hK hP hD hS 2 0 rfl rfl c183 (by decide) dX2_set_199 (fun H locs hP hD hS => ?_)
        have hP : va_P D vwCl [(m0, .inr (2, [.int th, .int (nI k), .int (nI (tw_P k)), .int (nI (tw_D k)), .int (nI (tw_I k)), .ref mx, .ref my, .ref mr, .ref mb, .int sx, .int sy])), (mx, .inl (cA, 12, .inl (upd gx i (nI 0)))), (my, .inl (cA, 12, .inl (upd gy i (nI 1)))), (mr, .inl (cA, 8101, .inl gr)), (mb, .inl (cA, 5, .inl fb))] H := hP
        have hD : va_D A [(m0, .inr (2, [.int th, .int (nI k), .int (nI (tw_P k)), .int (nI (tw_D k)), .int (nI (tw_I k)), .ref mx, .ref my, .ref mr, .ref mb, .int sx, .int sy])), (mx, .inl (cA, 12, .inl (upd gx i (nI 0)))), (my, .inl (cA, 12, .inl (upd gy i (nI 1)))), (mr, .inl (cA, 8101, .inl gr)), (mb, .inl (cA, 5, .inl fb))] := hD
        refine lv_iinc hx hb dX2_set_200 hl (k := 0) rfl nv_inc (by decide) rfl (fun ls hl => ?_)
        have hl : lv_has ls 3 [(2, .int (nI (i + 1))), (1, .int (nI k)), (0, .ref m0)] := hl
        refine lv_goto (tgt := 180) hx hb dX2_set_203 (by decide) ?_
        refine ih (i + 1) _ _ gr H locs ls (by omega) (by omega) (fun j9 hj9 => ?_) h4 hP hD hS (lv_sub hl [0, 1, 2] rfl)
        by_cases c : j9 = i
        · subst c; exact ⟨up_at, up_at⟩
        · rw [up_ne c, up_ne c]; exact h3 j9 (by omega)
  have L3 : ∀ (f9 : Nat) (i : Nat) (l2 : Int32) (gr : Nat → Int32) (H : Heap) (locs : List Loc) (ls : Array Slot), tw_I k - i < f9 → 2 ≤ i → i ≤ tw_I k → (∀ j, j < tw_P k → gr j = tw_rv (tw_P k) j) → va_P D vwCl [(m0, .inr (2, [.int th, .int (nI k), .int (nI (tw_P k)), .int (nI (tw_D k)), .int (nI i), .ref mx, .ref my, .ref mr, .ref mb, .int sx, .int sy])), (mx, .inl (cA, 12, .inl fx)), (my, .inl (cA, 12, .inl fy)), (mr, .inl (cA, 8101, .inl gr)), (mb, .inl (cA, 5, .inl fb))] H → va_D A [(m0, .inr (2, [.int th, .int (nI k), .int (nI (tw_P k)), .int (nI (tw_D k)), .int (nI i), .ref mx, .ref my, .ref mr, .ref mb, .int sx, .int sy])), (mx, .inl (cA, 12, .inl fx)), (my, .inl (cA, 12, .inl fy)), (mr, .inl (cA, 8101, .inl gr)), (mb, .inl (cA, 5, .inl fb))] → va_S A s.heap H locs → lv_has ls 3 [(2, .int l2), (1, .int (nI k)), (0, .ref m0)] → W p l e (headSpec wX2_set ({ frames := 0, cells := 0, slots := 0, locals := 0 })).room s m ([.ref m0, .int (nI k)]).toArray below meth c H locs 0 0 (MQ below (va_Qv (fun (u : (Nat → Int32) × (Nat → Int32) × (Nat → Int32)) => (∀ j, j < 12 → u.1 j = nI 0 ∧ u.2.1 j = nI 1) ∧ ∀ j, j < tw_P k → u.2.2 j = tw_rv (tw_P k) j) (fun (u : (Nat → Int32) × (Nat → Int32) × (Nat → Int32)) t => wd_at D [(cA, .int)] (A) [(m0, .inr (2, [.int th, .int (nI k), .int (nI (tw_P k)), .int (nI (tw_D k)), .int (nI (tw_I k)), .ref mx, .ref my, .ref mr, .ref mb, .int sx, .int sy])), (mx, .inl (cA, 12, .inl u.1)), (my, .inl (cA, 12, .inl u.2.1)), (mr, .inl (cA, 8101, .inl u.2.2)), (mb, .inl (cA, 5, .inl fb))] t) A) ([.ref m0, .int (nI k)]).toArray s 0 0 A) (F0 m 142 ls []) := by
    intro f9
    induction f9 with
    | zero => intro i l2 gr H locs ls h1; exact absurd h1 (Nat.not_lt_zero _)
    | succ f9 ih =>
      intro i l2 gr H locs ls h1 h2 h3 h4 hP hD hS hl
      have zi : i ≤ 8100 := Nat.le_trans h3 hI2
      refine lv_aload_n hx hb dX2_set_142 rfl (lv_at hl 2 rfl) ?_
      refine va_get (D := D) (ci := 2) (v := .int (nI i)) (C := RX2) (T := TX2) (N := 11) hx hb ht inX2 hown hK hP 0 rfl rfl 4 (by decide) (ht _ kf_X2_39) (fun _ h9 => h9) rfl dX2_set_143 ?_
      refine lv_aload_n hx hb dX2_set_146 rfl (lv_at hl 2 rfl) ?_
      refine va_get (D := D) (ci := 2) (v := .int (nI i)) (C := RX2) (T := TX2) (N := 11) hx hb ht inX2 hown hK hP 0 rfl rfl 4 (by decide) (ht _ kf_X2_39) (fun _ h9 => h9) rfl dX2_set_147 ?_
      refine nv_imul hx hb dX2_set_150 ?_
      refine lv_aload_n hx hb dX2_set_151 rfl (lv_at hl 2 rfl) ?_
      refine va_get (D := D) (ci := 2) (v := .int (nI (tw_P k))) (C := RX2) (T := TX2) (N := 11) hx hb ht inX2 hown hK hP 0 rfl rfl 2 (by decide) (ht _ kf_X2_7) (fun _ h9 => h9) rfl dX2_set_152 ?_
      refine nv_irem hx hb dX2_set_155 hP0 (nv_le (b := 65610000) (Nat.mul_le_mul zi zi) (by decide)) (nv_le (b := 8101) hP2 (by decide)) ?_
      refine lv_aload_n hx hb dX2_set_156 rfl (lv_at hl 2 rfl) ?_
      refine va_get (D := D) (ci := 2) (v := .int (nI (tw_P k))) (C := RX2) (T := TX2) (N := 11) hx hb ht inX2 hown hK hP 0 rfl rfl 2 (by decide) (ht _ kf_X2_7) (fun _ h9 => h9) rfl dX2_set_157 ?_
      refine lv_iconst (v := (nI 1)) hx hb dX2_set_160 (by decide) ?_
      refine nv_isub hx hb dX2_set_161 hP0 ?_
      refine nv_icmp_eq (tgt := 178) hx hb dX2_set_162 (by decide) (nv_le (b := 8100) (nv_md hP0 hP2) (by decide)) (nv_le (b := 8101) (Nat.le_trans (Nat.sub_le _ _) hP2) (by decide)) (fun c162 => ?_) (fun c162 => ?_)
      · have e8 : i = tw_I k := by
          refine Classical.byContradiction (fun z => md_Is hk5 (i := i) (by omega) c162)
        subst e8
        refine lv_iconst (v := (nI 0)) hx hb dX2_set_178 (by decide) ?_
        refine lv_istore_n hx hb dX2_set_179 rfl hl (by decide) rfl (fun ls hl => ?_)
        have hl : lv_has ls 3 [(2, .int (nI 0)), (1, .int (nI k)), (0, .ref m0)] := hl
        exact L4 13 0 fx fy gr H locs ls (by omega) (Nat.zero_le _) (fun j9 h9 => absurd h9 (Nat.not_lt_zero _)) h4 hP hD hS (lv_sub hl [0, 1, 2] rfl)
      · have e8 : i < tw_I k := by
          refine Nat.lt_of_le_of_ne h3 (fun z => c162 ?_)
          rw [z]; exact hK0.2.2.2.2.1
        refine lv_aload_n hx hb dX2_set_165 rfl (lv_at hl 2 rfl) ?_
        refine lv_dup hx hb dX2_set_166 rfl ?_
        refine va_get (D := D) (ci := 2) (v := .int (nI i)) (C := RX2) (T := TX2) (N := 11) hx hb ht inX2 hown hK hP 0 rfl rfl 4 (by decide) (ht _ kf_X2_39) (fun _ h9 => h9) rfl dX2_set_167 ?_
        refine lv_iconst (v := (nI 1)) hx hb dX2_set_170 (by decide) ?_
        refine nv_iadd hx hb dX2_set_171 ?_
        refine va_put (D := D) (ci := 2) (v := .int (nI (i + 1))) (ty := .int) (C := RX2) (T := TX2) (N := 11) hx hb ht inX2 tyX2 tyX2_ok nmX2 hown hK hP hD hS 0 rfl rfl 4 (by decide) (ht _ kf_X2_39) (fun _ h9 => h9) rfl (by decide +kernel) rfl rfl (Nat.le_of_ble_eq_true rfl) dX2_set_172 (fun H locs hP hD hS => ?_)
        have hP : va_P D vwCl [(m0, .inr (2, [.int th, .int (nI k), .int (nI (tw_P k)), .int (nI (tw_D k)), .int (nI (i + 1)), .ref mx, .ref my, .ref mr, .ref mb, .int sx, .int sy])), (mx, .inl (cA, 12, .inl fx)), (my, .inl (cA, 12, .inl fy)), (mr, .inl (cA, 8101, .inl gr)), (mb, .inl (cA, 5, .inl fb))] H := hP
        have hD : va_D A [(m0, .inr (2, [.int th, .int (nI k), .int (nI (tw_P k)), .int (nI (tw_D k)), .int (nI (i + 1)), .ref mx, .ref my, .ref mr, .ref mb, .int sx, .int sy])), (mx, .inl (cA, 12, .inl fx)), (my, .inl (cA, 12, .inl fy)), (mr, .inl (cA, 8101, .inl gr)), (mb, .inl (cA, 5, .inl fb))] := hD
        refine lv_goto (tgt := 142) hx hb dX2_set_175 (by decide) ?_
        exact ih (i + 1) l2 gr H locs ls (by omega) (by omega) e8 h4 hP hD hS (lv_sub hl [0, 1, 2] rfl)
  have L2 : ∀ (f9 : Nat) (d : Nat) (l2 : Int32) (gr : Nat → Int32) (H : Heap) (locs : List Loc) (ls : Array Slot), tw_D k - d < f9 → 2 ≤ d → d ≤ tw_D k → (∀ j, j < tw_P k → gr j = tw_rv (tw_P k) j) → va_P D vwCl [(m0, .inr (2, [.int th, .int (nI k), .int (nI (tw_P k)), .int (nI d), .int ii, .ref mx, .ref my, .ref mr, .ref mb, .int sx, .int sy])), (mx, .inl (cA, 12, .inl fx)), (my, .inl (cA, 12, .inl fy)), (mr, .inl (cA, 8101, .inl gr)), (mb, .inl (cA, 5, .inl fb))] H → va_D A [(m0, .inr (2, [.int th, .int (nI k), .int (nI (tw_P k)), .int (nI d), .int ii, .ref mx, .ref my, .ref mr, .ref mb, .int sx, .int sy])), (mx, .inl (cA, 12, .inl fx)), (my, .inl (cA, 12, .inl fy)), (mr, .inl (cA, 8101, .inl gr)), (mb, .inl (cA, 5, .inl fb))] → va_S A s.heap H locs → lv_has ls 3 [(2, .int l2), (1, .int (nI k)), (0, .ref m0)] → W p l e (headSpec wX2_set ({ frames := 0, cells := 0, slots := 0, locals := 0 })).room s m ([.ref m0, .int (nI k)]).toArray below meth c H locs 0 0 (MQ below (va_Qv (fun (u : (Nat → Int32) × (Nat → Int32) × (Nat → Int32)) => (∀ j, j < 12 → u.1 j = nI 0 ∧ u.2.1 j = nI 1) ∧ ∀ j, j < tw_P k → u.2.2 j = tw_rv (tw_P k) j) (fun (u : (Nat → Int32) × (Nat → Int32) × (Nat → Int32)) t => wd_at D [(cA, .int)] (A) [(m0, .inr (2, [.int th, .int (nI k), .int (nI (tw_P k)), .int (nI (tw_D k)), .int (nI (tw_I k)), .ref mx, .ref my, .ref mr, .ref mb, .int sx, .int sy])), (mx, .inl (cA, 12, .inl u.1)), (my, .inl (cA, 12, .inl u.2.1)), (mr, .inl (cA, 8101, .inl u.2.2)), (mb, .inl (cA, 5, .inl fb))] t) A) ([.ref m0, .int (nI k)]).toArray s 0 0 A) (F0 m 111 ls []) := by
    intro f9
    induction f9 with
    | zero => intro d l2 gr H locs ls h1; exact absurd h1 (Nat.not_lt_zero _)
    | succ f9 ih =>
      intro d l2 gr H locs ls h1 h2 h3 h4 hP hD hS hl
      have zd : d ≤ 8100 := Nat.le_trans h3 hD2
      refine lv_aload_n hx hb dX2_set_111 rfl (lv_at hl 2 rfl) ?_
      refine va_get (D := D) (ci := 2) (v := .ref mr) (C := RX2) (T := TX2) (N := 11) hx hb ht inX2 hown hK hP 0 rfl rfl 7 (by decide) (ht _ kf_X2_20) (fun _ h9 => h9) rfl dX2_set_112 ?_
      refine lv_aload_n hx hb dX2_set_115 rfl (lv_at hl 2 rfl) ?_
      refine va_get (D := D) (ci := 2) (v := .int (nI d)) (C := RX2) (T := TX2) (N := 11) hx hb ht inX2 hown hK hP 0 rfl rfl 3 (by decide) (ht _ kf_X2_36) (fun _ h9 => h9) rfl dX2_set_116 ?_
      refine nv_iald (A := fun _ => True) (H0 := s.heap) hx hb hK hP 3 0 rfl rfl (by omega) (by decide) dX2_set_119 ?_
      rw [h4 _ (by omega)]
      refine lv_iconst (v := (-1)) hx hb dX2_set_120 (by decide) ?_
      refine lv_icmp_eq (tgt := 137) hx hb dX2_set_121 (by decide) (fun c1 => ?_) (fun c1 => ?_)
      · have e8 : d = tw_D k := by
          refine Classical.byContradiction (fun z => ?_)
          have q := tw_Dsq k hk5 d (by omega) h2
          unfold tw_rv at c1
          cases er : tw_rt (tw_P k) d with
          | none => rw [er] at q; cases q
          | some r => rw [er] at c1; exact nv_m1 (by have := (tw_rt_some er).1; omega) c1
        subst e8
        refine lv_aload_n hx hb dX2_set_137 rfl (lv_at hl 2 rfl) ?_
        refine lv_iconst (v := (nI 2)) hx hb dX2_set_138 (by decide) ?_
        refine va_put (D := D) (ci := 2) (v := .int (nI 2)) (ty := .int) (C := RX2) (T := TX2) (N := 11) hx hb ht inX2 tyX2 tyX2_ok nmX2 hown hK hP hD hS 0 rfl rfl 4 (by decide) (ht _ kf_X2_39) (fun _ h9 => h9) rfl (by decide +kernel) rfl rfl (Nat.le_of_ble_eq_true rfl) dX2_set_139 (fun H locs hP hD hS => ?_)
        have hP : va_P D vwCl [(m0, .inr (2, [.int th, .int (nI k), .int (nI (tw_P k)), .int (nI (tw_D k)), .int (nI 2), .ref mx, .ref my, .ref mr, .ref mb, .int sx, .int sy])), (mx, .inl (cA, 12, .inl fx)), (my, .inl (cA, 12, .inl fy)), (mr, .inl (cA, 8101, .inl gr)), (mb, .inl (cA, 5, .inl fb))] H := hP
        have hD : va_D A [(m0, .inr (2, [.int th, .int (nI k), .int (nI (tw_P k)), .int (nI (tw_D k)), .int (nI 2), .ref mx, .ref my, .ref mr, .ref mb, .int sx, .int sy])), (mx, .inl (cA, 12, .inl fx)), (my, .inl (cA, 12, .inl fy)), (mr, .inl (cA, 8101, .inl gr)), (mb, .inl (cA, 5, .inl fb))] := hD
        exact L3 (tw_I k + 1) 2 l2 gr H locs ls (by omega) (Nat.le_refl 2) hIk h4 hP hD hS (lv_sub hl [0, 1, 2] rfl)
      · have e8 : d < tw_D k := by
          refine Nat.lt_of_le_of_ne h3 (fun z => c1 ?_)
          rw [z]; unfold tw_rv; rw [tw_rt_D hK0]
        refine lv_aload_n hx hb dX2_set_124 rfl (lv_at hl 2 rfl) ?_
        refine lv_dup hx hb dX2_set_125 rfl ?_
        refine va_get (D := D) (ci := 2) (v := .int (nI d)) (C := RX2) (T := TX2) (N := 11) hx hb ht inX2 hown hK hP 0 rfl rfl 3 (by decide) (ht _ kf_X2_36) (fun _ h9 => h9) rfl dX2_set_126 ?_
        refine lv_iconst (v := (nI 1)) hx hb dX2_set_129 (by decide) ?_
        refine nv_iadd hx hb dX2_set_130 ?_
        refine va_put (D := D) (ci := 2) (v := .int (nI (d + 1))) (ty := .int) (C := RX2) (T := TX2) (N := 11) hx hb ht inX2 tyX2 tyX2_ok nmX2 hown hK hP hD hS 0 rfl rfl 3 (by decide) (ht _ kf_X2_36) (fun _ h9 => h9) rfl (by decide +kernel) rfl rfl (Nat.le_of_ble_eq_true rfl) dX2_set_131 (fun H locs hP hD hS => ?_)
        have hP : va_P D vwCl [(m0, .inr (2, [.int th, .int (nI k), .int (nI (tw_P k)), .int (nI (d + 1)), .int ii, .ref mx, .ref my, .ref mr, .ref mb, .int sx, .int sy])), (mx, .inl (cA, 12, .inl fx)), (my, .inl (cA, 12, .inl fy)), (mr, .inl (cA, 8101, .inl gr)), (mb, .inl (cA, 5, .inl fb))] H := hP
        have hD : va_D A [(m0, .inr (2, [.int th, .int (nI k), .int (nI (tw_P k)), .int (nI (d + 1)), .int ii, .ref mx, .ref my, .ref mr, .ref mb, .int sx, .int sy])), (mx, .inl (cA, 12, .inl fx)), (my, .inl (cA, 12, .inl fy)), (mr, .inl (cA, 8101, .inl gr)), (mb, .inl (cA, 5, .inl fb))] := hD
        refine lv_goto (tgt := 111) hx hb dX2_set_134 (by decide) ?_
        exact ih (d + 1) l2 gr H locs ls (by omega) (by omega) e8 h4 hP hD hS (lv_sub hl [0, 1, 2] rfl)
  have L1 : ∀ (n : Nat) (gr : Nat → Int32) (H : Heap) (locs : List Loc) (ls : Array Slot), n ≤ tw_P k → (∀ j, j < tw_P k → md_ri (tw_P k) n j (gr j)) → va_P D vwCl [(m0, .inr (2, [.int th, .int (nI k), .int (nI (tw_P k)), .int dd, .int ii, .ref mx, .ref my, .ref mr, .ref mb, .int sx, .int sy])), (mx, .inl (cA, 12, .inl fx)), (my, .inl (cA, 12, .inl fy)), (mr, .inl (cA, 8101, .inl gr)), (mb, .inl (cA, 5, .inl fb))] H → va_D A [(m0, .inr (2, [.int th, .int (nI k), .int (nI (tw_P k)), .int dd, .int ii, .ref mx, .ref my, .ref mr, .ref mb, .int sx, .int sy])), (mx, .inl (cA, 12, .inl fx)), (my, .inl (cA, 12, .inl fy)), (mr, .inl (cA, 8101, .inl gr)), (mb, .inl (cA, 5, .inl fb))] → va_S A s.heap H locs → lv_has ls 3 [(2, .int (md_d n)), (1, .int (nI k)), (0, .ref m0)] → W p l e (headSpec wX2_set ({ frames := 0, cells := 0, slots := 0, locals := 0 })).room s m ([.ref m0, .int (nI k)]).toArray below meth c H locs 0 0 (MQ below (va_Qv (fun (u : (Nat → Int32) × (Nat → Int32) × (Nat → Int32)) => (∀ j, j < 12 → u.1 j = nI 0 ∧ u.2.1 j = nI 1) ∧ ∀ j, j < tw_P k → u.2.2 j = tw_rv (tw_P k) j) (fun (u : (Nat → Int32) × (Nat → Int32) × (Nat → Int32)) t => wd_at D [(cA, .int)] (A) [(m0, .inr (2, [.int th, .int (nI k), .int (nI (tw_P k)), .int (nI (tw_D k)), .int (nI (tw_I k)), .ref mx, .ref my, .ref mr, .ref mb, .int sx, .int sy])), (mx, .inl (cA, 12, .inl u.1)), (my, .inl (cA, 12, .inl u.2.1)), (mr, .inl (cA, 8101, .inl u.2.2)), (mb, .inl (cA, 5, .inl fb))] t) A) ([.ref m0, .int (nI k)]).toArray s 0 0 A) (F0 m 82 ls []) := by
    intro n
    induction n with
    | zero =>
      intro gr H locs ls h2 h3 hP hD hS hl
      have hl : lv_has ls 3 [(2, .int (-1)), (1, .int (nI k)), (0, .ref m0)] := hl
      refine lv_iload_n hx hb dX2_set_82 rfl (lv_at hl 0 rfl) ?_
      refine nv_if_ltM (tgt := 106) hx hb dX2_set_83 (by decide) ?_
      refine lv_aload_n hx hb dX2_set_106 rfl (lv_at hl 2 rfl) ?_
      refine lv_iconst (v := (nI 2)) hx hb dX2_set_107 (by decide) ?_
      refine va_put (D := D) (ci := 2) (v := .int (nI 2)) (ty := .int) (C := RX2) (T := TX2) (N := 11) hx hb ht inX2 tyX2 tyX2_ok nmX2 hown hK hP hD hS 0 rfl rfl 3 (by decide) (ht _ kf_X2_36) (fun _ h9 => h9) rfl (by decide +kernel) rfl rfl (Nat.le_of_ble_eq_true rfl) dX2_set_108 (fun H locs hP hD hS => ?_)
      have hP : va_P D vwCl [(m0, .inr (2, [.int th, .int (nI k), .int (nI (tw_P k)), .int (nI 2), .int ii, .ref mx, .ref my, .ref mr, .ref mb, .int sx, .int sy])), (mx, .inl (cA, 12, .inl fx)), (my, .inl (cA, 12, .inl fy)), (mr, .inl (cA, 8101, .inl gr)), (mb, .inl (cA, 5, .inl fb))] H := hP
      have hD : va_D A [(m0, .inr (2, [.int th, .int (nI k), .int (nI (tw_P k)), .int (nI 2), .int ii, .ref mx, .ref my, .ref mr, .ref mb, .int sx, .int sy])), (mx, .inl (cA, 12, .inl fx)), (my, .inl (cA, 12, .inl fy)), (mr, .inl (cA, 8101, .inl gr)), (mb, .inl (cA, 5, .inl fb))] := hD
      exact L2 (tw_D k + 1) 2 (-1) gr H locs ls (by omega) (Nat.le_refl 2) hDk.1 (fun j9 h9 => md_ri_0 (h3 j9 h9)) hP hD hS (lv_sub hl [0, 1, 2] rfl)
    | succ n ih =>
      intro gr H locs ls h2 h3 hP hD hS hl
      have zn : n ≤ 8100 := by omega
      have hl : lv_has ls 3 [(2, .int (nI n)), (1, .int (nI k)), (0, .ref m0)] := hl
      refine lv_iload_n hx hb dX2_set_82 rfl (lv_at hl 0 rfl) ?_
      refine nv_if_lt (tgt := 106) hx hb dX2_set_83 (by decide) (nv_le (b := 8100) zn (by decide)) ?_
      refine lv_aload_n hx hb dX2_set_86 rfl (lv_at hl 2 rfl) ?_
      refine va_get (D := D) (ci := 2) (v := .ref mr) (C := RX2) (T := TX2) (N := 11) hx hb ht inX2 hown hK hP 0 rfl rfl 7 (by decide) (ht _ kf_X2_20) (fun _ h9 => h9) rfl dX2_set_87 ?_
      refine lv_iload_n hx hb dX2_set_90 rfl (lv_at hl 0 rfl) ?_
      refine lv_iload_n hx hb dX2_set_91 rfl (lv_at hl 0 rfl) ?_
      refine nv_imul hx hb dX2_set_92 ?_
      refine lv_aload_n hx hb dX2_set_93 rfl (lv_at hl 2 rfl) ?_
      refine va_get (D := D) (ci := 2) (v := .int (nI (tw_P k))) (C := RX2) (T := TX2) (N := 11) hx hb ht inX2 hown hK hP 0 rfl rfl 2 (by decide) (ht _ kf_X2_7) (fun _ h9 => h9) rfl dX2_set_94 ?_
      refine nv_irem hx hb dX2_set_97 hP0 (nv_le (b := 65610000) (Nat.mul_le_mul zn zn) (by decide)) (nv_le (b := 8101) hP2 (by decide)) ?_
      refine lv_iload_n hx hb dX2_set_98 rfl (lv_at hl 0 rfl) ?_
      refine nv_iast hx hb hK hP hD hS 3 0 rfl rfl (Nat.lt_of_lt_of_le (Nat.mod_lt _ hP0) hP2) (by decide) dX2_set_99 (fun H locs hP hD hS => ?_)
      have hP : va_P D vwCl [(m0, .inr (2, [.int th, .int (nI k), .int (nI (tw_P k)), .int dd, .int ii, .ref mx, .ref my, .ref mr, .ref mb, .int sx, .int sy])), (mx, .inl (cA, 12, .inl fx)), (my, .inl (cA, 12, .inl fy)), (mr, .inl (cA, 8101, .inl (upd gr ((n * n) % (tw_P k)) (nI n)))), (mb, .inl (cA, 5, .inl fb))] H := hP
      have hD : va_D A [(m0, .inr (2, [.int th, .int (nI k), .int (nI (tw_P k)), .int dd, .int ii, .ref mx, .ref my, .ref mr, .ref mb, .int sx, .int sy])), (mx, .inl (cA, 12, .inl fx)), (my, .inl (cA, 12, .inl fy)), (mr, .inl (cA, 8101, .inl (upd gr ((n * n) % (tw_P k)) (nI n)))), (mb, .inl (cA, 5, .inl fb))] := hD
      refine lv_iinc hx hb dX2_set_100 hl (k := 0) rfl (md_dec n) (by decide) rfl (fun ls hl => ?_)
      have hl : lv_has ls 3 [(2, .int (md_d n)), (1, .int (nI k)), (0, .ref m0)] := hl
      refine lv_goto (tgt := 82) hx hb dX2_set_103 (by decide) ?_
      exact ih _ H locs ls (by omega) (fun j9 h9 => md_ri_s (by omega) (h3 j9 h9)) hP hD hS (lv_sub hl [0, 1, 2] rfl)
  have L0 : ∀ (f9 : Nat) (i : Nat) (gr : Nat → Int32) (H : Heap) (locs : List Loc) (ls : Array Slot), tw_P k - i < f9 → i ≤ tw_P k → (∀ j, j < i → gr j = -1) → va_P D vwCl [(m0, .inr (2, [.int th, .int (nI k), .int (nI (tw_P k)), .int dd, .int ii, .ref mx, .ref my, .ref mr, .ref mb, .int sx, .int sy])), (mx, .inl (cA, 12, .inl fx)), (my, .inl (cA, 12, .inl fy)), (mr, .inl (cA, 8101, .inl gr)), (mb, .inl (cA, 5, .inl fb))] H → va_D A [(m0, .inr (2, [.int th, .int (nI k), .int (nI (tw_P k)), .int dd, .int ii, .ref mx, .ref my, .ref mr, .ref mb, .int sx, .int sy])), (mx, .inl (cA, 12, .inl fx)), (my, .inl (cA, 12, .inl fy)), (mr, .inl (cA, 8101, .inl gr)), (mb, .inl (cA, 5, .inl fb))] → va_S A s.heap H locs → lv_has ls 3 [(2, .int (nI i)), (1, .int (nI k)), (0, .ref m0)] → W p l e (headSpec wX2_set ({ frames := 0, cells := 0, slots := 0, locals := 0 })).room s m ([.ref m0, .int (nI k)]).toArray below meth c H locs 0 0 (MQ below (va_Qv (fun (u : (Nat → Int32) × (Nat → Int32) × (Nat → Int32)) => (∀ j, j < 12 → u.1 j = nI 0 ∧ u.2.1 j = nI 1) ∧ ∀ j, j < tw_P k → u.2.2 j = tw_rv (tw_P k) j) (fun (u : (Nat → Int32) × (Nat → Int32) × (Nat → Int32)) t => wd_at D [(cA, .int)] (A) [(m0, .inr (2, [.int th, .int (nI k), .int (nI (tw_P k)), .int (nI (tw_D k)), .int (nI (tw_I k)), .ref mx, .ref my, .ref mr, .ref mb, .int sx, .int sy])), (mx, .inl (cA, 12, .inl u.1)), (my, .inl (cA, 12, .inl u.2.1)), (mr, .inl (cA, 8101, .inl u.2.2)), (mb, .inl (cA, 5, .inl fb))] t) A) ([.ref m0, .int (nI k)]).toArray s 0 0 A) (F0 m 54 ls []) := by
    intro f9
    induction f9 with
    | zero => intro i gr H locs ls h1; exact absurd h1 (Nat.not_lt_zero _)
    | succ f9 ih =>
      intro i gr H locs ls h1 h2 h3 hP hD hS hl
      have zi : i ≤ 8101 := Nat.le_trans h2 hP2
      refine lv_iload_n hx hb dX2_set_54 rfl (lv_at hl 0 rfl) ?_
      refine lv_aload_n hx hb dX2_set_55 rfl (lv_at hl 2 rfl) ?_
      refine va_get (D := D) (ci := 2) (v := .int (nI (tw_P k))) (C := RX2) (T := TX2) (N := 11) hx hb ht inX2 hown hK hP 0 rfl rfl 2 (by decide) (ht _ kf_X2_7) (fun _ h9 => h9) rfl dX2_set_56 ?_
      refine nv_icmp_ge (tgt := 75) hx hb dX2_set_59 (by decide) (nv_le (b := 8101) zi (by decide)) (nv_le (b := 8101) hP2 (by decide)) (fun c59 => ?_) (fun c59 => ?_)
      · have e8 : i = tw_P k := Nat.le_antisymm h2 c59
        refine lv_aload_n hx hb dX2_set_75 rfl (lv_at hl 2 rfl) ?_
        refine va_get (D := D) (ci := 2) (v := .int (nI (tw_P k))) (C := RX2) (T := TX2) (N := 11) hx hb ht inX2 hown hK hP 0 rfl rfl 2 (by decide) (ht _ kf_X2_7) (fun _ h9 => h9) rfl dX2_set_76 ?_
        refine lv_iconst (v := (nI 1)) hx hb dX2_set_79 (by decide) ?_
        refine nv_isub hx hb dX2_set_80 hP0 ?_
        refine lv_istore_n hx hb dX2_set_81 rfl hl (by decide) rfl (fun ls hl => ?_)
        have hl : lv_has ls 3 [(2, .int (nI ((tw_P k) - 1))), (1, .int (nI k)), (0, .ref m0)] := hl
        have e9 : nI (tw_P k - 1) = md_d (tw_P k) := by
          cases e7 : tw_P k with
          | zero => omega
          | succ j => rfl
        rw [e9] at hl
        exact L1 (tw_P k) gr H locs ls (Nat.le_refl _) (fun j9 h9 => by rw [h3 j9 (by omega)]; exact md_ri_P _ _) hP hD hS (lv_sub hl [0, 1, 2] rfl)
      · refine lv_aload_n hx hb dX2_set_62 rfl (lv_at hl 2 rfl) ?_
        refine va_get (D := D) (ci := 2) (v := .ref mr) (C := RX2) (T := TX2) (N := 11) hx hb ht inX2 hown hK hP 0 rfl rfl 7 (by decide) (ht _ kf_X2_20) (fun _ h9 => h9) rfl dX2_set_63 ?_
        refine lv_iload_n hx hb dX2_set_66 rfl (lv_at hl 0 rfl) ?_
        refine lv_iconst (v := (-1)) hx hb dX2_set_67 (by decide) ?_
        refine nv_iast hx hb hK hP hD hS 3 0 rfl rfl (by omega) (by decide) dX2_set_68 (fun H locs hP hD hS => ?_)
        have hP : va_P D vwCl [(m0, .inr (2, [.int th, .int (nI k), .int (nI (tw_P k)), .int dd, .int ii, .ref mx, .ref my, .ref mr, .ref mb, .int sx, .int sy])), (mx, .inl (cA, 12, .inl fx)), (my, .inl (cA, 12, .inl fy)), (mr, .inl (cA, 8101, .inl (upd gr i (-1)))), (mb, .inl (cA, 5, .inl fb))] H := hP
        have hD : va_D A [(m0, .inr (2, [.int th, .int (nI k), .int (nI (tw_P k)), .int dd, .int ii, .ref mx, .ref my, .ref mr, .ref mb, .int sx, .int sy])), (mx, .inl (cA, 12, .inl fx)), (my, .inl (cA, 12, .inl fy)), (mr, .inl (cA, 8101, .inl (upd gr i (-1)))), (mb, .inl (cA, 5, .inl fb))] := hD
        refine lv_iinc hx hb dX2_set_69 hl (k := 0) rfl nv_inc (by decide) rfl (fun ls hl => ?_)
        have hl : lv_has ls 3 [(2, .int (nI (i + 1))), (1, .int (nI k)), (0, .ref m0)] := hl
        refine lv_goto (tgt := 54) hx hb dX2_set_72 (by decide) ?_
        refine ih (i + 1) _ H locs ls (by omega) (by omega) (fun j9 hj9 => ?_) hP hD hS (lv_sub hl [0, 1, 2] rfl)
        by_cases c : j9 = i
        · subst c; exact up_at
        · rw [up_ne c]; exact h3 j9 (by omega)
  refine lv_aload_n hx hb dX2_set_0 rfl (lv_at hl 0 rfl) ?_
  refine lv_iload_n hx hb dX2_set_1 rfl (lv_at hl 1 rfl) ?_
  refine va_put (D := D) (ci := 2) (v := .int (nI k)) (ty := .int) (C := RX2) (T := TX2) (N := 11) hx hb ht inX2 tyX2 tyX2_ok nmX2 hown hK hP hD hS 0 rfl rfl 1 (by decide) (ht _ kf_X2_33) (fun _ h9 => h9) rfl (by decide +kernel) rfl rfl (Nat.le_of_ble_eq_true rfl) dX2_set_2 (fun H locs hP hD hS => ?_)
  have hP : va_P D vwCl [(m0, .inr (2, [.int th, .int (nI k), .int pp, .int dd, .int ii, .ref mx, .ref my, .ref mr, .ref mb, .int sx, .int sy])), (mx, .inl (cA, 12, .inl fx)), (my, .inl (cA, 12, .inl fy)), (mr, .inl (cA, 8101, .inl fr)), (mb, .inl (cA, 5, .inl fb))] H := hP
  have hD : va_D A [(m0, .inr (2, [.int th, .int (nI k), .int pp, .int dd, .int ii, .ref mx, .ref my, .ref mr, .ref mb, .int sx, .int sy])), (mx, .inl (cA, 12, .inl fx)), (my, .inl (cA, 12, .inl fy)), (mr, .inl (cA, 8101, .inl fr)), (mb, .inl (cA, 5, .inl fb))] := hD
  have body : W p l e (headSpec wX2_set ({ frames := 0, cells := 0, slots := 0, locals := 0 })).room s m ([.ref m0, .int (nI k)]).toArray below meth c H locs 0 0 (MQ below (va_Qv (fun (u : (Nat → Int32) × (Nat → Int32) × (Nat → Int32)) => (∀ j, j < 12 → u.1 j = nI 0 ∧ u.2.1 j = nI 1) ∧ ∀ j, j < tw_P k → u.2.2 j = tw_rv (tw_P k) j) (fun (u : (Nat → Int32) × (Nat → Int32) × (Nat → Int32)) t => wd_at D [(cA, .int)] (A) [(m0, .inr (2, [.int th, .int (nI k), .int (nI (tw_P k)), .int (nI (tw_D k)), .int (nI (tw_I k)), .ref mx, .ref my, .ref mr, .ref mb, .int sx, .int sy])), (mx, .inl (cA, 12, .inl u.1)), (my, .inl (cA, 12, .inl u.2.1)), (mr, .inl (cA, 8101, .inl u.2.2)), (mb, .inl (cA, 5, .inl fb))] t) A) ([.ref m0, .int (nI k)]).toArray s 0 0 A) (F0 m 49 ls [.int (nI (tw_P k)), .ref m0]) := by
    refine va_put (D := D) (ci := 2) (v := .int (nI (tw_P k))) (ty := .int) (C := RX2) (T := TX2) (N := 11) hx hb ht inX2 tyX2 tyX2_ok nmX2 hown hK hP hD hS 0 rfl rfl 2 (by decide) (ht _ kf_X2_7) (fun _ h9 => h9) rfl (by decide +kernel) rfl rfl (Nat.le_of_ble_eq_true rfl) dX2_set_49 (fun H locs hP hD hS => ?_)
    have hP : va_P D vwCl [(m0, .inr (2, [.int th, .int (nI k), .int (nI (tw_P k)), .int dd, .int ii, .ref mx, .ref my, .ref mr, .ref mb, .int sx, .int sy])), (mx, .inl (cA, 12, .inl fx)), (my, .inl (cA, 12, .inl fy)), (mr, .inl (cA, 8101, .inl fr)), (mb, .inl (cA, 5, .inl fb))] H := hP
    have hD : va_D A [(m0, .inr (2, [.int th, .int (nI k), .int (nI (tw_P k)), .int dd, .int ii, .ref mx, .ref my, .ref mr, .ref mb, .int sx, .int sy])), (mx, .inl (cA, 12, .inl fx)), (my, .inl (cA, 12, .inl fy)), (mr, .inl (cA, 8101, .inl fr)), (mb, .inl (cA, 5, .inl fb))] := hD
    refine lv_iconst (v := (nI 0)) hx hb dX2_set_52 (by decide) ?_
    refine lv_istore_n hx hb dX2_set_53 rfl hl (by decide) rfl (fun ls hl => ?_)
    have hl : lv_has ls 3 [(2, .int (nI 0)), (0, .ref m0), (1, .int (nI k))] := hl
    exact L0 (tw_P k + 1) 0 fr H locs ls (by omega) (Nat.zero_le _) (fun j9 h9 => absurd h9 (Nat.not_lt_zero _)) hP hD hS (lv_sub hl [0, 2, 1] rfl)
  clear L0 L1 L2 L3 L4
  have hk6 : k = 0 ∨ k = 1 ∨ k = 2 ∨ k = 3 ∨ k = 4 := by omega
  rcases hk6 with rfl | rfl | rfl | rfl | rfl
  · refine lv_aload_n hx hb dX2_set_5 rfl (lv_at hl 0 rfl) ?_
    refine lv_iload_n hx hb dX2_set_6 rfl (lv_at hl 1 rfl) ?_
    refine nv_if_ne (tgt := 15) hx hb dX2_set_7 (by decide) (by decide) (fun c9 => absurd c9 (by decide)) (fun c9 => ?_)
    refine lv_bipush (v := (nI 13)) hx hb dX2_set_10 (by decide) ?_
    refine lv_goto (tgt := 49) hx hb dX2_set_12 (by decide) ?_
    exact body
  · refine lv_aload_n hx hb dX2_set_5 rfl (lv_at hl 0 rfl) ?_
    refine lv_iload_n hx hb dX2_set_6 rfl (lv_at hl 1 rfl) ?_
    refine nv_if_ne (tgt := 15) hx hb dX2_set_7 (by decide) (by decide) (fun c9 => ?_) (fun c9 => absurd c9 (by decide))
    refine lv_iload_n hx hb dX2_set_15 rfl (lv_at hl 1 rfl) ?_
    refine lv_iconst (v := (nI 1)) hx hb dX2_set_16 (by decide) ?_
    refine nv_icmp_ne (tgt := 25) hx hb dX2_set_17 (by decide) (by decide) (by decide) (fun c9 => absurd rfl c9) (fun c9 => ?_)
    refine lv_bipush (v := (nI 61)) hx hb dX2_set_20 (by decide) ?_
    refine lv_goto (tgt := 49) hx hb dX2_set_22 (by decide) ?_
    exact body
  · refine lv_aload_n hx hb dX2_set_5 rfl (lv_at hl 0 rfl) ?_
    refine lv_iload_n hx hb dX2_set_6 rfl (lv_at hl 1 rfl) ?_
    refine nv_if_ne (tgt := 15) hx hb dX2_set_7 (by decide) (by decide) (fun c9 => ?_) (fun c9 => absurd c9 (by decide))
    refine lv_iload_n hx hb dX2_set_15 rfl (lv_at hl 1 rfl) ?_
    refine lv_iconst (v := (nI 1)) hx hb dX2_set_16 (by decide) ?_
    refine nv_icmp_ne (tgt := 25) hx hb dX2_set_17 (by decide) (by decide) (by decide) (fun c9 => ?_) (fun c9 => absurd c9 (by decide))
    refine lv_iload_n hx hb dX2_set_25 rfl (lv_at hl 1 rfl) ?_
    refine lv_iconst (v := (nI 2)) hx hb dX2_set_26 (by decide) ?_
    refine nv_icmp_ne (tgt := 35) hx hb dX2_set_27 (by decide) (by decide) (by decide) (fun c9 => absurd rfl c9) (fun c9 => ?_)
    refine lv_bipush (v := (nI 109)) hx hb dX2_set_30 (by decide) ?_
    refine lv_goto (tgt := 49) hx hb dX2_set_32 (by decide) ?_
    exact body
  · refine lv_aload_n hx hb dX2_set_5 rfl (lv_at hl 0 rfl) ?_
    refine lv_iload_n hx hb dX2_set_6 rfl (lv_at hl 1 rfl) ?_
    refine nv_if_ne (tgt := 15) hx hb dX2_set_7 (by decide) (by decide) (fun c9 => ?_) (fun c9 => absurd c9 (by decide))
    refine lv_iload_n hx hb dX2_set_15 rfl (lv_at hl 1 rfl) ?_
    refine lv_iconst (v := (nI 1)) hx hb dX2_set_16 (by decide) ?_
    refine nv_icmp_ne (tgt := 25) hx hb dX2_set_17 (by decide) (by decide) (by decide) (fun c9 => ?_) (fun c9 => absurd c9 (by decide))
    refine lv_iload_n hx hb dX2_set_25 rfl (lv_at hl 1 rfl) ?_
    refine lv_iconst (v := (nI 2)) hx hb dX2_set_26 (by decide) ?_
    refine nv_icmp_ne (tgt := 35) hx hb dX2_set_27 (by decide) (by decide) (by decide) (fun c9 => ?_) (fun c9 => absurd c9 (by decide))
    refine lv_iload_n hx hb dX2_set_35 rfl (lv_at hl 1 rfl) ?_
    refine lv_iconst (v := (nI 3)) hx hb dX2_set_36 (by decide) ?_
    refine nv_icmp_ne (tgt := 46) hx hb dX2_set_37 (by decide) (by decide) (by decide) (fun c9 => absurd rfl c9) (fun c9 => ?_)
    refine lv_sipush (v := (nI 1009)) hx hb dX2_set_40 (by decide) ?_
    refine lv_goto (tgt := 49) hx hb dX2_set_43 (by decide) ?_
    exact body
  · refine lv_aload_n hx hb dX2_set_5 rfl (lv_at hl 0 rfl) ?_
    refine lv_iload_n hx hb dX2_set_6 rfl (lv_at hl 1 rfl) ?_
    refine nv_if_ne (tgt := 15) hx hb dX2_set_7 (by decide) (by decide) (fun c9 => ?_) (fun c9 => absurd c9 (by decide))
    refine lv_iload_n hx hb dX2_set_15 rfl (lv_at hl 1 rfl) ?_
    refine lv_iconst (v := (nI 1)) hx hb dX2_set_16 (by decide) ?_
    refine nv_icmp_ne (tgt := 25) hx hb dX2_set_17 (by decide) (by decide) (by decide) (fun c9 => ?_) (fun c9 => absurd c9 (by decide))
    refine lv_iload_n hx hb dX2_set_25 rfl (lv_at hl 1 rfl) ?_
    refine lv_iconst (v := (nI 2)) hx hb dX2_set_26 (by decide) ?_
    refine nv_icmp_ne (tgt := 35) hx hb dX2_set_27 (by decide) (by decide) (by decide) (fun c9 => ?_) (fun c9 => absurd c9 (by decide))
    refine lv_iload_n hx hb dX2_set_35 rfl (lv_at hl 1 rfl) ?_
    refine lv_iconst (v := (nI 3)) hx hb dX2_set_36 (by decide) ?_
    refine nv_icmp_ne (tgt := 46) hx hb dX2_set_37 (by decide) (by decide) (by decide) (fun c9 => ?_) (fun c9 => absurd c9 (by decide))
    refine lv_sipush (v := (nI 8101)) hx hb dX2_set_46 (by decide) ?_
    exact body
set_option maxHeartbeats 4000000 in
set_option maxRecDepth 100000 in
theorem c_X2_begin (l : Launch) (D : va_G) {k : Nat} (hk5 : k < 5) {m0 mx my mr mb : Nat} {th sx sy kd pp dd ii : Int32} {cA : ClassId} {fx fy fr fb : Nat → Int32} (sz : Nat) : Met l yX2_begin wX2_begin ({ frames := 1, cells := 0, slots := 0, locals := 22 }) (va_Pc [.ref m0, .int (nI k)] (wd_pre D [(cA, .int)] [(m0, .inr (2, [.int th, .int kd, .int pp, .int dd, .int ii, .ref mx, .ref my, .ref mr, .ref mb, .int sx, .int sy])), (mx, .inl (cA, 12, .inl fx)), (my, .inl (cA, 12, .inl fy)), (mr, .inl (cA, 8101, .inl fr)), (mb, .inl (cA, 5, .inl fb))] sz)) (va_Qi (fun (r : Int32) (u : (Nat → Int32) × (Nat → Int32) × (Nat → Int32)) => r = nI (tw_P k) ∧ (∀ j, j < 12 → u.1 j = nI 0 ∧ u.2.1 j = nI 1) ∧ ∀ j, j < tw_P k → u.2.2 j = tw_rv (tw_P k) j) (fun (u : (Nat → Int32) × (Nat → Int32) × (Nat → Int32)) t => wd_at D [(cA, .int)] (va_A [(m0, .inr (2, [.int th, .int kd, .int pp, .int dd, .int ii, .ref mx, .ref my, .ref mr, .ref mb, .int sx, .int sy])), (mx, .inl (cA, 12, .inl fx)), (my, .inl (cA, 12, .inl fy)), (mr, .inl (cA, 8101, .inl fr)), (mb, .inl (cA, 5, .inl fb))] sz) [(m0, .inr (2, [.int (nI 0), .int (nI k), .int (nI (tw_P k)), .int (nI (tw_D k)), .int (nI (tw_I k)), .ref mx, .ref my, .ref mr, .ref mb, .int sx, .int sy])), (mx, .inl (cA, 12, .inl u.1)), (my, .inl (cA, 12, .inl u.2.1)), (mr, .inl (cA, 8101, .inl u.2.2)), (mb, .inl (cA, 5, .inl fb))] t) (va_A [(m0, .inr (2, [.int th, .int kd, .int pp, .int dd, .int ii, .ref mx, .ref my, .ref mr, .ref mb, .int sx, .int sy])), (mx, .inl (cA, 12, .inl fx)), (my, .inl (cA, 12, .inl fy)), (mr, .inl (cA, 8101, .inl fr)), (mb, .inl (cA, 5, .inl fb))] sz)) 0 0 (va_A [(m0, .inr (2, [.int th, .int kd, .int pp, .int dd, .int ii, .ref mx, .ref my, .ref mr, .ref mb, .int sx, .int sy])), (mx, .inl (cA, 12, .inl fx)), (my, .inl (cA, 12, .inl fy)), (mr, .inl (cA, 8101, .inl fr)), (mb, .inl (cA, 5, .inl fb))] sz) := by
  refine Met.ofW (cc := cX2_begin) (maxL := 2) (ret := (some .int)) (by decide) rfl ?_
  intro p e s m args below meth c s₁ B hml hv
  obtain ⟨rfl, hsz, hP, hK, hD0⟩ := hv
  have hx := B.exec
  have hb := B.bytes
  have hr := B.returns
  have hts := atoms_spec (ws := wX2_begin) B.pre
  have ht : ∀ w ∈ tb_all, w.before _ s = true := fun w h => hts w (List.mem_cons_of_mem _ h)
  have hown : s.vm.findClass RX2 = some m.cls := findClass_of_methodNamed B.named
  have hlocks := B.notSynchronized
  have hin : meth.name = "begin" := (name_of_methodNamed B.named B.method).1
  subst hsz
  have hD := hD0.self (sz := s.heap.size)
  generalize hAe : va_A [(m0, .inr (2, [.int th, .int kd, .int pp, .int dd, .int ii, .ref mx, .ref my, .ref mr, .ref mb, .int sx, .int sy])), (mx, .inl (cA, 12, .inl fx)), (my, .inl (cA, 12, .inl fy)), (mr, .inl (cA, 8101, .inl fr)), (mb, .inl (cA, 5, .inl fb))] s.heap.size = A at hD ⊢
  have hA : ∀ q : Nat, s.heap.size ≤ q → A q := fun q h => by rw [← hAe]; exact Or.inr h
  have hS : va_S A s.heap s.heap [] := va_S.rf
  have hl := lv_entry ([.ref m0, .int (nI k)]) (n := 2) (Nat.le_of_ble_eq_true rfl)
  rw [lg_entry_eq]
  generalize (lg_sl ([.ref m0, .int (nI k)]) ++ List.replicate (2 - (lg_sl ([.ref m0, .int (nI k)])).length) Slot.unset).toArray = ls at hl ⊢
  have hl : lv_has ls 2 [(0, .ref m0), (1, .int (nI k))] := hl
  obtain ⟨hP0, hP2, hD2, hI2, hDP⟩ := tw_kb hk5
  have hK0 := tw_kK k hk5
  have hP8 : tw_P k ≤ 8192 := by omega
  have hN := tw_kN k hk5
  have zk : k ≤ 4 := by omega
  refine lv_aload_n hx hb dX2_begin_0 rfl (lv_at hl 0 rfl) ?_
  refine lv_iload_n hx hb dX2_begin_1 rfl (lv_at hl 1 rfl) ?_
  refine nv_if_lt (tgt := 10) hx hb dX2_begin_2 (by decide) (nv_le (b := 4) zk (by decide)) ?_
  refine lv_iload_n hx hb dX2_begin_5 rfl (lv_at hl 1 rfl) ?_
  refine lv_iconst (v := (nI 4)) hx hb dX2_begin_6 (by decide) ?_
  refine nv_icmp_le (tgt := 14) hx hb dX2_begin_7 (by decide) (nv_le (b := 4) zk (by decide)) (nv_le (b := 4) (Nat.le_refl 4) (by decide)) (fun c7 => ?_) (fun c7 => ?_)
  · refine lv_iconst (v := (nI 0)) hx hb dX2_begin_14 (by decide) ?_
    refine va_put (D := D) (ci := 2) (v := .int (nI 0)) (ty := .int) (C := RX2) (T := TX2) (N := 11) hx hb ht inX2 tyX2 tyX2_ok nmX2 hown hK hP hD hS 0 rfl rfl 0 (by decide) (ht _ kf_X2_30) (fun _ h9 => h9) rfl (by decide +kernel) rfl rfl (Nat.le_of_ble_eq_true rfl) dX2_begin_15 (fun H locs hP hD hS => ?_)
    have hP : va_P D vwCl [(m0, .inr (2, [.int (nI 0), .int kd, .int pp, .int dd, .int ii, .ref mx, .ref my, .ref mr, .ref mb, .int sx, .int sy])), (mx, .inl (cA, 12, .inl fx)), (my, .inl (cA, 12, .inl fy)), (mr, .inl (cA, 8101, .inl fr)), (mb, .inl (cA, 5, .inl fb))] H := hP
    have hD : va_D A [(m0, .inr (2, [.int (nI 0), .int kd, .int pp, .int dd, .int ii, .ref mx, .ref my, .ref mr, .ref mb, .int sx, .int sy])), (mx, .inl (cA, 12, .inl fx)), (my, .inl (cA, 12, .inl fy)), (mr, .inl (cA, 8101, .inl fr)), (mb, .inl (cA, 5, .inl fb))] := hD
    refine lv_aload_n hx hb dX2_begin_18 rfl (lv_at hl 0 rfl) ?_
    refine va_get (D := D) (ci := 2) (v := .int (nI 0)) (C := RX2) (T := TX2) (N := 11) hx hb ht inX2 hown hK hP 0 rfl rfl 0 (by decide) (ht _ kf_X2_30) (fun _ h9 => h9) rfl dX2_begin_19 ?_
    refine nv_if_le (tgt := 27) hx hb dX2_begin_22 (by decide) (by decide) (fun _ => ?_) (fun c8 => absurd c8 (by decide))
    refine lv_aload_n hx hb dX2_begin_27 rfl (lv_at hl 0 rfl) ?_
    refine lv_iload_n hx hb dX2_begin_28 rfl (lv_at hl 1 rfl) ?_
    have hPc := hP.sub (ws' := [(m0, .inr (2, [.int (nI 0), .int kd, .int pp, .int dd, .int ii, .ref mx, .ref my, .ref mr, .ref mb, .int sx, .int sy])), (mx, .inl (cA, 12, .inl fx)), (my, .inl (cA, 12, .inl fy)), (mr, .inl (cA, 8101, .inl fr)), (mb, .inl (cA, 5, .inl fb))]) [0, 1, 2, 3, 4] rfl
    have hDc := hD.sub (ws' := [(m0, .inr (2, [.int (nI 0), .int kd, .int pp, .int dd, .int ii, .ref mx, .ref my, .ref mr, .ref mb, .int sx, .int sy])), (mx, .inl (cA, 12, .inl fx)), (my, .inl (cA, 12, .inl fy)), (mr, .inl (cA, 8101, .inl fr)), (mb, .inl (cA, 5, .inl fb))]) [0, 1, 2, 3, 4] (by decide) rfl
    have hFc := va_free (wc := [(m0, .inr (2, [.int (nI 0), .int kd, .int pp, .int dd, .int ii, .ref mx, .ref my, .ref mr, .ref mb, .int sx, .int sy])), (mx, .inl (cA, 12, .inl fx)), (my, .inl (cA, 12, .inl fy)), (mr, .inl (cA, 8101, .inl fr)), (mb, .inl (cA, 5, .inl fb))]) hD hS hA [0, 1, 2, 3, 4] rfl
    refine va_callv (va_runV (As := [.int (nI k)]) (rest := []) ⟨hx, hb, hml, hown, ht⟩ (c_X2_set l D hk5 H.size) (cwV 1 ht (tb_V kl_X2_26 ki_X2_set ks_X2_set kn_X2 kc_X2_set) rfl rfl rfl ⟨rfl, kd_X2_set⟩ ⟨Nat.le_of_ble_eq_true rfl, Nat.le_of_ble_eq_true rfl⟩) (wd_preV _ hPc hK hDc (va_recv (ci := 2) (q0 := 0) hK hP rfl rfl)) rfl rfl hl.1 rfl (lv_room (Nat.le_of_ble_eq_true rfl)) dX2_begin_29 ⟨Nat.le_of_ble_eq_true rfl, Nat.le_of_ble_eq_true rfl⟩) hS (fun q _ h => hFc q h) hFc (fun u9 t9 H1 locs ht9 hvm9 hw9 hB9 hz9 hk9 hS => ?_)
    obtain ⟨hP1, hK1, hD1⟩ := hB9
    rw [ht9] at hP1
    obtain ⟨hP, hD⟩ := va_join (wr := []) (w1 := [(m0, .inr (2, [.int (nI 0), .int (nI k), .int (nI (tw_P k)), .int (nI (tw_D k)), .int (nI (tw_I k)), .ref mx, .ref my, .ref mr, .ref mb, .int sx, .int sy])), (mx, .inl (cA, 12, .inl u9.1)), (my, .inl (cA, 12, .inl u9.2.1)), (mr, .inl (cA, 8101, .inl u9.2.2)), (mb, .inl (cA, 5, .inl fb))]) hP hD [0, 1, 2, 3, 4] [] rfl rfl (by decide) (by decide) hk9 hFc hP1 hD1
    have hP := hP.sub (ws' := [(m0, .inr (2, [.int (nI 0), .int (nI k), .int (nI (tw_P k)), .int (nI (tw_D k)), .int (nI (tw_I k)), .ref mx, .ref my, .ref mr, .ref mb, .int sx, .int sy])), (mx, .inl (cA, 12, .inl u9.1)), (my, .inl (cA, 12, .inl u9.2.1)), (mr, .inl (cA, 8101, .inl u9.2.2)), (mb, .inl (cA, 5, .inl fb))]) [0, 1, 2, 3, 4] rfl
    have hD := hD.sub (ws' := [(m0, .inr (2, [.int (nI 0), .int (nI k), .int (nI (tw_P k)), .int (nI (tw_D k)), .int (nI (tw_I k)), .ref mx, .ref my, .ref mr, .ref mb, .int sx, .int sy])), (mx, .inl (cA, 12, .inl u9.1)), (my, .inl (cA, 12, .inl u9.2.1)), (mr, .inl (cA, 8101, .inl u9.2.2)), (mb, .inl (cA, 5, .inl fb))]) [0, 1, 2, 3, 4] (by decide) rfl
    generalize H1 = H at hP hS hz9 ⊢
    refine lv_aload_n hx hb dX2_begin_32 rfl (lv_at hl 0 rfl) ?_
    refine va_get (D := D) (ci := 2) (v := .int (nI (tw_P k))) (C := RX2) (T := TX2) (N := 11) hx hb ht inX2 hown hK hP 0 rfl rfl 2 (by decide) (ht _ kf_X2_7) (fun _ h9 => h9) rfl dX2_begin_33 ?_
    exact W.iret hx hb hr (fun t ht9 hW => ⟨⟨_, u9, rfl, ⟨rfl, hw9⟩, by rw [ht9]; exact hP, va_K.moved hW.alike hK, hD⟩, hS.F ht9⟩) hS.2.2 dX2_begin_36
  · omega
