/-! the model: how many points, orders by factors -/
def tw_is (P D j : Nat) : Nat := if (tw_rd P D j).isSome then 1 else 0
theorem tw_isN {k : Nat} (hk : k < 5) : tw_sum (tw_is (tw_P k) (tw_D k)) 16384 = tw_N k := (tw_cntP (tw_rd (tw_P k) (tw_D k)) 16384).symm.trans (tw_kL k hk)
theorem tw_isb (P D : Nat) : ∀ n, tw_sum (tw_is P D) n ≤ n
  | 0 => Nat.le_refl _
  | n + 1 => by
    have a := tw_isb P D n
    show tw_sum (tw_is P D) n + (if (tw_rd P D n).isSome then 1 else 0) ≤ n + 1
    split <;> omega
def tw_qp (t : Nat → Bool) : Nat → Nat → Nat → Nat → Option Nat
  | 0, _, _, _ => none
  | u + 1, f, left, n => if left ≤ 1 then some n else if left % f = 0 then (if n % f = 0 ∧ t (n / f) = true then tw_qp t u f (left / f) (n / f) else tw_qp t u f (left / f) n) else tw_qp t u (f + 1) left n
theorem tw_qp_1 {t : Nat → Bool} {u f left n o : Nat} (h : tw_qp t u f left n = some o) (h1 : left ≤ 1) : n = o := by
  cases u with
  | zero => cases h
  | succ u =>
    have h2 : (if left ≤ 1 then some n else _) = some o := h
    rw [if_pos h1] at h2
    exact Option.some.inj h2
theorem tw_qp_d {t : Nat → Bool} {u f left n : Nat} (h1 : ¬ left ≤ 1) (h2 : left % f = 0) : tw_qp t (u + 1) f left n = if n % f = 0 ∧ t (n / f) = true then tw_qp t u f (left / f) (n / f) else tw_qp t u f (left / f) n := by
  show (if left ≤ 1 then some n else if left % f = 0 then (if n % f = 0 ∧ t (n / f) = true then tw_qp t u f (left / f) (n / f) else tw_qp t u f (left / f) n) else tw_qp t u (f + 1) left n) = _
  rw [if_neg h1, if_pos h2]
theorem tw_qp_n {t : Nat → Bool} {u f left n : Nat} (h1 : ¬ left ≤ 1) (h2 : ¬ left % f = 0) : tw_qp t (u + 1) f left n = tw_qp t u (f + 1) left n := by
  show (if left ≤ 1 then some n else if left % f = 0 then (if n % f = 0 ∧ t (n / f) = true then tw_qp t u f (left / f) (n / f) else tw_qp t u f (left / f) n) else tw_qp t u (f + 1) left n) = _
  rw [if_neg h1, if_neg h2]
def tw_ck2 (N o : Nat) : Bool := o == 0 || !(N % o == 0) || tw_qp (fun n => n % o == 0) 64 2 N N == some o
theorem tw_ck2k : ∀ k, k < 5 → tw_al (tw_ck2 (tw_N k)) 14 0 = true := tw_c5 (by decide +kernel) (by decide +kernel) (by decide +kernel) (by decide +kernel) (by decide +kernel)
theorem tw_qpk {k : Nat} (hk : k < 5) {p : Nat × Nat} (hp : tw_on (tw_P k) (tw_D k) p) {t : Nat → Bool} (ht : ∀ n, t n = true ↔ tw_mu (tw_P k) (tw_D k) n p = (0, 1)) : tw_qp t 64 2 (tw_N k) (tw_N k) = some (tw_od (tw_P k) (tw_D k) (tw_N k) p) := by
  have hK := tw_kK k hk
  have hN := tw_kN k hk
  have e := tw_kM hk hp
  obtain ⟨h1, h2, -, -⟩ := tw_od_spec (by omega) e
  have hd := tw_od_dvd hK hp (by omega) e
  have q := tw_al_spec _ 14 0 (tw_ck2k k hk) (tw_od (tw_P k) (tw_D k) (tw_N k) p) (Nat.zero_le _) (by omega)
  have ee : t = fun n => n % tw_od (tw_P k) (tw_D k) (tw_N k) p == 0 := by
    funext n
    rw [Bool.eq_iff_iff, ht, hd, beq_iff_eq]
  have hz : tw_N k % tw_od (tw_P k) (tw_D k) (tw_N k) p = 0 := (hd _).mp e
  unfold tw_ck2 at q
  rw [← ee] at q
  simp only [Bool.or_eq_true, beq_iff_eq, Bool.not_eq_true', beq_eq_false_iff_ne] at q
  rcases q with (q | q) | q
  · omega
  · exact absurd hz q
  · exact q
theorem tw_p2 (c : Nat) : 2 ^ (c + 1) / 2 = 2 ^ c := by
  rw [Nat.pow_succ]
  omega
theorem tw_pp (c : Nat) : 0 < 2 ^ c := Nat.pow_pos (by decide)
set_option maxHeartbeats 4000000 in
set_option maxRecDepth 100000 in
theorem c_X2_all (l : Launch) (D : va_G) {k : Nat} (hk5 : k < 5) {m0 mx my mr mb : Nat} {th sx sy : Int32} {cA : ClassId} {fr : Nat → Int32} (hfr : ∀ j, j < tw_P k → fr j = tw_rv (tw_P k) j) : Met l yX2_all wX2_all ({ frames := 3, cells := 0, slots := 0, locals := 72 }) (va_Pc [.ref m0] (fun U => va_P D vwCl [(m0, .inr (2, [.int th, .int (nI k), .int (nI (tw_P k)), .int (nI (tw_D k)), .int (nI (tw_I k)), .ref mx, .ref my, .ref mr, .ref mb, .int sx, .int sy])), (mr, .inl (cA, 8101, .inl fr))] U.heap ∧ va_K D vwCl [(cA, .int)] U)) (vp_Si (fun r => r = nI (tw_N k))) 0 0 (fun _ => False) := by
  refine Met.ofW (cc := cX2_all) (maxL := 3) (ret := (some .int)) (by decide) rfl ?_
  intro p e s m args below meth c s₁ B hml hv
  obtain ⟨rfl, hv⟩ := hv
  have hx := B.exec
  have hb := B.bytes
  have hr := B.returns
  have hts := atoms_spec (ws := wX2_all) B.pre
  have ht : ∀ w ∈ tb_all, w.before _ s = true := fun w h => hts w (List.mem_cons_of_mem _ h)
  have hown : s.vm.findClass RX2 = some m.cls := findClass_of_methodNamed B.named
  have hlocks := B.notSynchronized
  have hl := lv_entry ([.ref m0]) (n := 3) (Nat.le_of_ble_eq_true rfl)
  rw [lg_entry_eq]
  generalize (lg_sl ([.ref m0]) ++ List.replicate (3 - (lg_sl ([.ref m0])).length) Slot.unset).toArray = ls at hl ⊢
  have hl : lv_has ls 3 [(0, .ref m0)] := hl
  obtain ⟨hP, hK⟩ := hv
  obtain ⟨hP0, hP2, hD2, hI2, hDP⟩ := tw_kb hk5
  have hK0 := tw_kK k hk5
  have hP8 : tw_P k ≤ 8192 := by omega
  have hN := tw_kN k hk5
  have zk : k ≤ 4 := by omega
  have hsum := tw_isN hk5
  refine lv_iconst (v := (nI 0)) hx hb dX2_all_0 (by decide) ?_
  refine lv_istore_n hx hb dX2_all_1 rfl hl (by decide) rfl (fun ls hl => ?_)
  have hl : lv_has ls 3 [(1, .int (nI 0)), (0, .ref m0)] := hl
  refine lv_iconst (v := (nI 0)) hx hb dX2_all_2 (by decide) ?_
  refine lv_istore_n hx hb dX2_all_3 rfl hl (by decide) rfl (fun ls hl => ?_)
  have hl : lv_has ls 3 [(2, .int (nI 0)), (1, .int (nI 0)), (0, .ref m0)] := hl
  have loop : ∀ (f9 i : Nat) (ls : Array Slot), 16384 - i < f9 → i ≤ 16384 → lv_has ls 3 [(2, .int (nI i)), (1, .int (nI (tw_sum (tw_is (tw_P k) (tw_D k)) i))), (0, .ref m0)] → W p l e (headSpec wX2_all ({ frames := 3, cells := 0, slots := 0, locals := 72 })).room s m ([.ref m0]).toArray below meth c s.heap [] 0 0 (MQ below (vp_Si (fun r => r = nI (tw_N k))) ([.ref m0]).toArray s 0 0 (fun _ => False)) (F0 m 4 ls []) := by
    intro f9
    induction f9 with
    | zero => intro i ls h1; exact absurd h1 (Nat.not_lt_zero _)
    | succ f9 ih =>
      intro i ls h1 h2 hl
      have zs : tw_sum (tw_is (tw_P k) (tw_D k)) i ≤ 16384 := Nat.le_trans (tw_isb _ _ i) h2
      refine lv_iload_n hx hb dX2_all_4 rfl (lv_at hl 0 rfl) ?_
      refine lv_sipush (v := (nI 16384)) hx hb dX2_all_5 (by decide) ?_
      refine nv_icmp_ge (tgt := 29) hx hb dX2_all_8 (by decide) (nv_le (b := 16384) h2 (by decide)) (nv_le (b := 16384) (Nat.le_refl 16384) (by decide)) (fun c8 => ?_) (fun c8 => ?_)
      · have e8 : i = 16384 := Nat.le_antisymm h2 c8
        subst e8
        refine lv_iload_n hx hb dX2_all_29 rfl (lv_at hl 1 rfl) ?_
        exact W.iret hx hb hr (fun t ht hW => ⟨_, rfl, by rw [hsum], ht⟩) (fun q h => nomatch h) dX2_all_30
      · refine lv_aload_n hx hb dX2_all_11 rfl (lv_at hl 2 rfl) ?_
        refine lv_iload_n hx hb dX2_all_12 rfl (lv_at hl 0 rfl) ?_
        refine vp_callSi (W.runV (As := [.int (nI i)]) (rest := []) ⟨hx, hb, hml, hown, ht⟩ (c_X2_xOf l D hk5 hfr (j := i) (by omega)) (cwV 1 ht (tb_V kl_X2_84 ki_X2_xOf ks_X2_xOf kn_X2 kc_X2_xOf) rfl rfl rfl ⟨rfl, kd_X2_xOf⟩ ⟨Nat.le_of_ble_eq_true rfl, Nat.le_of_ble_eq_true rfl⟩) (ro_preV _ (hP.sub (ws' := [(m0, .inr (2, [.int th, .int (nI k), .int (nI (tw_P k)), .int (nI (tw_D k)), .int (nI (tw_I k)), .ref mx, .ref my, .ref mr, .ref mb, .int sx, .int sy])), (mr, .inl (cA, 8101, .inl fr))]) [0, 1] rfl) hK (va_recv (ci := 2) (q0 := 0) hK hP rfl rfl)) rfl rfl hl.1 rfl (lv_room (Nat.le_of_ble_eq_true rfl)) dX2_all_13 ⟨Nat.zero_le _, Nat.zero_le _⟩) (fun r hr9 => ?_)
        subst hr9
        cases er : tw_rd (tw_P k) (tw_D k) i with
        | none =>
          rw [tw_xr_none er]
          refine lv_iconst (v := (-1)) hx hb dX2_all_16 (by decide) ?_
          refine lv_icmp_eq (tgt := 23) hx hb dX2_all_17 (by decide) (fun _ => ?_) (fun c9 => absurd rfl c9)
          refine lv_iinc hx hb dX2_all_23 hl (k := 0) rfl nv_inc (by decide) rfl (fun ls hl => ?_)
          have hl : lv_has ls 3 [(2, .int (nI (i + 1))), (1, .int (nI (tw_sum (tw_is (tw_P k) (tw_D k)) i))), (0, .ref m0)] := hl
          refine lv_goto (tgt := 4) hx hb dX2_all_26 (by decide) ?_
          refine ih (i + 1) ls (by omega) (by omega) ?_
          have e6 : tw_is (tw_P k) (tw_D k) i = 0 := by unfold tw_is; rw [er]; rfl
          have e7 : tw_sum (tw_is (tw_P k) (tw_D k)) (i + 1) = tw_sum (tw_is (tw_P k) (tw_D k)) i + 0 := by show _ + tw_is (tw_P k) (tw_D k) i = _; rw [e6]
          rw [e7]
          exact lv_sub hl [0, 1, 2] rfl
        | some q =>
          rw [tw_xr_some er]
          have hq9 := (tw_rd_some hK0 er).1
          have zq : q.1 ≤ 8100 := by have := hq9.1; omega
          refine lv_iconst (v := (-1)) hx hb dX2_all_16 (by decide) ?_
          refine lv_icmp_eq (tgt := 23) hx hb dX2_all_17 (by decide) (fun c9 => absurd c9 (nv_m1 (by omega))) (fun _ => ?_)
          refine lv_iinc hx hb dX2_all_20 hl (k := 1) rfl nv_inc (by decide) rfl (fun ls hl => ?_)
          have hl : lv_has ls 3 [(1, .int (nI ((tw_sum (tw_is (tw_P k) (tw_D k)) i) + 1))), (2, .int (nI i)), (0, .ref m0)] := hl
          refine lv_iinc hx hb dX2_all_23 hl (k := 1) rfl nv_inc (by decide) rfl (fun ls hl => ?_)
          have hl : lv_has ls 3 [(2, .int (nI (i + 1))), (1, .int (nI ((tw_sum (tw_is (tw_P k) (tw_D k)) i) + 1))), (0, .ref m0)] := hl
          refine lv_goto (tgt := 4) hx hb dX2_all_26 (by decide) ?_
          refine ih (i + 1) ls (by omega) (by omega) ?_
          have e6 : tw_is (tw_P k) (tw_D k) i = 1 := by unfold tw_is; rw [er]; rfl
          have e7 : tw_sum (tw_is (tw_P k) (tw_D k)) (i + 1) = tw_sum (tw_is (tw_P k) (tw_D k)) i + 1 := by show _ + tw_is (tw_P k) (tw_D k) i = _; rw [e6]
          rw [e7]
          exact lv_sub hl [0, 1, 2] rfl
  exact loop 16385 0 ls (by omega) (Nat.zero_le _) (lv_sub hl [0, 1, 2] rfl)
set_option maxHeartbeats 4000000 in
set_option maxRecDepth 100000 in
theorem c_X2_quick (l : Launch) (D : va_G) {k : Nat} (hk5 : k < 5) {m0 mx my mr mb : Nat} {th sx sy : Int32} {p9 : Nat × Nat} (hp9 : tw_on (tw_P k) (tw_D k) p9) {m9 : Nat} (hm9 : m9 < 2 ^ 15) (sz : Nat) : Met l yX2_quick wX2_quick ({ frames := 3, cells := 0, slots := 0, locals := 73 }) (va_Pc [.ref m0, .int (nI m9), .int (nI p9.1), .int (nI p9.2)] (wd_pre D [] [(m0, .inr (2, [.int th, .int (nI k), .int (nI (tw_P k)), .int (nI (tw_D k)), .int (nI (tw_I k)), .ref mx, .ref my, .ref mr, .ref mb, .int sx, .int sy]))] sz)) (va_Qv (fun (u : Unit) => u = ()) (fun (u : Unit) t => wd_at D [] (va_A [(m0, .inr (2, [.int th, .int (nI k), .int (nI (tw_P k)), .int (nI (tw_D k)), .int (nI (tw_I k)), .ref mx, .ref my, .ref mr, .ref mb, .int sx, .int sy]))] sz) [(m0, .inr (2, [.int th, .int (nI k), .int (nI (tw_P k)), .int (nI (tw_D k)), .int (nI (tw_I k)), .ref mx, .ref my, .ref mr, .ref mb, .int (nI (tw_mu (tw_P k) (tw_D k) m9 p9).1), .int (nI (tw_mu (tw_P k) (tw_D k) m9 p9).2)]))] t) (va_A [(m0, .inr (2, [.int th, .int (nI k), .int (nI (tw_P k)), .int (nI (tw_D k)), .int (nI (tw_I k)), .ref mx, .ref my, .ref mr, .ref mb, .int sx, .int sy]))] sz)) 0 0 (va_A [(m0, .inr (2, [.int th, .int (nI k), .int (nI (tw_P k)), .int (nI (tw_D k)), .int (nI (tw_I k)), .ref mx, .ref my, .ref mr, .ref mb, .int sx, .int sy]))] sz) := by
  refine Met.ofW (cc := cX2_quick) (maxL := 7) (ret := none) (by decide) rfl ?_
  intro p e s m args below meth c s₁ B hml hv
  obtain ⟨rfl, hsz, hP, hK, hD0⟩ := hv
  have hx := B.exec
  have hb := B.bytes
  have hr := B.returns
  have hts := atoms_spec (ws := wX2_quick) B.pre
  have ht : ∀ w ∈ tb_all, w.before _ s = true := fun w h => hts w (List.mem_cons_of_mem _ h)
  have hown : s.vm.findClass RX2 = some m.cls := findClass_of_methodNamed B.named
  have hlocks := B.notSynchronized
  have hin : meth.name = "quick" := (name_of_methodNamed B.named B.method).1
  subst hsz
  have hD := hD0.self (sz := s.heap.size)
  generalize hAe : va_A [(m0, .inr (2, [.int th, .int (nI k), .int (nI (tw_P k)), .int (nI (tw_D k)), .int (nI (tw_I k)), .ref mx, .ref my, .ref mr, .ref mb, .int sx, .int sy]))] s.heap.size = A at hD ⊢
  have hA : ∀ q : Nat, s.heap.size ≤ q → A q := fun q h => by rw [← hAe]; exact Or.inr h
  have hS : va_S A s.heap s.heap [] := va_S.rf
  have hl := lv_entry ([.ref m0, .int (nI m9), .int (nI p9.1), .int (nI p9.2)]) (n := 7) (Nat.le_of_ble_eq_true rfl)
  rw [lg_entry_eq]
  generalize (lg_sl ([.ref m0, .int (nI m9), .int (nI p9.1), .int (nI p9.2)]) ++ List.replicate (7 - (lg_sl ([.ref m0, .int (nI m9), .int (nI p9.1), .int (nI p9.2)])).length) Slot.unset).toArray = ls at hl ⊢
  have hl : lv_has ls 7 [(0, .ref m0), (1, .int (nI m9)), (2, .int (nI p9.1)), (3, .int (nI p9.2))] := hl
  obtain ⟨hP0, hP2, hD2, hI2, hDP⟩ := tw_kb hk5
  have hK0 := tw_kK k hk5
  have hP8 : tw_P k ≤ 8192 := by omega
  have hN := tw_kN k hk5
  have zk : k ≤ 4 := by omega
  have hx1 := hp9.1
  have hy1 := hp9.2.1
  have zx : p9.1 ≤ 8100 := by omega
  have zy : p9.2 ≤ 8100 := by omega
  have zm : m9 ≤ 32767 := Nat.le_of_lt_succ hm9
  refine lv_iconst (v := (nI 0)) hx hb dX2_quick_0 (by decide) ?_
  refine lv_istore hx hb dX2_quick_1 hl (by decide) rfl (fun ls hl => ?_)
  have hl : lv_has ls 7 [(4, .int (nI 0)), (0, .ref m0), (1, .int (nI m9)), (2, .int (nI p9.1)), (3, .int (nI p9.2))] := hl
  refine lv_iconst (v := (nI 1)) hx hb dX2_quick_3 (by decide) ?_
  refine lv_istore hx hb dX2_quick_4 hl (by decide) rfl (fun ls hl => ?_)
  have hl : lv_has ls 7 [(5, .int (nI 1)), (4, .int (nI 0)), (0, .ref m0), (1, .int (nI m9)), (2, .int (nI p9.1)), (3, .int (nI p9.2))] := hl
  refine lv_sipush (v := (nI 16384)) hx hb dX2_quick_6 (by decide) ?_
  refine lv_istore hx hb dX2_quick_9 hl (by decide) rfl (fun ls hl => ?_)
  have hl : lv_has ls 7 [(6, .int (nI 16384)), (5, .int (nI 1)), (4, .int (nI 0)), (0, .ref m0), (1, .int (nI m9)), (2, .int (nI p9.1)), (3, .int (nI p9.2))] := hl
  have loop : ∀ (c9 : Nat) (s1 s2 : Int32) (H : Heap) (locs : List Loc) (ls : Array Slot), c9 ≤ 15 → va_P D vwCl [(m0, .inr (2, [.int th, .int (nI k), .int (nI (tw_P k)), .int (nI (tw_D k)), .int (nI (tw_I k)), .ref mx, .ref my, .ref mr, .ref mb, .int s1, .int s2]))] H → va_D A [(m0, .inr (2, [.int th, .int (nI k), .int (nI (tw_P k)), .int (nI (tw_D k)), .int (nI (tw_I k)), .ref mx, .ref my, .ref mr, .ref mb, .int s1, .int s2]))] → va_S A s.heap H locs → lv_has ls 7 [(6, .int (nI (2 ^ c9 / 2))), (5, .int (nI (tw_mu (tw_P k) (tw_D k) (m9 / 2 ^ c9) p9).2)), (4, .int (nI (tw_mu (tw_P k) (tw_D k) (m9 / 2 ^ c9) p9).1)), (0, .ref m0), (1, .int (nI m9)), (2, .int (nI p9.1)), (3, .int (nI p9.2))] → W p l e (headSpec wX2_quick ({ frames := 3, cells := 0, slots := 0, locals := 73 })).room s m ([.ref m0, .int (nI m9), .int (nI p9.1), .int (nI p9.2)]).toArray below meth c H locs 0 0 (MQ below (va_Qv (fun (u : Unit) => u = ()) (fun (u : Unit) t => wd_at D [] (A) [(m0, .inr (2, [.int th, .int (nI k), .int (nI (tw_P k)), .int (nI (tw_D k)), .int (nI (tw_I k)), .ref mx, .ref my, .ref mr, .ref mb, .int (nI (tw_mu (tw_P k) (tw_D k) m9 p9).1), .int (nI (tw_mu (tw_P k) (tw_D k) m9 p9).2)]))] t) A) ([.ref m0, .int (nI m9), .int (nI p9.1), .int (nI p9.2)]).toArray s 0 0 A) (F0 m 11 ls []) := by
    intro c9
    induction c9 with
    | zero =>
      intro s1 s2 H locs ls h1 hP hD hS hl
      have hmi := tw_mu_on hK0 hp9 (m9 / 2 ^ 0)
      have zi1 : (tw_mu (tw_P k) (tw_D k) (m9 / 2 ^ 0) p9).1 ≤ 8100 := by have := hmi.1; omega
      have zi2 : (tw_mu (tw_P k) (tw_D k) (m9 / 2 ^ 0) p9).2 ≤ 8100 := by have := hmi.2.1; omega
      have e5 : m9 / 2 ^ 0 = m9 := by rw [Nat.pow_zero, Nat.div_one]
      refine lv_iload hx hb dX2_quick_11 (lv_at hl 0 rfl) ?_
      refine nv_if_le (tgt := 83) hx hb dX2_quick_13 (by decide) (by decide) (fun _ => ?_) (fun c8 => absurd c8 (by decide))
      refine lv_aload_n hx hb dX2_quick_83 rfl (lv_at hl 3 rfl) ?_
      refine lv_iload hx hb dX2_quick_84 (lv_at hl 2 rfl) ?_
      refine va_put (D := D) (ci := 2) (v := .int (nI ((tw_mu (tw_P k) (tw_D k) (m9 / 2 ^ 0) p9).1))) (ty := .int) (C := RX2) (T := TX2) (N := 11) hx hb ht inX2 tyX2 tyX2_ok nmX2 hown hK hP hD hS 0 rfl rfl 9 (by decide) (ht _ kf_X2_59) (fun _ h9 => h9) rfl (by decide +kernel) rfl rfl (Nat.le_of_ble_eq_true rfl) dX2_quick_86 (fun H locs hP hD hS => ?_)
      have hP : va_P D vwCl [(m0, .inr (2, [.int th, .int (nI k), .int (nI (tw_P k)), .int (nI (tw_D k)), .int (nI (tw_I k)), .ref mx, .ref my, .ref mr, .ref mb, .int (nI (tw_mu (tw_P k) (tw_D k) (m9 / 2 ^ 0) p9).1), .int s2]))] H := hP
      have hD : va_D A [(m0, .inr (2, [.int th, .int (nI k), .int (nI (tw_P k)), .int (nI (tw_D k)), .int (nI (tw_I k)), .ref mx, .ref my, .ref mr, .ref mb, .int (nI (tw_mu (tw_P k) (tw_D k) (m9 / 2 ^ 0) p9).1), .int s2]))] := hD
      refine lv_aload_n hx hb dX2_quick_89 rfl (lv_at hl 3 rfl) ?_
      refine lv_iload hx hb dX2_quick_90 (lv_at hl 1 rfl) ?_
      refine va_put (D := D) (ci := 2) (v := .int (nI ((tw_mu (tw_P k) (tw_D k) (m9 / 2 ^ 0) p9).2))) (ty := .int) (C := RX2) (T := TX2) (N := 11) hx hb ht inX2 tyX2 tyX2_ok nmX2 hown hK hP hD hS 0 rfl rfl 10 (by decide) (ht _ kf_X2_56) (fun _ h9 => h9) rfl (by decide +kernel) rfl rfl (Nat.le_of_ble_eq_true rfl) dX2_quick_92 (fun H locs hP hD hS => ?_)
      have hP : va_P D vwCl [(m0, .inr (2, [.int th, .int (nI k), .int (nI (tw_P k)), .int (nI (tw_D k)), .int (nI (tw_I k)), .ref mx, .ref my, .ref mr, .ref mb, .int (nI (tw_mu (tw_P k) (tw_D k) (m9 / 2 ^ 0) p9).1), .int (nI (tw_mu (tw_P k) (tw_D k) (m9 / 2 ^ 0) p9).2)]))] H := hP
      have hD : va_D A [(m0, .inr (2, [.int th, .int (nI k), .int (nI (tw_P k)), .int (nI (tw_D k)), .int (nI (tw_I k)), .ref mx, .ref my, .ref mr, .ref mb, .int (nI (tw_mu (tw_P k) (tw_D k) (m9 / 2 ^ 0) p9).1), .int (nI (tw_mu (tw_P k) (tw_D k) (m9 / 2 ^ 0) p9).2)]))] := hD
      rw [e5] at hP hD
      exact W.vret hx hb hr (fun t ht9 hW => ⟨⟨(), rfl, rfl, by rw [ht9]; exact hP, va_K.moved hW.alike hK, hD⟩, hS.F ht9⟩) hS.2.2 dX2_quick_95
    | succ c9 ih =>
      intro s1 s2 H locs ls h1 hP hD hS hl
      have hmi := tw_mu_on hK0 hp9 (m9 / 2 ^ (c9 + 1))
      have zi1 : (tw_mu (tw_P k) (tw_D k) (m9 / 2 ^ (c9 + 1)) p9).1 ≤ 8100 := by have := hmi.1; omega
      have zi2 : (tw_mu (tw_P k) (tw_D k) (m9 / 2 ^ (c9 + 1)) p9).2 ≤ 8100 := by have := hmi.2.1; omega
      rw [tw_p2] at hl
      have hpc := tw_pp c9
      have hp14 : 2 ^ c9 ≤ 16384 := Nat.pow_le_pow_right (by decide) (show c9 ≤ 14 by omega)
      have e4 : m9 / 2 ^ (c9 + 1) = m9 / 2 ^ c9 / 2 := by rw [Nat.pow_succ, Nat.div_div_eq_div_mul]
      refine lv_iload hx hb dX2_quick_11 (lv_at hl 0 rfl) ?_
      refine nv_if_le (tgt := 83) hx hb dX2_quick_13 (by decide) (nv_le (b := 16384) hp14 (by decide)) (fun c13 => ?_) (fun c13 => ?_)
      · omega
      · refine lv_aload_n hx hb dX2_quick_16 rfl (lv_at hl 3 rfl) ?_
        refine lv_iload hx hb dX2_quick_17 (lv_at hl 2 rfl) ?_
        refine lv_iload hx hb dX2_quick_19 (lv_at hl 1 rfl) ?_
        refine lv_iload hx hb dX2_quick_21 (lv_at hl 2 rfl) ?_
        refine lv_iload hx hb dX2_quick_23 (lv_at hl 1 rfl) ?_
        have hdb := tw_clo hK0 hmi hmi
        have zj1 : (tw_add (tw_P k) (tw_D k) (tw_mu (tw_P k) (tw_D k) (m9 / 2 ^ (c9 + 1)) p9) (tw_mu (tw_P k) (tw_D k) (m9 / 2 ^ (c9 + 1)) p9)).1 ≤ 8100 := by have := hdb.1; omega
        have zj2 : (tw_add (tw_P k) (tw_D k) (tw_mu (tw_P k) (tw_D k) (m9 / 2 ^ (c9 + 1)) p9) (tw_mu (tw_P k) (tw_D k) (m9 / 2 ^ (c9 + 1)) p9)).2 ≤ 8100 := by have := hdb.2.1; omega
        have hPc := hP.sub (ws' := [(m0, .inr (2, [.int th, .int (nI k), .int (nI (tw_P k)), .int (nI (tw_D k)), .int (nI (tw_I k)), .ref mx, .ref my, .ref mr, .ref mb, .int s1, .int s2]))]) [0] rfl
        have hDc := hD.sub (ws' := [(m0, .inr (2, [.int th, .int (nI k), .int (nI (tw_P k)), .int (nI (tw_D k)), .int (nI (tw_I k)), .ref mx, .ref my, .ref mr, .ref mb, .int s1, .int s2]))]) [0] (by decide) rfl
        have hFc := va_free (wc := [(m0, .inr (2, [.int th, .int (nI k), .int (nI (tw_P k)), .int (nI (tw_D k)), .int (nI (tw_I k)), .ref mx, .ref my, .ref mr, .ref mb, .int s1, .int s2]))]) hD hS hA [0] rfl
        refine va_callv (va_runV (As := [.int (nI ((tw_mu (tw_P k) (tw_D k) (m9 / 2 ^ (c9 + 1)) p9).1)), .int (nI ((tw_mu (tw_P k) (tw_D k) (m9 / 2 ^ (c9 + 1)) p9).2)), .int (nI ((tw_mu (tw_P k) (tw_D k) (m9 / 2 ^ (c9 + 1)) p9).1)), .int (nI ((tw_mu (tw_P k) (tw_D k) (m9 / 2 ^ (c9 + 1)) p9).2))]) (rest := []) ⟨hx, hb, hml, hown, ht⟩ (c_X2_sum l D hk5 (x := (tw_mu (tw_P k) (tw_D k) (m9 / 2 ^ (c9 + 1)) p9).1) (y := (tw_mu (tw_P k) (tw_D k) (m9 / 2 ^ (c9 + 1)) p9).2) (x2 := (tw_mu (tw_P k) (tw_D k) (m9 / 2 ^ (c9 + 1)) p9).1) (y2 := (tw_mu (tw_P k) (tw_D k) (m9 / 2 ^ (c9 + 1)) p9).2) hmi.1 hmi.2.1 hmi.1 hmi.2.1 H.size) (cwV 4 ht (tb_V kl_X2_62 ki_X2_sum ks_X2_sum kn_X2 kc_X2_sum) rfl rfl rfl ⟨rfl, kd_X2_sum⟩ ⟨Nat.le_of_ble_eq_true rfl, Nat.le_of_ble_eq_true rfl⟩) (wd_preV _ hPc hK hDc (va_recv (ci := 2) (q0 := 0) hK hP rfl rfl)) rfl rfl hl.1 rfl (lv_room (Nat.le_of_ble_eq_true rfl)) dX2_quick_25 ⟨Nat.le_of_ble_eq_true rfl, Nat.le_of_ble_eq_true rfl⟩) hS (fun q _ h => hFc q h) hFc (fun u9 t9 H1 locs ht9 hvm9 hw9 hB9 hz9 hk9 hS => ?_)
        obtain ⟨hP1, hK1, hD1⟩ := hB9
        rw [ht9] at hP1
        obtain ⟨hP, hD⟩ := va_join (wr := []) (w1 := [(m0, .inr (2, [.int th, .int (nI k), .int (nI (tw_P k)), .int (nI (tw_D k)), .int (nI (tw_I k)), .ref mx, .ref my, .ref mr, .ref mb, .int (nI (tw_add (tw_P k) (tw_D k) (tw_mu (tw_P k) (tw_D k) (m9 / 2 ^ (c9 + 1)) p9) (tw_mu (tw_P k) (tw_D k) (m9 / 2 ^ (c9 + 1)) p9)).1), .int (nI (tw_add (tw_P k) (tw_D k) (tw_mu (tw_P k) (tw_D k) (m9 / 2 ^ (c9 + 1)) p9) (tw_mu (tw_P k) (tw_D k) (m9 / 2 ^ (c9 + 1)) p9)).2)]))]) hP hD [0] [] rfl rfl (by decide) (by decide) hk9 hFc hP1 hD1
        have hP := hP.sub (ws' := [(m0, .inr (2, [.int th, .int (nI k), .int (nI (tw_P k)), .int (nI (tw_D k)), .int (nI (tw_I k)), .ref mx, .ref my, .ref mr, .ref mb, .int (nI (tw_add (tw_P k) (tw_D k) (tw_mu (tw_P k) (tw_D k) (m9 / 2 ^ (c9 + 1)) p9) (tw_mu (tw_P k) (tw_D k) (m9 / 2 ^ (c9 + 1)) p9)).1), .int (nI (tw_add (tw_P k) (tw_D k) (tw_mu (tw_P k) (tw_D k) (m9 / 2 ^ (c9 + 1)) p9) (tw_mu (tw_P k) (tw_D k) (m9 / 2 ^ (c9 + 1)) p9)).2)]))]) [0] rfl
        have hD := hD.sub (ws' := [(m0, .inr (2, [.int th, .int (nI k), .int (nI (tw_P k)), .int (nI (tw_D k)), .int (nI (tw_I k)), .ref mx, .ref my, .ref mr, .ref mb, .int (nI (tw_add (tw_P k) (tw_D k) (tw_mu (tw_P k) (tw_D k) (m9 / 2 ^ (c9 + 1)) p9) (tw_mu (tw_P k) (tw_D k) (m9 / 2 ^ (c9 + 1)) p9)).1), .int (nI (tw_add (tw_P k) (tw_D k) (tw_mu (tw_P k) (tw_D k) (m9 / 2 ^ (c9 + 1)) p9) (tw_mu (tw_P k) (tw_D k) (m9 / 2 ^ (c9 + 1)) p9)).2)]))]) [0] (by decide) rfl
        generalize H1 = H at hP hS hz9 ⊢
        refine lv_aload_n hx hb dX2_quick_28 rfl (lv_at hl 3 rfl) ?_
        refine va_get (D := D) (ci := 2) (v := .int (nI ((tw_add (tw_P k) (tw_D k) (tw_mu (tw_P k) (tw_D k) (m9 / 2 ^ (c9 + 1)) p9) (tw_mu (tw_P k) (tw_D k) (m9 / 2 ^ (c9 + 1)) p9)).1))) (C := RX2) (T := TX2) (N := 11) hx hb ht inX2 hown hK hP 0 rfl rfl 9 (by decide) (ht _ kf_X2_59) (fun _ h9 => h9) rfl dX2_quick_29 ?_
        refine lv_istore hx hb dX2_quick_32 hl (by decide) rfl (fun ls hl => ?_)
        have hl : lv_has ls 7 [(4, .int (nI ((tw_add (tw_P k) (tw_D k) (tw_mu (tw_P k) (tw_D k) (m9 / 2 ^ (c9 + 1)) p9) (tw_mu (tw_P k) (tw_D k) (m9 / 2 ^ (c9 + 1)) p9)).1))), (6, .int (nI (2 ^ c9))), (5, .int (nI ((tw_mu (tw_P k) (tw_D k) (m9 / 2 ^ (c9 + 1)) p9).2))), (0, .ref m0), (1, .int (nI m9)), (2, .int (nI p9.1)), (3, .int (nI p9.2))] := hl
        refine lv_aload_n hx hb dX2_quick_34 rfl (lv_at hl 3 rfl) ?_
        refine va_get (D := D) (ci := 2) (v := .int (nI ((tw_add (tw_P k) (tw_D k) (tw_mu (tw_P k) (tw_D k) (m9 / 2 ^ (c9 + 1)) p9) (tw_mu (tw_P k) (tw_D k) (m9 / 2 ^ (c9 + 1)) p9)).2))) (C := RX2) (T := TX2) (N := 11) hx hb ht inX2 hown hK hP 0 rfl rfl 10 (by decide) (ht _ kf_X2_56) (fun _ h9 => h9) rfl dX2_quick_35 ?_
        refine lv_istore hx hb dX2_quick_38 hl (by decide) rfl (fun ls hl => ?_)
        have hl : lv_has ls 7 [(5, .int (nI ((tw_add (tw_P k) (tw_D k) (tw_mu (tw_P k) (tw_D k) (m9 / 2 ^ (c9 + 1)) p9) (tw_mu (tw_P k) (tw_D k) (m9 / 2 ^ (c9 + 1)) p9)).2))), (4, .int (nI ((tw_add (tw_P k) (tw_D k) (tw_mu (tw_P k) (tw_D k) (m9 / 2 ^ (c9 + 1)) p9) (tw_mu (tw_P k) (tw_D k) (m9 / 2 ^ (c9 + 1)) p9)).1))), (6, .int (nI (2 ^ c9))), (0, .ref m0), (1, .int (nI m9)), (2, .int (nI p9.1)), (3, .int (nI p9.2))] := hl
        refine lv_iload_n hx hb dX2_quick_40 rfl (lv_at hl 4 rfl) ?_
        refine lv_iload hx hb dX2_quick_41 (lv_at hl 2 rfl) ?_
        refine nv_idiv hx hb dX2_quick_43 hpc (nv_le (b := 32767) zm (by decide)) (nv_le (b := 16384) hp14 (by decide)) ?_
        refine lv_iconst (v := (nI 2)) hx hb dX2_quick_44 (by decide) ?_
        refine nv_irem hx hb dX2_quick_45 (by decide) (nv_le (b := 32767) (Nat.le_trans (Nat.div_le_self _ _) zm) (by decide)) (nv_le (b := 2) (Nat.le_refl 2) (by decide)) ?_
        refine nv_if_ne (tgt := 52) hx hb dX2_quick_46 (by decide) (nv_le (b := 1) (nv_md (by decide) (Nat.le_refl 2)) (by decide)) (fun c46 => ?_) (fun c46 => ?_)
        · have e3 : tw_add (tw_P k) (tw_D k) (tw_add (tw_P k) (tw_D k) (tw_mu (tw_P k) (tw_D k) (m9 / 2 ^ (c9 + 1)) p9) (tw_mu (tw_P k) (tw_D k) (m9 / 2 ^ (c9 + 1)) p9)) p9 = tw_mu (tw_P k) (tw_D k) (m9 / 2 ^ c9) p9 := by rw [e4]; exact tw_hor1 hK0 hp9 (by omega)
          refine lv_aload_n hx hb dX2_quick_52 rfl (lv_at hl 3 rfl) ?_
          refine lv_iload hx hb dX2_quick_53 (lv_at hl 1 rfl) ?_
          refine lv_iload hx hb dX2_quick_55 (lv_at hl 0 rfl) ?_
          refine lv_iload_n hx hb dX2_quick_57 rfl (lv_at hl 5 rfl) ?_
          refine lv_iload_n hx hb dX2_quick_58 rfl (lv_at hl 6 rfl) ?_
          have hs9 := tw_clo hK0 hdb hp9
          have zk1 : (tw_add (tw_P k) (tw_D k) (tw_add (tw_P k) (tw_D k) (tw_mu (tw_P k) (tw_D k) (m9 / 2 ^ (c9 + 1)) p9) (tw_mu (tw_P k) (tw_D k) (m9 / 2 ^ (c9 + 1)) p9)) p9).1 ≤ 8100 := by have := hs9.1; omega
          have zk2 : (tw_add (tw_P k) (tw_D k) (tw_add (tw_P k) (tw_D k) (tw_mu (tw_P k) (tw_D k) (m9 / 2 ^ (c9 + 1)) p9) (tw_mu (tw_P k) (tw_D k) (m9 / 2 ^ (c9 + 1)) p9)) p9).2 ≤ 8100 := by have := hs9.2.1; omega
          have hPc := hP.sub (ws' := [(m0, .inr (2, [.int th, .int (nI k), .int (nI (tw_P k)), .int (nI (tw_D k)), .int (nI (tw_I k)), .ref mx, .ref my, .ref mr, .ref mb, .int (nI (tw_add (tw_P k) (tw_D k) (tw_mu (tw_P k) (tw_D k) (m9 / 2 ^ (c9 + 1)) p9) (tw_mu (tw_P k) (tw_D k) (m9 / 2 ^ (c9 + 1)) p9)).1), .int (nI (tw_add (tw_P k) (tw_D k) (tw_mu (tw_P k) (tw_D k) (m9 / 2 ^ (c9 + 1)) p9) (tw_mu (tw_P k) (tw_D k) (m9 / 2 ^ (c9 + 1)) p9)).2)]))]) [0] rfl
          have hDc := hD.sub (ws' := [(m0, .inr (2, [.int th, .int (nI k), .int (nI (tw_P k)), .int (nI (tw_D k)), .int (nI (tw_I k)), .ref mx, .ref my, .ref mr, .ref mb, .int (nI (tw_add (tw_P k) (tw_D k) (tw_mu (tw_P k) (tw_D k) (m9 / 2 ^ (c9 + 1)) p9) (tw_mu (tw_P k) (tw_D k) (m9 / 2 ^ (c9 + 1)) p9)).1), .int (nI (tw_add (tw_P k) (tw_D k) (tw_mu (tw_P k) (tw_D k) (m9 / 2 ^ (c9 + 1)) p9) (tw_mu (tw_P k) (tw_D k) (m9 / 2 ^ (c9 + 1)) p9)).2)]))]) [0] (by decide) rfl
          have hFc := va_free (wc := [(m0, .inr (2, [.int th, .int (nI k), .int (nI (tw_P k)), .int (nI (tw_D k)), .int (nI (tw_I k)), .ref mx, .ref my, .ref mr, .ref mb, .int (nI (tw_add (tw_P k) (tw_D k) (tw_mu (tw_P k) (tw_D k) (m9 / 2 ^ (c9 + 1)) p9) (tw_mu (tw_P k) (tw_D k) (m9 / 2 ^ (c9 + 1)) p9)).1), .int (nI (tw_add (tw_P k) (tw_D k) (tw_mu (tw_P k) (tw_D k) (m9 / 2 ^ (c9 + 1)) p9) (tw_mu (tw_P k) (tw_D k) (m9 / 2 ^ (c9 + 1)) p9)).2)]))]) hD hS hA [0] rfl
          refine va_callv (va_runV (As := [.int (nI ((tw_add (tw_P k) (tw_D k) (tw_mu (tw_P k) (tw_D k) (m9 / 2 ^ (c9 + 1)) p9) (tw_mu (tw_P k) (tw_D k) (m9 / 2 ^ (c9 + 1)) p9)).1)), .int (nI ((tw_add (tw_P k) (tw_D k) (tw_mu (tw_P k) (tw_D k) (m9 / 2 ^ (c9 + 1)) p9) (tw_mu (tw_P k) (tw_D k) (m9 / 2 ^ (c9 + 1)) p9)).2)), .int (nI p9.1), .int (nI p9.2)]) (rest := []) ⟨hx, hb, hml, hown, ht⟩ (c_X2_sum l D hk5 (x := (tw_add (tw_P k) (tw_D k) (tw_mu (tw_P k) (tw_D k) (m9 / 2 ^ (c9 + 1)) p9) (tw_mu (tw_P k) (tw_D k) (m9 / 2 ^ (c9 + 1)) p9)).1) (y := (tw_add (tw_P k) (tw_D k) (tw_mu (tw_P k) (tw_D k) (m9 / 2 ^ (c9 + 1)) p9) (tw_mu (tw_P k) (tw_D k) (m9 / 2 ^ (c9 + 1)) p9)).2) (x2 := p9.1) (y2 := p9.2) hdb.1 hdb.2.1 hx1 hy1 H.size) (cwV 4 ht (tb_V kl_X2_62 ki_X2_sum ks_X2_sum kn_X2 kc_X2_sum) rfl rfl rfl ⟨rfl, kd_X2_sum⟩ ⟨Nat.le_of_ble_eq_true rfl, Nat.le_of_ble_eq_true rfl⟩) (wd_preV _ hPc hK hDc (va_recv (ci := 2) (q0 := 0) hK hP rfl rfl)) rfl rfl hl.1 rfl (lv_room (Nat.le_of_ble_eq_true rfl)) dX2_quick_59 ⟨Nat.le_of_ble_eq_true rfl, Nat.le_of_ble_eq_true rfl⟩) hS (fun q _ h => hFc q h) hFc (fun v9 t9 H1 locs ht9 hvm9 hw9 hB9 hz9 hk9 hS => ?_)
          obtain ⟨hP1, hK1, hD1⟩ := hB9
          rw [ht9] at hP1
          obtain ⟨hP, hD⟩ := va_join (wr := []) (w1 := [(m0, .inr (2, [.int th, .int (nI k), .int (nI (tw_P k)), .int (nI (tw_D k)), .int (nI (tw_I k)), .ref mx, .ref my, .ref mr, .ref mb, .int (nI (tw_add (tw_P k) (tw_D k) (tw_add (tw_P k) (tw_D k) (tw_mu (tw_P k) (tw_D k) (m9 / 2 ^ (c9 + 1)) p9) (tw_mu (tw_P k) (tw_D k) (m9 / 2 ^ (c9 + 1)) p9)) p9).1), .int (nI (tw_add (tw_P k) (tw_D k) (tw_add (tw_P k) (tw_D k) (tw_mu (tw_P k) (tw_D k) (m9 / 2 ^ (c9 + 1)) p9) (tw_mu (tw_P k) (tw_D k) (m9 / 2 ^ (c9 + 1)) p9)) p9).2)]))]) hP hD [0] [] rfl rfl (by decide) (by decide) hk9 hFc hP1 hD1
          have hP := hP.sub (ws' := [(m0, .inr (2, [.int th, .int (nI k), .int (nI (tw_P k)), .int (nI (tw_D k)), .int (nI (tw_I k)), .ref mx, .ref my, .ref mr, .ref mb, .int (nI (tw_add (tw_P k) (tw_D k) (tw_add (tw_P k) (tw_D k) (tw_mu (tw_P k) (tw_D k) (m9 / 2 ^ (c9 + 1)) p9) (tw_mu (tw_P k) (tw_D k) (m9 / 2 ^ (c9 + 1)) p9)) p9).1), .int (nI (tw_add (tw_P k) (tw_D k) (tw_add (tw_P k) (tw_D k) (tw_mu (tw_P k) (tw_D k) (m9 / 2 ^ (c9 + 1)) p9) (tw_mu (tw_P k) (tw_D k) (m9 / 2 ^ (c9 + 1)) p9)) p9).2)]))]) [0] rfl
          have hD := hD.sub (ws' := [(m0, .inr (2, [.int th, .int (nI k), .int (nI (tw_P k)), .int (nI (tw_D k)), .int (nI (tw_I k)), .ref mx, .ref my, .ref mr, .ref mb, .int (nI (tw_add (tw_P k) (tw_D k) (tw_add (tw_P k) (tw_D k) (tw_mu (tw_P k) (tw_D k) (m9 / 2 ^ (c9 + 1)) p9) (tw_mu (tw_P k) (tw_D k) (m9 / 2 ^ (c9 + 1)) p9)) p9).1), .int (nI (tw_add (tw_P k) (tw_D k) (tw_add (tw_P k) (tw_D k) (tw_mu (tw_P k) (tw_D k) (m9 / 2 ^ (c9 + 1)) p9) (tw_mu (tw_P k) (tw_D k) (m9 / 2 ^ (c9 + 1)) p9)) p9).2)]))]) [0] (by decide) rfl
          generalize H1 = H at hP hS hz9 ⊢
          refine lv_aload_n hx hb dX2_quick_62 rfl (lv_at hl 3 rfl) ?_
          refine va_get (D := D) (ci := 2) (v := .int (nI ((tw_add (tw_P k) (tw_D k) (tw_add (tw_P k) (tw_D k) (tw_mu (tw_P k) (tw_D k) (m9 / 2 ^ (c9 + 1)) p9) (tw_mu (tw_P k) (tw_D k) (m9 / 2 ^ (c9 + 1)) p9)) p9).1))) (C := RX2) (T := TX2) (N := 11) hx hb ht inX2 hown hK hP 0 rfl rfl 9 (by decide) (ht _ kf_X2_59) (fun _ h9 => h9) rfl dX2_quick_63 ?_
          refine lv_istore hx hb dX2_quick_66 hl (by decide) rfl (fun ls hl => ?_)
          have hl : lv_has ls 7 [(4, .int (nI ((tw_add (tw_P k) (tw_D k) (tw_add (tw_P k) (tw_D k) (tw_mu (tw_P k) (tw_D k) (m9 / 2 ^ (c9 + 1)) p9) (tw_mu (tw_P k) (tw_D k) (m9 / 2 ^ (c9 + 1)) p9)) p9).1))), (5, .int (nI ((tw_add (tw_P k) (tw_D k) (tw_mu (tw_P k) (tw_D k) (m9 / 2 ^ (c9 + 1)) p9) (tw_mu (tw_P k) (tw_D k) (m9 / 2 ^ (c9 + 1)) p9)).2))), (6, .int (nI (2 ^ c9))), (0, .ref m0), (1, .int (nI m9)), (2, .int (nI p9.1)), (3, .int (nI p9.2))] := hl
          refine lv_aload_n hx hb dX2_quick_68 rfl (lv_at hl 3 rfl) ?_
          refine va_get (D := D) (ci := 2) (v := .int (nI ((tw_add (tw_P k) (tw_D k) (tw_add (tw_P k) (tw_D k) (tw_mu (tw_P k) (tw_D k) (m9 / 2 ^ (c9 + 1)) p9) (tw_mu (tw_P k) (tw_D k) (m9 / 2 ^ (c9 + 1)) p9)) p9).2))) (C := RX2) (T := TX2) (N := 11) hx hb ht inX2 hown hK hP 0 rfl rfl 10 (by decide) (ht _ kf_X2_56) (fun _ h9 => h9) rfl dX2_quick_69 ?_
          refine lv_istore hx hb dX2_quick_72 hl (by decide) rfl (fun ls hl => ?_)
          have hl : lv_has ls 7 [(5, .int (nI ((tw_add (tw_P k) (tw_D k) (tw_add (tw_P k) (tw_D k) (tw_mu (tw_P k) (tw_D k) (m9 / 2 ^ (c9 + 1)) p9) (tw_mu (tw_P k) (tw_D k) (m9 / 2 ^ (c9 + 1)) p9)) p9).2))), (4, .int (nI ((tw_add (tw_P k) (tw_D k) (tw_add (tw_P k) (tw_D k) (tw_mu (tw_P k) (tw_D k) (m9 / 2 ^ (c9 + 1)) p9) (tw_mu (tw_P k) (tw_D k) (m9 / 2 ^ (c9 + 1)) p9)) p9).1))), (6, .int (nI (2 ^ c9))), (0, .ref m0), (1, .int (nI m9)), (2, .int (nI p9.1)), (3, .int (nI p9.2))] := hl
          refine lv_iload hx hb dX2_quick_74 (lv_at hl 2 rfl) ?_
          refine lv_iconst (v := (nI 2)) hx hb dX2_quick_76 (by decide) ?_
          refine nv_idiv hx hb dX2_quick_77 (by decide) (nv_le (b := 16384) hp14 (by decide)) (nv_le (b := 2) (Nat.le_refl 2) (by decide)) ?_
          refine lv_istore hx hb dX2_quick_78 hl (by decide) rfl (fun ls hl => ?_)
          have hl : lv_has ls 7 [(6, .int (nI ((2 ^ c9) / 2))), (5, .int (nI ((tw_add (tw_P k) (tw_D k) (tw_add (tw_P k) (tw_D k) (tw_mu (tw_P k) (tw_D k) (m9 / 2 ^ (c9 + 1)) p9) (tw_mu (tw_P k) (tw_D k) (m9 / 2 ^ (c9 + 1)) p9)) p9).2))), (4, .int (nI ((tw_add (tw_P k) (tw_D k) (tw_add (tw_P k) (tw_D k) (tw_mu (tw_P k) (tw_D k) (m9 / 2 ^ (c9 + 1)) p9) (tw_mu (tw_P k) (tw_D k) (m9 / 2 ^ (c9 + 1)) p9)) p9).1))), (0, .ref m0), (1, .int (nI m9)), (2, .int (nI p9.1)), (3, .int (nI p9.2))] := hl
          refine lv_goto (tgt := 11) hx hb dX2_quick_80 (by decide) ?_
          rw [e3] at hl
          exact ih _ _ H locs ls (by omega) hP hD hS (lv_sub hl [0, 1, 2, 3, 4, 5, 6] rfl)
        · have e3 : tw_add (tw_P k) (tw_D k) (tw_mu (tw_P k) (tw_D k) (m9 / 2 ^ (c9 + 1)) p9) (tw_mu (tw_P k) (tw_D k) (m9 / 2 ^ (c9 + 1)) p9) = tw_mu (tw_P k) (tw_D k) (m9 / 2 ^ c9) p9 := by rw [e4]; exact tw_hor0 hK0 hp9 (by omega)
          refine lv_goto (tgt := 74) hx hb dX2_quick_49 (by decide) ?_
          refine lv_iload hx hb dX2_quick_74 (lv_at hl 2 rfl) ?_
          refine lv_iconst (v := (nI 2)) hx hb dX2_quick_76 (by decide) ?_
          refine nv_idiv hx hb dX2_quick_77 (by decide) (nv_le (b := 16384) hp14 (by decide)) (nv_le (b := 2) (Nat.le_refl 2) (by decide)) ?_
          refine lv_istore hx hb dX2_quick_78 hl (by decide) rfl (fun ls hl => ?_)
          have hl : lv_has ls 7 [(6, .int (nI ((2 ^ c9) / 2))), (5, .int (nI ((tw_add (tw_P k) (tw_D k) (tw_mu (tw_P k) (tw_D k) (m9 / 2 ^ (c9 + 1)) p9) (tw_mu (tw_P k) (tw_D k) (m9 / 2 ^ (c9 + 1)) p9)).2))), (4, .int (nI ((tw_add (tw_P k) (tw_D k) (tw_mu (tw_P k) (tw_D k) (m9 / 2 ^ (c9 + 1)) p9) (tw_mu (tw_P k) (tw_D k) (m9 / 2 ^ (c9 + 1)) p9)).1))), (0, .ref m0), (1, .int (nI m9)), (2, .int (nI p9.1)), (3, .int (nI p9.2))] := hl
          refine lv_goto (tgt := 11) hx hb dX2_quick_80 (by decide) ?_
          rw [e3] at hl
          exact ih _ _ H locs ls (by omega) hP hD hS (lv_sub hl [0, 1, 2, 3, 4, 5, 6] rfl)
  refine loop 15 sx sy s.heap [] ls (Nat.le_refl 15) hP hD hS ?_
  have e5 : m9 / 2 ^ 15 = 0 := Nat.div_eq_of_lt hm9
  rw [e5]
  exact lv_sub hl [0, 1, 2, 3, 4, 5, 6] rfl
set_option maxHeartbeats 4000000 in
set_option maxRecDepth 100000 in
theorem c_X2_quickOrder (l : Launch) (D : va_G) {k : Nat} (hk5 : k < 5) {m0 mx my mr mb : Nat} {th sx sy : Int32} {p9 : Nat × Nat} (hp9 : tw_on (tw_P k) (tw_D k) p9) (sz : Nat) : Met l yX2_quickOrder wX2_quickOrder ({ frames := 4, cells := 0, slots := 0, locals := 99 }) (va_Pc [.ref m0, .int (nI (tw_N k)), .int (nI p9.1), .int (nI p9.2)] (wd_pre D [] [(m0, .inr (2, [.int th, .int (nI k), .int (nI (tw_P k)), .int (nI (tw_D k)), .int (nI (tw_I k)), .ref mx, .ref my, .ref mr, .ref mb, .int sx, .int sy]))] sz)) (va_Qi (fun (r : Int32) (u : Int32 × Int32) => r = nI (tw_od (tw_P k) (tw_D k) (tw_N k) p9)) (fun (u : Int32 × Int32) t => wd_at D [] (va_A [(m0, .inr (2, [.int th, .int (nI k), .int (nI (tw_P k)), .int (nI (tw_D k)), .int (nI (tw_I k)), .ref mx, .ref my, .ref mr, .ref mb, .int sx, .int sy]))] sz) [(m0, .inr (2, [.int th, .int (nI k), .int (nI (tw_P k)), .int (nI (tw_D k)), .int (nI (tw_I k)), .ref mx, .ref my, .ref mr, .ref mb, .int u.1, .int u.2]))] t) (va_A [(m0, .inr (2, [.int th, .int (nI k), .int (nI (tw_P k)), .int (nI (tw_D k)), .int (nI (tw_I k)), .ref mx, .ref my, .ref mr, .ref mb, .int sx, .int sy]))] sz)) 0 0 (va_A [(m0, .inr (2, [.int th, .int (nI k), .int (nI (tw_P k)), .int (nI (tw_D k)), .int (nI (tw_I k)), .ref mx, .ref my, .ref mr, .ref mb, .int sx, .int sy]))] sz) := by
  refine Met.ofW (cc := cX2_quickOrder) (maxL := 7) (ret := (some .int)) (by decide) rfl ?_
  intro p e s m args below meth c s₁ B hml hv
  obtain ⟨rfl, hsz, hP, hK, hD0⟩ := hv
  have hx := B.exec
  have hb := B.bytes
  have hr := B.returns
  have hts := atoms_spec (ws := wX2_quickOrder) B.pre
  have ht : ∀ w ∈ tb_all, w.before _ s = true := fun w h => hts w (List.mem_cons_of_mem _ h)
  have hown : s.vm.findClass RX2 = some m.cls := findClass_of_methodNamed B.named
  have hlocks := B.notSynchronized
  have hin : meth.name = "quickOrder" := (name_of_methodNamed B.named B.method).1
  subst hsz
  have hD := hD0.self (sz := s.heap.size)
  generalize hAe : va_A [(m0, .inr (2, [.int th, .int (nI k), .int (nI (tw_P k)), .int (nI (tw_D k)), .int (nI (tw_I k)), .ref mx, .ref my, .ref mr, .ref mb, .int sx, .int sy]))] s.heap.size = A at hD ⊢
  have hA : ∀ q : Nat, s.heap.size ≤ q → A q := fun q h => by rw [← hAe]; exact Or.inr h
  have hS : va_S A s.heap s.heap [] := va_S.rf
  have hl := lv_entry ([.ref m0, .int (nI (tw_N k)), .int (nI p9.1), .int (nI p9.2)]) (n := 7) (Nat.le_of_ble_eq_true rfl)
  rw [lg_entry_eq]
  generalize (lg_sl ([.ref m0, .int (nI (tw_N k)), .int (nI p9.1), .int (nI p9.2)]) ++ List.replicate (7 - (lg_sl ([.ref m0, .int (nI (tw_N k)), .int (nI p9.1), .int (nI p9.2)])).length) Slot.unset).toArray = ls at hl ⊢
  have hl : lv_has ls 7 [(0, .ref m0), (1, .int (nI (tw_N k))), (2, .int (nI p9.1)), (3, .int (nI p9.2))] := hl
  obtain ⟨hP0, hP2, hD2, hI2, hDP⟩ := tw_kb hk5
  have hK0 := tw_kK k hk5
  have hP8 : tw_P k ≤ 8192 := by omega
  have hN := tw_kN k hk5
  have zk : k ≤ 4 := by omega
  have hx1 := hp9.1
  have hy1 := hp9.2.1
  have zx : p9.1 ≤ 8100 := by omega
  have zy : p9.2 ≤ 8100 := by omega
  have hqp := tw_qpk hk5 hp9 (t := fun m => decide (tw_mu (tw_P k) (tw_D k) m p9 = (0, 1))) (fun m => decide_eq_true_iff)
  refine lv_iload_n hx hb dX2_quickOrder_0 rfl (lv_at hl 1 rfl) ?_
  refine lv_istore hx hb dX2_quickOrder_1 hl (by decide) rfl (fun ls hl => ?_)
  have hl : lv_has ls 7 [(4, .int (nI (tw_N k))), (0, .ref m0), (1, .int (nI (tw_N k))), (2, .int (nI p9.1)), (3, .int (nI p9.2))] := hl
  refine lv_iload_n hx hb dX2_quickOrder_3 rfl (lv_at hl 2 rfl) ?_
  refine lv_istore hx hb dX2_quickOrder_4 hl (by decide) rfl (fun ls hl => ?_)
  have hl : lv_has ls 7 [(5, .int (nI (tw_N k))), (4, .int (nI (tw_N k))), (0, .ref m0), (1, .int (nI (tw_N k))), (2, .int (nI p9.1)), (3, .int (nI p9.2))] := hl
  refine lv_iconst (v := (nI 2)) hx hb dX2_quickOrder_6 (by decide) ?_
  refine lv_istore hx hb dX2_quickOrder_7 hl (by decide) rfl (fun ls hl => ?_)
  have hl : lv_has ls 7 [(6, .int (nI 2)), (5, .int (nI (tw_N k))), (4, .int (nI (tw_N k))), (0, .ref m0), (1, .int (nI (tw_N k))), (2, .int (nI p9.1)), (3, .int (nI p9.2))] := hl
  have loop : ∀ (f9 f left n : Nat) (s1 s2 : Int32) (H : Heap) (locs : List Loc) (ls : Array Slot), f + f9 ≤ 66 → 2 ≤ f → 1 ≤ left → left ≤ 8232 → n ≤ 8232 → tw_qp (fun m => decide (tw_mu (tw_P k) (tw_D k) m p9 = (0, 1))) f9 f left n = some (tw_od (tw_P k) (tw_D k) (tw_N k) p9) → va_P D vwCl [(m0, .inr (2, [.int th, .int (nI k), .int (nI (tw_P k)), .int (nI (tw_D k)), .int (nI (tw_I k)), .ref mx, .ref my, .ref mr, .ref mb, .int s1, .int s2]))] H → va_D A [(m0, .inr (2, [.int th, .int (nI k), .int (nI (tw_P k)), .int (nI (tw_D k)), .int (nI (tw_I k)), .ref mx, .ref my, .ref mr, .ref mb, .int s1, .int s2]))] → va_S A s.heap H locs → lv_has ls 7 [(6, .int (nI f)), (5, .int (nI left)), (4, .int (nI n)), (0, .ref m0), (2, .int (nI p9.1)), (3, .int (nI p9.2))] → W p l e (headSpec wX2_quickOrder ({ frames := 4, cells := 0, slots := 0, locals := 99 })).room s m ([.ref m0, .int (nI (tw_N k)), .int (nI p9.1), .int (nI p9.2)]).toArray below meth c H locs 0 0 (MQ below (va_Qi (fun (r : Int32) (u : Int32 × Int32) => r = nI (tw_od (tw_P k) (tw_D k) (tw_N k) p9)) (fun (u : Int32 × Int32) t => wd_at D [] (A) [(m0, .inr (2, [.int th, .int (nI k), .int (nI (tw_P k)), .int (nI (tw_D k)), .int (nI (tw_I k)), .ref mx, .ref my, .ref mr, .ref mb, .int u.1, .int u.2]))] t) A) ([.ref m0, .int (nI (tw_N k)), .int (nI p9.1), .int (nI p9.2)]).toArray s 0 0 A) (F0 m 15 ls []) := by
    intro f9
    induction f9 with
    | zero => intro f left n s1 s2 H locs ls h1 h2 h3 h4 h5 hq; cases hq
    | succ f9 ih =>
      intro f left n s1 s2 H locs ls h1 h2 h3 h4 h5 hq hP hD hS hl
      have zf : f ≤ 66 := by omega
      refine lv_iload hx hb dX2_quickOrder_15 (lv_at hl 1 rfl) ?_
      refine lv_iload hx hb dX2_quickOrder_17 (lv_at hl 0 rfl) ?_
      refine nv_irem hx hb dX2_quickOrder_19 (by omega) (nv_le (b := 8232) h4 (by decide)) (nv_le (b := 66) zf (by decide)) ?_
      refine nv_if_ne (tgt := 74) hx hb dX2_quickOrder_20 (by decide) (nv_le (b := 65) (nv_md (by omega) zf) (by decide)) (fun c20 => ?_) (fun c20 => ?_)
      · refine lv_iinc hx hb dX2_quickOrder_74 hl (k := 0) rfl nv_inc (by decide) rfl (fun ls hl => ?_)
        have hl : lv_has ls 7 [(6, .int (nI (f + 1))), (5, .int (nI left)), (4, .int (nI n)), (0, .ref m0), (2, .int (nI p9.1)), (3, .int (nI p9.2))] := hl
        refine lv_goto (tgt := 9) hx hb dX2_quickOrder_77 (by decide) ?_
        refine lv_iload hx hb dX2_quickOrder_9 (lv_at hl 1 rfl) ?_
        refine lv_iconst (v := (nI 1)) hx hb dX2_quickOrder_11 (by decide) ?_
        refine nv_icmp_le (tgt := 80) hx hb dX2_quickOrder_12 (by decide) (nv_le (b := 8232) h4 (by decide)) (nv_le (b := 1) (Nat.le_refl 1) (by decide)) (fun c12 => ?_) (fun c12 => ?_)
        · have e8 := tw_qp_1 hq c12
          refine lv_iload hx hb dX2_quickOrder_80 (lv_at hl 2 rfl) ?_
          exact W.iret hx hb hr (fun t ht9 hW => ⟨⟨_, (s1, s2), rfl, by rw [← e8], by rw [ht9]; exact hP, va_K.moved hW.alike hK, hD⟩, hS.F ht9⟩) hS.2.2 dX2_quickOrder_82
        · rw [tw_qp_n (by omega) (by omega)] at hq
          exact ih (f + 1) left n s1 s2 H locs ls (by omega) (by omega) h3 h4 h5 hq hP hD hS (lv_sub hl [0, 1, 2, 3, 4, 5] rfl)
      · have hl1 : ¬ left ≤ 1 := by
          intro z9
          have z8 : left = 1 := by omega
          rw [z8, Nat.mod_eq_of_lt (by omega)] at c20
          omega
        rw [tw_qp_d hl1 c20] at hq
        have hlf : 1 ≤ left / f := Nat.div_pos (Nat.le_of_dvd (by omega) (Nat.dvd_of_mod_eq_zero c20)) (by omega)
        have hlf2 : left / f ≤ 8232 := Nat.le_trans (Nat.div_le_self _ _) h4
        have hnf : n / f ≤ 8232 := Nat.le_trans (Nat.div_le_self _ _) h5
        refine lv_iload hx hb dX2_quickOrder_23 (lv_at hl 1 rfl) ?_
        refine lv_iload hx hb dX2_quickOrder_25 (lv_at hl 0 rfl) ?_
        refine nv_idiv hx hb dX2_quickOrder_27 (by omega) (nv_le (b := 8232) h4 (by decide)) (nv_le (b := 66) zf (by decide)) ?_
        refine lv_istore hx hb dX2_quickOrder_28 hl (by decide) rfl (fun ls hl => ?_)
        have hl : lv_has ls 7 [(5, .int (nI (left / f))), (6, .int (nI f)), (4, .int (nI n)), (0, .ref m0), (2, .int (nI p9.1)), (3, .int (nI p9.2))] := hl
        refine lv_aload_n hx hb dX2_quickOrder_30 rfl (lv_at hl 3 rfl) ?_
        refine lv_iload hx hb dX2_quickOrder_31 (lv_at hl 2 rfl) ?_
        refine lv_iload hx hb dX2_quickOrder_33 (lv_at hl 1 rfl) ?_
        refine nv_idiv hx hb dX2_quickOrder_35 (by omega) (nv_le (b := 8232) h5 (by decide)) (nv_le (b := 66) zf (by decide)) ?_
        refine lv_iload_n hx hb dX2_quickOrder_36 rfl (lv_at hl 4 rfl) ?_
        refine lv_iload_n hx hb dX2_quickOrder_37 rfl (lv_at hl 5 rfl) ?_
        have hqn := tw_mu_on hK0 hp9 (n / f)
        have zj1 : (tw_mu (tw_P k) (tw_D k) (n / f) p9).1 ≤ 8100 := by have := hqn.1; omega
        have zj2 : (tw_mu (tw_P k) (tw_D k) (n / f) p9).2 ≤ 8100 := by have := hqn.2.1; omega
        have hPc := hP.sub (ws' := [(m0, .inr (2, [.int th, .int (nI k), .int (nI (tw_P k)), .int (nI (tw_D k)), .int (nI (tw_I k)), .ref mx, .ref my, .ref mr, .ref mb, .int s1, .int s2]))]) [0] rfl
        have hDc := hD.sub (ws' := [(m0, .inr (2, [.int th, .int (nI k), .int (nI (tw_P k)), .int (nI (tw_D k)), .int (nI (tw_I k)), .ref mx, .ref my, .ref mr, .ref mb, .int s1, .int s2]))]) [0] (by decide) rfl
        have hFc := va_free (wc := [(m0, .inr (2, [.int th, .int (nI k), .int (nI (tw_P k)), .int (nI (tw_D k)), .int (nI (tw_I k)), .ref mx, .ref my, .ref mr, .ref mb, .int s1, .int s2]))]) hD hS hA [0] rfl
        refine va_callv (va_runV (As := [.int (nI (n / f)), .int (nI p9.1), .int (nI p9.2)]) (rest := []) ⟨hx, hb, hml, hown, ht⟩ (c_X2_quick l D hk5 hp9 (m9 := n / f) (by omega) H.size) (cwV 3 ht (tb_V kl_X2_98 ki_X2_quick ks_X2_quick kn_X2 kc_X2_quick) rfl rfl rfl ⟨rfl, kd_X2_quick⟩ ⟨Nat.le_of_ble_eq_true rfl, Nat.le_of_ble_eq_true rfl⟩) (wd_preV _ hPc hK hDc (va_recv (ci := 2) (q0 := 0) hK hP rfl rfl)) rfl rfl hl.1 rfl (lv_room (Nat.le_of_ble_eq_true rfl)) dX2_quickOrder_38 ⟨Nat.le_of_ble_eq_true rfl, Nat.le_of_ble_eq_true rfl⟩) hS (fun q _ h => hFc q h) hFc (fun u9 t9 H1 locs ht9 hvm9 hw9 hB9 hz9 hk9 hS => ?_)
        obtain ⟨hP1, hK1, hD1⟩ := hB9
        rw [ht9] at hP1
        obtain ⟨hP, hD⟩ := va_join (wr := []) (w1 := [(m0, .inr (2, [.int th, .int (nI k), .int (nI (tw_P k)), .int (nI (tw_D k)), .int (nI (tw_I k)), .ref mx, .ref my, .ref mr, .ref mb, .int (nI (tw_mu (tw_P k) (tw_D k) (n / f) p9).1), .int (nI (tw_mu (tw_P k) (tw_D k) (n / f) p9).2)]))]) hP hD [0] [] rfl rfl (by decide) (by decide) hk9 hFc hP1 hD1
        have hP := hP.sub (ws' := [(m0, .inr (2, [.int th, .int (nI k), .int (nI (tw_P k)), .int (nI (tw_D k)), .int (nI (tw_I k)), .ref mx, .ref my, .ref mr, .ref mb, .int (nI (tw_mu (tw_P k) (tw_D k) (n / f) p9).1), .int (nI (tw_mu (tw_P k) (tw_D k) (n / f) p9).2)]))]) [0] rfl
        have hD := hD.sub (ws' := [(m0, .inr (2, [.int th, .int (nI k), .int (nI (tw_P k)), .int (nI (tw_D k)), .int (nI (tw_I k)), .ref mx, .ref my, .ref mr, .ref mb, .int (nI (tw_mu (tw_P k) (tw_D k) (n / f) p9).1), .int (nI (tw_mu (tw_P k) (tw_D k) (n / f) p9).2)]))]) [0] (by decide) rfl
        generalize H1 = H at hP hS hz9 ⊢
        refine lv_iload hx hb dX2_quickOrder_41 (lv_at hl 2 rfl) ?_
        refine lv_iload hx hb dX2_quickOrder_43 (lv_at hl 1 rfl) ?_
        refine nv_irem hx hb dX2_quickOrder_45 (by omega) (nv_le (b := 8232) h5 (by decide)) (nv_le (b := 66) zf (by decide)) ?_
        refine nv_if_ne (tgt := 15) hx hb dX2_quickOrder_46 (by decide) (nv_le (b := 65) (nv_md (by omega) zf) (by decide)) (fun c46 => ?_) (fun c46 => ?_)
        · rw [if_neg (by intro z9; omega)] at hq
          exact ih f (left / f) n _ _ H locs ls (by omega) h2 hlf hlf2 h5 hq hP hD hS (lv_sub hl [1, 0, 2, 3, 4, 5] rfl)
        · refine lv_aload_n hx hb dX2_quickOrder_49 rfl (lv_at hl 3 rfl) ?_
          refine va_get (D := D) (ci := 2) (v := .int (nI ((tw_mu (tw_P k) (tw_D k) (n / f) p9).1))) (C := RX2) (T := TX2) (N := 11) hx hb ht inX2 hown hK hP 0 rfl rfl 9 (by decide) (ht _ kf_X2_59) (fun _ h9 => h9) rfl dX2_quickOrder_50 ?_
          refine nv_if_ne (tgt := 15) hx hb dX2_quickOrder_53 (by decide) (nv_le (b := 8100) zj1 (by decide)) (fun c53 => ?_) (fun c53 => ?_)
          · rw [if_neg (by intro z9; have z8 := of_decide_eq_true z9.2; rw [z8] at c53; exact absurd c53 (by decide))] at hq
            exact ih f (left / f) n _ _ H locs ls (by omega) h2 hlf hlf2 h5 hq hP hD hS (lv_sub hl [1, 0, 2, 3, 4, 5] rfl)
          · refine lv_aload_n hx hb dX2_quickOrder_56 rfl (lv_at hl 3 rfl) ?_
            refine va_get (D := D) (ci := 2) (v := .int (nI ((tw_mu (tw_P k) (tw_D k) (n / f) p9).2))) (C := RX2) (T := TX2) (N := 11) hx hb ht inX2 hown hK hP 0 rfl rfl 10 (by decide) (ht _ kf_X2_56) (fun _ h9 => h9) rfl dX2_quickOrder_57 ?_
            refine lv_iconst (v := (nI 1)) hx hb dX2_quickOrder_60 (by decide) ?_
            refine nv_icmp_ne (tgt := 15) hx hb dX2_quickOrder_61 (by decide) (nv_le (b := 8100) zj2 (by decide)) (nv_le (b := 1) (Nat.le_refl 1) (by decide)) (fun c61 => ?_) (fun c61 => ?_)
            · rw [if_neg (by intro z9; have z8 := of_decide_eq_true z9.2; exact c61 (by rw [z8]))] at hq
              exact ih f (left / f) n _ _ H locs ls (by omega) h2 hlf hlf2 h5 hq hP hD hS (lv_sub hl [1, 0, 2, 3, 4, 5] rfl)
            · have z8 : tw_mu (tw_P k) (tw_D k) (n / f) p9 = (0, 1) := Prod.ext c53 c61
              rw [if_pos ⟨c46, decide_eq_true z8⟩] at hq
              refine lv_iload hx hb dX2_quickOrder_64 (lv_at hl 2 rfl) ?_
              refine lv_iload hx hb dX2_quickOrder_66 (lv_at hl 1 rfl) ?_
              refine nv_idiv hx hb dX2_quickOrder_68 (by omega) (nv_le (b := 8232) h5 (by decide)) (nv_le (b := 66) zf (by decide)) ?_
              refine lv_istore hx hb dX2_quickOrder_69 hl (by decide) rfl (fun ls hl => ?_)
              have hl : lv_has ls 7 [(4, .int (nI (n / f))), (5, .int (nI (left / f))), (6, .int (nI f)), (0, .ref m0), (2, .int (nI p9.1)), (3, .int (nI p9.2))] := hl
              refine lv_goto (tgt := 15) hx hb dX2_quickOrder_71 (by decide) ?_
              exact ih f (left / f) (n / f) _ _ H locs ls (by omega) h2 hlf hlf2 hnf hq hP hD hS (lv_sub hl [2, 1, 0, 3, 4, 5] rfl)
  refine lv_iload hx hb dX2_quickOrder_9 (lv_at hl 1 rfl) ?_
  refine lv_iconst (v := (nI 1)) hx hb dX2_quickOrder_11 (by decide) ?_
  refine nv_icmp_le (tgt := 80) hx hb dX2_quickOrder_12 (by decide) (nv_le (b := 8232) hN.2 (by decide)) (nv_le (b := 1) (Nat.le_refl 1) (by decide)) (fun c12 => ?_) (fun c12 => ?_)
  · have := hN.1
    omega
  · exact loop 64 2 (tw_N k) (tw_N k) sx sy s.heap [] ls (by decide) (Nat.le_refl 2) (by have := hN.1; omega) hN.2 hN.2 hqp hP hD hS (lv_sub hl [0, 1, 2, 3, 5, 6] rfl)
