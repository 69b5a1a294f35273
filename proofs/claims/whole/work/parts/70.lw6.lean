/-! THE CLAIM OUT OF ONE WALK OF THE LAW'S BODY. Your part is whole_start (and what it stands on); all else here is the same for every law, but numbers. -/
def R_law : String := "TwistDeskLaw"
def lw_P (b : Addr) (xs : List Int32) (args : Array Value) (s : State) : Prop := args = #[.ref b] ∧ s.IntsAt b xs ∧ xs.length ≤ 4096 ∧ (Jvm.Cond.and given_1 narrow_1).before args s = true
def lw_Q (_ : Array Value) (s : State) (o : Outcome) (t : State) : Prop := o = .returned (some (.int 1)) ∧ Framed s o t [] 601024 7293033
def lw_Z (below : List Frame) (a : Array Value) (s : State) : State → Prop := fun t => ∃ o, t.status = .running ∧ Ended t below o ∧ lw_Q a s o t
/-- the law's own end, with 1 on the stack, nothing written that was there before, its room as the claim has it -/
theorem lw_ret {p : Program} {l : Launch} {e : Env} {s : State} {m : MethodId} {below : List Frame} {meth : Method} {c : Code} {b : Nat} (hx : p.tables.exec = Jvm.exec) (hb : c.code = code) (hr : meth.sig.returnType = ret) (hlocks : meth.locks = false) {pc : Nat} {H : Heap} {ls : Array Slot} (hdg : decode code pc = .ok (.ireturn, 1)) : W p l e room_1 s m #[Value.ref b] below meth c H [] 601024 7293033 (lw_Z below #[Value.ref b] s) (F0 m pc ls [.int 1]) := by
  intro T hT X
  obtain ⟨fs, hret, hrun, hended, hW, hframe⟩ := X.leave (v := some (.int 1)) (hlocks := hlocks) (fun h => by rw [hr] at h; cases h)
  have hmeth' : T.vm.method? m = some meth := X.method'
  refine ⟨T.setFrames fs, ?_, .returned (some (.int 1)), hrun, hended, rfl, ⟨_, rfl⟩, hW, hframe⟩
  jvm_step X.here [X.here.top, hx, hb, hdg, hmeth', hr, ret, narrow_b1]
  (try refine ⟨rfl, ?_⟩); (try refine ⟨rfl, ?_⟩)
  first | (intro acts; rw [hret _ acts rfl rfl rfl]) | rw [hret _ _ rfl rfl rfl]
  exact Steps.refl _
/-- what holds at the law's entry: the machine, the code, the tables' words (any of lw_tbl by 'hts w (by decide +kernel)'), the script of L ints xs at the cell b, what the Statement gives of the start (any of its parts by flat_of_before) -/
def lw_At (p : Program) (s : State) (m : MethodId) (meth : Method) (c : Code) (b L : Nat) (xs : Nat → Int32) : Prop :=
  p.tables.exec = Jvm.exec ∧ c.code = code ∧ meth.sig.returnType = ret ∧ c.maxLocals = 8 ∧ s.vm.findClass R_law = some m.cls ∧ (∀ w ∈ lw_tbl, w.before #[Value.ref b] s = true) ∧ va_X b L xs s s.heap ∧ b < s.heap.size ∧ meth.locks = false ∧ (Jvm.Cond.and given_1 narrow_1).before #[Value.ref b] s = true
/-- what the launch gives -/
theorem lx_ini {p : Program} {s : State} {m : MethodId} {meth : Method} {c : Code} (l : Launch) {b L : Nat} {xs : Nat → Int32} (hst : l.stackTraces = false) (C0 : lw_At p s m meth c b L xs) : ∃ (gs : Nat → Nat) (tp : Nat) (D : va_G), nx_K l gs (fun q => s.heap.size ≤ q) s s.heap ∧ tw_Z tp (fun q => s.heap.size ≤ q) s s.heap ∧ va_K D vwCl [] s ∧ va_AO RX0 s ∧ (∀ w ∈ tb_all, w.before #[Value.ref b] s = true) := by
  obtain ⟨hx, hb, hr, hml, hown, hts, hX, hbl, hlocks, hgv⟩ := C0
  have hf := flat_of_before _ hgv
  have ht : ∀ w ∈ tb_all, w.before #[Value.ref b] s = true := fun w h => hts w (List.mem_filter.mp h).1
  have hA : ∀ a : Nat, a < s.heap.size → ¬ s.heap.size ≤ a := fun a h => Nat.not_le.mpr h
  have hU : vx_Zq Bundle.tN "UNASSIGNED_STACK" Bundle.steD (fun q => s.heap.size ≤ q) s s.heap := vx_Zqof (hts (.laysStatic Bundle.tN "UNASSIGNED_STACK" Bundle.steD) (by decide +kernel)) (hts (.initialized Bundle.tN) (by decide +kernel)) (hf (.isRef (.static Bundle.tN "UNASSIGNED_STACK" Bundle.steD)) (by decide +kernel)) hA
  have hN : vx_Zq Bundle.tN "SUPPRESSED_SENTINEL" Bundle.listD (fun q => s.heap.size ≤ q) s s.heap := vx_Zqof (hts (.laysStatic Bundle.tN "SUPPRESSED_SENTINEL" Bundle.listD) (by decide +kernel)) (hts (.initialized Bundle.tN) (by decide +kernel)) (hf (.isRef (.static Bundle.tN "SUPPRESSED_SENTINEL" Bundle.listD)) (by decide +kernel)) hA
  obtain ⟨g0, _, _, _, q0, -⟩ := Cond.exactly_spec (hf (.exactly (.string RX1 28) "java/lang/String") (by decide +kernel))
  obtain ⟨g1, _, _, _, q1, -⟩ := Cond.exactly_spec (hf (.exactly (.string RX1 145) "java/lang/String") (by decide +kernel))
  obtain ⟨g2, _, _, _, q2, -⟩ := Cond.exactly_spec (hf (.exactly (.string RX1 48) "java/lang/String") (by decide +kernel))
  obtain ⟨g3, _, _, _, q3, -⟩ := Cond.exactly_spec (hf (.exactly (.string RX1 58) "java/lang/String") (by decide +kernel))
  obtain ⟨g4, _, _, _, q4, -⟩ := Cond.exactly_spec (hf (.exactly (.string RX1 149) "java/lang/String") (by decide +kernel))
  obtain ⟨g5, _, _, _, q5, -⟩ := Cond.exactly_spec (hf (.exactly (.string RX1 106) "java/lang/String") (by decide +kernel))
  have hD : nx_D s := ⟨⟨va_Nw.of rfl (hts (.declares (Bundle.initS "java/lang/RuntimeException")) (by decide +kernel)), va_Nw.of rfl (hts (.declares (Bundle.initS "java/lang/Exception")) (by decide +kernel)), va_Nw.of rfl (hts (.declares (Bundle.initS Bundle.tN)) (by decide +kernel))⟩, ⟨va_Nw.of rfl (hts (.castable nS nS) (by decide +kernel)), va_Nw.of rfl (hts (.castable nA nA) (by decide +kernel)), va_Nw.of rfl (hts (.castable nT nT) (by decide +kernel))⟩, va_Nc.of (hf (.not (.castable nA nS)) (by decide +kernel)), va_Nc.of (hf (.not (.castable nT nS)) (by decide +kernel)), va_Nc.of (hf (.not (.castable nT nA)) (by decide +kernel))⟩
  obtain ⟨tp, hev, hT⟩ := va_Tof (args := #[Value.ref b]) (s := s) (tm := (.static RX1 "PRIMES" "[I")) (ty := .int) (N := 5) (f := fun j => .int (nI (tw_P j))) (A := (fun q => s.heap.size ≤ q)) (by decide) (hf (.arrayOf (.static RX1 "PRIMES" "[I") .int) (by decide +kernel)) (va_eqt (hf (.eq (.length (.static RX1 "PRIMES" "[I")) (.int 5)) (by decide +kernel))) (fun j hj => match j, hj with
    | 0, _ => va_eqt (hf (.eq (.elem (.static RX1 "PRIMES" "[I") (.int 0)) (.int 13)) (by decide +kernel))
    | 1, _ => va_eqt (hf (.eq (.elem (.static RX1 "PRIMES" "[I") (.int 1)) (.int 61)) (by decide +kernel))
    | 2, _ => va_eqt (hf (.eq (.elem (.static RX1 "PRIMES" "[I") (.int 2)) (.int 109)) (by decide +kernel))
    | 3, _ => va_eqt (hf (.eq (.elem (.static RX1 "PRIMES" "[I") (.int 3)) (.int 1009)) (by decide +kernel))
    | 4, _ => va_eqt (hf (.eq (.elem (.static RX1 "PRIMES" "[I") (.int 4)) (.int 8101)) (by decide +kernel))
    | j + 5, h => absurd h (by omega)) hA
  obtain ⟨c0, i0, k0⟩ := u_known (C := RX0) (T := TX0) (N := 12) ht inX0 (ht _ kz_X0)
  obtain ⟨c1, i1, k1⟩ := u_known (C := RX1) (T := TX1) (N := 4) ht inX1 (ht _ kz_X1)
  obtain ⟨c2, i2, k2⟩ := u_known (C := RX2) (T := TX2) (N := 11) ht inX2 (ht _ kz_X2)
  refine ⟨fun i => [g0, g1, g2, g3, g4, g5].getD i 0, tp, (fun i => [c0, c1, c2].getD i c0, fun i => [i0, i1, i2].getD i i0), ⟨hst, hU, hN, hD, vk_R.of (hts (.stringRef RX1 28 "no such kind") (by decide +kernel)) q0, vk_R.of (hts (.stringRef RX1 145 "no such register") (by decide +kernel)) q1, vk_R.of (hts (.stringRef RX1 48 "no point") (by decide +kernel)) q2, vk_R.of (hts (.stringRef RX1 58 "no point is so packed") (by decide +kernel)) q3, vk_R.of (hts (.stringRef RX1 149 "no number from 0 to 2^30") (by decide +kernel)) q4, vk_R.of (hts (.stringRef RX1 106 "the base is neutral") (by decide +kernel)) q5⟩, ⟨va_Zof (hts (.laysStatic RX1 "PRIMES" "[I") (by decide +kernel)) (hts (.initialized RX1) (by decide +kernel)) hev hA, hT⟩, ⟨fun i q hq => ?_, fun k q hk => by cases hk⟩, va_AO.of (hts (.arrayOver (.object RX0)) (by decide +kernel)), ht⟩
  match i, hq with
  | 0, hq => cases hq; exact k0
  | 1, hq => cases hq; exact k1
  | 2, hq => cases hq; exact k2
theorem lx_sub8 {L : Nat} (hL : L ≤ 4096) : (Int32.ofNat L - nI 8).toInt = (L : Int) - 8 := by
  rw [Int32.toInt_sub]
  have e1 : (Int32.ofNat L).toInt = L := nI_toInt (n := L) (by omega)
  have e2 : (nI 8).toInt = 8 := by decide
  rw [e1, e2]
  simp only [Int.bmod_def]
  omega
theorem lx_inc8 {a : Nat} : nI a + Int32.ofInt 8 = nI (a + 8) := by
  apply Int32.toBitVec_inj.mp
  show BitVec.ofNat 32 a + BitVec.ofInt 32 8 = BitVec.ofNat 32 (a + 8)
  have e : BitVec.ofInt 32 8 = BitVec.ofNat 32 8 := by decide
  rw [e, BitVec.ofNat_add]
set_option maxHeartbeats 8000000 in
set_option maxRecDepth 100000 in
theorem lx_loop {p : Program} {l : Launch} {e : Env} {s : State} {m : MethodId} {below : List Frame} {meth : Method} {c : Code} {b L : Nat} {xs : Nat → Int32} {gs : Nat → Nat} {tp : Nat} {D : va_G} {d0 dc dr ou m0 mx my mr mb : Nat} {cA cQ cL : ClassId} (C : lx_C p l s m c b L xs gs tp D cA cQ cL) (hr : meth.sig.returnType = ret) (hlocks : meth.locks = false) : ∀ (n i : Nat) (F : Nat → Option Nat) (H : Heap) (locs : List Loc) (ls : Array Slot), L - i < n → i ≤ L → lv_has ls 8 [(4, .int (nI i)), (3, .ref ou), (2, .ref m0), (1, .ref d0), (0, .ref b)] → lx_I D d0 dc dr ou m0 mx my mr mb cA cQ cL (fun q => s.heap.size ≤ q) F H → va_S (fun q => s.heap.size ≤ q) s.heap H locs → W p l e room_1 s m #[Value.ref b] below meth c H locs (20 + lx_n F + i) (9000 + lx_c F + 6 * i) (lw_Z below #[Value.ref b] s) (F0 m 23 ls []) := by
  have C9 := C
  obtain ⟨hx, hb, hml, hown, ht, hX, hbl, hZ, hT, hK, hL⟩ := C9
  have hbA : ¬ s.heap.size ≤ b := Nat.not_le.mpr hbl
  intro n
  induction n with
  | zero => intro i F H locs ls h1; exact absurd h1 (Nat.not_lt_zero _)
  | succ n ih =>
    intro i F H locs ls h1 h2 hl hI hS
    have zi : i ≤ 4096 := by omega
    have zn := lx_n_le F
    have zc := lx_c_le F
    refine lv_iload hx hb dL_law_23 (lv_at hl 0 rfl) ?_
    refine lv_aload_n hx hb dL_law_25 rfl (lv_at hl 4 rfl) ?_
    refine va_slen hx hb hX hbl hbA hS dL_law_26 ?_
    refine lv_bipush (v := (nI 8)) hx hb dL_law_27 (by decide) ?_
    refine lv_isub hx hb dL_law_29 ?_
    refine lv_icmp_gt (tgt := 1275) hx hb dL_law_30 (by decide) (fun c1 => ?_) (fun c1 => ?_)
    · refine lv_iconst (v := (nI 1)) hx hb dL_law_1275 (by decide) ?_
      refine va_forget hS.2.2 ?_
      refine W.widen (k := 601024) (n := 7293033) (by omega) (by omega) ?_
      exact lw_ret hx hb hr hlocks dL_law_1276
    · rw [Int32.lt_iff_toInt_lt, lx_sub8 hL, nI_toInt (by omega)] at c1
      have hi : i + 8 ≤ L := by omega
      have next : (∀ (F : Nat → Option Nat) (H : Heap) (locs : List Loc) (ls : Array Slot), lv_has ls 8 [(4, .int (nI i)), (3, .ref ou), (2, .ref m0), (1, .ref d0), (0, .ref b)] → lx_I D d0 dc dr ou m0 mx my mr mb cA cQ cL (fun q => s.heap.size ≤ q) F H → va_S (fun q => s.heap.size ≤ q) s.heap H locs → W p l e room_1 s m #[Value.ref b] below meth c H locs (20 + lx_n F + (i + 8)) (9000 + lx_c F + 6 * (i + 8)) (lw_Z below #[Value.ref b] s) (F0 m 1269 ls [])) := by
        intro F H locs ls hl hI hS
        refine lv_iinc hx hb dL_law_1269 hl (k := 0) rfl lx_inc8 (by decide) rfl (fun ls hl => ?_)
        refine lv_goto (tgt := 23) hx hb dL_law_1272 (by decide) ?_
        exact ih (i + 8) F H locs ls (by omega) (by omega) hl hI hS
      refine lv_aload_n hx hb dL_law_33 rfl (lv_at hl 4 rfl) ?_
      refine lv_iload hx hb dL_law_34 (lv_at hl 0 rfl) ?_
      refine va_sld hx hb hX hbl hbA hS (nv_in (by omega) (by omega)) dL_law_36 ?_
      rw [nI_clamp (by omega)]
      refine lv_bipush (v := (nI 15)) hx hb dL_law_37 (by decide) ?_
      refine lv_iand hx hb dL_law_39 ?_
      obtain ⟨t, ht16, et⟩ := lx_15 (xs i)
      rw [et]
      have h16 : t = 0 ∨ t = 1 ∨ t = 2 ∨ t = 3 ∨ t = 4 ∨ t = 5 ∨ t = 6 ∨ t = 7 ∨ t = 8 ∨ t = 9 ∨ t = 10 ∨ t = 11 ∨ t = 12 ∨ t = 13 ∨ t = 14 ∨ t = 15 := by omega
      rcases h16 with rfl | rfl | rfl | rfl | rfl | rfl | rfl | rfl | rfl | rfl | rfl | rfl | rfl | rfl | rfl | rfl
      · exact lv_tableIn (tgt := 120) (off := 80) hx hb dL_law_40 (by decide) (by decide) (by decide) (by decide) (lc_0 C hi hl hI hS next)
      · exact lv_tableIn (tgt := 176) (off := 136) hx hb dL_law_40 (by decide) (by decide) (by decide) (by decide) (lc_1 C hi hl hI hS next)
      · exact lv_tableIn (tgt := 236) (off := 196) hx hb dL_law_40 (by decide) (by decide) (by decide) (by decide) (lc_2 C hi hl hI hS next)
      · exact lv_tableIn (tgt := 284) (off := 244) hx hb dL_law_40 (by decide) (by decide) (by decide) (by decide) (lc_3 C hi hl hI hS next)
      · exact lv_tableIn (tgt := 340) (off := 300) hx hb dL_law_40 (by decide) (by decide) (by decide) (by decide) (lc_4 C hi hl hI hS next)
      · exact lv_tableIn (tgt := 424) (off := 384) hx hb dL_law_40 (by decide) (by decide) (by decide) (by decide) (lc_5 C hi hl hI hS next)
      · exact lv_tableIn (tgt := 532) (off := 492) hx hb dL_law_40 (by decide) (by decide) (by decide) (by decide) (lc_6 C hi hl hI hS next)
      · exact lv_tableIn (tgt := 644) (off := 604) hx hb dL_law_40 (by decide) (by decide) (by decide) (by decide) (lc_7 C hi hl hI hS next)
      · exact lv_tableIn (tgt := 816) (off := 776) hx hb dL_law_40 (by decide) (by decide) (by decide) (by decide) (lc_8 C hi hl hI hS next)
      · exact lv_tableIn (tgt := 872) (off := 832) hx hb dL_law_40 (by decide) (by decide) (by decide) (by decide) (lc_9 C hi hl hI hS next)
      · exact lv_tableIn (tgt := 885) (off := 845) hx hb dL_law_40 (by decide) (by decide) (by decide) (by decide) (lc_10 C hi hl hI hS next)
      · exact lv_tableIn (tgt := 898) (off := 858) hx hb dL_law_40 (by decide) (by decide) (by decide) (by decide) (lc_11 C hi hl hI hS next)
      · exact lv_tableIn (tgt := 966) (off := 926) hx hb dL_law_40 (by decide) (by decide) (by decide) (by decide) (lc_12 C hi hl hI hS next)
      · exact lv_tableIn (tgt := 1034) (off := 994) hx hb dL_law_40 (by decide) (by decide) (by decide) (by decide) (lc_13 C hi hl hI hS next)
      · exact lv_tableIn (tgt := 1113) (off := 1073) hx hb dL_law_40 (by decide) (by decide) (by decide) (by decide) (lc_14 C hi hl hI hS next)
      · exact lv_tableIn (tgt := 1244) (off := 1204) hx hb dL_law_40 (by decide) (by decide) (by decide) (by decide) (lc_15 C hi hl hI hS next)
theorem wa_preS {tp : Nat} {D : va_G} {tys : List (ClassId × FieldType)} {WS : va_W} {A A1 : Nat → Prop} {s : State} {H : Heap} {locs : List Loc} (As : List Value) (hP : va_P D vwCl WS H) (hK : va_K D vwCl tys s) (hD : va_D A1 WS) (hZ : tw_Z tp A s s.heap) (hS : va_S A s.heap H locs) (hF : ∀ q, va_A WS H.size q → A q) (hO : va_AO RX0 s) : PreS s H (va_Pc As (wa_pre tp D tys WS H.size)) As :=
  ⟨fun a U g mk q => ⟨q.1, ((wz_preS As hP hK hD hZ hS hF).1 a U g mk ⟨q.1, q.2.1⟩).2, va_AO.moved (u := U) (U := U.calling g mk a) (Vm.Alike.refl U.vm) q.2.2⟩, fun U hU hW => ⟨rfl, ((wz_preS As hP hK hD hZ hS hF).2 U hU hW).2, va_AO.moved hW.alike hO⟩⟩
theorem lx_p0 (M A Q B C O : va_W) : List.Perm ((M ++ (A ++ (Q ++ (B ++ C)))) ++ O) ((A ++ (B ++ (C ++ O))) ++ (M ++ (Q ++ []))) := lx_cnt (fun _ _ x => by simp only [List.count_append, List.count_nil]; omega)
set_option maxHeartbeats 8000000 in
set_option maxRecDepth 100000 in
theorem whole_start {p : Program} {e : Env} {s : State} {m : MethodId} {below : List Frame} {meth : Method} {c : Code} (l : Launch) {b L : Nat} {xs : Nat → Int32} (hst : l.stackTraces = false) (hL : L ≤ 4096) (C0 : lw_At p s m meth c b L xs) : W p l e room_1 s m #[Value.ref b] below meth c s.heap [] 0 0 (lw_Z below #[Value.ref b] s) (entryFrame m ([Value.ref b] : List Value).toArray 8) := by
  obtain ⟨gs, tp, D, hZ, hT, hK, hAO, ht⟩ := lx_ini l hst C0
  obtain ⟨hx, hb, hr, hml, hown, -, hX, hbl, hlocks, -⟩ := C0
  have hb : c.code = cLaw := hb
  have hown : s.vm.findClass RL = some m.cls := hown
  have hP : va_P D vwCl [] s.heap := fun k q hk => nomatch hk
  have hD : va_D (fun q => s.heap.size ≤ q) ([] : va_W) := ⟨fun _ _ _ _ h => (nomatch h), fun _ _ h => (nomatch h)⟩
  have hS : va_S (fun q => s.heap.size ≤ q) s.heap s.heap [] := va_S.rf
  have hA : ∀ q : Nat, s.heap.size ≤ q → s.heap.size ≤ q := fun _ h => h
  have hl := lv_entry ([Value.ref b]) (n := 8) (Nat.le_of_ble_eq_true rfl)
  rw [lg_entry_eq]
  generalize (lg_sl ([Value.ref b]) ++ List.replicate (8 - (lg_sl ([Value.ref b])).length) Slot.unset).toArray = ls at hl ⊢
  have hl : lv_has ls 8 [(0, .ref b)] := hl
  refine va_new (D := D) (own := RL) (C := RX1) (T := TX1) (N := 4) (ci := 1) (fs := [.null, .null, .int 0, .null]) hx hb ht inX1 tyX1 tyX1_ok hown (ht _ kk_L_8) (ht _ kz_X1) (ht _ kn_X1) hK hP hD hS hA rfl (fun j9 h9 => match j9, h9 with | 0, _ => rfl | 1, _ => rfl | 2, _ => rfl | 3, _ => rfl | j8 + 4, h8 => absurd h8 (by omega)) (Nat.le_of_ble_eq_true rfl) (Nat.le_of_ble_eq_true rfl) dL_law_0 (fun d0 H hP hD hS => ?_)
  have hP : va_P D vwCl [(d0, .inr (1, [.null, .null, .int 0, .null]))] H := hP
  have hD : va_D (fun q => s.heap.size ≤ q) [(d0, .inr (1, [.null, .null, .int 0, .null]))] := hD
  refine lv_dup hx hb dL_law_3 rfl ?_
  have hFc : ∀ q, va_A [(d0, .inr (1, [.null, .null, .int 0, .null]))] H.size q → s.heap.size ≤ q := wp_free (wr := []) hD hS hA
  refine va_callv (va_runI (As := []) (rest := [.ref d0]) ⟨hx, hb, hml, hown, ht⟩ (c_X1_init l tp D H.size) (cwI 0 ht (tb_cons kc_X1_init) rfl rfl rfl (ht _ kn_X1) (ht _ kl_L_64) (ht _ ki_X1_init) rfl kd_X1_init ⟨Nat.le_of_ble_eq_true rfl, Nat.le_of_ble_eq_true rfl⟩) (wa_preS _ hP hK hD hT hS hFc hAO) rfl rfl hl.1 rfl (lv_room (Nat.le_of_ble_eq_true rfl)) dL_law_4 ⟨Nat.le_of_ble_eq_true rfl, Nat.le_of_ble_eq_true rfl⟩) hS (fun q _ h => hFc q h) hFc (fun u9 t9 H locs ht9 hvm9 hw9 hB9 hz9 hk9 hS => ?_)
  obtain ⟨dc, dr, cA, cQ, u, hu, h0, ai, ar, af, ap, ah, ac, fi, fr, ff, ⟨hP1, hK1, hD1⟩, hok⟩ := hB9
  rw [ht9] at hP1
  have hK := va_K.moved hvm9.symm hK1
  have hP : va_P D vwCl [(d0, .inr (1, [.ref dc, .ref dr, .int (nI 0), .ref h0])), (dc, .inl (cQ, 5, .inr (.inr (.inr (.inr (va_up (fun _ => none) 0 (some h0))))))), (dr, .inl (cA, 12, .inl u)), (h0, .inr (0, [.int (nI (tw_P 0)), .int (nI (tw_D 0)), .int (nI (tw_I 0)), .int (nI (tw_N 0)), .ref ai, .ref ar, .ref af, .ref ap, .ref ah, .ref ac, .int (nI ((tw_fs 0).length)), .int 0])), (ai, .inl (cA, tw_P 0, .inl fi)), (ar, .inl (cA, tw_P 0, .inl fr)), (af, .inl (cA, 14, .inl ff)), (ap, .inl (cA, 2 * tw_P 0, .inl (fun _ => 0))), (ah, .inl (cA, 2 * tw_P 0, .inl (fun _ => 0))), (ac, .inl (cA, 2 * tw_P 0, .inl (fun _ => 0)))] H := hP1
  have hD : va_D (fun q => s.heap.size ≤ q) [(d0, .inr (1, [.ref dc, .ref dr, .int (nI 0), .ref h0])), (dc, .inl (cQ, 5, .inr (.inr (.inr (.inr (va_up (fun _ => none) 0 (some h0))))))), (dr, .inl (cA, 12, .inl u)), (h0, .inr (0, [.int (nI (tw_P 0)), .int (nI (tw_D 0)), .int (nI (tw_I 0)), .int (nI (tw_N 0)), .ref ai, .ref ar, .ref af, .ref ap, .ref ah, .ref ac, .int (nI ((tw_fs 0).length)), .int 0])), (ai, .inl (cA, tw_P 0, .inl fi)), (ar, .inl (cA, tw_P 0, .inl fr)), (af, .inl (cA, 14, .inl ff)), (ap, .inl (cA, 2 * tw_P 0, .inl (fun _ => 0))), (ah, .inl (cA, 2 * tw_P 0, .inl (fun _ => 0))), (ac, .inl (cA, 2 * tw_P 0, .inl (fun _ => 0)))] := hD1.weaken (fun _ _ _ h => hFc _ h)
  clear hP1 hD1 hK1 hFc
  refine lv_astore_n hx hb dL_law_7 rfl hl (by decide) rfl (fun ls hl => ?_)
  have hl : lv_has ls 8 [(1, .ref d0), (0, .ref b)] := hl
  refine va_new (D := D) (own := RL) (C := RX2) (T := TX2) (N := 11) (ci := 2) (fs := [.int 0, .int 0, .int 0, .int 0, .int 0, .null, .null, .null, .null, .int 0, .int 0]) hx hb ht inX2 tyX2 tyX2_ok hown (ht _ kk_L_65) (ht _ kz_X2) (ht _ kn_X2) hK hP hD hS hA rfl (fun j9 h9 => match j9, h9 with | 0, _ => rfl | 1, _ => rfl | 2, _ => rfl | 3, _ => rfl | 4, _ => rfl | 5, _ => rfl | 6, _ => rfl | 7, _ => rfl | 8, _ => rfl | 9, _ => rfl | 10, _ => rfl | j8 + 11, h8 => absurd h8 (by omega)) (Nat.le_of_ble_eq_true rfl) (Nat.le_of_ble_eq_true rfl) dL_law_8 (fun m0 H hP hD hS => ?_)
  have hP : va_P D vwCl ([(m0, .inr (2, [.int 0, .int 0, .int 0, .int 0, .int 0, .null, .null, .null, .null, .int 0, .int 0]))] ++ [(d0, .inr (1, [.ref dc, .ref dr, .int (nI 0), .ref h0])), (dc, .inl (cQ, 5, .inr (.inr (.inr (.inr (va_up (fun _ => none) 0 (some h0))))))), (dr, .inl (cA, 12, .inl u)), (h0, .inr (0, [.int (nI (tw_P 0)), .int (nI (tw_D 0)), .int (nI (tw_I 0)), .int (nI (tw_N 0)), .ref ai, .ref ar, .ref af, .ref ap, .ref ah, .ref ac, .int (nI ((tw_fs 0).length)), .int 0])), (ai, .inl (cA, tw_P 0, .inl fi)), (ar, .inl (cA, tw_P 0, .inl fr)), (af, .inl (cA, 14, .inl ff)), (ap, .inl (cA, 2 * tw_P 0, .inl (fun _ => 0))), (ah, .inl (cA, 2 * tw_P 0, .inl (fun _ => 0))), (ac, .inl (cA, 2 * tw_P 0, .inl (fun _ => 0)))]) H := wp_P List.perm_append_comm hP
  have hD : va_D (fun q => s.heap.size ≤ q) ([(m0, .inr (2, [.int 0, .int 0, .int 0, .int 0, .int 0, .null, .null, .null, .null, .int 0, .int 0]))] ++ [(d0, .inr (1, [.ref dc, .ref dr, .int (nI 0), .ref h0])), (dc, .inl (cQ, 5, .inr (.inr (.inr (.inr (va_up (fun _ => none) 0 (some h0))))))), (dr, .inl (cA, 12, .inl u)), (h0, .inr (0, [.int (nI (tw_P 0)), .int (nI (tw_D 0)), .int (nI (tw_I 0)), .int (nI (tw_N 0)), .ref ai, .ref ar, .ref af, .ref ap, .ref ah, .ref ac, .int (nI ((tw_fs 0).length)), .int 0])), (ai, .inl (cA, tw_P 0, .inl fi)), (ar, .inl (cA, tw_P 0, .inl fr)), (af, .inl (cA, 14, .inl ff)), (ap, .inl (cA, 2 * tw_P 0, .inl (fun _ => 0))), (ah, .inl (cA, 2 * tw_P 0, .inl (fun _ => 0))), (ac, .inl (cA, 2 * tw_P 0, .inl (fun _ => 0)))]) := wp_D List.perm_append_comm hD
  refine lv_dup hx hb dL_law_11 rfl ?_
  have hFc := wp_free hD hS hA
  refine va_callv (va_runI (As := []) (rest := [.ref m0]) ⟨hx, hb, hml, hown, ht⟩ (c_X2_init l D H.size) (cwI 0 ht (tb_cons kc_X2_init) rfl rfl rfl (ht _ kn_X2) (ht _ kl_L_67) (ht _ ki_X2_init) rfl kd_X2_init ⟨Nat.le_of_ble_eq_true rfl, Nat.le_of_ble_eq_true rfl⟩) (wd_preS _ (wp_Pl hP) (hK.sub (tys' := []) [] rfl) (wp_Dl hD)) rfl rfl hl.1 rfl (lv_room (Nat.le_of_ble_eq_true rfl)) dL_law_12 ⟨Nat.le_of_ble_eq_true rfl, Nat.le_of_ble_eq_true rfl⟩) hS (fun q _ h => hFc q h) hFc (fun u9 t8 H locs ht8 hvm8 hw8 hB8 hz8 hk8 hS => ?_)
  obtain ⟨mx, my, mr, mb, cB, fx, fy, fm, ⟨hP1, hK1, hD1⟩, hxy, hfm⟩ := hB8
  rw [ht8] at hP1
  have ecB : cB = cA := cA_eq (cl := vwCl) (D := D) (s := s) ((hK.sub (tys' := [(cA, .int)]) [0] rfl).app (va_K.moved hvm8.symm hK1))
  subst ecB
  obtain ⟨hP, hD⟩ := wp_join hP hD hk8 hFc hP1 hD1
  clear hP1 hD1 hK1 hFc
  have hP : va_P D vwCl ((lw_M m0 mx my mr mb cB 0 0 0 0 fx fy fm (fun _ => 0)) ++ [(d0, .inr (1, [.ref dc, .ref dr, .int (nI 0), .ref h0])), (dc, .inl (cQ, 5, .inr (.inr (.inr (.inr (va_up (fun _ => none) 0 (some h0))))))), (dr, .inl (cB, 12, .inl u)), (h0, .inr (0, [.int (nI (tw_P 0)), .int (nI (tw_D 0)), .int (nI (tw_I 0)), .int (nI (tw_N 0)), .ref ai, .ref ar, .ref af, .ref ap, .ref ah, .ref ac, .int (nI ((tw_fs 0).length)), .int 0])), (ai, .inl (cB, tw_P 0, .inl fi)), (ar, .inl (cB, tw_P 0, .inl fr)), (af, .inl (cB, 14, .inl ff)), (ap, .inl (cB, 2 * tw_P 0, .inl (fun _ => 0))), (ah, .inl (cB, 2 * tw_P 0, .inl (fun _ => 0))), (ac, .inl (cB, 2 * tw_P 0, .inl (fun _ => 0)))]) H := hP
  have hD : va_D (fun q => s.heap.size ≤ q) ((lw_M m0 mx my mr mb cB 0 0 0 0 fx fy fm (fun _ => 0)) ++ [(d0, .inr (1, [.ref dc, .ref dr, .int (nI 0), .ref h0])), (dc, .inl (cQ, 5, .inr (.inr (.inr (.inr (va_up (fun _ => none) 0 (some h0))))))), (dr, .inl (cB, 12, .inl u)), (h0, .inr (0, [.int (nI (tw_P 0)), .int (nI (tw_D 0)), .int (nI (tw_I 0)), .int (nI (tw_N 0)), .ref ai, .ref ar, .ref af, .ref ap, .ref ah, .ref ac, .int (nI ((tw_fs 0).length)), .int 0])), (ai, .inl (cB, tw_P 0, .inl fi)), (ar, .inl (cB, tw_P 0, .inl fr)), (af, .inl (cB, 14, .inl ff)), (ap, .inl (cB, 2 * tw_P 0, .inl (fun _ => 0))), (ah, .inl (cB, 2 * tw_P 0, .inl (fun _ => 0))), (ac, .inl (cB, 2 * tw_P 0, .inl (fun _ => 0)))]) := hD
  refine lv_astore_n hx hb dL_law_15 rfl hl (by decide) rfl (fun ls hl => ?_)
  have hl : lv_has ls 8 [(2, .ref m0), (1, .ref d0), (0, .ref b)] := hl
  refine lv_iconst (v := (nI 1)) hx hb dL_law_16 (by decide) ?_
  refine va_newa (atype := .long) (ty := .long) (n := nI 1) (N' := 1) (a0 := (1, .inr (.inl (fun _ => 0)))) hx hb (ht _ ka_long) rfl hK hP hD hS hA (fun _ => rfl) (nI_pos (by decide)) (nI_clamp (by decide)) (by decide) (Nat.le_of_ble_eq_true rfl) (Nat.le_of_ble_eq_true rfl) dL_law_17 (fun ou cL H hK hP hD hS => ?_)
  have hK : va_K D vwCl [(cB, .int), (cQ, .object RX0), (cL, .long)] s := hK
  have hp9 : List.Perm (((lw_M m0 mx my mr mb cB 0 0 0 0 fx fy fm (fun _ => 0)) ++ [(d0, .inr (1, [.ref dc, .ref dr, .int (nI 0), .ref h0])), (dc, .inl (cQ, 5, .inr (.inr (.inr (.inr (va_up (fun _ => none) 0 (some h0))))))), (dr, .inl (cB, 12, .inl u)), (h0, .inr (0, [.int (nI (tw_P 0)), .int (nI (tw_D 0)), .int (nI (tw_I 0)), .int (nI (tw_N 0)), .ref ai, .ref ar, .ref af, .ref ap, .ref ah, .ref ac, .int (nI ((tw_fs 0).length)), .int 0])), (ai, .inl (cB, tw_P 0, .inl fi)), (ar, .inl (cB, tw_P 0, .inl fr)), (af, .inl (cB, 14, .inl ff)), (ap, .inl (cB, 2 * tw_P 0, .inl (fun _ => 0))), (ah, .inl (cB, 2 * tw_P 0, .inl (fun _ => 0))), (ac, .inl (cB, 2 * tw_P 0, .inl (fun _ => 0)))]) ++ [(ou, .inl (cL, 1, .inr (.inl (fun _ => 0))))]) ((lw_U d0 dc dr h0 ai ar af ap ah ac ou cB cL 0 0 u fi fr ff (fun _ => 0) (fun _ => 0) (fun _ => 0) (fun _ => 0)) ++ ((lw_M m0 mx my mr mb cB 0 0 0 0 fx fy fm (fun _ => 0)) ++ [(dc, .inl (cQ, 5, .inr (.inr (.inr (.inr (va_up (fun _ => none) 0 (some h0)))))))])) := lx_p0 (lw_M m0 mx my mr mb cB 0 0 0 0 fx fy fm (fun _ => 0)) [(d0, .inr (1, [.ref dc, .ref dr, .int (nI 0), .ref h0]))] [(dc, .inl (cQ, 5, .inr (.inr (.inr (.inr (va_up (fun _ => none) 0 (some h0)))))))] [(dr, .inl (cB, 12, .inl u))] [(h0, .inr (0, [.int (nI (tw_P 0)), .int (nI (tw_D 0)), .int (nI (tw_I 0)), .int (nI (tw_N 0)), .ref ai, .ref ar, .ref af, .ref ap, .ref ah, .ref ac, .int (nI ((tw_fs 0).length)), .int 0])), (ai, .inl (cB, tw_P 0, .inl fi)), (ar, .inl (cB, tw_P 0, .inl fr)), (af, .inl (cB, 14, .inl ff)), (ap, .inl (cB, 2 * tw_P 0, .inl (fun _ => 0))), (ah, .inl (cB, 2 * tw_P 0, .inl (fun _ => 0))), (ac, .inl (cB, 2 * tw_P 0, .inl (fun _ => 0)))] [(ou, .inl (cL, 1, .inr (.inl (fun _ => 0))))]
  have hP : va_P D vwCl ((lw_U d0 dc dr h0 ai ar af ap ah ac ou cB cL 0 0 u fi fr ff (fun _ => 0) (fun _ => 0) (fun _ => 0) (fun _ => 0)) ++ ((lw_M m0 mx my mr mb cB 0 0 0 0 fx fy fm (fun _ => 0)) ++ [(dc, .inl (cQ, 5, .inr (.inr (.inr (.inr (va_up (fun _ => none) 0 (some h0)))))))])) H := wp_P hp9 hP
  have hD : va_D (fun q => s.heap.size ≤ q) ((lw_U d0 dc dr h0 ai ar af ap ah ac ou cB cL 0 0 u fi fr ff (fun _ => 0) (fun _ => 0) (fun _ => 0) (fun _ => 0)) ++ ((lw_M m0 mx my mr mb cB 0 0 0 0 fx fy fm (fun _ => 0)) ++ [(dc, .inl (cQ, 5, .inr (.inr (.inr (.inr (va_up (fun _ => none) 0 (some h0)))))))])) := wp_D hp9 hD
  refine lv_astore_n hx hb dL_law_19 rfl hl (by decide) rfl (fun ls hl => ?_)
  have hl : lv_has ls 8 [(3, .ref ou), (2, .ref m0), (1, .ref d0), (0, .ref b)] := hl
  refine lv_iconst (v := (nI 0)) hx hb dL_law_20 (by decide) ?_
  refine lv_istore hx hb dL_law_21 hl (by decide) rfl (fun ls hl => ?_)
  have hl : lv_has ls 8 [(4, .int (nI 0)), (3, .ref ou), (2, .ref m0), (1, .ref d0), (0, .ref b)] := hl
  refine W.widen (k := 20 + lx_n (va_up (fun _ => none) 0 (some h0)) + 0) (n := 9000 + lx_c (va_up (fun _ => none) 0 (some h0)) + 6 * 0) (by omega) (by omega) ?_
  refine lx_loop (gs := gs) (tp := tp) (D := D) (d0 := d0) (dc := dc) (dr := dr) (ou := ou) (m0 := m0) (mx := mx) (my := my) (mr := mr) (mb := mb) (cA := cB) (cQ := cQ) (cL := cL) ⟨hx, hb, hml, hown, ht, hX, hbl, hZ, hT, hK, hL⟩ hr hlocks (L + 1) 0 (va_up (fun _ => none) 0 (some h0)) H _ ls (by omega) (Nat.zero_le _) (lv_sub hl [0, 1, 2, 3, 4] rfl) ?_ hS
  refine lx_mk (R := fun _ => (0, 1)) hP hD ⟨by decide, va_up_self _ 0 (some h0), hok, Or.inl ⟨rfl, rfl, rfl⟩, fun j hj => ⟨lx_one (by decide), hu j hj⟩, fun j hj => ⟨lx_one (by decide), (hxy j hj).1, (hxy j hj).2⟩, hfm, fun i hi => Or.inl rfl, ⟨fun _ => [], rfl, fun i hi hn => Or.inl ⟨va_up_ne _ _ hn, rfl⟩, List.Perm.refl _⟩⟩
