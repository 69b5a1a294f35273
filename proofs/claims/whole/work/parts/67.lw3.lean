/-! the law: its world, what holds at each turn of it -/
abbrev lw_U (d0 dc dr h0 ai ar af ap ah ac ou : Nat) (cA cL : ClassId) (k : Nat) (hk : Int32) (rg fi fr ff fp fh fn : Nat → Int32) (fo : Nat → Int64) : va_W := [(d0, .inr (1, [.ref dc, .ref dr, .int (nI k), .ref h0])), (dr, .inl (cA, 12, .inl rg)), (h0, .inr (0, [.int (nI (tw_P k)), .int (nI (tw_D k)), .int (nI (tw_I k)), .int (nI (tw_N k)), .ref ai, .ref ar, .ref af, .ref ap, .ref ah, .ref ac, .int (nI ((tw_fs k).length)), .int hk])), (ai, .inl (cA, tw_P k, .inl fi)), (ar, .inl (cA, tw_P k, .inl fr)), (af, .inl (cA, 14, .inl ff)), (ap, .inl (cA, 2 * tw_P k, .inl fp)), (ah, .inl (cA, 2 * tw_P k, .inl fh)), (ac, .inl (cA, 2 * tw_P k, .inl fn)), (ou, .inl (cL, 1, .inr (.inl fo)))]
abbrev lw_M (m0 mx my mr mb : Nat) (cA : ClassId) (k : Nat) (th sx sy : Int32) (fx fy fm fb : Nat → Int32) : va_W := [(m0, .inr (2, [.int th, .int (nI k), .int (nI (tw_P k)), .int (nI (tw_D k)), .int (nI (tw_I k)), .ref mx, .ref my, .ref mr, .ref mb, .int sx, .int sy])), (mx, .inl (cA, 12, .inl fx)), (my, .inl (cA, 12, .inl fy)), (mr, .inl (cA, 8101, .inl fm)), (mb, .inl (cA, 5, .inl fb))]
/-- the cells of the curve of the kind i, if the desk has made it -/
def lx_V (cA : ClassId) (i : Nat) (f : Option Nat) (cs : va_W) : Prop := (f = none ∧ cs = []) ∨ ∃ (h0 ai ar af ap ah ac : Nat) (hk : Int32) (fi fr ff fp fh fn : Nat → Int32), f = some h0 ∧ cs = cv_W h0 ai ar af ap ah ac cA i (tw_N i) (tw_fs i).length hk fi fr ff fp fh fn ∧ cv_ok i fi fr ff ∧ cv_hv i hk fh fn
def lx_all (Cv : Nat → va_W) : va_W := Cv 0 ++ (Cv 1 ++ (Cv 2 ++ (Cv 3 ++ Cv 4)))
theorem lx_cnt {α : Type} {a b : List α} (h : ∀ (i1 : BEq α) (_ : LawfulBEq α) (x : α), List.count x a = List.count x b) : List.Perm a b := by
  haveI : DecidableEq α := fun x y => Classical.propDecidable (x = y)
  exact List.perm_iff_count.mpr (fun x => h _ inferInstance x)
theorem lx_all_up (Cv : Nat → va_W) {k : Nat} (hk : k < 5) (c : va_W) : List.Perm (lx_all (va_up Cv k c)) (c ++ lx_all (va_up Cv k [])) := by
  refine lx_cnt (fun _ _ x => ?_)
  have h5 : k = 0 ∨ k = 1 ∨ k = 2 ∨ k = 3 ∨ k = 4 := by omega
  rcases h5 with rfl | rfl | rfl | rfl | rfl <;> simp [lx_all, va_up, List.count_append] <;> omega
theorem lx_up_same (Cv : Nat → va_W) {k : Nat} {c : va_W} (h : Cv k = c) : va_up Cv k c = Cv := by
  funext i
  by_cases e : i = k
  · subst e; rw [va_up_self, h]
  · rw [va_up_ne _ _ e]
/-- the cells of the curves that are not in use -/
def lx_O (cA : ClassId) (F : Nat → Option Nat) (k : Nat) (oth : va_W) : Prop := ∃ Cv : Nat → va_W, Cv k = [] ∧ (∀ i, i < 5 → i ≠ k → lx_V cA i (F i) (Cv i)) ∧ List.Perm oth (lx_all Cv)
theorem lx_O_new {cA : ClassId} {F : Nat → Option Nat} {k k1 : Nat} {oth c : va_W} (hk : k < 5) (hk1 : k1 < 5) (hne : k1 ≠ k) (hO : lx_O cA F k oth) (hF : F k1 = none) (hc : lx_V cA k (F k) c) (h : Nat) : lx_O cA (va_up F k1 (some h)) k1 (c ++ oth) := by
  obtain ⟨Cv, e0, hv, hp⟩ := hO
  have e1 : Cv k1 = [] := by
    rcases hv k1 hk1 hne with ⟨-, q⟩ | ⟨h0, _, _, _, _, _, _, _, _, _, _, _, _, _, q, -⟩
    · exact q
    · rw [hF] at q; cases q
  refine ⟨va_up Cv k c, by rw [va_up_ne _ _ hne]; exact e1, fun i hi hn => ?_, ?_⟩
  · rw [va_up_ne _ _ hn]
    by_cases e : i = k
    · subst e; rw [va_up_self]; exact hc
    · rw [va_up_ne _ _ e]; exact hv i hi e
  · refine List.Perm.trans (List.Perm.append_left c hp) ?_
    have q := (lx_all_up Cv hk c).symm
    rw [lx_up_same Cv e0] at q
    exact q
theorem lx_O_sw {cA : ClassId} {F : Nat → Option Nat} {k k1 h1 : Nat} {oth c : va_W} (hk : k < 5) (hk1 : k1 < 5) (hne : k1 ≠ k) (hO : lx_O cA F k oth) (hF : F k1 = some h1) (hc : lx_V cA k (F k) c) :
    ∃ (ai ar af ap ah ac : Nat) (hk : Int32) (fi fr ff fp fh fn : Nat → Int32) (oth1 : va_W), cv_ok k1 fi fr ff ∧ cv_hv k1 hk fh fn ∧ List.Perm oth (cv_W h1 ai ar af ap ah ac cA k1 (tw_N k1) (tw_fs k1).length hk fi fr ff fp fh fn ++ oth1) ∧ lx_O cA F k1 (c ++ oth1) := by
  obtain ⟨Cv, e0, hv, hp⟩ := hO
  rcases hv k1 hk1 hne with ⟨q, -⟩ | ⟨h0, ai, ar, af, ap, ah, ac, hk9, fi, fr, ff, fp, fh, fn, q, e1, hok, hhv⟩
  · rw [hF] at q; cases q
  · rw [hF] at q
    cases Option.some.inj q
    refine ⟨ai, ar, af, ap, ah, ac, hk9, fi, fr, ff, fp, fh, fn, lx_all (va_up Cv k1 []), hok, hhv, ?_, va_up (va_up Cv k1 []) k c, ?_, fun i hi hn => ?_, ?_⟩
    · refine List.Perm.trans hp ?_
      have q2 := lx_all_up Cv hk1 (Cv k1)
      rw [lx_up_same Cv rfl] at q2
      rw [e1] at q2
      exact q2
    · rw [va_up_ne _ _ hne, va_up_self]
    · by_cases e : i = k
      · subst e; rw [va_up_self]; exact hc
      · rw [va_up_ne _ _ e, va_up_ne _ _ hn]; exact hv i hi e
    · have q3 := (lx_all_up (va_up Cv k1 []) hk c).symm
      rw [lx_up_same (va_up Cv k1 []) (k := k) (c := []) (by rw [va_up_ne _ _ (fun z => hne z.symm)]; exact e0)] at q3
      exact q3
/-- what the model keeps of the bases -/
def lx_B (fb : Nat → Int32) : Prop := ∀ i, i < 5 → fb i = nI 0 ∨ fb i = nI (tw_bst (tw_P i) (tw_D i) (tw_N i) 16384).2
/-- what the curves have cost -/
def lx_n1 (f : Option Nat) : Nat := match f with
  | none => 0
  | some _ => 7
def lx_c1 (i : Nat) (f : Option Nat) : Nat := match f with
  | none => 0
  | some _ => 8 * tw_P i + 26
def lx_n (F : Nat → Option Nat) : Nat := lx_n1 (F 0) + lx_n1 (F 1) + lx_n1 (F 2) + lx_n1 (F 3) + lx_n1 (F 4)
def lx_c (F : Nat → Option Nat) : Nat := lx_c1 0 (F 0) + lx_c1 1 (F 1) + lx_c1 2 (F 2) + lx_c1 3 (F 3) + lx_c1 4 (F 4)
theorem lx_n1_le (f : Option Nat) : lx_n1 f ≤ 7 := by
  cases f
  · exact Nat.zero_le _
  · exact Nat.le_refl _
theorem lx_c1_le (i : Nat) (f : Option Nat) : lx_c1 i f ≤ 8 * tw_P i + 26 := by
  cases f
  · exact Nat.zero_le _
  · exact Nat.le_refl _
theorem lx_n_le (F : Nat → Option Nat) : lx_n F ≤ 35 := by
  have := lx_n1_le (F 0); have := lx_n1_le (F 1); have := lx_n1_le (F 2); have := lx_n1_le (F 3); have := lx_n1_le (F 4)
  unfold lx_n
  omega
theorem lx_c_le (F : Nat → Option Nat) : lx_c F ≤ 400000 := by
  have a0 := lx_c1_le 0 (F 0); have a1 := lx_c1_le 1 (F 1); have a2 := lx_c1_le 2 (F 2); have a3 := lx_c1_le 3 (F 3); have a4 := lx_c1_le 4 (F 4)
  have b0 := (tw_kb (k := 0) (by decide)).2.1; have b1 := (tw_kb (k := 1) (by decide)).2.1; have b2 := (tw_kb (k := 2) (by decide)).2.1; have b3 := (tw_kb (k := 3) (by decide)).2.1; have b4 := (tw_kb (k := 4) (by decide)).2.1
  unfold lx_c
  omega
theorem lx_n_up {F : Nat → Option Nat} {k : Nat} (hk : k < 5) (hF : F k = none) (h : Nat) : lx_n (va_up F k (some h)) = lx_n F + 7 := by
  have h5 : k = 0 ∨ k = 1 ∨ k = 2 ∨ k = 3 ∨ k = 4 := by omega
  rcases h5 with rfl | rfl | rfl | rfl | rfl <;> simp [lx_n, va_up, hF, lx_n1] <;> omega
theorem lx_c_up {F : Nat → Option Nat} {k : Nat} (hk : k < 5) (hF : F k = none) (h : Nat) : lx_c (va_up F k (some h)) = lx_c F + (8 * tw_P k + 26) := by
  have h5 : k = 0 ∨ k = 1 ∨ k = 2 ∨ k = 3 ∨ k = 4 := by omega
  rcases h5 with rfl | rfl | rfl | rfl | rfl <;> simp [lx_c, va_up, hF, lx_c1] <;> omega
/-- the law's world between two calls -/
def lx_I (D : va_G) (d0 dc dr ou m0 mx my mr mb : Nat) (cA cQ cL : ClassId) (A : Nat → Prop) (F : Nat → Option Nat) (H : Heap) : Prop := ∃ (k : Nat) (R : Nat → Nat × Nat) (h0 ai ar af ap ah ac : Nat) (hk : Int32) (rg fi fr ff fp fh fn : Nat → Int32) (fo : Nat → Int64) (th sx sy : Int32) (fx fy fm fb : Nat → Int32) (oth : va_W), va_P D vwCl (lw_U d0 dc dr h0 ai ar af ap ah ac ou cA cL k hk rg fi fr ff fp fh fn fo ++ (lw_M m0 mx my mr mb cA k th sx sy fx fy fm fb ++ ((dc, .inl (cQ, 5, .inr (.inr (.inr (.inr F))))) :: oth))) H ∧ va_D A (lw_U d0 dc dr h0 ai ar af ap ah ac ou cA cL k hk rg fi fr ff fp fh fn fo ++ (lw_M m0 mx my mr mb cA k th sx sy fx fy fm fb ++ ((dc, .inl (cQ, 5, .inr (.inr (.inr (.inr F))))) :: oth))) ∧ k < 5 ∧ F k = some h0 ∧ cv_ok k fi fr ff ∧ cv_hv k hk fh fn ∧ (∀ j, j < 12 → tw_on (tw_P k) (tw_D k) (R j) ∧ rg j = nI (tw_en (R j))) ∧ (∀ j, j < 12 → tw_on (tw_P k) (tw_D k) (R j) ∧ fx j = nI (R j).1 ∧ fy j = nI (R j).2) ∧ (∀ j, j < tw_P k → fm j = tw_rv (tw_P k) j) ∧ lx_B fb ∧ lx_O cA F k oth
theorem lx_mk {D : va_G} {d0 dc dr ou m0 mx my mr mb : Nat} {cA cQ cL : ClassId} {A : Nat → Prop} {F : Nat → Option Nat} {H : Heap} {k : Nat} {R : Nat → Nat × Nat} {h0 ai ar af ap ah ac : Nat} {hk : Int32} {rg fi fr ff fp fh fn : Nat → Int32} {fo : Nat → Int64} {th sx sy : Int32} {fx fy fm fb : Nat → Int32} {oth : va_W} (hP : va_P D vwCl (lw_U d0 dc dr h0 ai ar af ap ah ac ou cA cL k hk rg fi fr ff fp fh fn fo ++ (lw_M m0 mx my mr mb cA k th sx sy fx fy fm fb ++ ((dc, .inl (cQ, 5, .inr (.inr (.inr (.inr F))))) :: oth))) H) (hD : va_D A (lw_U d0 dc dr h0 ai ar af ap ah ac ou cA cL k hk rg fi fr ff fp fh fn fo ++ (lw_M m0 mx my mr mb cA k th sx sy fx fy fm fb ++ ((dc, .inl (cQ, 5, .inr (.inr (.inr (.inr F))))) :: oth)))) (hq : k < 5 ∧ F k = some h0 ∧ cv_ok k fi fr ff ∧ cv_hv k hk fh fn ∧ (∀ j, j < 12 → tw_on (tw_P k) (tw_D k) (R j) ∧ rg j = nI (tw_en (R j))) ∧ (∀ j, j < 12 → tw_on (tw_P k) (tw_D k) (R j) ∧ fx j = nI (R j).1 ∧ fy j = nI (R j).2) ∧ (∀ j, j < tw_P k → fm j = tw_rv (tw_P k) j) ∧ lx_B fb ∧ lx_O cA F k oth) : lx_I D d0 dc dr ou m0 mx my mr mb cA cQ cL A F H := ⟨k, R, h0, ai, ar, af, ap, ah, ac, hk, rg, fi, fr, ff, fp, fh, fn, fo, th, sx, sy, fx, fy, fm, fb, oth, hP, hD, hq⟩
/-- what stays the same through the law -/
def lx_C (p : Program) (l : Launch) (s : State) (m : MethodId) (c : Code) (b L : Nat) (xs : Nat → Int32) (gs : Nat → Nat) (tp : Nat) (D : va_G) (cA cQ cL : ClassId) : Prop :=
  p.tables.exec = Jvm.exec ∧ c.code = cLaw ∧ c.maxLocals = 8 ∧ s.vm.findClass RL = some m.cls ∧ (∀ w ∈ tb_all, w.before #[Value.ref b] s = true) ∧ va_X b L xs s s.heap ∧ b < s.heap.size ∧ nx_K l gs (fun q => s.heap.size ≤ q) s s.heap ∧ tw_Z tp (fun q => s.heap.size ≤ q) s s.heap ∧ va_K D vwCl [(cA, .int), (cQ, .object RX0), (cL, .long)] s ∧ L ≤ 4096
abbrev lx_lg (a b : Int32) : Int64 := (a.toInt64 <<< ((nI 32).toInt64 &&& 63)) ||| (b.toInt64 &&& lN 4294967295)
section LXR
variable {p : Program} {l : Launch} {e : Env} {R : Room} {s : State} {m : MethodId} {args : Array Value} {below : List Frame} {meth : Method} {c : Code} {H : Heap} {locs : List Loc} {cells slots : Nat} {Q : State → Prop} {cc : ByteArray} {pc : Nat} {ls : Array Slot} {rest : List Value}
theorem lx_lor (hexec : p.tables.exec = Jvm.exec) (hb : c.code = cc) {x y v : Int64} (hdg : decode cc pc = .ok (.lor, 1)) (hv : x ||| y = v)
    (k : W p l e R s m args below meth c H locs cells slots Q (F0 m (pc + 1) ls (.long v :: rest))) : W p l e R s m args below meth c H locs cells slots Q (F0 m pc ls (.long y :: .long x :: rest)) := by
  subst hv
  exact lv_lor hexec hb hdg k
theorem lx_lcmp (hexec : p.tables.exec = Jvm.exec) (hb : c.code = cc) {x : Int64} (hdg : decode cc pc = .ok (.lcmp, 1))
    (k : W p l e R s m args below meth c H locs cells slots Q (F0 m (pc + 1) ls (.int 0 :: rest))) : W p l e R s m args below meth c H locs cells slots Q (F0 m pc ls (.long x :: .long x :: rest)) := by
  refine W.lcmp hexec hb hdg ?_
  rw [show lg_cmp x x = 0 from by unfold lg_cmp; simp]
  exact k
end LXR
theorem lx_kp {D : va_G} {cl : List vw_C} {ws : va_W} {H H1 : Heap} (hP : va_P D cl ws H) (hk : ∀ q : Nat, q < H.size → ¬ False → H1[q]? = H[q]?) : va_P D cl ws H1 := hP.kept (fun i q hi => hk q.1 (hP i q hi).lt (fun h => h))
theorem lx_15 (z : Int32) : ∃ t, t < 16 ∧ z &&& nI 15 = nI t := by
  refine ⟨z.toBitVec.toNat % 16, Nat.mod_lt _ (by decide), ?_⟩
  apply Int32.toBitVec_inj.mp
  show z.toBitVec &&& BitVec.ofNat 32 15 = BitVec.ofNat 32 (z.toBitVec.toNat % 16)
  apply BitVec.eq_of_toNat_eq
  have h := z.toBitVec.isLt
  rw [BitVec.toNat_and, BitVec.toNat_ofNat, BitVec.toNat_ofNat]
  have e1 : 15 % 2 ^ 32 = 2 ^ 4 - 1 := by decide
  rw [e1, Nat.and_two_pow_sub_one_eq_mod, Nat.mod_eq_of_lt (a := z.toBitVec.toNat % 16) (by omega)]
theorem lx_nn {z : Int32} (h : ¬ z < 0) : ∃ n, n < 2 ^ 31 ∧ z = nI n := by
  rw [Int32.lt_iff_toInt_lt] at h
  have e0 : (0 : Int32).toInt = 0 := by decide
  rw [e0] at h
  have h2 := Int32.toInt_lt z
  refine ⟨z.toInt.toNat, by omega, ?_⟩
  apply Int32.toInt_inj.mp
  rw [nI_toInt (by omega)]
  omega
theorem lx_ln {z : Int64} (h : ¬ z.toInt < 0) : ∃ n, n < 2 ^ 63 ∧ z = lN n := by
  have h2 := Int64.toInt_lt z
  refine ⟨z.toInt.toNat, by omega, ?_⟩
  apply Int64.toInt_inj.mp
  show z.toInt = (BitVec.ofNat 64 z.toInt.toNat).toInt
  rw [BitVec.toInt_ofNat']
  simp only [Int.bmod_def]
  omega
theorem lx_5 {z : Int32} (h : ¬ (z < 0 ∨ nI 4 < z)) : ∃ k, k < 5 ∧ z = nI k := by
  refine md_lo (fun q => h (Or.inl q)) (fun q => h (Or.inr ?_)) (by decide)
  rw [Int32.le_iff_toInt_le] at q
  rw [Int32.lt_iff_toInt_lt]
  have e1 : (nI 4).toInt = 4 := by decide
  have e2 : (nI 5).toInt = 5 := by decide
  omega
theorem lx_w {z : Int32} (h : ¬ (z.toInt < 0 ∨ 4 < z.toInt)) : ∃ w, w < 5 ∧ z = nI w := by
  refine ⟨z.toInt.toNat, by omega, ?_⟩
  apply Int32.toInt_inj.mp
  rw [nI_toInt (by omega)]
  omega
theorem lx_b (z : Int32) : ∃ b, b ≤ 1 ∧ (z = 0 → b = 0) ∧ (z ≠ 0 → b = 1) := by
  by_cases h : z = 0
  · exact ⟨0, Nat.zero_le _, fun _ => rfl, fun q => absurd h q⟩
  · exact ⟨1, Nat.le_refl _, fun q => absurd q h, fun _ => rfl⟩
/-- a register is written: both sides of it -/
theorem lx_rg {P D j : Nat} {R : Nat → Nat × Nat} {rg : Nat → Int32} {q : Nat × Nat} (hq : tw_on P D q) (h : ∀ j, j < 12 → tw_on P D (R j) ∧ rg j = nI (tw_en (R j))) : ∀ i, i < 12 → tw_on P D (va_up R j q i) ∧ upd rg j (nI (tw_en q)) i = nI (tw_en (va_up R j q i)) := by
  intro i hi
  by_cases e : i = j
  · subst e; rw [va_up_self]; exact ⟨hq, if_pos rfl⟩
  · rw [va_up_ne _ _ e]; exact ⟨(h i hi).1, (if_neg e).trans (h i hi).2⟩
theorem lx_rR {P D j : Nat} {R : Nat → Nat × Nat} {fx fy : Nat → Int32} {q : Nat × Nat} (hq : tw_on P D q) (h : ∀ j, j < 12 → tw_on P D (R j) ∧ fx j = nI (R j).1 ∧ fy j = nI (R j).2) : ∀ i, i < 12 → tw_on P D (va_up R j q i) ∧ upd fx j (nI q.1) i = nI (va_up R j q i).1 ∧ upd fy j (nI q.2) i = nI (va_up R j q i).2 := by
  intro i hi
  by_cases e : i = j
  · subst e; rw [va_up_self]; exact ⟨hq, if_pos rfl, if_pos rfl⟩
  · rw [va_up_ne _ _ e]; exact ⟨(h i hi).1, (if_neg e).trans (h i hi).2.1, (if_neg e).trans (h i hi).2.2⟩
/-- all registers are NEUTRAL -/
theorem lx_one {k : Nat} (hk : k < 5) : tw_on (tw_P k) (tw_D k) (0, 1) := tw_on0 (tw_kK k hk)
theorem nx_preSR {l : Launch} {gs : Nat → Nat} {A : Nat → Prop} {s : State} {H : Heap} {locs : List Loc} {d0 : Nat} (As : List Value) (hZ : nx_K l gs A s s.heap) (hS : va_S A s.heap H locs) (hc : ∃ cell : Cell, H[d0]? = some cell ∧ cell.vm.isStatics = false ∧ s.vm.findClass RX1 = some cell.cls) : PreS s H (va_Pc As (fun U => nx_K l gs (fun _ => False) U U.heap ∧ nx_R d0 U)) As :=
  ⟨fun a U g mk q => ⟨q.1, nx_K.warm (s := U) (U := U.calling g mk a) (State.WarmedH.refl U) q.2.1, q.2.2⟩, fun U hU hW => ⟨rfl, by show nx_K l gs (fun _ => False) U U.heap; rw [hU]; exact ((hZ.kept hS.2.1).narrow (fun _ h => h.elim)).warm hW, by obtain ⟨cell, a1, a2, a3⟩ := hc; exact ⟨cell, by rw [hU]; exact a1, a2, by rw [hW.alike.findClass]; exact a3⟩⟩⟩
theorem nx_preSZ {l : Launch} {gs : Nat → Nat} {A : Nat → Prop} {tp : Nat} {s : State} {H : Heap} {locs : List Loc} {d0 : Nat} (As : List Value) (hZ : nx_K l gs A s s.heap) (hT : tw_Z tp A s s.heap) (hS : va_S A s.heap H locs) (hc : ∃ cell : Cell, H[d0]? = some cell ∧ cell.vm.isStatics = false ∧ s.vm.findClass RX1 = some cell.cls) : PreS s H (va_Pc As (fun U => nx_K l gs (fun _ => False) U U.heap ∧ tw_Z tp (fun _ => False) U U.heap ∧ nx_R d0 U)) As :=
  ⟨fun a U g mk q => ⟨q.1, nx_K.warm (s := U) (U := U.calling g mk a) (State.WarmedH.refl U) q.2.1, tw_Z.moved (u := U) (U := U.calling g mk a) (Vm.Alike.refl U.vm) q.2.2.1, q.2.2.2⟩, fun U hU hW => ⟨rfl, by show nx_K l gs (fun _ => False) U U.heap; rw [hU]; exact ((hZ.kept hS.2.1).narrow (fun _ h => h.elim)).warm hW, by rw [hU]; exact tw_Z.moved hW.alike ((hT.kept hS.2.1).narrow (fun _ h => h.elim)), by obtain ⟨cell, a1, a2, a3⟩ := hc; exact ⟨cell, by rw [hU]; exact a1, a2, by rw [hW.alike.findClass]; exact a3⟩⟩⟩
theorem nx_preSW {l : Launch} {gs : Nat → Nat} {A : Nat → Prop} {D : va_G} {tys : List (ClassId × FieldType)} {WS : va_W} {s : State} {H : Heap} {locs : List Loc} (As : List Value) (hZ : nx_K l gs A s s.heap) (hS : va_S A s.heap H locs) (hP : va_P D vwCl WS H) (hK : va_K D vwCl tys s) : PreS s H (va_Pc As (fun U => nx_K l gs (fun _ => False) U U.heap ∧ va_P D vwCl WS U.heap ∧ va_K D vwCl tys U)) As :=
  ⟨fun a U g mk q => ⟨q.1, nx_K.warm (s := U) (U := U.calling g mk a) (State.WarmedH.refl U) q.2.1, q.2.2.1, va_K.moved (u := U) (U := U.calling g mk a) (Vm.Alike.refl U.vm) q.2.2.2⟩, fun U hU hW => ⟨rfl, by show nx_K l gs (fun _ => False) U U.heap; rw [hU]; exact ((hZ.kept hS.2.1).narrow (fun _ h => h.elim)).warm hW, by rw [hU]; exact hP, va_K.moved hW.alike hK⟩⟩
theorem wz_preS {tp : Nat} {D : va_G} {tys : List (ClassId × FieldType)} {WS : va_W} {A A1 : Nat → Prop} {s : State} {H : Heap} {locs : List Loc} (As : List Value) (hP : va_P D vwCl WS H) (hK : va_K D vwCl tys s) (hD : va_D A1 WS) (hZ : tw_Z tp A s s.heap) (hS : va_S A s.heap H locs) (hF : ∀ q, va_A WS H.size q → A q) : PreS s H (va_Pc As (wz_pre tp D tys WS H.size)) As :=
  ⟨fun a U g mk q => ⟨q.1, ⟨q.2.1.1, q.2.1.2.1, va_K.moved (u := U) (U := U.calling g mk a) (Vm.Alike.refl U.vm) q.2.1.2.2.1, q.2.1.2.2.2⟩, tw_Z.moved (u := U) (U := U.calling g mk a) (Vm.Alike.refl U.vm) q.2.2⟩, fun U hU hW => ⟨rfl, ⟨by rw [hU], by rw [hU]; exact hP, va_K.moved hW.alike hK, hD.weaken (fun _ _ _ _ => trivial)⟩, by rw [hU]; exact tw_Z.moved hW.alike ((hZ.kept hS.2.1).narrow hF)⟩⟩
