/-! Math.floorMod by a number from 1 on -/
theorem fm_rem (z : Int64) {d : Nat} (h0 : 0 < d) (hd : d < 2 ^ 31) : (z - z / lN d * lN d).toInt = z.toInt.tmod d := by
  have hl : (lN d).toInt = d := lN_toInt hd
  have hne : lN d ≠ -1 := by
    intro e
    have q := congrArg Int64.toInt e
    rw [hl] at q
    have q2 : (-1 : Int64).toInt = -1 := by decide
    omega
  have hq : (z / lN d).toInt = z.toInt.tdiv d := by rw [Int64.toInt_div_of_ne_right _ _ hne, hl]
  have b1 := Int.tmod_lt_of_pos z.toInt (b := (d : Int)) (by omega)
  have b2 := Int.lt_tmod_of_pos z.toInt (b := (d : Int)) (by omega)
  rw [Int64.toInt_sub, Int64.toInt_mul, hq, hl, Int.sub_bmod_bmod]
  have e : z.toInt - z.toInt.tdiv d * d = z.toInt.tmod d := by
    rw [Int.tmod_def, Int.mul_comm]
  rw [e]
  exact Int.bmod_eq_of_le (by omega) (by omega)
theorem fm_ne {d : Nat} (h0 : 0 < d) (hd : d < 2 ^ 31) : ¬ lN d = 0 := by
  intro e
  have q := congrArg Int64.toInt e
  rw [lN_toInt hd] at q
  have q2 : (0 : Int64).toInt = 0 := by decide
  omega
theorem fm_eq {M : Int64} {z : Int} {d : Nat} (h0 : 0 < d) (hd : d < 2 ^ 31) (h : M.toInt = z % (d : Int)) : M = lN (z % (d : Int)).toNat := by
  have a1 : 0 ≤ z % (d : Int) := Int.emod_nonneg _ (by omega)
  have a2 : z % (d : Int) < d := Int.emod_lt_of_pos _ (by omega)
  apply Int64.toInt_inj.mp
  rw [h, lN_toInt (by omega), Int.toNat_of_nonneg a1]
theorem fm_A {z M : Int64} {d : Nat} (h0 : 0 < d) (hd : d < 2 ^ 31) (hM : M = z - z / lN d * lN d) (hz : 0 ≤ z.toInt) : M = lN (z.toInt % (d : Int)).toNat := by
  refine fm_eq h0 hd ?_
  rw [hM, fm_rem z h0 hd, Int.tmod_eq_emod_of_nonneg hz]
theorem fm_B {z M : Int64} {d : Nat} (h0 : 0 < d) (hd : d < 2 ^ 31) (hM : M = z - z / lN d * lN d) (hz : M = 0) : M = lN (z.toInt % (d : Int)).toNat := by
  refine fm_eq h0 hd ?_
  have q := congrArg Int64.toInt hz
  have q2 : (0 : Int64).toInt = 0 := by decide
  have q3 := q
  rw [hM, fm_rem z h0 hd, q2] at q3
  rw [q, q2]
  exact (Int.emod_eq_zero_of_dvd (Int.dvd_of_tmod_eq_zero q3)).symm
theorem fm_C {z M : Int64} {d : Nat} (h0 : 0 < d) (hd : d < 2 ^ 31) (hM : M = z - z / lN d * lN d) (hz : z.toInt < 0) (hne : ¬ M = 0) : M + lN d = lN (z.toInt % (d : Int)).toNat := by
  refine fm_eq h0 hd ?_
  have e1 : M.toInt = z.toInt.tmod d := by rw [hM, fm_rem z h0 hd]
  have q2 : (0 : Int64).toInt = 0 := by decide
  have hnd : ¬ (d : Int) ∣ z.toInt := by
    intro q
    refine hne (Int64.toInt_inj.mp ?_)
    rw [e1, q2, Int.tmod_eq_zero_of_dvd q]
  have e2 := Int.tmod_eq_emod (a := z.toInt) (b := (d : Int))
  rw [if_neg (by intro q; rcases q with q | q; omega; exact hnd q)] at e2
  have a1 : 0 ≤ z.toInt % (d : Int) := Int.emod_nonneg _ (by omega)
  have a2 : z.toInt % (d : Int) < d := Int.emod_lt_of_pos _ (by omega)
  rw [Int64.toInt_add, e1, lN_toInt hd, e2]
  have e3 : z.toInt % (d : Int) - ((d : Int).natAbs : Int) + d = z.toInt % (d : Int) := by
    rw [Int.natAbs_natCast]
    omega
  rw [e3]
  exact Int.bmod_eq_of_le (by omega) (by omega)
theorem fm_x (z : Int64) {d : Nat} (hd : d < 2 ^ 31) : 0 ≤ (z ^^^ lN d) ↔ 0 ≤ z.toInt := by
  rw [Int64.le_iff_toInt_le]
  have q2 : (0 : Int64).toInt = 0 := by decide
  rw [q2]
  have e1 : (z ^^^ lN d).toInt = (z.toBitVec ^^^ (lN d).toBitVec).toInt := rfl
  have m1 := BitVec.msb_eq_toInt (x := z.toBitVec ^^^ (lN d).toBitVec)
  have m2 := BitVec.msb_eq_toInt (x := z.toBitVec)
  have m3 := BitVec.msb_eq_toInt (x := (lN d).toBitVec)
  have e3 : (lN d).toBitVec.toInt = d := lN_toInt hd
  have e4 : z.toInt = z.toBitVec.toInt := rfl
  rw [BitVec.msb_xor, m2, m3, e3] at m1
  have q3 : decide ((d : Int) < 0) = false := decide_eq_false (by omega)
  rw [q3, Bool.xor_false] at m1
  rw [e1, e4]
  have m4 := decide_eq_decide.mp m1
  omega
set_option maxHeartbeats 4000000 in
set_option maxRecDepth 100000 in
theorem c_J9_floorMod (l : Launch) (z : Int64) {d : Nat} (h0 : 0 < d) (hd : d < 2 ^ 31) : Met l yJ9_floorMod wJ9_floorMod ({ frames := 0, cells := 0, slots := 0, locals := 0 }) (va_Pc [.long z, .long (lN d)] (fun _ => True)) (vp_Sl (fun r => r = lN (z.toInt % (d : Int)).toNat)) 0 0 (fun _ => False) := by
  refine va_MetF (cc := cJ9_floorMod) (maxL := 6) (ret := (some .long)) (by decide +kernel) rfl ?_
  intro p e s m args below meth c s₁ B hml hv
  obtain ⟨rfl, hv⟩ := hv
  have hx := B.exec
  have hb := B.bytes
  have hr := B.returns
  have hts := atoms_spec (ws := wJ9_floorMod) B.pre
  have ht : ∀ w ∈ tb_all, w.before _ s = true := fun w h => hts w (List.mem_cons_of_mem _ h)
  have hown : s.vm.findClass RJ9 = some m.cls := findClass_of_methodNamed B.named
  have hlocks := B.notSynchronized
  have hl := lv_entry ([.long z, .long (lN d)]) (n := 6) (Nat.le_of_ble_eq_true rfl)
  rw [lg_entry_eq]
  generalize (lg_sl ([.long z, .long (lN d)]) ++ List.replicate (6 - (lg_sl ([.long z, .long (lN d)])).length) Slot.unset).toArray = ls at hl ⊢
  have hl : lv_has ls 6 [(0, .long z), (2, .long (lN d))] := hl
  refine lv_lload_n hx hb dJ9_floorMod_0 rfl (lv_at hl 0 rfl) ?_
  refine lv_lload_n hx hb dJ9_floorMod_1 rfl (lv_at hl 1 rfl) ?_
  refine lv_lrem hx hb dJ9_floorMod_2 (fm_ne h0 hd) ?_
  refine lv_topl (fun M hM => ?_)
  refine lv_lstore hx hb dJ9_floorMod_3 hl (by decide) rfl (fun ls hl => ?_)
  have hl : lv_has ls 6 [(4, .long M), (0, .long z), (2, .long (lN d))] := hl
  refine lv_lload_n hx hb dJ9_floorMod_5 rfl (lv_at hl 1 rfl) ?_
  refine lv_lload_n hx hb dJ9_floorMod_6 rfl (lv_at hl 2 rfl) ?_
  refine lv_lxor hx hb dJ9_floorMod_7 ?_
  refine lv_lconst (v := 0) hx hb dJ9_floorMod_8 (by decide) ?_
  refine W.lcmp hx hb dJ9_floorMod_9 ?_
  refine lv_if_ge (tgt := 25) hx hb dJ9_floorMod_10 (by decide) (fun c1 => ?_) (fun c1 => ?_)
  · refine lv_lload hx hb dJ9_floorMod_25 (lv_at hl 0 rfl) ?_
    exact W.lret hx hb hr (fun t ht hW => ⟨_, rfl, fm_A h0 hd hM ((fm_x z hd).mp ((lg_cmp_ge _ _).mp c1)), ht⟩) (fun q h => nomatch h) dJ9_floorMod_27
  · refine lv_lload hx hb dJ9_floorMod_13 (lv_at hl 0 rfl) ?_
    refine lv_lconst (v := 0) hx hb dJ9_floorMod_15 (by decide) ?_
    refine W.lcmp hx hb dJ9_floorMod_16 ?_
    refine lv_if_eq (tgt := 25) hx hb dJ9_floorMod_17 (by decide) (fun c2 => ?_) (fun c2 => ?_)
    · refine lv_lload hx hb dJ9_floorMod_25 (lv_at hl 0 rfl) ?_
      exact W.lret hx hb hr (fun t ht hW => ⟨_, rfl, fm_B h0 hd hM ((lg_cmp_eq _ _).mp c2), ht⟩) (fun q h => nomatch h) dJ9_floorMod_27
    · refine lv_lload hx hb dJ9_floorMod_20 (lv_at hl 0 rfl) ?_
      refine lv_lload_n hx hb dJ9_floorMod_22 rfl (lv_at hl 2 rfl) ?_
      refine lv_ladd hx hb dJ9_floorMod_23 ?_
      exact W.lret hx hb hr (fun t ht hW => ⟨_, rfl, fm_C h0 hd hM (by have q : ¬ 0 ≤ z.toInt := fun q => c1 ((lg_cmp_ge _ _).mpr ((fm_x z hd).mpr q)); omega) (fun q => c2 ((lg_cmp_eq _ _).mpr q)), ht⟩) (fun q h => nomatch h) dJ9_floorMod_24
