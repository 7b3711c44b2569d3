/-! ===== lN to 2^62 under >> and >>> ===== -/
theorem pf_lI {a : Nat} (h : a < 2 ^ 63) : (lN a).toInt = (a : Int) := lg_ofNat_toInt h
theorem pf_shr {a d : Nat} {D : Int64} (hD : (D.toBitVec.smod 64).toNat = d) (h : a < 2 ^ 62) : lN a >>> D = lN (a / 2 ^ d) := by
  have hd : a / 2 ^ d ≤ a := Nat.div_le_self _ _
  apply Int64.toInt_inj.mp
  have e : (lN a >>> D).toInt = (lN a).toInt >>> d := by
    rw [← hD]
    exact BitVec.toInt_sshiftRight ..
  rw [e, Int.shiftRight_eq_div_pow, pf_lI (by omega), pf_lI (by omega)]
  rfl
theorem pf_ushr {a d : Nat} {D : UInt64} (hD : D.toNat % 64 = d) (h : a < 2 ^ 62) : ((lN a).toUInt64 >>> D).toInt64 = lN (a / 2 ^ d) := by
  have hd : a / 2 ^ d ≤ a := Nat.div_le_self _ _
  have e : (lN a).toUInt64 >>> D = UInt64.ofNat (a / 2 ^ d) := UInt64.toNat_inj.mp (by
    rw [UInt64.toNat_shiftRight, hD, Nat.shiftRight_eq_div_pow, UInt64.toNat_ofNat']
    show (UInt64.ofNat a).toNat / 2 ^ d = _
    rw [UInt64.toNat_ofNat', Nat.mod_eq_of_lt (by omega), Nat.mod_eq_of_lt (by omega)])
  rw [e]
  rfl
theorem pf_andw (x : Int64) : ∃ m, m < 2 ^ 32 ∧ x &&& 4294967295 = lN m := ⟨x.toBitVec.toNat % 2 ^ 32, Nat.mod_lt _ (by decide), Int64.toBitVec_inj.mp (BitVec.eq_of_toNat_eq (by
  show (x.toBitVec &&& 4294967295#64).toNat = (BitVec.ofNat 64 (x.toBitVec.toNat % 2 ^ 32)).toNat
  rw [BitVec.toNat_and, show (4294967295#64).toNat = 2 ^ 32 - 1 from by decide, Nat.and_two_pow_sub_one_eq_mod, BitVec.toNat_ofNat]
  omega))⟩

/-! digits of 16 bits -/
def d16 (f : Nat → Int32) (n : Nat) : Prop := ∀ j, j < n → un (f j) < 65536
theorem nrm16_of_ge {f : Nat → Int32} {k : Nat} (hd : d16 f (k + 1)) (h : 65536 ^ k ≤ dvb 65536 f (k + 1)) : nrm f (k + 1) := by
  intro j hj e0
  have hjk : j = k := by omega
  subst hjk
  have h1 : dvb 65536 f (j + 1) = dvb 65536 f j + un (f j) * 65536 ^ j := rfl
  rw [e0, un_0] at h1
  have h2 : dvb 65536 f j < 65536 ^ j := dvb_lt (fun i hi => hd i (by omega))
  omega
theorem nrm16_ge {f : Nat → Int32} {k : Nat} (h : nrm f (k + 1)) : 65536 ^ k ≤ dvb 65536 f (k + 1) := dvb_ge (h k rfl)
theorem d16_lt {f : Nat → Int32} {n : Nat} (h : d16 f n) : dvb 65536 f n < 65536 ^ n := dvb_lt h
theorem d16_upd {f : Nat → Int32} {n : Nat} {v : Nat} (h : d16 f n) (hv : v < 65536) : d16 (upd f n (nI v)) (n + 1) := by
  intro j hj
  rcases (show j < n ∨ j = n by omega) with h1 | h1
  · rw [pk_un (by omega)]; exact h j h1
  · rw [h1, pk_us, un_nI (by omega)]; exact hv
theorem sh16 (a : Nat) (h : a < 4611686018427387904) : lN a >>> ((nI 16).toInt64 &&& 63) = lN (a / 65536) := pf_shr (d := 16) (by decide) h
theorem m16 {a : Nat} (h : a < 18446744073709551616) : lN a &&& 65535 = lN (a % 65536) := wb_mask (k := 16) h (by decide)
theorem nI_or16 {a b : Nat} (ha : a < 32768) (hb : b < 65536) : nI (a * 65536) ||| nI b = nI (a * 65536 + b) := by
  have h : (nI (a * 65536) ||| nI b).toBitVec = (nI (a * 65536 + b)).toBitVec := by
    show (nI (a * 65536)).toBitVec ||| (nI b).toBitVec = _
    apply BitVec.eq_of_toNat_eq
    rw [BitVec.toNat_or, pk_tn (by omega), pk_tn (by omega), pk_tn (by omega), Nat.mul_comm]
    exact (Nat.two_pow_add_eq_or_of_lt (i := 16) hb a).symm
  exact Int32.toBitVec_inj.mp h

set_option maxRecDepth 100000 in
set_option maxHeartbeats 4000000 in
theorem c_X4_isRadix (l : Launch) (D : va_G) (cB cI cC : ClassId) (x : Int32) : ROi l yX4_isRadix (Cond.code yX4_isRadix cX4_isRadix 1 (some .boolean)) 0 D (TY cB cI cC) [.int x] [] (fun r => (isR x ∧ r = 1) ∨ (¬ isR x ∧ r = 0)) := by
  refine ROi.of (by decide) (Nat.le_of_ble_eq_true rfl) ?_
  intro p e s m below meth c ls A hC hA hP hK hD hS hl
  obtain ⟨hx, hb, hr, hml, hown, hts, hlocks, hN⟩ := id hC
  have hown : s.vm.findClass RX4 = some m.cls := hown
  have hl : lv_has ls 1 [(0, .int x)] := hl
  refine lv_iload_n hx hb dX4_isRadix_0 rfl (lv_at hl 0 rfl) ?_
  refine lv_iconst (v := nI 1) hx hb dX4_isRadix_1 (by decide) ?_
  refine lv_icmp_le (tgt := 15) hx hb dX4_isRadix_2 (by decide) (fun hc => ?_) (fun hc => ?_)
  · refine lv_iconst (v := nI 0) hx hb dX4_isRadix_15 (by decide) ?_
    exact ri_zret hC (Or.inl rfl) (Or.inr ⟨fun ⟨n, h1, h2, e0⟩ => by rw [e0] at hc; exact nI_ge (a := 1) (b := n) (by omega) (by omega) hc, rfl⟩) dX4_isRadix_16
  · refine lv_iload_n hx hb dX4_isRadix_5 rfl (lv_at hl 0 rfl) ?_
    refine lv_bipush (v := nI 37) hx hb dX4_isRadix_6 (by decide) ?_
    refine lv_icmp_ge (tgt := 15) hx hb dX4_isRadix_8 (by decide) (fun hd => ?_) (fun hd => ?_)
    · refine lv_iconst (v := nI 0) hx hb dX4_isRadix_15 (by decide) ?_
      exact ri_zret hC (Or.inl rfl) (Or.inr ⟨fun ⟨n, h1, h2, e0⟩ => by rw [e0] at hd; exact nI_ge (a := n) (b := 37) (by omega) (by decide) hd, rfl⟩) dX4_isRadix_16
    · refine lv_iconst (v := nI 1) hx hb dX4_isRadix_11 (by decide) ?_
      refine lv_goto (tgt := 16) hx hb dX4_isRadix_12 (by decide) ?_
      exact ri_zret hC (Or.inr rfl) (Or.inl ⟨isR_of (fun h9 => hc (by have h1 := Int32.lt_iff_toInt_lt.mp h9; rw [Int32.le_iff_toInt_le]; rw [nI_toInt (by decide)] at *; omega)) (fun h9 => hd (by have h1 := Int32.lt_iff_toInt_lt.mp h9; rw [Int32.le_iff_toInt_le]; rw [nI_toInt (by decide)] at *; omega)), rfl⟩) dX4_isRadix_16

set_option maxRecDepth 100000 in
set_option maxHeartbeats 4000000 in
theorem c_X4_isWidth (l : Launch) (D : va_G) (cB cI cC : ClassId) (x : Int32) : ROi l yX4_isWidth (Cond.code yX4_isWidth cX4_isWidth 1 (some .boolean)) 0 D (TY cB cI cC) [.int x] [] (fun r => (isWd x ∧ r = 1) ∨ (¬ isWd x ∧ r = 0)) := by
  refine ROi.of (by decide) (Nat.le_of_ble_eq_true rfl) ?_
  intro p e s m below meth c ls A hC hA hP hK hD hS hl
  obtain ⟨hx, hb, hr, hml, hown, hts, hlocks, hN⟩ := id hC
  have hown : s.vm.findClass RX4 = some m.cls := hown
  have hl : lv_has ls 1 [(0, .int x)] := hl
  refine lv_iload_n hx hb dX4_isWidth_0 rfl (lv_at hl 0 rfl) ?_
  refine lv_bipush (v := nI 32) hx hb dX4_isWidth_1 (by decide) ?_
  refine lv_icmp_eq (tgt := 12) hx hb dX4_isWidth_3 (by decide) (fun hc => ?_) (fun hc => ?_)
  · refine lv_iconst (v := nI 1) hx hb dX4_isWidth_12 (by decide) ?_
    refine lv_goto (tgt := 17) hx hb dX4_isWidth_13 (by decide) ?_
    exact ri_zret hC (Or.inr rfl) (Or.inl ⟨Or.inl hc, rfl⟩) dX4_isWidth_17
  · refine lv_iload_n hx hb dX4_isWidth_6 rfl (lv_at hl 0 rfl) ?_
    refine lv_bipush (v := nI 64) hx hb dX4_isWidth_7 (by decide) ?_
    refine lv_icmp_ne (tgt := 16) hx hb dX4_isWidth_9 (by decide) (fun hd => ?_) (fun hd => ?_)
    · refine lv_iconst (v := nI 0) hx hb dX4_isWidth_16 (by decide) ?_
      exact ri_zret hC (Or.inl rfl) (Or.inr ⟨fun h9 => h9.elim hc hd, rfl⟩) dX4_isWidth_17
    · refine lv_iconst (v := nI 1) hx hb dX4_isWidth_12 (by decide) ?_
      refine lv_goto (tgt := 17) hx hb dX4_isWidth_13 (by decide) ?_
      exact ri_zret hC (Or.inr rfl) (Or.inl ⟨Or.inr hd, rfl⟩) dX4_isWidth_17

theorem dgv_d {c : Nat} (h : 48 ≤ c ∧ c ≤ 57) : dgv c = c - 48 := if_pos h
theorem dgv_a {c : Nat} (h : 97 ≤ c ∧ c ≤ 122) : dgv c = c - 87 := by unfold dgv; rw [if_neg (by omega), if_pos h]
theorem dgv_A {c : Nat} (h : 65 ≤ c ∧ c ≤ 90) : dgv c = c - 55 := by unfold dgv; rw [if_neg (by omega), if_neg (by omega), if_pos h]
theorem dgv_n {c : Nat} (h1 : ¬ (48 ≤ c ∧ c ≤ 57)) (h2 : ¬ (97 ≤ c ∧ c ≤ 122)) (h3 : ¬ (65 ≤ c ∧ c ≤ 90)) : dgv c = 36 := by unfold dgv; rw [if_neg h1, if_neg h2, if_neg h3]
def dgm (c : Nat) : Nat := if dgv c < 36 then dgv c else 99

set_option maxRecDepth 100000 in
set_option maxHeartbeats 4000000 in
theorem c_X4_digit (l : Launch) (D : va_G) (cB cI cC : ClassId) (c0 : Nat) (hc0 : c0 < 256) : ROi l yX4_digit (Cond.code yX4_digit cX4_digit 1 (some .int)) 0 D (TY cB cI cC) [.int (nI c0)] [] (fun r => r = nI (dgm c0)) := by
  refine ROi.of (by decide) (Nat.le_of_ble_eq_true rfl) ?_
  intro p e s m below meth c ls A hC hA hP hK hD hS hl
  obtain ⟨hx, hb, hr, hml, hown, hts, hlocks, hN⟩ := id hC
  have hown : s.vm.findClass RX4 = some m.cls := hown
  have hl : lv_has ls 1 [(0, .int (nI c0))] := hl
  refine lv_iload_n hx hb dX4_digit_0 rfl (lv_at hl 0 rfl) ?_
  refine lv_bipush (v := nI 48) hx hb dX4_digit_1 (by decide) ?_
  refine dm_icmp_lt (tgt := 19) hx hb (by omega) (by omega) dX4_digit_3 (by decide) (fun h1 => ?_) (fun h1 => ?_)
  · refine lv_iload_n hx hb dX4_digit_19 rfl (lv_at hl 0 rfl) ?_
    refine lv_bipush (v := nI 97) hx hb dX4_digit_20 (by decide) ?_
    refine dm_icmp_lt (tgt := 41) hx hb (by omega) (by omega) dX4_digit_22 (by decide) (fun h3 => ?_) (fun h3 => ?_)
    · refine lv_iload_n hx hb dX4_digit_41 rfl (lv_at hl 0 rfl) ?_
      refine lv_bipush (v := nI 65) hx hb dX4_digit_42 (by decide) ?_
      refine dm_icmp_lt (tgt := 63) hx hb (by omega) (by omega) dX4_digit_44 (by decide) (fun h5 => ?_) (fun h5 => ?_)
      · refine lv_bipush (v := nI 99) hx hb dX4_digit_63 (by decide) ?_
        exact ri_iret hC (by unfold dgm; rw [dgv_n (by omega) (by omega) (by omega)]; rfl) dX4_digit_65
      · refine lv_iload_n hx hb dX4_digit_47 rfl (lv_at hl 0 rfl) ?_
        refine lv_bipush (v := nI 90) hx hb dX4_digit_48 (by decide) ?_
        refine dm_icmp_gt (tgt := 63) hx hb (by omega) (by omega) dX4_digit_50 (by decide) (fun h6 => ?_) (fun h6 => ?_)
        · refine lv_bipush (v := nI 99) hx hb dX4_digit_63 (by decide) ?_
          exact ri_iret hC (by unfold dgm; rw [dgv_n (by omega) (by omega) (by omega)]; rfl) dX4_digit_65
        · refine lv_iload_n hx hb dX4_digit_53 rfl (lv_at hl 0 rfl) ?_
          refine lv_bipush (v := nI 65) hx hb dX4_digit_54 (by decide) ?_
          refine lv_isub hx hb dX4_digit_56 ?_
          refine dm_ti (y := nI (c0 - 65)) (pk_sub (by omega)) ?_
          refine lv_bipush (v := nI 10) hx hb dX4_digit_57 (by decide) ?_
          refine lv_iadd hx hb dX4_digit_59 ?_
          refine dm_ti (y := nI (c0 - 65 + 10)) (nI_add _ _) ?_
          refine lv_goto (tgt := 65) hx hb dX4_digit_60 (by decide) ?_
          exact ri_iret hC (by unfold dgm; rw [dgv_A (by omega), if_pos (by omega)]; congr 1; omega) dX4_digit_65
    · refine lv_iload_n hx hb dX4_digit_25 rfl (lv_at hl 0 rfl) ?_
      refine lv_bipush (v := nI 122) hx hb dX4_digit_26 (by decide) ?_
      refine dm_icmp_gt (tgt := 41) hx hb (by omega) (by omega) dX4_digit_28 (by decide) (fun h4 => ?_) (fun h4 => ?_)
      · refine lv_iload_n hx hb dX4_digit_41 rfl (lv_at hl 0 rfl) ?_
        refine lv_bipush (v := nI 65) hx hb dX4_digit_42 (by decide) ?_
        refine dm_icmp_lt (tgt := 63) hx hb (by omega) (by omega) dX4_digit_44 (by decide) (fun h5 => ?_) (fun h5 => ?_)
        · refine lv_bipush (v := nI 99) hx hb dX4_digit_63 (by decide) ?_
          exact ri_iret hC (by unfold dgm; rw [dgv_n (by omega) (by omega) (by omega)]; rfl) dX4_digit_65
        · refine lv_iload_n hx hb dX4_digit_47 rfl (lv_at hl 0 rfl) ?_
          refine lv_bipush (v := nI 90) hx hb dX4_digit_48 (by decide) ?_
          refine dm_icmp_gt (tgt := 63) hx hb (by omega) (by omega) dX4_digit_50 (by decide) (fun h6 => ?_) (fun h6 => ?_)
          · refine lv_bipush (v := nI 99) hx hb dX4_digit_63 (by decide) ?_
            exact ri_iret hC (by unfold dgm; rw [dgv_n (by omega) (by omega) (by omega)]; rfl) dX4_digit_65
          · refine lv_iload_n hx hb dX4_digit_53 rfl (lv_at hl 0 rfl) ?_
            refine lv_bipush (v := nI 65) hx hb dX4_digit_54 (by decide) ?_
            refine lv_isub hx hb dX4_digit_56 ?_
            refine dm_ti (y := nI (c0 - 65)) (pk_sub (by omega)) ?_
            refine lv_bipush (v := nI 10) hx hb dX4_digit_57 (by decide) ?_
            refine lv_iadd hx hb dX4_digit_59 ?_
            refine dm_ti (y := nI (c0 - 65 + 10)) (nI_add _ _) ?_
            refine lv_goto (tgt := 65) hx hb dX4_digit_60 (by decide) ?_
            exact ri_iret hC (by unfold dgm; rw [dgv_A (by omega), if_pos (by omega)]; congr 1; omega) dX4_digit_65
      · refine lv_iload_n hx hb dX4_digit_31 rfl (lv_at hl 0 rfl) ?_
        refine lv_bipush (v := nI 97) hx hb dX4_digit_32 (by decide) ?_
        refine lv_isub hx hb dX4_digit_34 ?_
        refine dm_ti (y := nI (c0 - 97)) (pk_sub (by omega)) ?_
        refine lv_bipush (v := nI 10) hx hb dX4_digit_35 (by decide) ?_
        refine lv_iadd hx hb dX4_digit_37 ?_
        refine dm_ti (y := nI (c0 - 97 + 10)) (nI_add _ _) ?_
        refine lv_goto (tgt := 65) hx hb dX4_digit_38 (by decide) ?_
        exact ri_iret hC (by unfold dgm; rw [dgv_a (by omega), if_pos (by omega)]; congr 1; omega) dX4_digit_65
  · refine lv_iload_n hx hb dX4_digit_6 rfl (lv_at hl 0 rfl) ?_
    refine lv_bipush (v := nI 57) hx hb dX4_digit_7 (by decide) ?_
    refine dm_icmp_gt (tgt := 19) hx hb (by omega) (by omega) dX4_digit_9 (by decide) (fun h2 => ?_) (fun h2 => ?_)
    · refine lv_iload_n hx hb dX4_digit_19 rfl (lv_at hl 0 rfl) ?_
      refine lv_bipush (v := nI 97) hx hb dX4_digit_20 (by decide) ?_
      refine dm_icmp_lt (tgt := 41) hx hb (by omega) (by omega) dX4_digit_22 (by decide) (fun h3 => ?_) (fun h3 => ?_)
      · refine lv_iload_n hx hb dX4_digit_41 rfl (lv_at hl 0 rfl) ?_
        refine lv_bipush (v := nI 65) hx hb dX4_digit_42 (by decide) ?_
        refine dm_icmp_lt (tgt := 63) hx hb (by omega) (by omega) dX4_digit_44 (by decide) (fun h5 => ?_) (fun h5 => ?_)
        · refine lv_bipush (v := nI 99) hx hb dX4_digit_63 (by decide) ?_
          exact ri_iret hC (by unfold dgm; rw [dgv_n (by omega) (by omega) (by omega)]; rfl) dX4_digit_65
        · refine lv_iload_n hx hb dX4_digit_47 rfl (lv_at hl 0 rfl) ?_
          refine lv_bipush (v := nI 90) hx hb dX4_digit_48 (by decide) ?_
          refine dm_icmp_gt (tgt := 63) hx hb (by omega) (by omega) dX4_digit_50 (by decide) (fun h6 => ?_) (fun h6 => ?_)
          · refine lv_bipush (v := nI 99) hx hb dX4_digit_63 (by decide) ?_
            exact ri_iret hC (by unfold dgm; rw [dgv_n (by omega) (by omega) (by omega)]; rfl) dX4_digit_65
          · refine lv_iload_n hx hb dX4_digit_53 rfl (lv_at hl 0 rfl) ?_
            refine lv_bipush (v := nI 65) hx hb dX4_digit_54 (by decide) ?_
            refine lv_isub hx hb dX4_digit_56 ?_
            refine dm_ti (y := nI (c0 - 65)) (pk_sub (by omega)) ?_
            refine lv_bipush (v := nI 10) hx hb dX4_digit_57 (by decide) ?_
            refine lv_iadd hx hb dX4_digit_59 ?_
            refine dm_ti (y := nI (c0 - 65 + 10)) (nI_add _ _) ?_
            refine lv_goto (tgt := 65) hx hb dX4_digit_60 (by decide) ?_
            exact ri_iret hC (by unfold dgm; rw [dgv_A (by omega), if_pos (by omega)]; congr 1; omega) dX4_digit_65
      · refine lv_iload_n hx hb dX4_digit_25 rfl (lv_at hl 0 rfl) ?_
        refine lv_bipush (v := nI 122) hx hb dX4_digit_26 (by decide) ?_
        refine dm_icmp_gt (tgt := 41) hx hb (by omega) (by omega) dX4_digit_28 (by decide) (fun h4 => ?_) (fun h4 => ?_)
        · refine lv_iload_n hx hb dX4_digit_41 rfl (lv_at hl 0 rfl) ?_
          refine lv_bipush (v := nI 65) hx hb dX4_digit_42 (by decide) ?_
          refine dm_icmp_lt (tgt := 63) hx hb (by omega) (by omega) dX4_digit_44 (by decide) (fun h5 => ?_) (fun h5 => ?_)
          · refine lv_bipush (v := nI 99) hx hb dX4_digit_63 (by decide) ?_
            exact ri_iret hC (by unfold dgm; rw [dgv_n (by omega) (by omega) (by omega)]; rfl) dX4_digit_65
          · refine lv_iload_n hx hb dX4_digit_47 rfl (lv_at hl 0 rfl) ?_
            refine lv_bipush (v := nI 90) hx hb dX4_digit_48 (by decide) ?_
            refine dm_icmp_gt (tgt := 63) hx hb (by omega) (by omega) dX4_digit_50 (by decide) (fun h6 => ?_) (fun h6 => ?_)
            · refine lv_bipush (v := nI 99) hx hb dX4_digit_63 (by decide) ?_
              exact ri_iret hC (by unfold dgm; rw [dgv_n (by omega) (by omega) (by omega)]; rfl) dX4_digit_65
            · refine lv_iload_n hx hb dX4_digit_53 rfl (lv_at hl 0 rfl) ?_
              refine lv_bipush (v := nI 65) hx hb dX4_digit_54 (by decide) ?_
              refine lv_isub hx hb dX4_digit_56 ?_
              refine dm_ti (y := nI (c0 - 65)) (pk_sub (by omega)) ?_
              refine lv_bipush (v := nI 10) hx hb dX4_digit_57 (by decide) ?_
              refine lv_iadd hx hb dX4_digit_59 ?_
              refine dm_ti (y := nI (c0 - 65 + 10)) (nI_add _ _) ?_
              refine lv_goto (tgt := 65) hx hb dX4_digit_60 (by decide) ?_
              exact ri_iret hC (by unfold dgm; rw [dgv_A (by omega), if_pos (by omega)]; congr 1; omega) dX4_digit_65
        · refine lv_iload_n hx hb dX4_digit_31 rfl (lv_at hl 0 rfl) ?_
          refine lv_bipush (v := nI 97) hx hb dX4_digit_32 (by decide) ?_
          refine lv_isub hx hb dX4_digit_34 ?_
          refine dm_ti (y := nI (c0 - 97)) (pk_sub (by omega)) ?_
          refine lv_bipush (v := nI 10) hx hb dX4_digit_35 (by decide) ?_
          refine lv_iadd hx hb dX4_digit_37 ?_
          refine dm_ti (y := nI (c0 - 97 + 10)) (nI_add _ _) ?_
          refine lv_goto (tgt := 65) hx hb dX4_digit_38 (by decide) ?_
          exact ri_iret hC (by unfold dgm; rw [dgv_a (by omega), if_pos (by omega)]; congr 1; omega) dX4_digit_65
    · refine lv_iload_n hx hb dX4_digit_12 rfl (lv_at hl 0 rfl) ?_
      refine lv_bipush (v := nI 48) hx hb dX4_digit_13 (by decide) ?_
      refine lv_isub hx hb dX4_digit_15 ?_
      refine dm_ti (y := nI (c0 - 48)) (pk_sub (by omega)) ?_
      refine lv_goto (tgt := 65) hx hb dX4_digit_16 (by decide) ?_
      exact ri_iret hC (by unfold dgm; rw [dgv_d (by omega), if_pos (by omega)]) dX4_digit_65

theorem c16 : ∀ c, c < 128 → ((nI c).toUInt32 % 65536).toInt32 = nI c := by decide
theorem narC {c : Nat} (h : c < 128) : vp_nar .char (nI c) = nI c := by rw [vp_nar_char]; have := c16 c h; revert this; revert h; revert c; decide

set_option maxRecDepth 100000 in
set_option maxHeartbeats 4000000 in
theorem c_X4_character (l : Launch) (D : va_G) (cB cI cC : ClassId) (d0 : Nat) (hd0 : d0 < 36) : ROi l yX4_character (Cond.code yX4_character cX4_character 1 (some .char)) 0 D (TY cB cI cC) [.int (nI d0)] [] (fun r => r = nI (cdv d0)) := by
  refine ROi.of (by decide) (Nat.le_of_ble_eq_true rfl) ?_
  intro p e s m below meth c ls A hC hA hP hK hD hS hl
  obtain ⟨hx, hb, hr, hml, hown, hts, hlocks, hN⟩ := id hC
  have hown : s.vm.findClass RX4 = some m.cls := hown
  have hl : lv_has ls 1 [(0, .int (nI d0))] := hl
  refine lv_iload_n hx hb dX4_character_0 rfl (lv_at hl 0 rfl) ?_
  refine lv_bipush (v := nI 10) hx hb dX4_character_1 (by decide) ?_
  refine dm_icmp_ge (tgt := 13) hx hb (by omega) (by omega) dX4_character_3 (by decide) (fun h1 => ?_) (fun h1 => ?_)
  · refine lv_bipush (v := nI 97) hx hb dX4_character_13 (by decide) ?_
    refine lv_iload_n hx hb dX4_character_15 rfl (lv_at hl 0 rfl) ?_
    refine lv_iadd hx hb dX4_character_16 ?_
    refine dm_ti (y := nI (97 + d0)) (nI_add _ _) ?_
    refine lv_bipush (v := nI 10) hx hb dX4_character_17 (by decide) ?_
    refine lv_isub hx hb dX4_character_19 ?_
    refine dm_ti (y := nI (cdv d0)) (by rw [pk_sub (by omega)]; unfold cdv; rw [if_neg (by omega)]; congr 1; omega) ?_
    refine lv_i2c (v := nI (cdv d0)) hx hb dX4_character_20 (c16 _ (cdv_lt hd0)) ?_
    exact W.zret hx hb hr (by have h9 : cdv d0 < 128 := cdv_lt hd0; revert h9; generalize cdv d0 = z; revert z; decide) (fun t ht _ => ⟨_, rfl, rfl, ht⟩) (fun q h => by cases h) dX4_character_21 hlocks
  · refine lv_bipush (v := nI 48) hx hb dX4_character_6 (by decide) ?_
    refine lv_iload_n hx hb dX4_character_8 rfl (lv_at hl 0 rfl) ?_
    refine lv_iadd hx hb dX4_character_9 ?_
    refine dm_ti (y := nI (cdv d0)) (by rw [nI_add]; unfold cdv; rw [if_pos (by omega)]) ?_
    refine lv_goto (tgt := 20) hx hb dX4_character_10 (by decide) ?_
    refine lv_i2c (v := nI (cdv d0)) hx hb dX4_character_20 (c16 _ (cdv_lt hd0)) ?_
    exact W.zret hx hb hr (by have h9 : cdv d0 < 128 := cdv_lt hd0; revert h9; generalize cdv d0 = z; revert z; decide) (fun t ht _ => ⟨_, rfl, rfl, ht⟩) (fun q h => by cases h) dX4_character_21 hlocks

set_option maxRecDepth 100000 in
set_option maxHeartbeats 4000000 in
theorem c_X4_timesAdd (l : Launch) (D : va_G) (cB cI cC : ClassId) (g gi go gn gr kt kw kz ks : Nat) (th : Int32) (kv : Int64) (kr : Nat → Int32) (b mo : Nat) (hks : ks ≤ 4096) (hd : d16 kr ks) (hb1 : 0 < b) (hbb : b < 2 ^ 31) (hmo : mo < 2 ^ 31) : MI l yX4_timesAdd (Cond.code yX4_timesAdd cX4_timesAdd 6 (some .boolean)) 0 D (TY cB cI cC) [.ref g, .int (nI b), .int (nI mo)] [(g, .inr (4, [.int th, .int (nI kt), .ref gi, .int (nI kw), .ref go, .int (nI kz), .ref gn, .int (nI ks), .ref gr, .long kv])), (gr, .inl (cI, 4096, .inl kr))] (S := (Nat → Int32) × Nat) (fun r q => (r = 1 ∧ q.2 ≤ 4096 ∧ d16 q.1 q.2 ∧ dvb 65536 q.1 q.2 = dvb 65536 kr ks * b + mo ∧ (nrm kr ks → nrm q.1 q.2)) ∨ (r = 0 ∧ q.2 ≤ 4096 ∧ 65536 ^ 4096 ≤ dvb 65536 kr ks * b + mo)) (fun q => [(g, .inr (4, [.int th, .int (nI kt), .ref gi, .int (nI kw), .ref go, .int (nI kz), .ref gn, .int (nI q.2), .ref gr, .long kv])), (gr, .inl (cI, 4096, .inl q.1))]) := by
  refine MI.of (by decide) (Nat.le_of_ble_eq_true rfl) ?_
  intro p e s m below meth c ls A hC hA hP hK hD hS hl
  obtain ⟨hx, hb, hr, hml, hown, hts, hlocks, hN⟩ := id hC
  have hown : s.vm.findClass RX4 = some m.cls := hown
  have hl : lv_has ls 6 [(0, .ref g), (1, .int (nI b)), (2, .int (nI mo))] := hl
  refine lv_iload_n hx hb dX4_timesAdd_0 rfl (lv_at hl 2 rfl) ?_
  refine lv_i2l (v := lN mo) hx hb dX4_timesAdd_1 (nI_l hmo) ?_
  refine lv_lstore_n (lv' := [(3, .long (lN mo)), (0, .ref g), (1, .int (nI b)), (2, .int (nI mo))]) hx hb dX4_timesAdd_2 rfl hl (by decide) rfl (fun ls hl => ?_)
  refine lv_iconst (v := nI 0) hx hb dX4_timesAdd_3 (by decide) ?_
  refine lv_istore (lv' := [(5, .int (nI 0)), (3, .long (lN mo)), (0, .ref g), (1, .int (nI b)), (2, .int (nI mo))]) hx hb dX4_timesAdd_4 hl (by decide) rfl (fun ls hl => ?_)
  refine dm_loop (nL := 6) (head := 6) (P := fun (x : Nat × Nat × (Nat → Int32)) => x.1 ≤ ks ∧ x.2.1 < 2147483648 ∧ d16 x.2.2 ks ∧ dvb 65536 x.2.2 x.1 + x.2.1 * 65536 ^ x.1 = dvb 65536 kr x.1 * b + mo ∧ ∀ j, x.1 ≤ j → x.2.2 j = kr j) (w := fun x => [(g, .inr (4, [.int th, .int (nI kt), .ref gi, .int (nI kw), .ref go, .int (nI kz), .ref gn, .int (nI ks), .ref gr, .long kv])), (gr, .inl (cI, 4096, .inl x.2.2))]) (lv := fun x => [(5, .int (nI x.1)), (3, .long (lN x.2.1)), (0, .ref g), (1, .int (nI b)), (2, .int (nI mo))]) (μ := fun x => ks - x.1) ?_ (0, mo, kr) ⟨Nat.zero_le _, hmo, hd, by simp [dvb], fun _ _ => rfl⟩ hP hD hS hl
  rintro ⟨i, car, F⟩ H locs ls ⟨hi, hcar, hdF, hinv, hge⟩ hP hD hS hl ih
  dsimp only at hi hcar hdF hinv hge
  have hP : va_P D vwCl [(g, .inr (4, [.int th, .int (nI kt), .ref gi, .int (nI kw), .ref go, .int (nI kz), .ref gn, .int (nI ks), .ref gr, .long kv])), (gr, .inl (cI, 4096, .inl F))] H := hP
  have hD : va_D A [(g, .inr (4, [.int th, .int (nI kt), .ref gi, .int (nI kw), .ref go, .int (nI kz), .ref gn, .int (nI ks), .ref gr, .long kv])), (gr, .inl (cI, 4096, .inl F))] := hD
  have hl : lv_has ls 6 [(5, .int (nI i)), (3, .long (lN car)), (0, .ref g), (1, .int (nI b)), (2, .int (nI mo))] := hl
  refine lv_iload hx hb dX4_timesAdd_6 (lv_at hl 0 rfl) ?_
  refine lv_aload_n hx hb dX4_timesAdd_8 rfl (lv_at hl 2 rfl) ?_
  refine va_get (D := D) (ci := 4) (C := RX4) (T := TX4) (N := 10) (v := .int (nI ks)) hx hb hts kin_X4_w hown hK hP 0 rfl rfl 7 (by decide) (hts _ kfl_X4_28) (fun _ h9 => h9) rfl dX4_timesAdd_9 ?_
  refine dm_icmp_ge (tgt := 53) hx hb (by omega) (by omega) dX4_timesAdd_12 (by decide) (fun hc => ?_) (fun hc => ?_)
  · have hik : i = ks := by omega
    have hl0 := hl
    have hP0 := hP
    have hD0 := hD
    have hS0 := hS
    clear ih
    rw [hik] at hinv
    refine dm_loop (nL := 6) (head := 53) (P := fun (x : Nat × (Nat → Int32) × Nat) => x.1 < 2147483648 ∧ x.2.2 ≤ 4096 ∧ d16 x.2.1 x.2.2 ∧ dvb 65536 x.2.1 x.2.2 + x.1 * 65536 ^ x.2.2 = dvb 65536 kr ks * b + mo ∧ (nrm kr ks → x.1 = 0 → nrm x.2.1 x.2.2)) (w := fun x => [(g, .inr (4, [.int th, .int (nI kt), .ref gi, .int (nI kw), .ref go, .int (nI kz), .ref gn, .int (nI x.2.2), .ref gr, .long kv])), (gr, .inl (cI, 4096, .inl x.2.1))]) (lv := fun x => [(3, .long (lN x.1)), (0, .ref g), (1, .int (nI b)), (2, .int (nI mo))]) (μ := fun x => x.1) ?_ (car, F, ks) ⟨hcar, hks, hdF, hinv, ?_⟩ hP hD hS (lv_sub hl [1, 2, 3, 4] rfl)
    · clear hinv hcar hdF hge hl hP hD hS hl0 hP0 hD0 hS0
      rintro ⟨ca, G, S⟩ H locs ls ⟨hca, hSl, hdG, hinv, hnz⟩ hP hD hS hl ih
      dsimp only at hca hSl hdG hinv hnz
      have hP : va_P D vwCl [(g, .inr (4, [.int th, .int (nI kt), .ref gi, .int (nI kw), .ref go, .int (nI kz), .ref gn, .int (nI S), .ref gr, .long kv])), (gr, .inl (cI, 4096, .inl G))] H := hP
      have hD : va_D A [(g, .inr (4, [.int th, .int (nI kt), .ref gi, .int (nI kw), .ref go, .int (nI kz), .ref gn, .int (nI S), .ref gr, .long kv])), (gr, .inl (cI, 4096, .inl G))] := hD
      have hl : lv_has ls 6 [(3, .long (lN ca)), (0, .ref g), (1, .int (nI b)), (2, .int (nI mo))] := hl
      refine lv_lload_n hx hb dX4_timesAdd_53 rfl (lv_at hl 0 rfl) ?_
      refine lv_lconst (v := lN 0) hx hb dX4_timesAdd_54 (by decide) ?_
      refine dm_lc_le (tgt := 104) hx hb (by omega) (by omega) dX4_timesAdd_55 dX4_timesAdd_56 (by decide) (fun hz => ?_) (fun hz => ?_)
      · have hz : ca = 0 := by omega
        refine lv_iconst (v := nI 1) hx hb dX4_timesAdd_104 (by decide) ?_
        exact dm_zret (v := nI 1) hC (Or.inr rfl) hK (G, S) (Or.inl ⟨rfl, hSl, hdG, by show dvb _ G S = _; rw [hz] at hinv; omega, fun h9 => hnz h9 hz⟩) hP hD hS dX4_timesAdd_105
      · refine lv_aload_n hx hb dX4_timesAdd_59 rfl (lv_at hl 1 rfl) ?_
        refine va_get (D := D) (ci := 4) (C := RX4) (T := TX4) (N := 10) (v := .int (nI S)) hx hb hts kin_X4_w hown hK hP 0 rfl rfl 7 (by decide) (hts _ kfl_X4_28) (fun _ h9 => h9) rfl dX4_timesAdd_60 ?_
        refine lv_sipush (v := nI 4096) hx hb dX4_timesAdd_63 (by decide) ?_
        refine dm_icmp_ne (tgt := 71) hx hb (by omega) (by omega) dX4_timesAdd_66 (by decide) (fun he => ?_) (fun he => ?_)
        · refine lv_aload_n hx hb dX4_timesAdd_71 rfl (lv_at hl 1 rfl) ?_
          refine va_get (D := D) (ci := 4) (C := RX4) (T := TX4) (N := 10) (v := .ref gr) hx hb hts kin_X4_w hown hK hP 0 rfl rfl 8 (by decide) (hts _ kfl_X4_21) (fun _ h9 => h9) rfl dX4_timesAdd_72 ?_
          refine lv_aload_n hx hb dX4_timesAdd_75 rfl (lv_at hl 1 rfl) ?_
          refine va_get (D := D) (ci := 4) (C := RX4) (T := TX4) (N := 10) (v := .int (nI S)) hx hb hts kin_X4_w hown hK hP 0 rfl rfl 7 (by decide) (hts _ kfl_X4_28) (fun _ h9 => h9) rfl dX4_timesAdd_76 ?_
          refine lv_lload_n hx hb dX4_timesAdd_79 rfl (lv_at hl 0 rfl) ?_
          refine lv_ldc2 (v := 65535) hx hb hown (hts _ kct_X4_31) dX4_timesAdd_80 ?_
          refine lv_land hx hb dX4_timesAdd_83 ?_
          refine dm_tl (y := lN (ca % 65536)) (m16 (by omega)) ?_
          refine lv_l2i (v := nI (ca % 65536)) hx hb dX4_timesAdd_84 (lN_low) ?_
          refine dm_iast (j := S) (f' := upd G S (nI (ca % 65536))) hx hb hK hP hD hS 1 1 rfl rfl (by omega) (by decide) (rfl) dX4_timesAdd_85 (fun H locs hP hD hS => ?_)
          have hP : va_P D vwCl [(g, .inr (4, [.int th, .int (nI kt), .ref gi, .int (nI kw), .ref go, .int (nI kz), .ref gn, .int (nI S), .ref gr, .long kv])), (gr, .inl (cI, 4096, .inl (upd G S (nI (ca % 65536)))))] H := hP
          have hD : va_D A [(g, .inr (4, [.int th, .int (nI kt), .ref gi, .int (nI kw), .ref go, .int (nI kz), .ref gn, .int (nI S), .ref gr, .long kv])), (gr, .inl (cI, 4096, .inl (upd G S (nI (ca % 65536)))))] := hD
          refine lv_aload_n hx hb dX4_timesAdd_86 rfl (lv_at hl 1 rfl) ?_
          refine lv_dup hx hb dX4_timesAdd_87 rfl ?_
          refine va_get (D := D) (ci := 4) (C := RX4) (T := TX4) (N := 10) (v := .int (nI S)) hx hb hts kin_X4_w hown hK hP 0 rfl rfl 7 (by decide) (hts _ kfl_X4_28) (fun _ h9 => h9) rfl dX4_timesAdd_88 ?_
          refine lv_iconst (v := nI 1) hx hb dX4_timesAdd_91 (by decide) ?_
          refine lv_iadd hx hb dX4_timesAdd_92 ?_
          refine dm_ti (y := nI (S + 1)) (nI_1 S) ?_
          refine va_put (D := D) (ci := 4) (v := .int (nI (S + 1))) (ty := .int) (C := RX4) (T := TX4) (N := 10) hx hb hts kin_X4_w tyX4 tyX4_ok nmX4 hown hK hP hD hS 0 rfl rfl 7 (by decide) (hts _ kfl_X4_28) (fun _ h9 => h9) rfl (by decide +kernel) rfl rfl (Nat.le_of_ble_eq_true rfl) dX4_timesAdd_93 (fun H locs hP hD hS => ?_)
          have hP : va_P D vwCl [(g, .inr (4, [.int th, .int (nI kt), .ref gi, .int (nI kw), .ref go, .int (nI kz), .ref gn, .int (nI (S + 1)), .ref gr, .long kv])), (gr, .inl (cI, 4096, .inl (upd G S (nI (ca % 65536)))))] H := hP
          have hD : va_D A [(g, .inr (4, [.int th, .int (nI kt), .ref gi, .int (nI kw), .ref go, .int (nI kz), .ref gn, .int (nI (S + 1)), .ref gr, .long kv])), (gr, .inl (cI, 4096, .inl (upd G S (nI (ca % 65536)))))] := hD
          refine lv_lload_n hx hb dX4_timesAdd_96 rfl (lv_at hl 0 rfl) ?_
          refine lv_bipush (v := nI 16) hx hb dX4_timesAdd_97 (by decide) ?_
          refine lv_lshr (v := lN (ca / 65536)) hx hb dX4_timesAdd_99 (sh16 _ (by omega)) ?_
          refine lv_lstore_n (lv' := [(3, .long (lN (ca / 65536))), (0, .ref g), (1, .int (nI b)), (2, .int (nI mo))]) hx hb dX4_timesAdd_100 rfl hl (by decide) rfl (fun ls hl => ?_)
          refine lv_goto (tgt := 53) hx hb dX4_timesAdd_101 (by decide) ?_
          refine ih (ca / 65536, upd G S (nI (ca % 65536)), S + 1) H locs ls (by show ca / 65536 < ca; omega) ⟨by show ca / 65536 < _; omega, by show S + 1 ≤ 4096; omega, d16_upd hdG (by omega), ?_, fun _ h9 => ?_⟩ hP hD hS (lv_sub hl [0, 1, 2, 3] rfl)
          · show dvb 65536 (upd G S _) S + un (upd G S _ S) * 65536 ^ S + ca / 65536 * 65536 ^ (S + 1) = _
            rw [dvb_upd (Nat.le_refl _), pk_us, un_nI (by omega), ← hinv, Nat.pow_succ]
            have h8 := Nat.div_add_mod ca 65536
            generalize ca / 65536 = c1 at *
            generalize ca % 65536 = c0 at *
            rw [← h8]
            grind
          · have h9 : ca / 65536 = 0 := h9
            show nrm (upd G S _) (S + 1)
            intro k hk
            rw [show k = S by omega, pk_us]
            exact nI_ne0' (by omega) (by omega)
        · refine lv_iconst (v := nI 0) hx hb dX4_timesAdd_69 (by decide) ?_
          refine dm_zret (v := nI 0) hC (Or.inl rfl) hK (G, S) (Or.inr ⟨rfl, hSl, ?_⟩) hP hD hS dX4_timesAdd_70
          rw [← hinv, he]
          have h8 : 1 * 65536 ^ 4096 ≤ ca * 65536 ^ 4096 := Nat.mul_le_mul_right _ (by omega)
          omega
    · intro hn0 hz
      have hz : car = 0 := hz
      show nrm F ks
      rw [hz] at hinv
      cases ks with
      | zero => exact nrm_0 F
      | succ k =>
        refine nrm16_of_ge hdF ?_
        have h5 := nrm16_ge hn0
        have h6 : dvb 65536 kr (k + 1) * 1 ≤ dvb 65536 kr (k + 1) * b := Nat.mul_le_mul_left _ hb1
        omega
  · have hw := hd i hc
    have hF := hge i (Nat.le_refl i)
    obtain ⟨sm, hsm⟩ : ∃ z, z = un (kr i) * b + car := ⟨_, rfl⟩
    have hsb : sm < 140737488355328 := by
      have h1 : un (kr i) * b ≤ 65535 * 2147483647 := Nat.mul_le_mul (by omega) (by omega)
      omega
    refine lv_lload_n hx hb dX4_timesAdd_15 rfl (lv_at hl 1 rfl) ?_
    refine lv_aload_n hx hb dX4_timesAdd_16 rfl (lv_at hl 2 rfl) ?_
    refine va_get (D := D) (ci := 4) (C := RX4) (T := TX4) (N := 10) (v := .ref gr) hx hb hts kin_X4_w hown hK hP 0 rfl rfl 8 (by decide) (hts _ kfl_X4_21) (fun _ h9 => h9) rfl dX4_timesAdd_17 ?_
    refine lv_iload hx hb dX4_timesAdd_20 (lv_at hl 0 rfl) ?_
    refine dm_iald (j := i) hx hb hK hP 1 1 rfl rfl (by omega) (by decide) dX4_timesAdd_22 ?_
    refine dm_ti (y := nI (un (kr i))) (by rw [hF, nI_un]) ?_
    refine lv_i2l (v := lN (un (kr i))) hx hb dX4_timesAdd_23 (nI_l (by omega)) ?_
    refine lv_iload_n hx hb dX4_timesAdd_24 rfl (lv_at hl 3 rfl) ?_
    refine lv_i2l (v := lN b) hx hb dX4_timesAdd_25 (nI_l hbb) ?_
    refine lv_lmul hx hb dX4_timesAdd_26 ?_
    refine dm_tl (y := lN (un (kr i) * b)) (lN_mul _ _) ?_
    refine lv_ladd hx hb dX4_timesAdd_27 ?_
    refine dm_tl (y := lN sm) (by rw [lN_add, hsm, Nat.add_comm]) ?_
    refine lv_lstore_n (lv' := [(3, .long (lN sm)), (5, .int (nI i)), (0, .ref g), (1, .int (nI b)), (2, .int (nI mo))]) hx hb dX4_timesAdd_28 rfl hl (by decide) rfl (fun ls hl => ?_)
    refine lv_aload_n hx hb dX4_timesAdd_29 rfl (lv_at hl 2 rfl) ?_
    refine va_get (D := D) (ci := 4) (C := RX4) (T := TX4) (N := 10) (v := .ref gr) hx hb hts kin_X4_w hown hK hP 0 rfl rfl 8 (by decide) (hts _ kfl_X4_21) (fun _ h9 => h9) rfl dX4_timesAdd_30 ?_
    refine lv_iload hx hb dX4_timesAdd_33 (lv_at hl 1 rfl) ?_
    refine lv_lload_n hx hb dX4_timesAdd_35 rfl (lv_at hl 0 rfl) ?_
    refine lv_ldc2 (v := 65535) hx hb hown (hts _ kct_X4_31) dX4_timesAdd_36 ?_
    refine lv_land hx hb dX4_timesAdd_39 ?_
    refine dm_tl (y := lN (sm % 65536)) (m16 (by omega)) ?_
    refine lv_l2i (v := nI (sm % 65536)) hx hb dX4_timesAdd_40 (lN_low) ?_
    refine dm_iast (j := i) (f' := upd F i (nI (sm % 65536))) hx hb hK hP hD hS 1 1 rfl rfl (by omega) (by decide) (rfl) dX4_timesAdd_41 (fun H locs hP hD hS => ?_)
    have hP : va_P D vwCl [(g, .inr (4, [.int th, .int (nI kt), .ref gi, .int (nI kw), .ref go, .int (nI kz), .ref gn, .int (nI ks), .ref gr, .long kv])), (gr, .inl (cI, 4096, .inl (upd F i (nI (sm % 65536)))))] H := hP
    have hD : va_D A [(g, .inr (4, [.int th, .int (nI kt), .ref gi, .int (nI kw), .ref go, .int (nI kz), .ref gn, .int (nI ks), .ref gr, .long kv])), (gr, .inl (cI, 4096, .inl (upd F i (nI (sm % 65536)))))] := hD
    refine lv_lload_n hx hb dX4_timesAdd_42 rfl (lv_at hl 0 rfl) ?_
    refine lv_bipush (v := nI 16) hx hb dX4_timesAdd_43 (by decide) ?_
    refine lv_lshr (v := lN (sm / 65536)) hx hb dX4_timesAdd_45 (sh16 _ (by omega)) ?_
    refine lv_lstore_n (lv' := [(3, .long (lN (sm / 65536))), (5, .int (nI i)), (0, .ref g), (1, .int (nI b)), (2, .int (nI mo))]) hx hb dX4_timesAdd_46 rfl hl (by decide) rfl (fun ls hl => ?_)
    refine lv_iinc (v := nI (i + 1)) (lv' := [(5, .int (nI (i + 1))), (3, .long (lN (sm / 65536))), (0, .ref g), (1, .int (nI b)), (2, .int (nI mo))]) hx hb dX4_timesAdd_47 hl (k := 1) rfl ((nI_succ i).symm) (by decide) rfl (fun ls hl => ?_)
    refine lv_goto (tgt := 6) hx hb dX4_timesAdd_50 (by decide) ?_
    refine ih (i + 1, sm / 65536, upd F i (nI (sm % 65536))) H locs ls (by show ks - (i + 1) < ks - i; omega) ⟨by show i + 1 ≤ ks; omega, ?_, fun j hj => ?_, ?_, fun j hj => ?_⟩ hP hD hS (lv_sub hl [0, 1, 2, 3, 4] rfl)
    · show sm / 65536 < 2147483648
      have h1 : un (kr i) * b ≤ 65535 * b := Nat.mul_le_mul_right _ (by omega)
      have h2 : sm ≤ 65535 * 2147483647 + 2147483647 := by
        have h3 : un (kr i) * b ≤ 65535 * 2147483647 := Nat.mul_le_mul (by omega) (by omega)
        omega
      omega
    · show un (upd F i _ j) < 65536
      by_cases h6 : j = i
      · rw [h6, pk_us, un_nI (by omega)]; omega
      · rw [pk_un h6]; exact hdF j hj
    · show dvb 65536 (upd F i _) i + un (upd F i _ i) * 65536 ^ i + sm / 65536 * 65536 ^ (i + 1) = _
      rw [dvb_upd (Nat.le_refl i), pk_us, un_nI (by omega), hsm]
      exact dvb_mul_step (by decide) hinv
    · show upd F i _ j = kr j
      have hj : i + 1 ≤ j := hj
      rw [pk_un (by omega)]
      exact hge j (by omega)
