/-! digits and their characters -/
def isR (x : Int32) : Prop := ∃ n : Nat, 2 ≤ n ∧ n ≤ 36 ∧ x = nI n
def isWd (x : Int32) : Prop := x = nI 32 ∨ x = nI 64
def dgv (c : Nat) : Nat := if 48 ≤ c ∧ c ≤ 57 then c - 48 else if 97 ≤ c ∧ c ≤ 122 then c - 87 else if 65 ≤ c ∧ c ≤ 90 then c - 55 else 36
def cdv (d : Nat) : Nat := if d < 10 then 48 + d else 87 + d
theorem dgv_le (c : Nat) : dgv c ≤ 36 := by unfold dgv; (repeat' split) <;> omega
theorem isR_of {x : Int32} (h1 : ¬ x < nI 2) (h2 : ¬ nI 36 < x) : isR x := by
  have h3 : ¬ x.toInt < (nI 2).toInt := fun q => h1 (Int32.lt_iff_toInt_lt.mpr q)
  have h4 : ¬ (nI 36).toInt < x.toInt := fun q => h2 (Int32.lt_iff_toInt_lt.mpr q)
  rw [nI_toInt (by decide)] at h3 h4
  obtain ⟨n, hn, rfl⟩ := nI_of (x := x) (fun q => by have := Int32.lt_iff_toInt_lt.mp q; rw [show (0 : Int32).toInt = 0 from rfl] at this; omega)
  rw [nI_toInt hn] at h3 h4
  exact ⟨n, by omega, by omega, rfl⟩
theorem isR_not1 {x : Int32} (h : x < nI 2) : ¬ isR x := fun ⟨n, h1, h2, e0⟩ => by
  rw [e0] at h
  exact nI_nlt h1 (by omega) h
theorem isR_not2 {x : Int32} (h : nI 36 < x) : ¬ isR x := fun ⟨n, h1, h2, e0⟩ => by
  rw [e0] at h
  exact nI_nlt h2 (by decide) h

set_option maxRecDepth 100000 in
set_option maxHeartbeats 4000000 in
theorem c_X3_isRadix (l : Launch) (D : va_G) (cB cI cC : ClassId) (x : Int32) : ROi l yX3_isRadix (Cond.code yX3_isRadix cX3_isRadix 1 (some .boolean)) 0 D (TY cB cI cC) [.int x] [] (fun r => (isR x ∧ r = 1) ∨ (¬ isR x ∧ r = 0)) := by
  refine ROi.of (by decide) (Nat.le_of_ble_eq_true rfl) ?_
  intro p e s m below meth c ls A hC hA hP hK hD hS hl
  obtain ⟨hx, hb, hr, hml, hown, hts, hlocks, hN⟩ := id hC
  have hown : s.vm.findClass RX3 = some m.cls := hown
  have hl : lv_has ls 1 [(0, .int x)] := hl
  refine lv_iload_n hx hb dX3_isRadix_0 rfl (lv_at hl 0 rfl) ?_
  refine lv_iconst (v := nI 2) hx hb dX3_isRadix_1 (by decide) ?_
  refine lv_icmp_lt (tgt := 15) hx hb dX3_isRadix_2 (by decide) (fun hc => ?_) (fun hc => ?_)
  · refine lv_iconst (v := nI 0) hx hb dX3_isRadix_15 (by decide) ?_
    exact ri_zret hC (Or.inl rfl) (Or.inr ⟨isR_not1 hc, rfl⟩) dX3_isRadix_16
  · refine lv_iload_n hx hb dX3_isRadix_5 rfl (lv_at hl 0 rfl) ?_
    refine lv_bipush (v := nI 36) hx hb dX3_isRadix_6 (by decide) ?_
    refine lv_icmp_gt (tgt := 15) hx hb dX3_isRadix_8 (by decide) (fun hd => ?_) (fun hd => ?_)
    · refine lv_iconst (v := nI 0) hx hb dX3_isRadix_15 (by decide) ?_
      exact ri_zret hC (Or.inl rfl) (Or.inr ⟨isR_not2 hd, rfl⟩) dX3_isRadix_16
    · refine lv_iconst (v := nI 1) hx hb dX3_isRadix_11 (by decide) ?_
      refine lv_goto (tgt := 16) hx hb dX3_isRadix_12 (by decide) ?_
      exact ri_zret hC (Or.inr rfl) (Or.inl ⟨isR_of hc hd, rfl⟩) dX3_isRadix_16

set_option maxRecDepth 100000 in
set_option maxHeartbeats 4000000 in
theorem c_X3_isWidth (l : Launch) (D : va_G) (cB cI cC : ClassId) (x : Int32) : ROi l yX3_isWidth (Cond.code yX3_isWidth cX3_isWidth 1 (some .boolean)) 0 D (TY cB cI cC) [.int x] [] (fun r => (isWd x ∧ r = 1) ∨ (¬ isWd x ∧ r = 0)) := by
  refine ROi.of (by decide) (Nat.le_of_ble_eq_true rfl) ?_
  intro p e s m below meth c ls A hC hA hP hK hD hS hl
  obtain ⟨hx, hb, hr, hml, hown, hts, hlocks, hN⟩ := id hC
  have hown : s.vm.findClass RX3 = some m.cls := hown
  have hl : lv_has ls 1 [(0, .int x)] := hl
  refine lv_iload_n hx hb dX3_isWidth_0 rfl (lv_at hl 0 rfl) ?_
  refine lv_bipush (v := nI 32) hx hb dX3_isWidth_1 (by decide) ?_
  refine lv_icmp_eq (tgt := 12) hx hb dX3_isWidth_3 (by decide) (fun hc => ?_) (fun hc => ?_)
  · refine lv_iconst (v := nI 1) hx hb dX3_isWidth_12 (by decide) ?_
    refine lv_goto (tgt := 17) hx hb dX3_isWidth_13 (by decide) ?_
    exact ri_zret hC (Or.inr rfl) (Or.inl ⟨Or.inl hc, rfl⟩) dX3_isWidth_17
  · refine lv_iload_n hx hb dX3_isWidth_6 rfl (lv_at hl 0 rfl) ?_
    refine lv_bipush (v := nI 64) hx hb dX3_isWidth_7 (by decide) ?_
    refine lv_icmp_ne (tgt := 16) hx hb dX3_isWidth_9 (by decide) (fun hd => ?_) (fun hd => ?_)
    · refine lv_iconst (v := nI 0) hx hb dX3_isWidth_16 (by decide) ?_
      exact ri_zret hC (Or.inl rfl) (Or.inr ⟨fun h9 => h9.elim hc hd, rfl⟩) dX3_isWidth_17
    · refine lv_iconst (v := nI 1) hx hb dX3_isWidth_12 (by decide) ?_
      refine lv_goto (tgt := 17) hx hb dX3_isWidth_13 (by decide) ?_
      exact ri_zret hC (Or.inr rfl) (Or.inl ⟨Or.inr hd, rfl⟩) dX3_isWidth_17

set_option maxRecDepth 100000 in
set_option maxHeartbeats 4000000 in
theorem c_X3_digitOf (l : Launch) (D : va_G) (cB cI cC : ClassId) (c0 : Nat) (hc0 : c0 < 256) : ROi l yX3_digitOf (Cond.code yX3_digitOf cX3_digitOf 1 (some .int)) 0 D (TY cB cI cC) [.int (nI c0)] [] (fun r => r = nI (dgv c0)) := by
  refine ROi.of (by decide) (Nat.le_of_ble_eq_true rfl) ?_
  intro p e s m below meth c ls A hC hA hP hK hD hS hl
  obtain ⟨hx, hb, hr, hml, hown, hts, hlocks, hN⟩ := id hC
  have hown : s.vm.findClass RX3 = some m.cls := hown
  have hl : lv_has ls 1 [(0, .int (nI c0))] := hl
  refine lv_iload_n hx hb dX3_digitOf_0 rfl (lv_at hl 0 rfl) ?_
  refine lv_bipush (v := nI 48) hx hb dX3_digitOf_1 (by decide) ?_
  refine dm_icmp_lt (tgt := 17) hx hb (by omega) (by omega) dX3_digitOf_3 (by decide) (fun h1 => ?_) (fun h1 => ?_)
  · refine lv_iload_n hx hb dX3_digitOf_17 rfl (lv_at hl 0 rfl) ?_
    refine lv_bipush (v := nI 97) hx hb dX3_digitOf_18 (by decide) ?_
    refine dm_icmp_lt (tgt := 37) hx hb (by omega) (by omega) dX3_digitOf_20 (by decide) (fun h3 => ?_) (fun h3 => ?_)
    · refine lv_iload_n hx hb dX3_digitOf_37 rfl (lv_at hl 0 rfl) ?_
      refine lv_bipush (v := nI 65) hx hb dX3_digitOf_38 (by decide) ?_
      refine dm_icmp_lt (tgt := 57) hx hb (by omega) (by omega) dX3_digitOf_40 (by decide) (fun h5 => ?_) (fun h5 => ?_)
      · refine lv_bipush (v := nI 36) hx hb dX3_digitOf_57 (by decide) ?_
        exact ri_iret hC (by unfold dgv; rw [if_neg (by omega), if_neg (by omega), if_neg (by omega)]) dX3_digitOf_59
      · refine lv_iload_n hx hb dX3_digitOf_43 rfl (lv_at hl 0 rfl) ?_
        refine lv_bipush (v := nI 90) hx hb dX3_digitOf_44 (by decide) ?_
        refine dm_icmp_gt (tgt := 57) hx hb (by omega) (by omega) dX3_digitOf_46 (by decide) (fun h6 => ?_) (fun h6 => ?_)
        · refine lv_bipush (v := nI 36) hx hb dX3_digitOf_57 (by decide) ?_
          exact ri_iret hC (by unfold dgv; rw [if_neg (by omega), if_neg (by omega), if_neg (by omega)]) dX3_digitOf_59
        · refine lv_iload_n hx hb dX3_digitOf_49 rfl (lv_at hl 0 rfl) ?_
          refine lv_bipush (v := nI 65) hx hb dX3_digitOf_50 (by decide) ?_
          refine lv_isub hx hb dX3_digitOf_52 ?_
          refine dm_ti (y := nI (c0 - 65)) (pk_sub (by omega)) ?_
          refine lv_bipush (v := nI 10) hx hb dX3_digitOf_53 (by decide) ?_
          refine lv_iadd hx hb dX3_digitOf_55 ?_
          refine dm_ti (y := nI (c0 - 65 + 10)) (nI_add _ _) ?_
          exact ri_iret hC (by unfold dgv; rw [if_neg (by omega), if_neg (by omega), if_pos (by omega)]; congr 1; omega) dX3_digitOf_56
    · refine lv_iload_n hx hb dX3_digitOf_23 rfl (lv_at hl 0 rfl) ?_
      refine lv_bipush (v := nI 122) hx hb dX3_digitOf_24 (by decide) ?_
      refine dm_icmp_gt (tgt := 37) hx hb (by omega) (by omega) dX3_digitOf_26 (by decide) (fun h4 => ?_) (fun h4 => ?_)
      · refine lv_iload_n hx hb dX3_digitOf_37 rfl (lv_at hl 0 rfl) ?_
        refine lv_bipush (v := nI 65) hx hb dX3_digitOf_38 (by decide) ?_
        refine dm_icmp_lt (tgt := 57) hx hb (by omega) (by omega) dX3_digitOf_40 (by decide) (fun h5 => ?_) (fun h5 => ?_)
        · refine lv_bipush (v := nI 36) hx hb dX3_digitOf_57 (by decide) ?_
          exact ri_iret hC (by unfold dgv; rw [if_neg (by omega), if_neg (by omega), if_neg (by omega)]) dX3_digitOf_59
        · refine lv_iload_n hx hb dX3_digitOf_43 rfl (lv_at hl 0 rfl) ?_
          refine lv_bipush (v := nI 90) hx hb dX3_digitOf_44 (by decide) ?_
          refine dm_icmp_gt (tgt := 57) hx hb (by omega) (by omega) dX3_digitOf_46 (by decide) (fun h6 => ?_) (fun h6 => ?_)
          · refine lv_bipush (v := nI 36) hx hb dX3_digitOf_57 (by decide) ?_
            exact ri_iret hC (by unfold dgv; rw [if_neg (by omega), if_neg (by omega), if_neg (by omega)]) dX3_digitOf_59
          · refine lv_iload_n hx hb dX3_digitOf_49 rfl (lv_at hl 0 rfl) ?_
            refine lv_bipush (v := nI 65) hx hb dX3_digitOf_50 (by decide) ?_
            refine lv_isub hx hb dX3_digitOf_52 ?_
            refine dm_ti (y := nI (c0 - 65)) (pk_sub (by omega)) ?_
            refine lv_bipush (v := nI 10) hx hb dX3_digitOf_53 (by decide) ?_
            refine lv_iadd hx hb dX3_digitOf_55 ?_
            refine dm_ti (y := nI (c0 - 65 + 10)) (nI_add _ _) ?_
            exact ri_iret hC (by unfold dgv; rw [if_neg (by omega), if_neg (by omega), if_pos (by omega)]; congr 1; omega) dX3_digitOf_56
      · refine lv_iload_n hx hb dX3_digitOf_29 rfl (lv_at hl 0 rfl) ?_
        refine lv_bipush (v := nI 97) hx hb dX3_digitOf_30 (by decide) ?_
        refine lv_isub hx hb dX3_digitOf_32 ?_
        refine dm_ti (y := nI (c0 - 97)) (pk_sub (by omega)) ?_
        refine lv_bipush (v := nI 10) hx hb dX3_digitOf_33 (by decide) ?_
        refine lv_iadd hx hb dX3_digitOf_35 ?_
        refine dm_ti (y := nI (c0 - 97 + 10)) (nI_add _ _) ?_
        exact ri_iret hC (by unfold dgv; rw [if_neg (by omega), if_pos (by omega)]; congr 1; omega) dX3_digitOf_36
  · refine lv_iload_n hx hb dX3_digitOf_6 rfl (lv_at hl 0 rfl) ?_
    refine lv_bipush (v := nI 57) hx hb dX3_digitOf_7 (by decide) ?_
    refine dm_icmp_gt (tgt := 17) hx hb (by omega) (by omega) dX3_digitOf_9 (by decide) (fun h2 => ?_) (fun h2 => ?_)
    · refine lv_iload_n hx hb dX3_digitOf_17 rfl (lv_at hl 0 rfl) ?_
      refine lv_bipush (v := nI 97) hx hb dX3_digitOf_18 (by decide) ?_
      refine dm_icmp_lt (tgt := 37) hx hb (by omega) (by omega) dX3_digitOf_20 (by decide) (fun h3 => ?_) (fun h3 => ?_)
      · refine lv_iload_n hx hb dX3_digitOf_37 rfl (lv_at hl 0 rfl) ?_
        refine lv_bipush (v := nI 65) hx hb dX3_digitOf_38 (by decide) ?_
        refine dm_icmp_lt (tgt := 57) hx hb (by omega) (by omega) dX3_digitOf_40 (by decide) (fun h5 => ?_) (fun h5 => ?_)
        · refine lv_bipush (v := nI 36) hx hb dX3_digitOf_57 (by decide) ?_
          exact ri_iret hC (by unfold dgv; rw [if_neg (by omega), if_neg (by omega), if_neg (by omega)]) dX3_digitOf_59
        · refine lv_iload_n hx hb dX3_digitOf_43 rfl (lv_at hl 0 rfl) ?_
          refine lv_bipush (v := nI 90) hx hb dX3_digitOf_44 (by decide) ?_
          refine dm_icmp_gt (tgt := 57) hx hb (by omega) (by omega) dX3_digitOf_46 (by decide) (fun h6 => ?_) (fun h6 => ?_)
          · refine lv_bipush (v := nI 36) hx hb dX3_digitOf_57 (by decide) ?_
            exact ri_iret hC (by unfold dgv; rw [if_neg (by omega), if_neg (by omega), if_neg (by omega)]) dX3_digitOf_59
          · refine lv_iload_n hx hb dX3_digitOf_49 rfl (lv_at hl 0 rfl) ?_
            refine lv_bipush (v := nI 65) hx hb dX3_digitOf_50 (by decide) ?_
            refine lv_isub hx hb dX3_digitOf_52 ?_
            refine dm_ti (y := nI (c0 - 65)) (pk_sub (by omega)) ?_
            refine lv_bipush (v := nI 10) hx hb dX3_digitOf_53 (by decide) ?_
            refine lv_iadd hx hb dX3_digitOf_55 ?_
            refine dm_ti (y := nI (c0 - 65 + 10)) (nI_add _ _) ?_
            exact ri_iret hC (by unfold dgv; rw [if_neg (by omega), if_neg (by omega), if_pos (by omega)]; congr 1; omega) dX3_digitOf_56
      · refine lv_iload_n hx hb dX3_digitOf_23 rfl (lv_at hl 0 rfl) ?_
        refine lv_bipush (v := nI 122) hx hb dX3_digitOf_24 (by decide) ?_
        refine dm_icmp_gt (tgt := 37) hx hb (by omega) (by omega) dX3_digitOf_26 (by decide) (fun h4 => ?_) (fun h4 => ?_)
        · refine lv_iload_n hx hb dX3_digitOf_37 rfl (lv_at hl 0 rfl) ?_
          refine lv_bipush (v := nI 65) hx hb dX3_digitOf_38 (by decide) ?_
          refine dm_icmp_lt (tgt := 57) hx hb (by omega) (by omega) dX3_digitOf_40 (by decide) (fun h5 => ?_) (fun h5 => ?_)
          · refine lv_bipush (v := nI 36) hx hb dX3_digitOf_57 (by decide) ?_
            exact ri_iret hC (by unfold dgv; rw [if_neg (by omega), if_neg (by omega), if_neg (by omega)]) dX3_digitOf_59
          · refine lv_iload_n hx hb dX3_digitOf_43 rfl (lv_at hl 0 rfl) ?_
            refine lv_bipush (v := nI 90) hx hb dX3_digitOf_44 (by decide) ?_
            refine dm_icmp_gt (tgt := 57) hx hb (by omega) (by omega) dX3_digitOf_46 (by decide) (fun h6 => ?_) (fun h6 => ?_)
            · refine lv_bipush (v := nI 36) hx hb dX3_digitOf_57 (by decide) ?_
              exact ri_iret hC (by unfold dgv; rw [if_neg (by omega), if_neg (by omega), if_neg (by omega)]) dX3_digitOf_59
            · refine lv_iload_n hx hb dX3_digitOf_49 rfl (lv_at hl 0 rfl) ?_
              refine lv_bipush (v := nI 65) hx hb dX3_digitOf_50 (by decide) ?_
              refine lv_isub hx hb dX3_digitOf_52 ?_
              refine dm_ti (y := nI (c0 - 65)) (pk_sub (by omega)) ?_
              refine lv_bipush (v := nI 10) hx hb dX3_digitOf_53 (by decide) ?_
              refine lv_iadd hx hb dX3_digitOf_55 ?_
              refine dm_ti (y := nI (c0 - 65 + 10)) (nI_add _ _) ?_
              exact ri_iret hC (by unfold dgv; rw [if_neg (by omega), if_neg (by omega), if_pos (by omega)]; congr 1; omega) dX3_digitOf_56
        · refine lv_iload_n hx hb dX3_digitOf_29 rfl (lv_at hl 0 rfl) ?_
          refine lv_bipush (v := nI 97) hx hb dX3_digitOf_30 (by decide) ?_
          refine lv_isub hx hb dX3_digitOf_32 ?_
          refine dm_ti (y := nI (c0 - 97)) (pk_sub (by omega)) ?_
          refine lv_bipush (v := nI 10) hx hb dX3_digitOf_33 (by decide) ?_
          refine lv_iadd hx hb dX3_digitOf_35 ?_
          refine dm_ti (y := nI (c0 - 97 + 10)) (nI_add _ _) ?_
          exact ri_iret hC (by unfold dgv; rw [if_neg (by omega), if_pos (by omega)]; congr 1; omega) dX3_digitOf_36
    · refine lv_iload_n hx hb dX3_digitOf_12 rfl (lv_at hl 0 rfl) ?_
      refine lv_bipush (v := nI 48) hx hb dX3_digitOf_13 (by decide) ?_
      refine lv_isub hx hb dX3_digitOf_15 ?_
      refine dm_ti (y := nI (c0 - 48)) (pk_sub (by omega)) ?_
      exact ri_iret hC (by unfold dgv; rw [if_pos (by omega)]) dX3_digitOf_16

set_option maxRecDepth 100000 in
set_option maxHeartbeats 4000000 in
theorem c_X3_codeOf (l : Launch) (D : va_G) (cB cI cC : ClassId) (d0 : Nat) (hd0 : d0 < 36) : ROi l yX3_codeOf (Cond.code yX3_codeOf cX3_codeOf 1 (some .int)) 0 D (TY cB cI cC) [.int (nI d0)] [] (fun r => r = nI (cdv d0)) := by
  refine ROi.of (by decide) (Nat.le_of_ble_eq_true rfl) ?_
  intro p e s m below meth c ls A hC hA hP hK hD hS hl
  obtain ⟨hx, hb, hr, hml, hown, hts, hlocks, hN⟩ := id hC
  have hown : s.vm.findClass RX3 = some m.cls := hown
  have hl : lv_has ls 1 [(0, .int (nI d0))] := hl
  refine lv_iload_n hx hb dX3_codeOf_0 rfl (lv_at hl 0 rfl) ?_
  refine lv_bipush (v := nI 10) hx hb dX3_codeOf_1 (by decide) ?_
  refine dm_icmp_ge (tgt := 13) hx hb (by omega) (by omega) dX3_codeOf_3 (by decide) (fun h1 => ?_) (fun h1 => ?_)
  · refine lv_bipush (v := nI 97) hx hb dX3_codeOf_13 (by decide) ?_
    refine lv_iload_n hx hb dX3_codeOf_15 rfl (lv_at hl 0 rfl) ?_
    refine lv_iadd hx hb dX3_codeOf_16 ?_
    refine dm_ti (y := nI (97 + d0)) (nI_add _ _) ?_
    refine lv_bipush (v := nI 10) hx hb dX3_codeOf_17 (by decide) ?_
    refine lv_isub hx hb dX3_codeOf_19 ?_
    refine dm_ti (y := nI (97 + d0 - 10)) (pk_sub (by omega)) ?_
    exact ri_iret hC (by unfold cdv; rw [if_neg (by omega)]; congr 1; omega) dX3_codeOf_20
  · refine lv_bipush (v := nI 48) hx hb dX3_codeOf_6 (by decide) ?_
    refine lv_iload_n hx hb dX3_codeOf_8 rfl (lv_at hl 0 rfl) ?_
    refine lv_iadd hx hb dX3_codeOf_9 ?_
    refine dm_ti (y := nI (48 + d0)) (nI_add _ _) ?_
    refine lv_goto (tgt := 20) hx hb dX3_codeOf_10 (by decide) ?_
    exact ri_iret hC (by unfold cdv; rw [if_pos (by omega)]) dX3_codeOf_20

/-- a text: its characters by place, as the row has them -/
def txt (n : Nat) (T : Nat → Nat) (f : Nat → Int32) : Prop := ∀ j, j < n → f j = nI (T j) ∧ T j < 128
/-- the first place from i on, of k, whose character is no digit -/
def fo (r : Nat) (T : Nat → Nat) (i : Nat) : Nat → Nat
  | 0 => i
  | k + 1 => if r ≤ dgv (T i) then i else fo r T (i + 1) k
theorem fo_succ {r : Nat} {T : Nat → Nat} {i k : Nat} : fo r T i (k + 1) = if r ≤ dgv (T i) then i else fo r T (i + 1) k := rfl
theorem fo_le {r : Nat} {T : Nat → Nat} : ∀ {k i : Nat}, i ≤ fo r T i k ∧ fo r T i k ≤ i + k
  | 0, i => ⟨Nat.le_refl _, Nat.le_refl _⟩
  | k + 1, i => by
    unfold fo
    split
    · omega
    · have h := fo_le (r := r) (T := T) (k := k) (i := i + 1)
      omega
theorem fo_all {r : Nat} {T : Nat → Nat} : ∀ {k i : Nat}, fo r T i k = i + k → ∀ j, i ≤ j → j < i + k → dgv (T j) < r
  | 0, i => fun _ j h1 h2 => absurd h1 (by omega)
  | k + 1, i => fun h j h1 h2 => by
    unfold fo at h
    split at h
    · omega
    · rcases (show j = i ∨ i + 1 ≤ j by omega) with h3 | h3
      · rw [h3]; omega
      · exact fo_all (k := k) (i := i + 1) (by omega) j h3 (by omega)
/-- the number of k digits from place i on -/
def hn (r : Nat) (T : Nat → Nat) (i : Nat) : Nat → Nat
  | 0 => 0
  | k + 1 => hn r T i k * r + dgv (T (i + k))
theorem hn_mono {r : Nat} (hr : 1 ≤ r) {T : Nat → Nat} {i k : Nat} : ∀ {d : Nat}, hn r T i k ≤ hn r T i (k + d)
  | 0 => Nat.le_refl _
  | d + 1 => by
    have h1 := hn_mono (r := r) hr (T := T) (i := i) (k := k) (d := d)
    have h2 : hn r T i (k + d) * 1 ≤ hn r T i (k + d) * r := Nat.mul_le_mul_left _ hr
    show _ ≤ hn r T i (k + d) * r + dgv (T (i + (k + d)))
    omega

set_option maxRecDepth 100000 in
set_option maxHeartbeats 4000000 in
theorem c_X0_firstOther (l : Launch) (D : va_G) (cB cI cC : ClassId) (h a n i0 r : Nat) (T : Nat → Nat) (f : Nat → Int32) (hn : n ≤ 65536) (hi0 : i0 ≤ n) (hr : r ≤ 36) (ht : txt n T f) : ROi l yX0_firstOther (Cond.code yX0_firstOther cX0_firstOther 4 (some .int)) 1 D (TY cB cI cC) [.ref h, .int (nI i0), .int (nI r)] [(h, .inr (0, [.ref a, .int (nI n)])), (a, .inl (cB, 65536, .inl f))] (fun q => q = nI (fo r T i0 (n - i0))) := by
  refine ROi.of (by decide) (Nat.le_of_ble_eq_true rfl) ?_
  intro p e s m below meth c ls A hC hA hP hK hD hS hl
  obtain ⟨hx, hb, hr, hml, hown, hts, hlocks, hN⟩ := id hC
  have hown : s.vm.findClass RX0 = some m.cls := hown
  have hl : lv_has ls 4 [(0, .ref h), (1, .int (nI i0)), (2, .int (nI r))] := hl
  refine lv_iload_n hx hb dX0_firstOther_0 rfl (lv_at hl 1 rfl) ?_
  refine lv_istore_n (lv' := [(3, .int (nI i0)), (0, .ref h), (1, .int (nI i0)), (2, .int (nI r))]) hx hb dX0_firstOther_1 rfl hl (by decide) rfl (fun ls hl => ?_)
  refine dm_loopR (nL := 4) 2 (fun i => i0 ≤ i ∧ i ≤ n ∧ fo r T i (n - i) = fo r T i0 (n - i0)) (fun i => [(3, .int (nI i)), (0, .ref h), (1, .int (nI i0)), (2, .int (nI r))]) (fun i => n - i) ?_ i0 ⟨Nat.le_refl _, hi0, rfl⟩ hl
  rintro i ls ⟨hi1, hi2, hfo⟩ hl ih
  refine lv_iload_n hx hb dX0_firstOther_2 rfl (lv_at hl 0 rfl) ?_
  refine lv_aload_n hx hb dX0_firstOther_3 rfl (lv_at hl 1 rfl) ?_
  refine va_get (D := D) (ci := 0) (C := RX0) (T := TX0) (N := 2) (v := .int (nI n)) hx hb hts kin_X0_w hown hK hP 0 rfl rfl 1 (by decide) (hts _ kfl_X0_16) (fun _ h9 => h9) rfl dX0_firstOther_4 ?_
  refine dm_icmp_ge (tgt := 30) hx hb (by omega) (by omega) dX0_firstOther_7 (by decide) (fun hc => ?_) (fun hc => ?_)
  · refine lv_aload_n hx hb dX0_firstOther_30 rfl (lv_at hl 1 rfl) ?_
    refine va_get (D := D) (ci := 0) (C := RX0) (T := TX0) (N := 2) (v := .int (nI n)) hx hb hts kin_X0_w hown hK hP 0 rfl rfl 1 (by decide) (hts _ kfl_X0_16) (fun _ h9 => h9) rfl dX0_firstOther_31 ?_
    exact ri_iret hC (by rw [← hfo, show i = n by omega, Nat.sub_self]; rfl) dX0_firstOther_34
  · refine lv_aload_n hx hb dX0_firstOther_10 rfl (lv_at hl 1 rfl) ?_
    refine lv_iload_n hx hb dX0_firstOther_11 rfl (lv_at hl 0 rfl) ?_
    refine dm_gori (dm_rV (n := 1) (As := [.int (nI i)]) (rest := []) hC hl (c_X0_codeAt l D cB cI cC h a n f (nI i) hn s.heap.size) kco_X0_codeAt ki_X0 kim_X0_codeAt kse_X0_codeAt kml_X0_20 (by decide +kernel) ⟨Nat.le_of_ble_eq_true rfl, Nat.le_of_ble_eq_true rfl⟩ rfl rfl ⟨dm_blind, va_recv hK hP (ci := 0) (q0 := 0) rfl rfl, dm_preU hK hP hD hC.2.2.2.2.2.2.2 [0, 1] (by decide) rfl⟩ rfl rfl (Nat.le_of_ble_eq_true rfl) dX0_firstOther_12 ⟨Nat.le_of_ble_eq_true rfl, Nat.le_of_ble_eq_true rfl⟩) (fun r1 h1 => ?_)
    have e1 : r1 = nI (T i) := (h1.1 i hc rfl).trans (ht i hc).1
    subst e1
    have hTi := (ht i hc).2
    refine dm_gori (dm_rSN (n := 1) (As := [.int (nI (T i))]) (rest := []) hC hl (c_X3_digitOf l D cB cI cC (T i) (by omega) s.heap.size) kco_X3_digitOf ki_X3 kst_X3_digitOf knl_X0_24 (by decide +kernel) ⟨Nat.le_of_ble_eq_true rfl, Nat.le_of_ble_eq_true rfl⟩ rfl rfl ⟨dm_blind, dm_preU hK hP hD hC.2.2.2.2.2.2.2 [] (by decide) rfl⟩ rfl rfl (Nat.le_of_ble_eq_true rfl) dX0_firstOther_15 ⟨Nat.le_of_ble_eq_true rfl, Nat.le_of_ble_eq_true rfl⟩) (fun r2 h2 => ?_)
    subst h2
    have hdg := dgv_le (T i)
    rw [show n - i = (n - (i + 1)) + 1 by omega] at hfo
    rw [fo_succ] at hfo
    refine lv_iload_n hx hb dX0_firstOther_18 rfl (lv_at hl 3 rfl) ?_
    refine dm_icmp_lt (tgt := 24) hx hb (by omega) (by omega) dX0_firstOther_19 (by decide) (fun hd => ?_) (fun hd => ?_)
    · rw [if_neg (by omega)] at hfo
      refine lv_iinc (v := nI (i + 1)) (lv' := [(3, .int (nI (i + 1))), (0, .ref h), (1, .int (nI i0)), (2, .int (nI r))]) hx hb dX0_firstOther_24 hl (k := 0) rfl ((nI_succ i).symm) (by decide) rfl (fun ls hl => ?_)
      refine lv_goto (tgt := 2) hx hb dX0_firstOther_27 (by decide) ?_
      exact ih (i + 1) ls (by omega) ⟨by omega, by omega, hfo⟩ (lv_sub hl [0, 1, 2, 3] rfl)
    · rw [if_pos (by omega)] at hfo
      refine lv_iload_n hx hb dX0_firstOther_22 rfl (lv_at hl 0 rfl) ?_
      exact ri_iret hC (by rw [← hfo]) dX0_firstOther_23
