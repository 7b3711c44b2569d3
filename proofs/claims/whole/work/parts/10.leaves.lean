set_option maxRecDepth 100000 in
set_option maxHeartbeats 4000000 in
theorem c_X2_isZero (l : Launch) (D : va_G) (cB cI cC : ClassId) (h a N u : Nat) (f : Nat → Int32) (hu : u < 2 ^ 31) : ROi l yX2_isZero (Cond.code yX2_isZero cX2_isZero 1 (some .boolean)) 0 D (TY cB cI cC) [.ref h] [(h, .inr (2, [.ref a, .int (nI u)])), (a, .inl (cI, N, .inl f))] (fun r => r = if u = 0 then 1 else 0) := by
  refine ROi.of (by decide) (Nat.le_of_ble_eq_true rfl) ?_
  intro p e s m below meth c ls A hC hA hP hK hD hS hl
  obtain ⟨hx, hb, hr, hml, hown, hts, hlocks, hN⟩ := id hC
  have hown : s.vm.findClass RX2 = some m.cls := hown
  have hl : lv_has ls 1 [(0, .ref h)] := hl
  refine lv_aload_n hx hb dX2_isZero_0 rfl (lv_at hl 0 rfl) ?_
  refine va_get (D := D) (ci := 2) (C := RX2) (T := TX2) (N := 2) (v := .int (nI u)) hx hb hts kin_X2_w hown hK hP 0 rfl rfl 1 (by decide) (hts _ kfl_X2_21) (fun _ h9 => h9) rfl dX2_isZero_1 ?_
  refine dm_if_ne (tgt := 11) hx hb hu dX2_isZero_4 (by decide) (fun hc => ?_) (fun hc => ?_)
  · refine lv_iconst (v := 0) hx hb dX2_isZero_11 (by decide) ?_
    exact ri_zret hC (Or.inl rfl) ((if_neg hc).symm) dX2_isZero_12
  · refine lv_iconst (v := 1) hx hb dX2_isZero_7 (by decide) ?_
    refine lv_goto (tgt := 12) hx hb dX2_isZero_8 (by decide) ?_
    exact ri_zret hC (Or.inr rfl) ((if_pos hc).symm) dX2_isZero_12

/-- the word at a place, 0 outside -/
def wAt (f : Nat → Int32) (u : Nat) (k : Int32) : Int32 := if 0 ≤ k.toInt ∧ k.toInt < u then f k.toNatClampNeg else 0
theorem wAt_in {f : Nat → Int32} {u j : Nat} (h : j < u) (hu : u < 2 ^ 31) : wAt f u (nI j) = f j := by
  unfold wAt
  rw [nI_toInt (by omega), nI_clamp (by omega), if_pos (by omega)]
theorem wAt_neg {f : Nat → Int32} {u : Nat} {k : Int32} (h : k < 0) : wAt f u k = 0 := if_neg (fun q => by have := Int32.lt_iff_toInt_lt.mp h; rw [show (0 : Int32).toInt = 0 from rfl] at this; omega)
theorem wAt_ge {f : Nat → Int32} {u : Nat} {k : Int32} (hu : u < 2 ^ 31) (h : nI u ≤ k) : wAt f u k = 0 := if_neg (fun q => by have := Int32.le_iff_toInt_le.mp h; rw [nI_toInt hu] at this; omega)

set_option maxRecDepth 100000 in
set_option maxHeartbeats 4000000 in
theorem c_X2_wordAt (l : Launch) (D : va_G) (cB cI cC : ClassId) (h a N u : Nat) (f : Nat → Int32) (k : Int32) (hu : u ≤ N) (hNb : N < 2 ^ 31) : ROi l yX2_wordAt (Cond.code yX2_wordAt cX2_wordAt 2 (some .int)) 0 D (TY cB cI cC) [.ref h, .int k] [(h, .inr (2, [.ref a, .int (nI u)])), (a, .inl (cI, N, .inl f))] (fun r => r = wAt f u k) := by
  refine ROi.of (by decide) (Nat.le_of_ble_eq_true rfl) ?_
  intro p e s m below meth c ls A hC hA hP hK hD hS hl
  obtain ⟨hx, hb, hr, hml, hown, hts, hlocks, hN⟩ := id hC
  have hown : s.vm.findClass RX2 = some m.cls := hown
  have hl : lv_has ls 2 [(0, .ref h), (1, .int k)] := hl
  refine lv_iload_n hx hb dX2_wordAt_0 rfl (lv_at hl 1 rfl) ?_
  refine lv_if_lt (tgt := 21) hx hb dX2_wordAt_1 (by decide) (fun hc => ?_) (fun hc => ?_)
  · refine lv_iconst (v := 0) hx hb dX2_wordAt_21 (by decide) ?_
    exact ri_iret hC ((wAt_neg hc).symm) dX2_wordAt_22
  · refine lv_iload_n hx hb dX2_wordAt_4 rfl (lv_at hl 1 rfl) ?_
    refine lv_aload_n hx hb dX2_wordAt_5 rfl (lv_at hl 0 rfl) ?_
    refine va_get (D := D) (ci := 2) (C := RX2) (T := TX2) (N := 2) (v := .int (nI u)) hx hb hts kin_X2_w hown hK hP 0 rfl rfl 1 (by decide) (hts _ kfl_X2_21) (fun _ h9 => h9) rfl dX2_wordAt_6 ?_
    refine lv_icmp_ge (tgt := 21) hx hb dX2_wordAt_9 (by decide) (fun hd => ?_) (fun hd => ?_)
    · refine lv_iconst (v := 0) hx hb dX2_wordAt_21 (by decide) ?_
      exact ri_iret hC ((wAt_ge (by omega) hd).symm) dX2_wordAt_22
    · obtain ⟨j, hj, rfl⟩ : ∃ j : Nat, j < u ∧ k = nI j := (pk_ix k (by omega)).resolve_left hc |>.resolve_left hd
      refine lv_aload_n hx hb dX2_wordAt_12 rfl (lv_at hl 0 rfl) ?_
      refine va_get (D := D) (ci := 2) (C := RX2) (T := TX2) (N := 2) (v := .ref a) hx hb hts kin_X2_w hown hK hP 0 rfl rfl 0 (by decide) (hts _ kfl_X2_15) (fun _ h9 => h9) rfl dX2_wordAt_13 ?_
      refine lv_iload_n hx hb dX2_wordAt_16 rfl (lv_at hl 1 rfl) ?_
      refine dm_iald (j := j) hx hb hK hP 1 1 rfl rfl (by omega) hNb dX2_wordAt_17 ?_
      refine lv_goto (tgt := 22) hx hb dX2_wordAt_18 (by decide) ?_
      exact ri_iret hC ((wAt_in hj (by omega)).symm) dX2_wordAt_22

set_option maxRecDepth 100000 in
set_option maxHeartbeats 4000000 in
theorem c_X0_size (l : Launch) (D : va_G) (cB cI cC : ClassId) (h a n : Nat) (f : Nat → Int32) : ROi l yX0_size (Cond.code yX0_size cX0_size 1 (some .int)) 0 D (TY cB cI cC) [.ref h] [(h, .inr (0, [.ref a, .int (nI n)])), (a, .inl (cB, 65536, .inl f))] (fun r => r = nI n) := by
  refine ROi.of (by decide) (Nat.le_of_ble_eq_true rfl) ?_
  intro p e s m below meth c ls A hC hA hP hK hD hS hl
  obtain ⟨hx, hb, hr, hml, hown, hts, hlocks, hN⟩ := id hC
  have hown : s.vm.findClass RX0 = some m.cls := hown
  have hl : lv_has ls 1 [(0, .ref h)] := hl
  refine lv_aload_n hx hb dX0_size_0 rfl (lv_at hl 0 rfl) ?_
  refine va_get (D := D) (ci := 0) (C := RX0) (T := TX0) (N := 2) (v := .int (nI n)) hx hb hts kin_X0_w hown hK hP 0 rfl rfl 1 (by decide) (hts _ kfl_X0_16) (fun _ h9 => h9) rfl dX0_size_1 ?_
  exact ri_iret hC (rfl) dX0_size_4

set_option maxRecDepth 100000 in
set_option maxHeartbeats 4000000 in
theorem c_X0_codeAt (l : Launch) (D : va_G) (cB cI cC : ClassId) (h a n : Nat) (f : Nat → Int32) (k : Int32) (hn : n ≤ 65536) : ROi l yX0_codeAt (Cond.code yX0_codeAt cX0_codeAt 2 (some .int)) 0 D (TY cB cI cC) [.ref h, .int k] [(h, .inr (0, [.ref a, .int (nI n)])), (a, .inl (cB, 65536, .inl f))] (fun r => (∀ j, j < n → k = nI j → r = f j) ∧ ((∀ j, j < n → k ≠ nI j) → r = -1)) := by
  refine ROi.of (by decide) (Nat.le_of_ble_eq_true rfl) ?_
  intro p e s m below meth c ls A hC hA hP hK hD hS hl
  obtain ⟨hx, hb, hr, hml, hown, hts, hlocks, hN⟩ := id hC
  have hown : s.vm.findClass RX0 = some m.cls := hown
  have hl : lv_has ls 2 [(0, .ref h), (1, .int k)] := hl
  refine lv_iload_n hx hb dX0_codeAt_0 rfl (lv_at hl 1 rfl) ?_
  refine lv_if_lt (tgt := 21) hx hb dX0_codeAt_1 (by decide) (fun hc => ?_) (fun hc => ?_)
  · refine lv_iconst (v := -1) hx hb dX0_codeAt_21 (by decide) ?_
    exact ri_iret hC (⟨fun j hj e0 => absurd hc (by rw [e0]; exact nI_pos (by omega)), fun _ => rfl⟩) dX0_codeAt_22
  · refine lv_iload_n hx hb dX0_codeAt_4 rfl (lv_at hl 1 rfl) ?_
    refine lv_aload_n hx hb dX0_codeAt_5 rfl (lv_at hl 0 rfl) ?_
    refine va_get (D := D) (ci := 0) (C := RX0) (T := TX0) (N := 2) (v := .int (nI n)) hx hb hts kin_X0_w hown hK hP 0 rfl rfl 1 (by decide) (hts _ kfl_X0_16) (fun _ h9 => h9) rfl dX0_codeAt_6 ?_
    refine lv_icmp_ge (tgt := 21) hx hb dX0_codeAt_9 (by decide) (fun hd => ?_) (fun hd => ?_)
    · refine lv_iconst (v := -1) hx hb dX0_codeAt_21 (by decide) ?_
      exact ri_iret hC (⟨fun j hj e0 => absurd hd (by rw [e0]; exact nI_ge hj (by omega)), fun _ => rfl⟩) dX0_codeAt_22
    · obtain ⟨j, hj, rfl⟩ : ∃ j : Nat, j < n ∧ k = nI j := (pk_ix k (by omega)).resolve_left hc |>.resolve_left hd
      refine lv_aload_n hx hb dX0_codeAt_12 rfl (lv_at hl 0 rfl) ?_
      refine va_get (D := D) (ci := 0) (C := RX0) (T := TX0) (N := 2) (v := .ref a) hx hb hts kin_X0_w hown hK hP 0 rfl rfl 0 (by decide) (hts _ kfl_X0_10) (fun _ h9 => h9) rfl dX0_codeAt_13 ?_
      refine lv_iload_n hx hb dX0_codeAt_16 rfl (lv_at hl 1 rfl) ?_
      refine dm_bald (j := j) hx hb hK hP 1 0 rfl rfl (by omega) (by decide) dX0_codeAt_17 ?_
      refine lv_goto (tgt := 22) hx hb dX0_codeAt_18 (by decide) ?_
      exact ri_iret hC (⟨fun i hi e0 => by rw [(nI_eq (by omega) (by omega)).mp e0], fun h9 => absurd rfl (h9 j hj)⟩) dX0_codeAt_22

set_option maxRecDepth 100000 in
set_option maxHeartbeats 4000000 in
theorem c_X0_clear (l : Launch) (D : va_G) (cB cI cC : ClassId) (h a n : Nat) (f : Nat → Int32) : MV l yX0_clear (Cond.code yX0_clear cX0_clear 1 none) 0 D (TY cB cI cC) [.ref h] [(h, .inr (0, [.ref a, .int (nI n)])), (a, .inl (cB, 65536, .inl f))] (S := Unit) (fun _ => True) (fun _ => [(h, .inr (0, [.ref a, .int (nI 0)])), (a, .inl (cB, 65536, .inl f))]) := by
  refine MV.of (by decide) (Nat.le_of_ble_eq_true rfl) ?_
  intro p e s m below meth c ls A hC hA hP hK hD hS hl
  obtain ⟨hx, hb, hr, hml, hown, hts, hlocks, hN⟩ := id hC
  have hown : s.vm.findClass RX0 = some m.cls := hown
  have hl : lv_has ls 1 [(0, .ref h)] := hl
  refine lv_aload_n hx hb dX0_clear_0 rfl (lv_at hl 0 rfl) ?_
  refine lv_iconst (v := 0) hx hb dX0_clear_1 (by decide) ?_
  refine va_put (D := D) (ci := 0) (v := .int 0) (ty := .int) (C := RX0) (T := TX0) (N := 2) hx hb hts kin_X0_w tyX0 tyX0_ok nmX0 hown hK hP hD hS 0 rfl rfl 1 (by decide) (hts _ kfl_X0_16) (fun _ h9 => h9) rfl (by decide +kernel) rfl rfl (Nat.le_of_ble_eq_true rfl) dX0_clear_2 (fun H locs hP hD hS => ?_)
  have hP : va_P D vwCl [(h, .inr (0, [.ref a, .int 0])), (a, .inl (cB, 65536, .inl f))] H := hP
  have hD : va_D A [(h, .inr (0, [.ref a, .int 0])), (a, .inl (cB, 65536, .inl f))] := hD
  exact dm_vret hC hK () trivial hP hD hS dX0_clear_5

/-- the highest word in use isn't 0 -/
def nrm (f : Nat → Int32) (u : Nat) : Prop := ∀ k, u = k + 1 → f k ≠ 0
theorem nrm_0 (f : Nat → Int32) : nrm f 0 := fun k h => by omega

set_option maxRecDepth 100000 in
set_option maxHeartbeats 4000000 in
theorem c_X2_dropZeros (l : Launch) (D : va_G) (cB cI cC : ClassId) (b h a N u : Nat) (f : Nat → Int32) (hu : u ≤ N) (hNb : N < 2 ^ 31) : MV l yX2_dropZeros (Cond.code yX2_dropZeros cX2_dropZeros 1 none) 0 D (TY cB cI cC) [.ref h] [(h, .inr (2, [.ref a, .int (nI u)])), (a, .inl (cI, N, .inl f))] (S := Nat) (fun u2 => u2 ≤ u ∧ dvb b f u2 = dvb b f u ∧ nrm f u2) (fun u2 => [(h, .inr (2, [.ref a, .int (nI u2)])), (a, .inl (cI, N, .inl f))]) := by
  refine MV.of (by decide) (Nat.le_of_ble_eq_true rfl) ?_
  intro p e s m below meth c ls A hC hA hP hK hD hS hl
  obtain ⟨hx, hb, hr, hml, hown, hts, hlocks, hN⟩ := id hC
  have hown : s.vm.findClass RX2 = some m.cls := hown
  have hl : lv_has ls 1 [(0, .ref h)] := hl
  refine dm_loop (nL := 1) (head := 0) (P := fun v => v ≤ u ∧ dvb b f v = dvb b f u) (w := fun v => [(h, .inr (2, [.ref a, .int (nI v)])), (a, .inl (cI, N, .inl f))]) (lv := fun _ => [(0, .ref h)]) (μ := fun v => v) ?_ u ⟨Nat.le_refl _, rfl⟩ hP hD hS hl
  intro v H locs ls hp hP hD hS hl ih
  obtain ⟨hv, he⟩ := hp
  refine lv_aload_n hx hb dX2_dropZeros_0 rfl (lv_at hl 0 rfl) ?_
  refine va_get (D := D) (ci := 2) (C := RX2) (T := TX2) (N := 2) (v := .int (nI v)) hx hb hts kin_X2_w hown hK hP 0 rfl rfl 1 (by decide) (hts _ kfl_X2_21) (fun _ h9 => h9) rfl dX2_dropZeros_1 ?_
  refine dm_if_le (tgt := 34) hx hb (by omega) dX2_dropZeros_4 (by decide) (fun hc => ?_) (fun hc => ?_)
  · exact dm_vret hC hK v ⟨hv, he, by rw [hc]; exact nrm_0 f⟩ hP hD hS dX2_dropZeros_34
  · obtain ⟨k, rfl⟩ : ∃ k, v = k + 1 := ⟨v - 1, by omega⟩
    refine lv_aload_n hx hb dX2_dropZeros_7 rfl (lv_at hl 0 rfl) ?_
    refine va_get (D := D) (ci := 2) (C := RX2) (T := TX2) (N := 2) (v := .ref a) hx hb hts kin_X2_w hown hK hP 0 rfl rfl 0 (by decide) (hts _ kfl_X2_15) (fun _ h9 => h9) rfl dX2_dropZeros_8 ?_
    refine lv_aload_n hx hb dX2_dropZeros_11 rfl (lv_at hl 0 rfl) ?_
    refine va_get (D := D) (ci := 2) (C := RX2) (T := TX2) (N := 2) (v := .int (nI (k + 1))) hx hb hts kin_X2_w hown hK hP 0 rfl rfl 1 (by decide) (hts _ kfl_X2_21) (fun _ h9 => h9) rfl dX2_dropZeros_12 ?_
    refine lv_iconst (v := 1) hx hb dX2_dropZeros_15 (by decide) ?_
    refine lv_isub hx hb dX2_dropZeros_16 ?_
    refine dm_ti (y := nI k) (nI_pred k) ?_
    refine dm_iald (j := k) hx hb hK hP 1 1 rfl rfl (by omega) hNb dX2_dropZeros_17 ?_
    refine lv_if_ne (tgt := 34) hx hb dX2_dropZeros_18 (by decide) (fun hd => ?_) (fun hd => ?_)
    · exact dm_vret hC hK (k + 1) ⟨hv, he, fun j e0 => by rw [show j = k by omega]; exact hd⟩ hP hD hS dX2_dropZeros_34
    · refine lv_aload_n hx hb dX2_dropZeros_21 rfl (lv_at hl 0 rfl) ?_
      refine lv_dup hx hb dX2_dropZeros_22 rfl ?_
      refine va_get (D := D) (ci := 2) (C := RX2) (T := TX2) (N := 2) (v := .int (nI (k + 1))) hx hb hts kin_X2_w hown hK hP 0 rfl rfl 1 (by decide) (hts _ kfl_X2_21) (fun _ h9 => h9) rfl dX2_dropZeros_23 ?_
      refine lv_iconst (v := 1) hx hb dX2_dropZeros_26 (by decide) ?_
      refine lv_isub hx hb dX2_dropZeros_27 ?_
      refine dm_ti (y := nI k) (nI_pred k) ?_
      refine va_put (D := D) (ci := 2) (v := .int (nI k)) (ty := .int) (C := RX2) (T := TX2) (N := 2) hx hb hts kin_X2_w tyX2 tyX2_ok nmX2 hown hK hP hD hS 0 rfl rfl 1 (by decide) (hts _ kfl_X2_21) (fun _ h9 => h9) rfl (by decide +kernel) rfl rfl (Nat.le_of_ble_eq_true rfl) dX2_dropZeros_28 (fun H locs hP hD hS => ?_)
      have hP : va_P D vwCl [(h, .inr (2, [.ref a, .int (nI k)])), (a, .inl (cI, N, .inl f))] H := hP
      have hD : va_D A [(h, .inr (2, [.ref a, .int (nI k)])), (a, .inl (cI, N, .inl f))] := hD
      refine lv_goto (tgt := 0) hx hb dX2_dropZeros_31 (by decide) ?_
      refine ih k H locs ls (Nat.lt_succ_self k) ⟨by omega, ?_⟩ hP hD hS hl
      rw [← he]
      show dvb b f k = dvb b f k + un (f k) * b ^ k
      rw [hd, un_0]; omega
