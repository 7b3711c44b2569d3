set_option maxRecDepth 100000 in
set_option maxHeartbeats 4000000 in
theorem c_X4_divide (l : Launch) (D : va_G) (cB cI cC : ClassId) (g gi go gn gr kt kw kz ks : Nat) (th : Int32) (kv : Int64) (kr : Nat → Int32) (b : Nat) (hks : ks ≤ 4096) (hd : d16 kr ks) (hb1 : 0 < b) (hbb : b ≤ 32768) : MI l yX4_divide (Cond.code yX4_divide cX4_divide 5 (some .int)) 0 D (TY cB cI cC) [.ref g, .int (nI b)] [(g, .inr (4, [.int th, .int (nI kt), .ref gi, .int (nI kw), .ref go, .int (nI kz), .ref gn, .int (nI ks), .ref gr, .long kv])), (gr, .inl (cI, 4096, .inl kr))] (S := (Nat → Int32) × Nat) (fun r q => r = nI (dvb 65536 kr ks % b) ∧ q.2 ≤ ks ∧ d16 q.1 q.2 ∧ dvb 65536 q.1 q.2 = dvb 65536 kr ks / b ∧ nrm q.1 q.2) (fun q => [(g, .inr (4, [.int th, .int (nI kt), .ref gi, .int (nI kw), .ref go, .int (nI kz), .ref gn, .int (nI q.2), .ref gr, .long kv])), (gr, .inl (cI, 4096, .inl q.1))]) := by
  refine MI.of (by decide) (Nat.le_of_ble_eq_true rfl) ?_
  intro p e s m below meth c ls A hC hA hP hK hD hS hl
  obtain ⟨hx, hb, hr, hml, hown, hts, hlocks, hN⟩ := id hC
  have hown : s.vm.findClass RX4 = some m.cls := hown
  have hl : lv_has ls 5 [(0, .ref g), (1, .int (nI b))] := hl
  refine lv_iconst (v := nI 0) hx hb dX4_divide_0 (by decide) ?_
  refine lv_istore_n (lv' := [(2, .int (nI 0)), (0, .ref g), (1, .int (nI b))]) hx hb dX4_divide_1 rfl hl (by decide) rfl (fun ls hl => ?_)
  refine lv_aload_n hx hb dX4_divide_2 rfl (lv_at hl 1 rfl) ?_
  refine va_get (D := D) (ci := 4) (C := RX4) (T := TX4) (N := 10) (v := .int (nI ks)) hx hb hts kin_X4_w hown hK hP 0 rfl rfl 7 (by decide) (hts _ kfl_X4_28) (fun _ h9 => h9) rfl dX4_divide_3 ?_
  refine lv_iconst (v := nI 1) hx hb dX4_divide_6 (by decide) ?_
  refine lv_isub hx hb dX4_divide_7 ?_
  refine lv_istore_n (lv' := [(3, .int (nI ks - nI 1)), (2, .int (nI 0)), (0, .ref g), (1, .int (nI b))]) hx hb dX4_divide_8 rfl hl (by decide) rfl (fun ls hl => ?_)
  refine dm_loop (nL := 5) (head := 9) (P := fun (x : Nat × Nat × (Nat → Int32)) => x.1 ≤ ks ∧ x.2.1 = hib 65536 kr ks x.1 % b ∧ hib 65536 x.2.2 ks x.1 = hib 65536 kr ks x.1 / b ∧ d16 x.2.2 ks ∧ ∀ j, j < x.1 → x.2.2 j = kr j) (w := fun x => [(g, .inr (4, [.int th, .int (nI kt), .ref gi, .int (nI kw), .ref go, .int (nI kz), .ref gn, .int (nI ks), .ref gr, .long kv])), (gr, .inl (cI, 4096, .inl x.2.2))]) (lv := fun x => [(3, .int (nI x.1 - nI 1)), (2, .int (nI x.2.1)), (0, .ref g), (1, .int (nI b))]) (μ := fun x => x.1) ?_ (ks, 0, kr) ⟨Nat.le_refl _, by show 0 = _ % _; rw [hib_n]; simp, by show hib _ kr ks ks = _; rw [hib_n]; simp, hd, fun _ _ => rfl⟩ hP hD hS hl
  rintro ⟨k, re, F⟩ H locs ls ⟨hk, hre, hq, hdF, hlo⟩ hP hD hS hl ih
  dsimp only at hk hre hq hdF hlo
  have hP : va_P D vwCl [(g, .inr (4, [.int th, .int (nI kt), .ref gi, .int (nI kw), .ref go, .int (nI kz), .ref gn, .int (nI ks), .ref gr, .long kv])), (gr, .inl (cI, 4096, .inl F))] H := hP
  have hD : va_D A [(g, .inr (4, [.int th, .int (nI kt), .ref gi, .int (nI kw), .ref go, .int (nI kz), .ref gn, .int (nI ks), .ref gr, .long kv])), (gr, .inl (cI, 4096, .inl F))] := hD
  have hl : lv_has ls 5 [(3, .int (nI k - nI 1)), (2, .int (nI re)), (0, .ref g), (1, .int (nI b))] := hl
  have hrl : re < b := by rw [hre]; exact Nat.mod_lt _ hb1
  rcases Nat.eq_zero_or_pos k with hk0 | hk0
  · rw [hk0] at hl hre hq
    rw [hib_0] at hre hq
    rw [hib_0] at hq
    refine lv_iload_n hx hb dX4_divide_9 rfl (lv_at hl 0 rfl) ?_
    refine lv_if_lt (tgt := 47) hx hb dX4_divide_10 (by decide) (fun hc => ?_) (fun hc => ?_)
    · refine dm_loop (nL := 5) (head := 47) (P := fun v => v ≤ ks ∧ dvb 65536 F v = dvb 65536 F ks) (w := fun v => [(g, .inr (4, [.int th, .int (nI kt), .ref gi, .int (nI kw), .ref go, .int (nI kz), .ref gn, .int (nI v), .ref gr, .long kv])), (gr, .inl (cI, 4096, .inl F))]) (lv := fun _ => [(2, .int (nI re)), (0, .ref g), (1, .int (nI b))]) (μ := fun v => v) ?_ ks ⟨Nat.le_refl _, rfl⟩ hP hD hS (lv_sub hl [1, 2, 3] rfl)
      clear ih
      rintro v H locs ls ⟨hv, he⟩ hP hD hS hl ih
      refine lv_aload_n hx hb dX4_divide_47 rfl (lv_at hl 1 rfl) ?_
      refine va_get (D := D) (ci := 4) (C := RX4) (T := TX4) (N := 10) (v := .int (nI v)) hx hb hts kin_X4_w hown hK hP 0 rfl rfl 7 (by decide) (hts _ kfl_X4_28) (fun _ h9 => h9) rfl dX4_divide_48 ?_
      refine dm_if_le (tgt := 81) hx hb (by omega) dX4_divide_51 (by decide) (fun hc2 => ?_) (fun hc2 => ?_)
      · refine lv_iload_n hx hb dX4_divide_81 rfl (lv_at hl 0 rfl) ?_
        exact dm_iret hC hK (F, v) ⟨by rw [hre], by show v ≤ ks; omega, fun j hj => hdF j (by have hj : j < v := hj; omega), by show dvb _ F (v) = _; rw [he, hq], by rw [hc2]; exact nrm_0 F⟩ hP hD hS dX4_divide_82
      · obtain ⟨k2, rfl⟩ : ∃ k2, v = k2 + 1 := ⟨v - 1, by omega⟩
        refine lv_aload_n hx hb dX4_divide_54 rfl (lv_at hl 1 rfl) ?_
        refine va_get (D := D) (ci := 4) (C := RX4) (T := TX4) (N := 10) (v := .ref gr) hx hb hts kin_X4_w hown hK hP 0 rfl rfl 8 (by decide) (hts _ kfl_X4_21) (fun _ h9 => h9) rfl dX4_divide_55 ?_
        refine lv_aload_n hx hb dX4_divide_58 rfl (lv_at hl 1 rfl) ?_
        refine va_get (D := D) (ci := 4) (C := RX4) (T := TX4) (N := 10) (v := .int (nI (k2 + 1))) hx hb hts kin_X4_w hown hK hP 0 rfl rfl 7 (by decide) (hts _ kfl_X4_28) (fun _ h9 => h9) rfl dX4_divide_59 ?_
        refine lv_iconst (v := nI 1) hx hb dX4_divide_62 (by decide) ?_
        refine lv_isub hx hb dX4_divide_63 ?_
        refine dm_ti (y := nI k2) (nI_pred k2) ?_
        refine dm_iald (j := k2) hx hb hK hP 1 1 rfl rfl (by omega) (by decide) dX4_divide_64 ?_
        refine lv_if_ne (tgt := 81) hx hb dX4_divide_65 (by decide) (fun hd2 => ?_) (fun hd2 => ?_)
        · refine lv_iload_n hx hb dX4_divide_81 rfl (lv_at hl 0 rfl) ?_
          exact dm_iret hC hK (F, k2 + 1) ⟨by rw [hre], by show k2 + 1 ≤ ks; omega, fun j hj => hdF j (by have hj : j < k2 + 1 := hj; omega), by show dvb _ F (k2 + 1) = _; rw [he, hq], fun j e0 => by rw [show j = k2 by omega]; exact hd2⟩ hP hD hS dX4_divide_82
        · refine lv_aload_n hx hb dX4_divide_68 rfl (lv_at hl 1 rfl) ?_
          refine lv_dup hx hb dX4_divide_69 rfl ?_
          refine va_get (D := D) (ci := 4) (C := RX4) (T := TX4) (N := 10) (v := .int (nI (k2 + 1))) hx hb hts kin_X4_w hown hK hP 0 rfl rfl 7 (by decide) (hts _ kfl_X4_28) (fun _ h9 => h9) rfl dX4_divide_70 ?_
          refine lv_iconst (v := nI 1) hx hb dX4_divide_73 (by decide) ?_
          refine lv_isub hx hb dX4_divide_74 ?_
          refine dm_ti (y := nI k2) (nI_pred k2) ?_
          refine va_put (D := D) (ci := 4) (v := .int (nI k2)) (ty := .int) (C := RX4) (T := TX4) (N := 10) hx hb hts kin_X4_w tyX4 tyX4_ok nmX4 hown hK hP hD hS 0 rfl rfl 7 (by decide) (hts _ kfl_X4_28) (fun _ h9 => h9) rfl (by decide +kernel) rfl rfl (Nat.le_of_ble_eq_true rfl) dX4_divide_75 (fun H locs hP hD hS => ?_)
          have hP : va_P D vwCl [(g, .inr (4, [.int th, .int (nI kt), .ref gi, .int (nI kw), .ref go, .int (nI kz), .ref gn, .int (nI k2), .ref gr, .long kv])), (gr, .inl (cI, 4096, .inl F))] H := hP
          have hD : va_D A [(g, .inr (4, [.int th, .int (nI kt), .ref gi, .int (nI kw), .ref go, .int (nI kz), .ref gn, .int (nI k2), .ref gr, .long kv])), (gr, .inl (cI, 4096, .inl F))] := hD
          refine lv_goto (tgt := 47) hx hb dX4_divide_78 (by decide) ?_
          refine ih k2 H locs ls (Nat.lt_succ_self k2) ⟨by omega, ?_⟩ hP hD hS hl
          rw [← he]
          show dvb 65536 F k2 = dvb 65536 F k2 + un (F k2) * 65536 ^ k2
          rw [hd2, un_0]; omega
    · exact absurd (by decide) hc
  · obtain ⟨j, rfl⟩ : ∃ j, k = j + 1 := ⟨k - 1, by omega⟩
    have hl : lv_has ls 5 [(3, .int (nI j)), (2, .int (nI re)), (0, .ref g), (1, .int (nI b))] := by rw [show nI j = nI (j + 1) - nI 1 from (nI_pred j).symm]; exact hl
    have hw := hd j (by omega)
    obtain ⟨P1, hP1⟩ : ∃ P, P = re * 65536 + un (kr j) := ⟨_, rfl⟩
    have hp1 : P1 < b * 65536 := by
      have h8 : (re + 1) * 65536 ≤ b * 65536 := Nat.mul_le_mul_right _ hrl
      omega
    have hq1 : P1 / b < 65536 := Nat.div_lt_of_lt_mul hp1
    have hds : hib 65536 kr ks j / b = hib 65536 kr ks (j + 1) / b * 65536 + P1 / b ∧ hib 65536 kr ks j % b = P1 % b := by rw [hib_step (show j < ks by omega), hP1, hre]; exact div_step _ _ _ _ hb1
    refine lv_iload_n hx hb dX4_divide_9 rfl (lv_at hl 0 rfl) ?_
    refine dm_if_lt (tgt := 47) hx hb (by omega) dX4_divide_10 (by decide) (fun hc => ?_) (fun hc => ?_)
    · exact hc.elim
    · refine lv_iload_n hx hb dX4_divide_13 rfl (lv_at hl 1 rfl) ?_
      refine lv_bipush (v := nI 16) hx hb dX4_divide_14 (by decide) ?_
      refine lv_ishl hx hb dX4_divide_16 ?_
      refine dm_ti (y := nI (re * 65536)) (pk_shlN (n := re) (nI 16 &&& 31) 16 (by decide) (by omega)) ?_
      refine lv_aload_n hx hb dX4_divide_17 rfl (lv_at hl 2 rfl) ?_
      refine va_get (D := D) (ci := 4) (C := RX4) (T := TX4) (N := 10) (v := .ref gr) hx hb hts kin_X4_w hown hK hP 0 rfl rfl 8 (by decide) (hts _ kfl_X4_21) (fun _ h9 => h9) rfl dX4_divide_18 ?_
      refine lv_iload_n hx hb dX4_divide_21 rfl (lv_at hl 0 rfl) ?_
      refine dm_iald (j := j) hx hb hK hP 1 1 rfl rfl (by omega) (by decide) dX4_divide_22 ?_
      refine dm_ti (y := nI (un (kr j))) (by show F j = _; rw [hlo j (Nat.lt_succ_self j), nI_un]) ?_
      refine lv_ior hx hb dX4_divide_23 ?_
      refine dm_ti (y := nI P1) (by rw [hP1]; exact nI_or16 (by omega) hw) ?_
      refine lv_istore (lv' := [(4, .int (nI P1)), (3, .int (nI j)), (2, .int (nI re)), (0, .ref g), (1, .int (nI b))]) hx hb dX4_divide_24 hl (by decide) rfl (fun ls hl => ?_)
      refine lv_aload_n hx hb dX4_divide_26 rfl (lv_at hl 3 rfl) ?_
      refine va_get (D := D) (ci := 4) (C := RX4) (T := TX4) (N := 10) (v := .ref gr) hx hb hts kin_X4_w hown hK hP 0 rfl rfl 8 (by decide) (hts _ kfl_X4_21) (fun _ h9 => h9) rfl dX4_divide_27 ?_
      refine lv_iload_n hx hb dX4_divide_30 rfl (lv_at hl 1 rfl) ?_
      refine lv_iload hx hb dX4_divide_31 (lv_at hl 0 rfl) ?_
      refine lv_iload_n hx hb dX4_divide_33 rfl (lv_at hl 4 rfl) ?_
      refine lv_idiv hx hb dX4_divide_34 (nI_ne0 hb1 (by omega)) ?_
      refine dm_ti (y := nI (P1 / b)) (pk_div (by omega) hb1 (by omega)) ?_
      refine dm_iast (j := j) (f' := upd F j (nI (P1 / b))) hx hb hK hP hD hS 1 1 rfl rfl (by omega) (by decide) (rfl) dX4_divide_35 (fun H locs hP hD hS => ?_)
      have hP : va_P D vwCl [(g, .inr (4, [.int th, .int (nI kt), .ref gi, .int (nI kw), .ref go, .int (nI kz), .ref gn, .int (nI ks), .ref gr, .long kv])), (gr, .inl (cI, 4096, .inl (upd F j (nI (P1 / b)))))] H := hP
      have hD : va_D A [(g, .inr (4, [.int th, .int (nI kt), .ref gi, .int (nI kw), .ref go, .int (nI kz), .ref gn, .int (nI ks), .ref gr, .long kv])), (gr, .inl (cI, 4096, .inl (upd F j (nI (P1 / b)))))] := hD
      refine lv_iload hx hb dX4_divide_36 (lv_at hl 0 rfl) ?_
      refine lv_iload_n hx hb dX4_divide_38 rfl (lv_at hl 4 rfl) ?_
      refine lv_irem hx hb dX4_divide_39 (nI_ne0 hb1 (by omega)) ?_
      refine dm_ti (y := nI (P1 % b)) (pk_rem (by omega) hb1 (by omega)) ?_
      refine lv_istore_n (lv' := [(2, .int (nI (P1 % b))), (4, .int (nI P1)), (3, .int (nI j)), (0, .ref g), (1, .int (nI b))]) hx hb dX4_divide_40 rfl hl (by decide) rfl (fun ls hl => ?_)
      refine lv_iinc (v := (nI j - nI 1)) (lv' := [(3, .int (nI j - nI 1)), (2, .int (nI (P1 % b))), (4, .int (nI P1)), (0, .ref g), (1, .int (nI b))]) hx hb dX4_divide_41 hl (k := 2) rfl (i_dec _) (by decide) rfl (fun ls hl => ?_)
      refine lv_goto (tgt := 9) hx hb dX4_divide_44 (by decide) ?_
      refine ih (j, P1 % b, upd F j (nI (P1 / b))) H locs ls (Nat.lt_succ_self j) ⟨by show j ≤ ks; omega, hds.2.symm, ?_, fun i hi => ?_, fun i hi => ?_⟩ hP hD hS (lv_sub hl [0, 1, 3, 4] rfl)
      · show hib _ (upd F j _) ks j = _
        rw [hib_step (show j < ks by omega), pk_us, un_nI (by omega), hib_congr (g := F) (fun i h1 h2 => pk_un (by omega)), hq, hds.1]
      · show un (upd F j _ i) < 65536
        by_cases h6 : i = j
        · rw [h6, pk_us, un_nI (by omega)]; exact hq1
        · rw [pk_un h6]; exact hdF i hi
      · show upd F j _ i = kr i
        have hi : i < j := hi
        rw [pk_un (by omega)]
        exact hlo i (by omega)

set_option maxRecDepth 100000 in
set_option maxHeartbeats 4000000 in
theorem c_X4_take (l : Launch) (D : va_G) (cB cI cC : ClassId) (g gi go gn gr kt kw kz ks : Nat) (th : Int32) (kv : Int64) (kn kr : Nat → Int32) (hkz : kz ≤ 4096) : MV l yX4_take (Cond.code yX4_take cX4_take 2 none) 0 D (TY cB cI cC) [.ref g] [(g, .inr (4, [.int th, .int (nI kt), .ref gi, .int (nI kw), .ref go, .int (nI kz), .ref gn, .int (nI ks), .ref gr, .long kv])), (gn, .inl (cI, 4096, .inl kn)), (gr, .inl (cI, 4096, .inl kr))] (S := Nat → Int32) (fun q => ∀ j, j < kz → q j = kn j) (fun q => [(g, .inr (4, [.int th, .int (nI kt), .ref gi, .int (nI kw), .ref go, .int (nI kz), .ref gn, .int (nI kz), .ref gr, .long kv])), (gn, .inl (cI, 4096, .inl kn)), (gr, .inl (cI, 4096, .inl q))]) := by
  refine MV.of (by decide) (Nat.le_of_ble_eq_true rfl) ?_
  intro p e s m below meth c ls A hC hA hP hK hD hS hl
  obtain ⟨hx, hb, hr, hml, hown, hts, hlocks, hN⟩ := id hC
  have hown : s.vm.findClass RX4 = some m.cls := hown
  have hl : lv_has ls 2 [(0, .ref g)] := hl
  refine lv_aload_n hx hb dX4_take_0 rfl (lv_at hl 0 rfl) ?_
  refine lv_aload_n hx hb dX4_take_1 rfl (lv_at hl 0 rfl) ?_
  refine va_get (D := D) (ci := 4) (C := RX4) (T := TX4) (N := 10) (v := .int (nI kz)) hx hb hts kin_X4_w hown hK hP 0 rfl rfl 5 (by decide) (hts _ kfl_X4_33) (fun _ h9 => h9) rfl dX4_take_2 ?_
  refine va_put (D := D) (ci := 4) (v := .int (nI kz)) (ty := .int) (C := RX4) (T := TX4) (N := 10) hx hb hts kin_X4_w tyX4 tyX4_ok nmX4 hown hK hP hD hS 0 rfl rfl 7 (by decide) (hts _ kfl_X4_28) (fun _ h9 => h9) rfl (by decide +kernel) rfl rfl (Nat.le_of_ble_eq_true rfl) dX4_take_5 (fun H locs hP hD hS => ?_)
  have hP : va_P D vwCl [(g, .inr (4, [.int th, .int (nI kt), .ref gi, .int (nI kw), .ref go, .int (nI kz), .ref gn, .int (nI kz), .ref gr, .long kv])), (gn, .inl (cI, 4096, .inl kn)), (gr, .inl (cI, 4096, .inl kr))] H := hP
  have hD : va_D A [(g, .inr (4, [.int th, .int (nI kt), .ref gi, .int (nI kw), .ref go, .int (nI kz), .ref gn, .int (nI kz), .ref gr, .long kv])), (gn, .inl (cI, 4096, .inl kn)), (gr, .inl (cI, 4096, .inl kr))] := hD
  refine lv_iconst (v := nI 0) hx hb dX4_take_8 (by decide) ?_
  refine lv_istore_n (lv' := [(1, .int (nI 0)), (0, .ref g)]) hx hb dX4_take_9 rfl hl (by decide) rfl (fun ls hl => ?_)
  refine dm_loop (nL := 2) (head := 10) (P := fun (x : Nat × (Nat → Int32)) => x.1 ≤ kz ∧ ∀ j, j < x.1 → x.2 j = kn j) (w := fun x => [(g, .inr (4, [.int th, .int (nI kt), .ref gi, .int (nI kw), .ref go, .int (nI kz), .ref gn, .int (nI kz), .ref gr, .long kv])), (gn, .inl (cI, 4096, .inl kn)), (gr, .inl (cI, 4096, .inl x.2))]) (lv := fun x => [(1, .int (nI x.1)), (0, .ref g)]) (μ := fun x => kz - x.1) ?_ (0, kr) ⟨Nat.zero_le _, fun j hj => absurd hj (Nat.not_lt_zero _)⟩ hP hD hS hl
  rintro ⟨i, F⟩ H locs ls ⟨hi, hF⟩ hP hD hS hl ih
  dsimp only at hi hF
  have hP : va_P D vwCl [(g, .inr (4, [.int th, .int (nI kt), .ref gi, .int (nI kw), .ref go, .int (nI kz), .ref gn, .int (nI kz), .ref gr, .long kv])), (gn, .inl (cI, 4096, .inl kn)), (gr, .inl (cI, 4096, .inl F))] H := hP
  have hD : va_D A [(g, .inr (4, [.int th, .int (nI kt), .ref gi, .int (nI kw), .ref go, .int (nI kz), .ref gn, .int (nI kz), .ref gr, .long kv])), (gn, .inl (cI, 4096, .inl kn)), (gr, .inl (cI, 4096, .inl F))] := hD
  have hl : lv_has ls 2 [(1, .int (nI i)), (0, .ref g)] := hl
  refine lv_iload_n hx hb dX4_take_10 rfl (lv_at hl 0 rfl) ?_
  refine lv_aload_n hx hb dX4_take_11 rfl (lv_at hl 1 rfl) ?_
  refine va_get (D := D) (ci := 4) (C := RX4) (T := TX4) (N := 10) (v := .int (nI kz)) hx hb hts kin_X4_w hown hK hP 0 rfl rfl 5 (by decide) (hts _ kfl_X4_33) (fun _ h9 => h9) rfl dX4_take_12 ?_
  refine dm_icmp_ge (tgt := 36) hx hb (by omega) (by omega) dX4_take_15 (by decide) (fun hc => ?_) (fun hc => ?_)
  · exact dm_vret hC hK F (fun j hj => hF j (by omega)) hP hD hS dX4_take_36
  · refine lv_aload_n hx hb dX4_take_18 rfl (lv_at hl 1 rfl) ?_
    refine va_get (D := D) (ci := 4) (C := RX4) (T := TX4) (N := 10) (v := .ref gr) hx hb hts kin_X4_w hown hK hP 0 rfl rfl 8 (by decide) (hts _ kfl_X4_21) (fun _ h9 => h9) rfl dX4_take_19 ?_
    refine lv_iload_n hx hb dX4_take_22 rfl (lv_at hl 0 rfl) ?_
    refine lv_aload_n hx hb dX4_take_23 rfl (lv_at hl 1 rfl) ?_
    refine va_get (D := D) (ci := 4) (C := RX4) (T := TX4) (N := 10) (v := .ref gn) hx hb hts kin_X4_w hown hK hP 0 rfl rfl 6 (by decide) (hts _ kfl_X4_17) (fun _ h9 => h9) rfl dX4_take_24 ?_
    refine lv_iload_n hx hb dX4_take_27 rfl (lv_at hl 0 rfl) ?_
    refine dm_iald (j := i) hx hb hK hP 1 1 rfl rfl (by omega) (by decide) dX4_take_28 ?_
    refine dm_iast (j := i) (f' := upd F i (kn i)) hx hb hK hP hD hS 2 1 rfl rfl (by omega) (by decide) (rfl) dX4_take_29 (fun H locs hP hD hS => ?_)
    have hP : va_P D vwCl [(g, .inr (4, [.int th, .int (nI kt), .ref gi, .int (nI kw), .ref go, .int (nI kz), .ref gn, .int (nI kz), .ref gr, .long kv])), (gn, .inl (cI, 4096, .inl kn)), (gr, .inl (cI, 4096, .inl (upd F i (kn i))))] H := hP
    have hD : va_D A [(g, .inr (4, [.int th, .int (nI kt), .ref gi, .int (nI kw), .ref go, .int (nI kz), .ref gn, .int (nI kz), .ref gr, .long kv])), (gn, .inl (cI, 4096, .inl kn)), (gr, .inl (cI, 4096, .inl (upd F i (kn i))))] := hD
    refine lv_iinc (v := nI (i + 1)) (lv' := [(1, .int (nI (i + 1))), (0, .ref g)]) hx hb dX4_take_30 hl (k := 0) rfl ((nI_succ i).symm) (by decide) rfl (fun ls hl => ?_)
    refine lv_goto (tgt := 10) hx hb dX4_take_33 (by decide) ?_
    exact ih (i + 1, upd F i (kn i)) H locs ls (by show kz - (i + 1) < kz - i; omega) ⟨by show i + 1 ≤ kz; omega, fun j hj => (Nat.lt_or_eq_of_le (Nat.le_of_lt_succ hj)).elim (fun h6 => by show upd F i _ j = _; rw [pk_un (by omega)]; exact hF j h6) (fun h6 => by show upd F i _ j = _; rw [h6, pk_us])⟩ hP hD hS (lv_sub hl [0, 1] rfl)

set_option maxRecDepth 100000 in
set_option maxHeartbeats 4000000 in
theorem c_X4_give (l : Launch) (D : va_G) (cB cI cC : ClassId) (g gi go gn gr kt kw kz ks : Nat) (th : Int32) (kv : Int64) (kn kr : Nat → Int32) (hks : ks ≤ 4096) : MV l yX4_give (Cond.code yX4_give cX4_give 2 none) 0 D (TY cB cI cC) [.ref g] [(g, .inr (4, [.int th, .int (nI kt), .ref gi, .int (nI kw), .ref go, .int (nI kz), .ref gn, .int (nI ks), .ref gr, .long kv])), (gn, .inl (cI, 4096, .inl kn)), (gr, .inl (cI, 4096, .inl kr))] (S := (Nat → Int32) × Nat) (fun q => q.2 ≤ ks ∧ dvb 65536 q.1 q.2 = dvb 65536 kr ks ∧ nrm q.1 q.2 ∧ ∀ j, j < q.2 → q.1 j = kr j) (fun q => [(g, .inr (4, [.int th, .int (nI kt), .ref gi, .int (nI kw), .ref go, .int (nI q.2), .ref gn, .int (nI q.2), .ref gr, .long kv])), (gn, .inl (cI, 4096, .inl q.1)), (gr, .inl (cI, 4096, .inl kr))]) := by
  refine MV.of (by decide) (Nat.le_of_ble_eq_true rfl) ?_
  intro p e s m below meth c ls A hC hA hP hK hD hS hl
  obtain ⟨hx, hb, hr, hml, hown, hts, hlocks, hN⟩ := id hC
  have hown : s.vm.findClass RX4 = some m.cls := hown
  have hl : lv_has ls 2 [(0, .ref g)] := hl
  refine dm_loop (nL := 2) (head := 0) (P := fun v => v ≤ ks ∧ dvb 65536 kr v = dvb 65536 kr ks) (w := fun v => [(g, .inr (4, [.int th, .int (nI kt), .ref gi, .int (nI kw), .ref go, .int (nI kz), .ref gn, .int (nI v), .ref gr, .long kv])), (gn, .inl (cI, 4096, .inl kn)), (gr, .inl (cI, 4096, .inl kr))]) (lv := fun _ => [(0, .ref g)]) (μ := fun v => v) ?_ ks ⟨Nat.le_refl _, rfl⟩ hP hD hS hl
  rintro v H locs ls ⟨hv, he⟩ hP hD hS hl ih
  refine dm_cutR (nL := 2) (σ := Unit) 34 (fun _ => nrm kr v) (fun _ => [(0, .ref g)]) (fun hJ => ?_) ?_
  · refine lv_aload_n hx hb dX4_give_0 rfl (lv_at hl 0 rfl) ?_
    refine va_get (D := D) (ci := 4) (C := RX4) (T := TX4) (N := 10) (v := .int (nI v)) hx hb hts kin_X4_w hown hK hP 0 rfl rfl 7 (by decide) (hts _ kfl_X4_28) (fun _ h9 => h9) rfl dX4_give_1 ?_
    refine dm_if_le (tgt := 34) hx hb (by omega) dX4_give_4 (by decide) (fun hc => ?_) (fun hc => ?_)
    · exact hJ () ls (by rw [hc]; exact nrm_0 kr) hl
    · obtain ⟨k, rfl⟩ : ∃ k, v = k + 1 := ⟨v - 1, by omega⟩
      refine lv_aload_n hx hb dX4_give_7 rfl (lv_at hl 0 rfl) ?_
      refine va_get (D := D) (ci := 4) (C := RX4) (T := TX4) (N := 10) (v := .ref gr) hx hb hts kin_X4_w hown hK hP 0 rfl rfl 8 (by decide) (hts _ kfl_X4_21) (fun _ h9 => h9) rfl dX4_give_8 ?_
      refine lv_aload_n hx hb dX4_give_11 rfl (lv_at hl 0 rfl) ?_
      refine va_get (D := D) (ci := 4) (C := RX4) (T := TX4) (N := 10) (v := .int (nI (k + 1))) hx hb hts kin_X4_w hown hK hP 0 rfl rfl 7 (by decide) (hts _ kfl_X4_28) (fun _ h9 => h9) rfl dX4_give_12 ?_
      refine lv_iconst (v := nI 1) hx hb dX4_give_15 (by decide) ?_
      refine lv_isub hx hb dX4_give_16 ?_
      refine dm_ti (y := nI k) (nI_pred k) ?_
      refine dm_iald (j := k) hx hb hK hP 2 1 rfl rfl (by omega) (by decide) dX4_give_17 ?_
      refine lv_if_ne (tgt := 34) hx hb dX4_give_18 (by decide) (fun hd => ?_) (fun hd => ?_)
      · exact hJ () ls (fun j e0 => by rw [show j = k by omega]; exact hd) hl
      · refine lv_aload_n hx hb dX4_give_21 rfl (lv_at hl 0 rfl) ?_
        refine lv_dup hx hb dX4_give_22 rfl ?_
        refine va_get (D := D) (ci := 4) (C := RX4) (T := TX4) (N := 10) (v := .int (nI (k + 1))) hx hb hts kin_X4_w hown hK hP 0 rfl rfl 7 (by decide) (hts _ kfl_X4_28) (fun _ h9 => h9) rfl dX4_give_23 ?_
        refine lv_iconst (v := nI 1) hx hb dX4_give_26 (by decide) ?_
        refine lv_isub hx hb dX4_give_27 ?_
        refine dm_ti (y := nI k) (nI_pred k) ?_
        refine va_put (D := D) (ci := 4) (v := .int (nI k)) (ty := .int) (C := RX4) (T := TX4) (N := 10) hx hb hts kin_X4_w tyX4 tyX4_ok nmX4 hown hK hP hD hS 0 rfl rfl 7 (by decide) (hts _ kfl_X4_28) (fun _ h9 => h9) rfl (by decide +kernel) rfl rfl (Nat.le_of_ble_eq_true rfl) dX4_give_28 (fun H locs hP hD hS => ?_)
        have hP : va_P D vwCl [(g, .inr (4, [.int th, .int (nI kt), .ref gi, .int (nI kw), .ref go, .int (nI kz), .ref gn, .int (nI k), .ref gr, .long kv])), (gn, .inl (cI, 4096, .inl kn)), (gr, .inl (cI, 4096, .inl kr))] H := hP
        have hD : va_D A [(g, .inr (4, [.int th, .int (nI kt), .ref gi, .int (nI kw), .ref go, .int (nI kz), .ref gn, .int (nI k), .ref gr, .long kv])), (gn, .inl (cI, 4096, .inl kn)), (gr, .inl (cI, 4096, .inl kr))] := hD
        refine lv_goto (tgt := 0) hx hb dX4_give_31 (by decide) ?_
        refine ih k H locs ls (Nat.lt_succ_self k) ⟨by omega, ?_⟩ hP hD hS hl
        rw [← he]
        show dvb 65536 kr k = dvb 65536 kr k + un (kr k) * 65536 ^ k
        rw [hd, un_0]; omega
  · rintro - ls hn hl
    have hn : nrm kr v := hn
    refine lv_aload_n hx hb dX4_give_34 rfl (lv_at hl 0 rfl) ?_
    refine lv_aload_n hx hb dX4_give_35 rfl (lv_at hl 0 rfl) ?_
    refine va_get (D := D) (ci := 4) (C := RX4) (T := TX4) (N := 10) (v := .int (nI v)) hx hb hts kin_X4_w hown hK hP 0 rfl rfl 7 (by decide) (hts _ kfl_X4_28) (fun _ h9 => h9) rfl dX4_give_36 ?_
    refine va_put (D := D) (ci := 4) (v := .int (nI v)) (ty := .int) (C := RX4) (T := TX4) (N := 10) hx hb hts kin_X4_w tyX4 tyX4_ok nmX4 hown hK hP hD hS 0 rfl rfl 5 (by decide) (hts _ kfl_X4_33) (fun _ h9 => h9) rfl (by decide +kernel) rfl rfl (Nat.le_of_ble_eq_true rfl) dX4_give_39 (fun H locs hP hD hS => ?_)
    have hP : va_P D vwCl [(g, .inr (4, [.int th, .int (nI kt), .ref gi, .int (nI kw), .ref go, .int (nI v), .ref gn, .int (nI v), .ref gr, .long kv])), (gn, .inl (cI, 4096, .inl kn)), (gr, .inl (cI, 4096, .inl kr))] H := hP
    have hD : va_D A [(g, .inr (4, [.int th, .int (nI kt), .ref gi, .int (nI kw), .ref go, .int (nI v), .ref gn, .int (nI v), .ref gr, .long kv])), (gn, .inl (cI, 4096, .inl kn)), (gr, .inl (cI, 4096, .inl kr))] := hD
    refine lv_iconst (v := nI 0) hx hb dX4_give_42 (by decide) ?_
    refine lv_istore_n (lv' := [(1, .int (nI 0)), (0, .ref g)]) hx hb dX4_give_43 rfl hl (by decide) rfl (fun ls hl => ?_)
    clear ih
    refine dm_loop (nL := 2) (head := 44) (P := fun (x : Nat × (Nat → Int32)) => x.1 ≤ v ∧ ∀ j, j < x.1 → x.2 j = kr j) (w := fun x => [(g, .inr (4, [.int th, .int (nI kt), .ref gi, .int (nI kw), .ref go, .int (nI v), .ref gn, .int (nI v), .ref gr, .long kv])), (gn, .inl (cI, 4096, .inl x.2)), (gr, .inl (cI, 4096, .inl kr))]) (lv := fun x => [(1, .int (nI x.1)), (0, .ref g)]) (μ := fun x => v - x.1) ?_ (0, kn) ⟨Nat.zero_le _, fun j hj => absurd hj (Nat.not_lt_zero _)⟩ hP hD hS hl
    rintro ⟨i, F⟩ H locs ls ⟨hi, hF⟩ hP hD hS hl ih
    dsimp only at hi hF
    have hP : va_P D vwCl [(g, .inr (4, [.int th, .int (nI kt), .ref gi, .int (nI kw), .ref go, .int (nI v), .ref gn, .int (nI v), .ref gr, .long kv])), (gn, .inl (cI, 4096, .inl F)), (gr, .inl (cI, 4096, .inl kr))] H := hP
    have hD : va_D A [(g, .inr (4, [.int th, .int (nI kt), .ref gi, .int (nI kw), .ref go, .int (nI v), .ref gn, .int (nI v), .ref gr, .long kv])), (gn, .inl (cI, 4096, .inl F)), (gr, .inl (cI, 4096, .inl kr))] := hD
    have hl : lv_has ls 2 [(1, .int (nI i)), (0, .ref g)] := hl
    refine lv_iload_n hx hb dX4_give_44 rfl (lv_at hl 0 rfl) ?_
    refine lv_aload_n hx hb dX4_give_45 rfl (lv_at hl 1 rfl) ?_
    refine va_get (D := D) (ci := 4) (C := RX4) (T := TX4) (N := 10) (v := .int (nI v)) hx hb hts kin_X4_w hown hK hP 0 rfl rfl 5 (by decide) (hts _ kfl_X4_33) (fun _ h9 => h9) rfl dX4_give_46 ?_
    refine dm_icmp_ge (tgt := 70) hx hb (by omega) (by omega) dX4_give_49 (by decide) (fun hc => ?_) (fun hc => ?_)
    · have hiv : i = v := by omega
      rw [hiv] at hF
      exact dm_vret hC hK (F, v) ⟨hv, by show dvb _ F v = _; rw [dvb_congr hF, he], nrm_congr hF hn, hF⟩ hP hD hS dX4_give_70
    · refine lv_aload_n hx hb dX4_give_52 rfl (lv_at hl 1 rfl) ?_
      refine va_get (D := D) (ci := 4) (C := RX4) (T := TX4) (N := 10) (v := .ref gn) hx hb hts kin_X4_w hown hK hP 0 rfl rfl 6 (by decide) (hts _ kfl_X4_17) (fun _ h9 => h9) rfl dX4_give_53 ?_
      refine lv_iload_n hx hb dX4_give_56 rfl (lv_at hl 0 rfl) ?_
      refine lv_aload_n hx hb dX4_give_57 rfl (lv_at hl 1 rfl) ?_
      refine va_get (D := D) (ci := 4) (C := RX4) (T := TX4) (N := 10) (v := .ref gr) hx hb hts kin_X4_w hown hK hP 0 rfl rfl 8 (by decide) (hts _ kfl_X4_21) (fun _ h9 => h9) rfl dX4_give_58 ?_
      refine lv_iload_n hx hb dX4_give_61 rfl (lv_at hl 0 rfl) ?_
      refine dm_iald (j := i) hx hb hK hP 2 1 rfl rfl (by omega) (by decide) dX4_give_62 ?_
      refine dm_iast (j := i) (f' := upd F i (kr i)) hx hb hK hP hD hS 1 1 rfl rfl (by omega) (by decide) (rfl) dX4_give_63 (fun H locs hP hD hS => ?_)
      have hP : va_P D vwCl [(g, .inr (4, [.int th, .int (nI kt), .ref gi, .int (nI kw), .ref go, .int (nI v), .ref gn, .int (nI v), .ref gr, .long kv])), (gn, .inl (cI, 4096, .inl (upd F i (kr i)))), (gr, .inl (cI, 4096, .inl kr))] H := hP
      have hD : va_D A [(g, .inr (4, [.int th, .int (nI kt), .ref gi, .int (nI kw), .ref go, .int (nI v), .ref gn, .int (nI v), .ref gr, .long kv])), (gn, .inl (cI, 4096, .inl (upd F i (kr i)))), (gr, .inl (cI, 4096, .inl kr))] := hD
      refine lv_iinc (v := nI (i + 1)) (lv' := [(1, .int (nI (i + 1))), (0, .ref g)]) hx hb dX4_give_64 hl (k := 0) rfl ((nI_succ i).symm) (by decide) rfl (fun ls hl => ?_)
      refine lv_goto (tgt := 44) hx hb dX4_give_67 (by decide) ?_
      exact ih (i + 1, upd F i (kr i)) H locs ls (by show v - (i + 1) < v - i; omega) ⟨by show i + 1 ≤ v; omega, fun j hj => (Nat.lt_or_eq_of_le (Nat.le_of_lt_succ hj)).elim (fun h6 => by show upd F i _ j = _; rw [pk_un (by omega)]; exact hF j h6) (fun h6 => by show upd F i _ j = _; rw [h6, pk_us])⟩ hP hD hS (lv_sub hl [0, 1] rfl)

set_option maxRecDepth 100000 in
set_option maxHeartbeats 4000000 in
theorem c_X4_typed (l : Launch) (D : va_G) (cB cI cC : ClassId) (g gi go gn gr kt kw kz ks : Nat) (th : Int32) (kv : Int64) (ki ko kn kr : Nat → Int32) : MI l yX4_typed (Cond.code yX4_typed cX4_typed 1 (some .int)) 0 D (TY cB cI cC) [.ref g] [(g, .inr (4, [.int th, .int (nI kt), .ref gi, .int (nI kw), .ref go, .int (nI kz), .ref gn, .int (nI ks), .ref gr, .long kv])), (gi, .inl (cC, 65536, .inl ki)), (go, .inl (cC, 65536, .inl ko)), (gn, .inl (cI, 4096, .inl kn)), (gr, .inl (cI, 4096, .inl kr))] (S := Unit) (fun r _ => r = nI kt) (fun _ => [(g, .inr (4, [.int (nI 0), .int (nI kt), .ref gi, .int (nI kw), .ref go, .int (nI kz), .ref gn, .int (nI ks), .ref gr, .long kv])), (gi, .inl (cC, 65536, .inl ki)), (go, .inl (cC, 65536, .inl ko)), (gn, .inl (cI, 4096, .inl kn)), (gr, .inl (cI, 4096, .inl kr))]) := by
  refine MI.of (by decide) (Nat.le_of_ble_eq_true rfl) ?_
  intro p e s m below meth c ls A hC hA hP hK hD hS hl
  obtain ⟨hx, hb, hr, hml, hown, hts, hlocks, hN⟩ := id hC
  have hown : s.vm.findClass RX4 = some m.cls := hown
  have hl : lv_has ls 1 [(0, .ref g)] := hl
  refine lv_aload_n hx hb dX4_typed_0 rfl (lv_at hl 0 rfl) ?_
  refine lv_iconst (v := nI 0) hx hb dX4_typed_1 (by decide) ?_
  refine va_put (D := D) (ci := 4) (v := .int (nI 0)) (ty := .int) (C := RX4) (T := TX4) (N := 10) hx hb hts kin_X4_w tyX4 tyX4_ok nmX4 hown hK hP hD hS 0 rfl rfl 0 (by decide) (hts _ kfl_X4_24) (fun _ h9 => h9) rfl (by decide +kernel) rfl rfl (Nat.le_of_ble_eq_true rfl) dX4_typed_2 (fun H locs hP hD hS => ?_)
  have hP : va_P D vwCl [(g, .inr (4, [.int (nI 0), .int (nI kt), .ref gi, .int (nI kw), .ref go, .int (nI kz), .ref gn, .int (nI ks), .ref gr, .long kv])), (gi, .inl (cC, 65536, .inl ki)), (go, .inl (cC, 65536, .inl ko)), (gn, .inl (cI, 4096, .inl kn)), (gr, .inl (cI, 4096, .inl kr))] H := hP
  have hD : va_D A [(g, .inr (4, [.int (nI 0), .int (nI kt), .ref gi, .int (nI kw), .ref go, .int (nI kz), .ref gn, .int (nI ks), .ref gr, .long kv])), (gi, .inl (cC, 65536, .inl ki)), (go, .inl (cC, 65536, .inl ko)), (gn, .inl (cI, 4096, .inl kn)), (gr, .inl (cI, 4096, .inl kr))] := hD
  refine lv_aload_n hx hb dX4_typed_5 rfl (lv_at hl 0 rfl) ?_
  refine va_get (D := D) (ci := 4) (C := RX4) (T := TX4) (N := 10) (v := .int (nI kt)) hx hb hts kin_X4_w hown hK hP 0 rfl rfl 1 (by decide) (hts _ kfl_X4_38) (fun _ h9 => h9) rfl dX4_typed_6 ?_
  exact dm_iret hC hK () rfl hP hD hS dX4_typed_9

set_option maxRecDepth 100000 in
set_option maxHeartbeats 4000000 in
theorem c_X4_value (l : Launch) (D : va_G) (cB cI cC : ClassId) (g gi go gn gr kt kw kz ks : Nat) (th : Int32) (kv : Int64) (ki ko kn kr : Nat → Int32) : ML l yX4_value (Cond.code yX4_value cX4_value 1 (some .long)) 0 D (TY cB cI cC) [.ref g] [(g, .inr (4, [.int th, .int (nI kt), .ref gi, .int (nI kw), .ref go, .int (nI kz), .ref gn, .int (nI ks), .ref gr, .long kv])), (gi, .inl (cC, 65536, .inl ki)), (go, .inl (cC, 65536, .inl ko)), (gn, .inl (cI, 4096, .inl kn)), (gr, .inl (cI, 4096, .inl kr))] (S := Unit) (fun r _ => r = kv) (fun _ => [(g, .inr (4, [.int (nI 0), .int (nI kt), .ref gi, .int (nI kw), .ref go, .int (nI kz), .ref gn, .int (nI ks), .ref gr, .long kv])), (gi, .inl (cC, 65536, .inl ki)), (go, .inl (cC, 65536, .inl ko)), (gn, .inl (cI, 4096, .inl kn)), (gr, .inl (cI, 4096, .inl kr))]) := by
  refine ML.of (by decide) (Nat.le_of_ble_eq_true rfl) ?_
  intro p e s m below meth c ls A hC hA hP hK hD hS hl
  obtain ⟨hx, hb, hr, hml, hown, hts, hlocks, hN⟩ := id hC
  have hown : s.vm.findClass RX4 = some m.cls := hown
  have hl : lv_has ls 1 [(0, .ref g)] := hl
  refine lv_aload_n hx hb dX4_value_0 rfl (lv_at hl 0 rfl) ?_
  refine lv_iconst (v := nI 0) hx hb dX4_value_1 (by decide) ?_
  refine va_put (D := D) (ci := 4) (v := .int (nI 0)) (ty := .int) (C := RX4) (T := TX4) (N := 10) hx hb hts kin_X4_w tyX4 tyX4_ok nmX4 hown hK hP hD hS 0 rfl rfl 0 (by decide) (hts _ kfl_X4_24) (fun _ h9 => h9) rfl (by decide +kernel) rfl rfl (Nat.le_of_ble_eq_true rfl) dX4_value_2 (fun H locs hP hD hS => ?_)
  have hP : va_P D vwCl [(g, .inr (4, [.int (nI 0), .int (nI kt), .ref gi, .int (nI kw), .ref go, .int (nI kz), .ref gn, .int (nI ks), .ref gr, .long kv])), (gi, .inl (cC, 65536, .inl ki)), (go, .inl (cC, 65536, .inl ko)), (gn, .inl (cI, 4096, .inl kn)), (gr, .inl (cI, 4096, .inl kr))] H := hP
  have hD : va_D A [(g, .inr (4, [.int (nI 0), .int (nI kt), .ref gi, .int (nI kw), .ref go, .int (nI kz), .ref gn, .int (nI ks), .ref gr, .long kv])), (gi, .inl (cC, 65536, .inl ki)), (go, .inl (cC, 65536, .inl ko)), (gn, .inl (cI, 4096, .inl kn)), (gr, .inl (cI, 4096, .inl kr))] := hD
  refine lv_aload_n hx hb dX4_value_5 rfl (lv_at hl 0 rfl) ?_
  refine va_get (D := D) (ci := 4) (C := RX4) (T := TX4) (N := 10) (v := .long kv) hx hb hts kin_X4_w hown hK hP 0 rfl rfl 9 (by decide) (hts _ kfl_X4_84) (fun _ h9 => h9) rfl dX4_value_6 ?_
  exact dm_lret hC hK () rfl hP hD hS dX4_value_9

set_option maxRecDepth 100000 in
set_option maxHeartbeats 4000000 in
theorem c_X4_characterAt (l : Launch) (D : va_G) (cB cI cC : ClassId) (g gi go gn gr kt kw kz ks : Nat) (th : Int32) (kv : Int64) (ki ko kn kr : Nat → Int32) (k : Int32) (hkw : kw ≤ 65536) : MI l yX4_characterAt (Cond.code yX4_characterAt cX4_characterAt 2 (some .int)) 0 D (TY cB cI cC) [.ref g, .int k] [(g, .inr (4, [.int th, .int (nI kt), .ref gi, .int (nI kw), .ref go, .int (nI kz), .ref gn, .int (nI ks), .ref gr, .long kv])), (gi, .inl (cC, 65536, .inl ki)), (go, .inl (cC, 65536, .inl ko)), (gn, .inl (cI, 4096, .inl kn)), (gr, .inl (cI, 4096, .inl kr))] (S := Unit) (fun r _ => (∀ j, j < kw → k = nI j → r = ko j) ∧ ((∀ j, j < kw → k ≠ nI j) → r = -1)) (fun _ => [(g, .inr (4, [.int (nI 0), .int (nI kt), .ref gi, .int (nI kw), .ref go, .int (nI kz), .ref gn, .int (nI ks), .ref gr, .long kv])), (gi, .inl (cC, 65536, .inl ki)), (go, .inl (cC, 65536, .inl ko)), (gn, .inl (cI, 4096, .inl kn)), (gr, .inl (cI, 4096, .inl kr))]) := by
  refine MI.of (by decide) (Nat.le_of_ble_eq_true rfl) ?_
  intro p e s m below meth c ls A hC hA hP hK hD hS hl
  obtain ⟨hx, hb, hr, hml, hown, hts, hlocks, hN⟩ := id hC
  have hown : s.vm.findClass RX4 = some m.cls := hown
  have hl : lv_has ls 2 [(0, .ref g), (1, .int k)] := hl
  refine lv_aload_n hx hb dX4_characterAt_0 rfl (lv_at hl 0 rfl) ?_
  refine lv_iconst (v := nI 0) hx hb dX4_characterAt_1 (by decide) ?_
  refine va_put (D := D) (ci := 4) (v := .int (nI 0)) (ty := .int) (C := RX4) (T := TX4) (N := 10) hx hb hts kin_X4_w tyX4 tyX4_ok nmX4 hown hK hP hD hS 0 rfl rfl 0 (by decide) (hts _ kfl_X4_24) (fun _ h9 => h9) rfl (by decide +kernel) rfl rfl (Nat.le_of_ble_eq_true rfl) dX4_characterAt_2 (fun H locs hP hD hS => ?_)
  have hP : va_P D vwCl [(g, .inr (4, [.int (nI 0), .int (nI kt), .ref gi, .int (nI kw), .ref go, .int (nI kz), .ref gn, .int (nI ks), .ref gr, .long kv])), (gi, .inl (cC, 65536, .inl ki)), (go, .inl (cC, 65536, .inl ko)), (gn, .inl (cI, 4096, .inl kn)), (gr, .inl (cI, 4096, .inl kr))] H := hP
  have hD : va_D A [(g, .inr (4, [.int (nI 0), .int (nI kt), .ref gi, .int (nI kw), .ref go, .int (nI kz), .ref gn, .int (nI ks), .ref gr, .long kv])), (gi, .inl (cC, 65536, .inl ki)), (go, .inl (cC, 65536, .inl ko)), (gn, .inl (cI, 4096, .inl kn)), (gr, .inl (cI, 4096, .inl kr))] := hD
  refine lv_iload_n hx hb dX4_characterAt_5 rfl (lv_at hl 1 rfl) ?_
  refine lv_if_lt (tgt := 17) hx hb dX4_characterAt_6 (by decide) (fun hc => ?_) (fun hc => ?_)
  · refine lv_iconst (v := -1) hx hb dX4_characterAt_17 (by decide) ?_
    refine lv_goto (tgt := 27) hx hb dX4_characterAt_18 (by decide) ?_
    exact dm_iret hC hK () ⟨fun j hj e0 => absurd hc (by rw [e0]; exact nI_pos (by omega)), fun _ => rfl⟩ hP hD hS dX4_characterAt_27
  · refine lv_iload_n hx hb dX4_characterAt_9 rfl (lv_at hl 1 rfl) ?_
    refine lv_aload_n hx hb dX4_characterAt_10 rfl (lv_at hl 0 rfl) ?_
    refine va_get (D := D) (ci := 4) (C := RX4) (T := TX4) (N := 10) (v := .int (nI kw)) hx hb hts kin_X4_w hown hK hP 0 rfl rfl 3 (by decide) (hts _ kfl_X4_56) (fun _ h9 => h9) rfl dX4_characterAt_11 ?_
    refine lv_icmp_lt (tgt := 21) hx hb dX4_characterAt_14 (by decide) (fun hd => ?_) (fun hd => ?_)
    · obtain ⟨j, hj, rfl⟩ : ∃ j : Nat, j < kw ∧ k = nI j := (pk_ix k (by omega)).resolve_left hc |>.resolve_left (fun h9 => absurd hd (Int32.not_lt.mpr h9))
      refine lv_aload_n hx hb dX4_characterAt_21 rfl (lv_at hl 0 rfl) ?_
      refine va_get (D := D) (ci := 4) (C := RX4) (T := TX4) (N := 10) (v := .ref go) hx hb hts kin_X4_w hown hK hP 0 rfl rfl 4 (by decide) (hts _ kfl_X4_14) (fun _ h9 => h9) rfl dX4_characterAt_22 ?_
      refine lv_iload_n hx hb dX4_characterAt_25 rfl (lv_at hl 1 rfl) ?_
      refine dm_cald (j := j) hx hb hK hP 2 2 rfl rfl (by omega) (by decide) dX4_characterAt_26 ?_
      exact dm_iret hC hK () ⟨fun i hi e0 => by rw [(nI_eq (by omega) (by omega)).mp e0], fun h9 => absurd rfl (h9 j hj)⟩ hP hD hS dX4_characterAt_27
    · refine lv_iconst (v := -1) hx hb dX4_characterAt_17 (by decide) ?_
      refine lv_goto (tgt := 27) hx hb dX4_characterAt_18 (by decide) ?_
      exact dm_iret hC hK () ⟨fun j hj e0 => absurd (by rw [e0]; exact nI_lt hj (by omega)) hd, fun _ => rfl⟩ hP hD hS dX4_characterAt_27
