set_option maxRecDepth 100000 in
set_option maxHeartbeats 4000000 in
theorem c_X4_load (l : Launch) (D : va_G) (cB cI cC : ClassId) (g gi go gn gr kt kw kz ks : Nat) (th : Int32) (kv : Int64) (kr : Nat → Int32) (x : Nat) (hx8 : x < 18446744073709551616) : MV l yX4_load (Cond.code yX4_load cX4_load 4 none) 0 D (TY cB cI cC) [.ref g, .long (lN x)] [(g, .inr (4, [.int th, .int (nI kt), .ref gi, .int (nI kw), .ref go, .int (nI kz), .ref gn, .int (nI ks), .ref gr, .long kv])), (gr, .inl (cI, 4096, .inl kr))] (S := (Nat → Int32) × Nat) (fun q => q.2 ≤ 4 ∧ d16 q.1 q.2 ∧ dvb 65536 q.1 q.2 = x ∧ nrm q.1 q.2) (fun q => [(g, .inr (4, [.int th, .int (nI kt), .ref gi, .int (nI kw), .ref go, .int (nI kz), .ref gn, .int (nI q.2), .ref gr, .long kv])), (gr, .inl (cI, 4096, .inl q.1))]) := by
  refine MV.of (by decide) (Nat.le_of_ble_eq_true rfl) ?_
  intro p e s m below meth c ls A hC hA hP hK hD hS hl
  obtain ⟨hx, hb, hr, hml, hown, hts, hlocks, hN⟩ := id hC
  have hown : s.vm.findClass RX4 = some m.cls := hown
  have hl : lv_has ls 4 [(0, .ref g), (1, .long (lN x))] := hl
  refine lv_aload_n hx hb dX4_load_0 rfl (lv_at hl 0 rfl) ?_
  refine lv_iconst (v := nI 4) hx hb dX4_load_1 (by decide) ?_
  refine va_put (D := D) (ci := 4) (v := .int (nI 4)) (ty := .int) (C := RX4) (T := TX4) (N := 10) hx hb hts kin_X4_w tyX4 tyX4_ok nmX4 hown hK hP hD hS 0 rfl rfl 7 (by decide) (hts _ kfl_X4_28) (fun _ h9 => h9) rfl (by decide +kernel) rfl rfl (Nat.le_of_ble_eq_true rfl) dX4_load_2 (fun H locs hP hD hS => ?_)
  have hP : va_P D vwCl [(g, .inr (4, [.int th, .int (nI kt), .ref gi, .int (nI kw), .ref go, .int (nI kz), .ref gn, .int (nI 4), .ref gr, .long kv])), (gr, .inl (cI, 4096, .inl kr))] H := hP
  have hD : va_D A [(g, .inr (4, [.int th, .int (nI kt), .ref gi, .int (nI kw), .ref go, .int (nI kz), .ref gn, .int (nI 4), .ref gr, .long kv])), (gr, .inl (cI, 4096, .inl kr))] := hD
  refine lv_iconst (v := nI 0) hx hb dX4_load_5 (by decide) ?_
  refine lv_istore_n (lv' := [(3, .int (nI 0)), (0, .ref g), (1, .long (lN x))]) hx hb dX4_load_6 rfl hl (by decide) rfl (fun ls hl => ?_)
  refine dm_loop (nL := 4) (head := 7) (P := fun (y : Nat × (Nat → Int32)) => y.1 ≤ 4 ∧ ∀ j, j < y.1 → y.2 j = nI (x / 2 ^ (16 * j) % 65536)) (w := fun y => [(g, .inr (4, [.int th, .int (nI kt), .ref gi, .int (nI kw), .ref go, .int (nI kz), .ref gn, .int (nI 4), .ref gr, .long kv])), (gr, .inl (cI, 4096, .inl y.2))]) (lv := fun y => [(3, .int (nI y.1)), (0, .ref g), (1, .long (lN x))]) (μ := fun y => 4 - y.1) ?_ (0, kr) ⟨Nat.zero_le _, fun j hj => absurd hj (Nat.not_lt_zero _)⟩ hP hD hS hl
  rintro ⟨k, F⟩ H locs ls ⟨k1, k2⟩ hP hD hS hl ih
  dsimp only at k1 k2
  have hP : va_P D vwCl [(g, .inr (4, [.int th, .int (nI kt), .ref gi, .int (nI kw), .ref go, .int (nI kz), .ref gn, .int (nI 4), .ref gr, .long kv])), (gr, .inl (cI, 4096, .inl F))] H := hP
  have hD : va_D A [(g, .inr (4, [.int th, .int (nI kt), .ref gi, .int (nI kw), .ref go, .int (nI kz), .ref gn, .int (nI 4), .ref gr, .long kv])), (gr, .inl (cI, 4096, .inl F))] := hD
  have hl : lv_has ls 4 [(3, .int (nI k)), (0, .ref g), (1, .long (lN x))] := hl
  refine lv_iload_n hx hb dX4_load_7 rfl (lv_at hl 0 rfl) ?_
  refine lv_iconst (v := nI 4) hx hb dX4_load_8 (by decide) ?_
  refine dm_icmp_ge (tgt := 35) hx hb (by omega) (by omega) dX4_load_9 (by decide) (fun hc => ?_) (fun hc => ?_)
  · rw [show k = 4 by omega] at k2
    have f0 := k2 0 (by decide)
    have f1 := k2 1 (by decide)
    have f2 := k2 2 (by decide)
    have f3 := k2 3 (by decide)
    have hdF : d16 F 4 := fun j hj => by rw [k2 j hj, un_nI (by omega)]; omega
    have hv : dvb 65536 F 4 = x := by
      show 0 + un (F 0) * 65536 ^ 0 + un (F 1) * 65536 ^ 1 + un (F 2) * 65536 ^ 2 + un (F 3) * 65536 ^ 3 = x
      rw [f0, f1, f2, f3, un_nI (by omega), un_nI (by omega), un_nI (by omega), un_nI (by omega)]
      omega
    clear ih
    refine dm_loop (nL := 4) (head := 35) (P := fun v => v ≤ 4 ∧ dvb 65536 F v = x) (w := fun v => [(g, .inr (4, [.int th, .int (nI kt), .ref gi, .int (nI kw), .ref go, .int (nI kz), .ref gn, .int (nI v), .ref gr, .long kv])), (gr, .inl (cI, 4096, .inl F))]) (lv := fun _ => [(0, .ref g), (1, .long (lN x))]) (μ := fun v => v) ?_ 4 ⟨Nat.le_refl _, hv⟩ hP hD hS (lv_sub hl [1, 2] rfl)
    rintro v H locs ls ⟨v1, v2⟩ hP hD hS hl ih
    refine lv_aload_n hx hb dX4_load_35 rfl (lv_at hl 0 rfl) ?_
    refine va_get (D := D) (ci := 4) (C := RX4) (T := TX4) (N := 10) (v := .int (nI v)) hx hb hts kin_X4_w hown hK hP 0 rfl rfl 7 (by decide) (hts _ kfl_X4_28) (fun _ h9 => h9) rfl dX4_load_36 ?_
    refine dm_if_le (tgt := 69) hx hb (by omega) dX4_load_39 (by decide) (fun hc2 => ?_) (fun hc2 => ?_)
    · exact dm_vret hC hK (F, v) ⟨v1, fun j hj => hdF j (by have hj : j < v := hj; omega), v2, by rw [hc2]; exact nrm_0 F⟩ hP hD hS dX4_load_69
    · obtain ⟨k3, rfl⟩ : ∃ k3, v = k3 + 1 := ⟨v - 1, by omega⟩
      refine lv_aload_n hx hb dX4_load_42 rfl (lv_at hl 0 rfl) ?_
      refine va_get (D := D) (ci := 4) (C := RX4) (T := TX4) (N := 10) (v := .ref gr) hx hb hts kin_X4_w hown hK hP 0 rfl rfl 8 (by decide) (hts _ kfl_X4_21) (fun _ h9 => h9) rfl dX4_load_43 ?_
      refine lv_aload_n hx hb dX4_load_46 rfl (lv_at hl 0 rfl) ?_
      refine va_get (D := D) (ci := 4) (C := RX4) (T := TX4) (N := 10) (v := .int (nI (k3 + 1))) hx hb hts kin_X4_w hown hK hP 0 rfl rfl 7 (by decide) (hts _ kfl_X4_28) (fun _ h9 => h9) rfl dX4_load_47 ?_
      refine lv_iconst (v := nI 1) hx hb dX4_load_50 (by decide) ?_
      refine lv_isub hx hb dX4_load_51 ?_
      refine dm_ti (y := nI k3) (nI_pred k3) ?_
      refine dm_iald (j := k3) hx hb hK hP 1 1 rfl rfl (by omega) (by decide) dX4_load_52 ?_
      refine lv_if_ne (tgt := 69) hx hb dX4_load_53 (by decide) (fun hd2 => ?_) (fun hd2 => ?_)
      · exact dm_vret hC hK (F, k3 + 1) ⟨v1, fun j hj => hdF j (by have hj : j < k3 + 1 := hj; omega), v2, fun j e0 => by rw [show j = k3 by omega]; exact hd2⟩ hP hD hS dX4_load_69
      · refine lv_aload_n hx hb dX4_load_56 rfl (lv_at hl 0 rfl) ?_
        refine lv_dup hx hb dX4_load_57 rfl ?_
        refine va_get (D := D) (ci := 4) (C := RX4) (T := TX4) (N := 10) (v := .int (nI (k3 + 1))) hx hb hts kin_X4_w hown hK hP 0 rfl rfl 7 (by decide) (hts _ kfl_X4_28) (fun _ h9 => h9) rfl dX4_load_58 ?_
        refine lv_iconst (v := nI 1) hx hb dX4_load_61 (by decide) ?_
        refine lv_isub hx hb dX4_load_62 ?_
        refine dm_ti (y := nI k3) (nI_pred k3) ?_
        refine va_put (D := D) (ci := 4) (v := .int (nI k3)) (ty := .int) (C := RX4) (T := TX4) (N := 10) hx hb hts kin_X4_w tyX4 tyX4_ok nmX4 hown hK hP hD hS 0 rfl rfl 7 (by decide) (hts _ kfl_X4_28) (fun _ h9 => h9) rfl (by decide +kernel) rfl rfl (Nat.le_of_ble_eq_true rfl) dX4_load_63 (fun H locs hP hD hS => ?_)
        have hP : va_P D vwCl [(g, .inr (4, [.int th, .int (nI kt), .ref gi, .int (nI kw), .ref go, .int (nI kz), .ref gn, .int (nI k3), .ref gr, .long kv])), (gr, .inl (cI, 4096, .inl F))] H := hP
        have hD : va_D A [(g, .inr (4, [.int th, .int (nI kt), .ref gi, .int (nI kw), .ref go, .int (nI kz), .ref gn, .int (nI k3), .ref gr, .long kv])), (gr, .inl (cI, 4096, .inl F))] := hD
        refine lv_goto (tgt := 35) hx hb dX4_load_66 (by decide) ?_
        refine ih k3 H locs ls (Nat.lt_succ_self k3) ⟨by omega, ?_⟩ hP hD hS hl
        rw [← v2]
        show dvb 65536 F k3 = dvb 65536 F k3 + un (F k3) * 65536 ^ k3
        rw [hd2, un_0]; omega
  · refine lv_aload_n hx hb dX4_load_12 rfl (lv_at hl 1 rfl) ?_
    refine va_get (D := D) (ci := 4) (C := RX4) (T := TX4) (N := 10) (v := .ref gr) hx hb hts kin_X4_w hown hK hP 0 rfl rfl 8 (by decide) (hts _ kfl_X4_21) (fun _ h9 => h9) rfl dX4_load_13 ?_
    refine lv_iload_n hx hb dX4_load_16 rfl (lv_at hl 0 rfl) ?_
    refine lv_lload_n hx hb dX4_load_17 rfl (lv_at hl 2 rfl) ?_
    refine lv_bipush (v := nI 16) hx hb dX4_load_18 (by decide) ?_
    refine lv_iload_n hx hb dX4_load_20 rfl (lv_at hl 0 rfl) ?_
    refine lv_imul hx hb dX4_load_21 ?_
    refine dm_ti (y := nI (16 * k)) (pk_mul 16 k) ?_
    refine lv_lshr (v := (lN x >>> ((nI (16 * k) : Int32).toInt64 &&& 63))) hx hb dX4_load_22 (rfl) ?_
    refine lv_ldc2 (v := 65535) hx hb hown (hts _ kct_X4_31) dX4_load_23 ?_
    refine lv_land hx hb dX4_load_26 ?_
    refine dm_tl (y := lN (x / 2 ^ (16 * k) % 65536)) (sar_mask (k := 16) hx8 (by omega) (by omega) (by decide)) ?_
    refine lv_l2i (v := nI (x / 2 ^ (16 * k) % 65536)) hx hb dX4_load_27 (lN_low) ?_
    refine dm_iast (j := k) (f' := upd F k (nI (x / 2 ^ (16 * k) % 65536))) hx hb hK hP hD hS 1 1 rfl rfl (by omega) (by decide) (rfl) dX4_load_28 (fun H locs hP hD hS => ?_)
    have hP : va_P D vwCl [(g, .inr (4, [.int th, .int (nI kt), .ref gi, .int (nI kw), .ref go, .int (nI kz), .ref gn, .int (nI 4), .ref gr, .long kv])), (gr, .inl (cI, 4096, .inl (upd F k (nI (x / 2 ^ (16 * k) % 65536)))))] H := hP
    have hD : va_D A [(g, .inr (4, [.int th, .int (nI kt), .ref gi, .int (nI kw), .ref go, .int (nI kz), .ref gn, .int (nI 4), .ref gr, .long kv])), (gr, .inl (cI, 4096, .inl (upd F k (nI (x / 2 ^ (16 * k) % 65536)))))] := hD
    refine lv_iinc (v := nI (k + 1)) (lv' := [(3, .int (nI (k + 1))), (0, .ref g), (1, .long (lN x))]) hx hb dX4_load_29 hl (k := 0) rfl ((nI_succ k).symm) (by decide) rfl (fun ls hl => ?_)
    refine lv_goto (tgt := 7) hx hb dX4_load_32 (by decide) ?_
    exact ih (k + 1, upd F k (nI (x / 2 ^ (16 * k) % 65536))) H locs ls (by show 4 - (k + 1) < 4 - k; omega) ⟨by show k + 1 ≤ 4; omega, fun j hj => (Nat.lt_or_eq_of_le (Nat.le_of_lt_succ hj)).elim (fun h6 => by show upd F k _ j = _; rw [pk_un (by omega)]; exact k2 j h6) (fun h6 => by show upd F k _ j = _; rw [h6, pk_us])⟩ hP hD hS (lv_sub hl [0, 1, 2] rfl)

set_option maxRecDepth 100000 in
set_option maxHeartbeats 4000000 in
theorem c_X4_show (l : Launch) (D : va_G) (cB cI cC : ClassId) (g gi go gn gr kt kw kz ks : Nat) (th : Int32) (kv : Int64) (ki ko kn kr : Nat → Int32) (xv sg : Nat) (wd x : Int32) (hkw : kw ≤ 65536) (hxv : xv < 18446744073709551616) (hsg : sg < 2) : MI l yX4_show (Cond.code yX4_show cX4_show 9 (some .int)) 1 D (TY cB cI cC) [.ref g, .long (lN xv), .int wd, .int x, .int (nI sg)] [(g, .inr (4, [.int th, .int (nI kt), .ref gi, .int (nI kw), .ref go, .int (nI kz), .ref gn, .int (nI ks), .ref gr, .long kv])), (gi, .inl (cC, 65536, .inl ki)), (go, .inl (cC, 65536, .inl ko)), (gn, .inl (cI, 4096, .inl kn)), (gr, .inl (cI, 4096, .inl kr))] (S := (Nat → Int32) × Nat × (Nat → Int32) × Nat) (fun b q => q.2.1 ≤ 65536 ∧ ((¬ (isWd wd ∧ isR x) ∧ b = -1 ∧ q.1 = ko ∧ q.2.1 = kw) ∨ (isWd wd ∧ ∃ r c, 2 ≤ r ∧ r ≤ 36 ∧ x = nI r ∧ isND r (smg wd sg xv) c ∧ q.2.1 = c + sng wd sg xv ∧ b = nI q.2.1 ∧ txt q.2.1 (fun j => outG r (smg wd sg xv) c (q.2.1 - 1 - j)) q.1))) (fun q => [(g, .inr (4, [.int (nI 0), .int (nI kt), .ref gi, .int (nI q.2.1), .ref go, .int (nI kz), .ref gn, .int (nI q.2.2.2), .ref gr, .long kv])), (gi, .inl (cC, 65536, .inl ki)), (go, .inl (cC, 65536, .inl q.1)), (gn, .inl (cI, 4096, .inl kn)), (gr, .inl (cI, 4096, .inl q.2.2.1))]) := by
  refine MI.of (by decide) (Nat.le_of_ble_eq_true rfl) ?_
  intro p e s m below meth c ls A hC hA hP hK hD hS hl
  obtain ⟨hx, hb, hr, hml, hown, hts, hlocks, hN⟩ := id hC
  have hown : s.vm.findClass RX4 = some m.cls := hown
  have hl : lv_has ls 9 [(0, .ref g), (1, .long (lN xv)), (3, .int wd), (4, .int x), (5, .int (nI sg))] := hl
  refine lv_aload_n hx hb dX4_show_0 rfl (lv_at hl 0 rfl) ?_
  refine lv_iconst (v := nI 0) hx hb dX4_show_1 (by decide) ?_
  refine va_put (D := D) (ci := 4) (v := .int (nI 0)) (ty := .int) (C := RX4) (T := TX4) (N := 10) hx hb hts kin_X4_w tyX4 tyX4_ok nmX4 hown hK hP hD hS 0 rfl rfl 0 (by decide) (hts _ kfl_X4_24) (fun _ h9 => h9) rfl (by decide +kernel) rfl rfl (Nat.le_of_ble_eq_true rfl) dX4_show_2 (fun H locs hP hD hS => ?_)
  have hP : va_P D vwCl [(g, .inr (4, [.int (nI 0), .int (nI kt), .ref gi, .int (nI kw), .ref go, .int (nI kz), .ref gn, .int (nI ks), .ref gr, .long kv])), (gi, .inl (cC, 65536, .inl ki)), (go, .inl (cC, 65536, .inl ko)), (gn, .inl (cI, 4096, .inl kn)), (gr, .inl (cI, 4096, .inl kr))] H := hP
  have hD : va_D A [(g, .inr (4, [.int (nI 0), .int (nI kt), .ref gi, .int (nI kw), .ref go, .int (nI kz), .ref gn, .int (nI ks), .ref gr, .long kv])), (gi, .inl (cC, 65536, .inl ki)), (go, .inl (cC, 65536, .inl ko)), (gn, .inl (cI, 4096, .inl kn)), (gr, .inl (cI, 4096, .inl kr))] := hD
  refine lv_iload_n hx hb dX4_show_5 rfl (lv_at hl 2 rfl) ?_
  refine dm_gori (dm_rS (n := 1) (As := [.int wd]) (rest := []) hC hl (c_X4_isWidth l D cB cI cC wd H.size) kco_X4_isWidth ki_X4 kst_X4_isWidth kml_X4_75 (by decide +kernel) ⟨Nat.le_of_ble_eq_true rfl, Nat.le_of_ble_eq_true rfl⟩ rfl rfl ⟨dm_blind, dm_preU hK hP hD hC.2.2.2.2.2.2.2 [] (by decide) rfl⟩ rfl rfl (Nat.le_of_ble_eq_true rfl) dX4_show_6 ⟨Nat.le_of_ble_eq_true rfl, Nat.le_of_ble_eq_true rfl⟩) (fun r1 e1 => ?_)
  refine lv_if_eq (tgt := 20) hx hb dX4_show_9 (by decide) (fun hc => ?_) (fun hc => ?_)
  · refine lv_iconst (v := -1) hx hb dX4_show_20 (by decide) ?_
    exact dm_iret hC hK (ko, kw, kr, ks) ⟨hkw, Or.inl ⟨fun h9 => (e1.resolve_left (fun h8 => absurd (hc.symm.trans h8.2) (by decide))).1 h9.1, rfl, rfl, rfl⟩⟩ hP hD hS dX4_show_21
  · have hwd := (e1.resolve_right (fun h8 => hc h8.2)).1
    refine lv_iload hx hb dX4_show_12 (lv_at hl 3 rfl) ?_
    refine dm_gori (dm_rS (n := 1) (As := [.int x]) (rest := []) hC hl (c_X4_isRadix l D cB cI cC x H.size) kco_X4_isRadix ki_X4 kst_X4_isRadix kml_X4_41 (by decide +kernel) ⟨Nat.le_of_ble_eq_true rfl, Nat.le_of_ble_eq_true rfl⟩ rfl rfl ⟨dm_blind, dm_preU hK hP hD hC.2.2.2.2.2.2.2 [] (by decide) rfl⟩ rfl rfl (Nat.le_of_ble_eq_true rfl) dX4_show_14 ⟨Nat.le_of_ble_eq_true rfl, Nat.le_of_ble_eq_true rfl⟩) (fun r2 e2 => ?_)
    refine lv_if_ne (tgt := 22) hx hb dX4_show_17 (by decide) (fun hd => ?_) (fun hd => ?_)
    · obtain ⟨⟨r, hr2, hr36, rfl⟩, -⟩ := e2.resolve_right (fun h9 => hd h9.2)
      have hsv := svf_lt (wd := wd) (sg := sg) hxv
      obtain ⟨sv, hsve⟩ : ∃ z, z = svf wd sg xv := ⟨_, rfl⟩
      refine dm_joinl (P := fun z => z = lN sv) 48 [] (fun hJ => ?_) ?_
      · refine lv_iload_n hx hb dX4_show_22 rfl (lv_at hl 2 rfl) ?_
        refine lv_bipush (v := nI 64) hx hb dX4_show_23 (by decide) ?_
        refine lv_icmp_ne (tgt := 32) hx hb dX4_show_25 (by decide) (fun hq => ?_) (fun hq => ?_)
        · have hw : wd = nI 32 := hwd.resolve_right hq
          refine lv_iload hx hb dX4_show_32 (lv_at hl 4 rfl) ?_
          refine dm_if_eq (tgt := 43) hx hb (by omega) dX4_show_34 (by decide) (fun hs => ?_) (fun hs => ?_)
          · refine lv_lload_n hx hb dX4_show_43 rfl (lv_at hl 1 rfl) ?_
            refine lv_ldc2 (v := 4294967295) hx hb hown (hts _ kct_X4_78) dX4_show_44 ?_
            refine lv_land hx hb dX4_show_47 ?_
            refine dm_tl (y := lN sv) (by rw [hsve]; unfold svf; rw [if_pos hw, if_neg (show ¬ sg = 1 by omega)]; exact wb_mask (k := 32) hxv (by decide)) ?_
            exact hJ _ rfl
          · refine lv_lload_n hx hb dX4_show_37 rfl (lv_at hl 1 rfl) ?_
            refine lv_l2i (v := nI xv) hx hb dX4_show_38 (lN_low) ?_
            refine lv_i2l (v := lN sv) hx hb dX4_show_39 (by rw [sxl, un_mod, hsve]; unfold svf; rw [if_pos hw, if_pos (show sg = 1 by omega)]) ?_
            refine lv_goto (tgt := 48) hx hb dX4_show_40 (by decide) ?_
            exact hJ _ rfl
        · refine lv_lload_n hx hb dX4_show_28 rfl (lv_at hl 1 rfl) ?_
          refine dm_tl (y := lN sv) (by rw [hsve]; unfold svf; rw [if_neg (fun h9 => absurd (hq.symm.trans h9) (by decide))]) ?_
          refine lv_goto (tgt := 48) hx hb dX4_show_29 (by decide) ?_
          exact hJ _ rfl
      · rintro z rfl
        have hsv : sv < 18446744073709551616 := by rw [hsve]; exact hsv
        obtain ⟨mg, hmg⟩ : ∃ z, z = smg wd sg xv := ⟨_, rfl⟩
        obtain ⟨ng, hng⟩ : ∃ z, z = sng wd sg xv := ⟨_, rfl⟩
        rw [← hmg, ← hng]
        unfold smg at hmg
        unfold sng at hng
        rw [← hsve] at hmg hng
        refine lv_lstore (lv' := [(6, .long (lN sv)), (0, .ref g), (1, .long (lN xv)), (3, .int wd), (4, .int (nI r)), (5, .int (nI sg))]) hx hb dX4_show_48 hl (by decide) rfl (fun ls hl => ?_)
        by_cases hneg : sg = 1 ∧ 9223372036854775808 ≤ sv
        · rw [if_pos hneg] at hmg hng
          have hmgl : mg < 18446744073709551616 := by omega
          refine lv_iload hx hb dX4_show_50 (lv_at hl 5 rfl) ?_
          refine dm_if_eq (tgt := 66) hx hb (by omega) dX4_show_52 (by decide) (fun hs => ?_) (fun hs => ?_)
          · omega
          · refine lv_lload hx hb dX4_show_55 (lv_at hl 0 rfl) ?_
            refine lv_lconst (v := lN 0) hx hb dX4_show_57 (by decide) ?_
            refine W.lcmp hx hb dX4_show_58 ?_
            refine dm_ti (y := lg_cmp (lN sv) (lN 0)) (rfl) ?_
            refine lv_if_ge (tgt := 66) hx hb dX4_show_59 (by decide) (fun hs2 => ?_) (fun hs2 => ?_)
            · exact absurd ((lg_cmp_ge _ _).mp hs2) (Int64.not_le.mpr (lN_neg hneg.2 hsv))
            · refine lv_iconst (v := nI 1) hx hb dX4_show_62 (by decide) ?_
              refine lv_goto (tgt := 67) hx hb dX4_show_63 (by decide) ?_
              refine lv_istore (lv' := [(8, .int (nI 1)), (6, .long (lN sv)), (0, .ref g), (1, .long (lN xv)), (3, .int wd), (4, .int (nI r)), (5, .int (nI sg))]) hx hb dX4_show_67 hl (by decide) rfl (fun ls hl => ?_)
              refine lv_aload_n hx hb dX4_show_69 rfl (lv_at hl 2 rfl) ?_
              refine lv_iload hx hb dX4_show_70 (lv_at hl 0 rfl) ?_
              refine dm_if_eq (tgt := 81) hx hb (by omega) dX4_show_72 (by decide) (fun hg => ?_) (fun hg => ?_)
              · omega
              · refine lv_lload hx hb dX4_show_75 (lv_at hl 1 rfl) ?_
                refine lv_lneg hx hb dX4_show_77 ?_
                refine dm_tl (y := lN mg) (by rw [hmg]; exact lN_negate (by omega) (by omega)) ?_
                refine lv_goto (tgt := 83) hx hb dX4_show_78 (by decide) ?_
                refine dm_gov (wr := [(gi, .inl (cC, 65536, .inl ki)), (go, .inl (cC, 65536, .inl ko)), (gn, .inl (cI, 4096, .inl kn))]) (dm_rV (n := 1) (As := [.long (lN mg)]) (rest := []) hC hl (c_X4_load l D cB cI cC g gi go gn gr kt kw kz ks (nI 0) kv kr mg hmgl H.size) kco_X4_load ki_X4 kim_X4_load kse_X4_load kml_X4_80 (by decide +kernel) ⟨Nat.le_of_ble_eq_true rfl, Nat.le_of_ble_eq_true rfl⟩ rfl rfl ⟨dm_blind, va_recv hK hP (ci := 4) (q0 := 0) rfl rfl, dm_preU hK hP hD hC.2.2.2.2.2.2.2 [0, 4] (by decide) rfl⟩ rfl rfl (Nat.le_of_ble_eq_true rfl) dX4_show_83 ⟨Nat.le_of_ble_eq_true rfl, Nat.le_of_ble_eq_true rfl⟩) hP hD hS hA [0, 4] [1, 2, 3] rfl rfl (by decide) (by decide) (fun q H locs hb9 hP hD hS => ?_)
                obtain ⟨R0, S0⟩ := q
                have hP : va_P D vwCl [(gi, .inl (cC, 65536, .inl ki)), (go, .inl (cC, 65536, .inl ko)), (gn, .inl (cI, 4096, .inl kn)), (g, .inr (4, [.int (nI 0), .int (nI kt), .ref gi, .int (nI kw), .ref go, .int (nI kz), .ref gn, .int (nI S0), .ref gr, .long kv])), (gr, .inl (cI, 4096, .inl R0))] H := hP
                have hD : va_D A [(gi, .inl (cC, 65536, .inl ki)), (go, .inl (cC, 65536, .inl ko)), (gn, .inl (cI, 4096, .inl kn)), (g, .inr (4, [.int (nI 0), .int (nI kt), .ref gi, .int (nI kw), .ref go, .int (nI kz), .ref gn, .int (nI S0), .ref gr, .long kv])), (gr, .inl (cI, 4096, .inl R0))] := hD
                have hP := hP.sub (ws' := [(g, .inr (4, [.int (nI 0), .int (nI kt), .ref gi, .int (nI kw), .ref go, .int (nI kz), .ref gn, .int (nI S0), .ref gr, .long kv])), (gi, .inl (cC, 65536, .inl ki)), (go, .inl (cC, 65536, .inl ko)), (gn, .inl (cI, 4096, .inl kn)), (gr, .inl (cI, 4096, .inl R0))]) [3, 0, 1, 2, 4] rfl
                have hD := hD.sub (ws' := [(g, .inr (4, [.int (nI 0), .int (nI kt), .ref gi, .int (nI kw), .ref go, .int (nI kz), .ref gn, .int (nI S0), .ref gr, .long kv])), (gi, .inl (cC, 65536, .inl ki)), (go, .inl (cC, 65536, .inl ko)), (gn, .inl (cI, 4096, .inl kn)), (gr, .inl (cI, 4096, .inl R0))]) [3, 0, 1, 2, 4] (by decide) rfl
                obtain ⟨b1, b2, b3, b4⟩ := hb9
                dsimp only at b1 b2 b3 b4
                refine lv_aload_n hx hb dX4_show_86 rfl (lv_at hl 2 rfl) ?_
                refine lv_iconst (v := nI 0) hx hb dX4_show_87 (by decide) ?_
                refine va_put (D := D) (ci := 4) (v := .int (nI 0)) (ty := .int) (C := RX4) (T := TX4) (N := 10) hx hb hts kin_X4_w tyX4 tyX4_ok nmX4 hown hK hP hD hS 0 rfl rfl 3 (by decide) (hts _ kfl_X4_56) (fun _ h9 => h9) rfl (by decide +kernel) rfl rfl (Nat.le_of_ble_eq_true rfl) dX4_show_88 (fun H locs hP hD hS => ?_)
                have hP : va_P D vwCl [(g, .inr (4, [.int (nI 0), .int (nI kt), .ref gi, .int (nI 0), .ref go, .int (nI kz), .ref gn, .int (nI S0), .ref gr, .long kv])), (gi, .inl (cC, 65536, .inl ki)), (go, .inl (cC, 65536, .inl ko)), (gn, .inl (cI, 4096, .inl kn)), (gr, .inl (cI, 4096, .inl R0))] H := hP
                have hD : va_D A [(g, .inr (4, [.int (nI 0), .int (nI kt), .ref gi, .int (nI 0), .ref go, .int (nI kz), .ref gn, .int (nI S0), .ref gr, .long kv])), (gi, .inl (cC, 65536, .inl ki)), (go, .inl (cC, 65536, .inl ko)), (gn, .inl (cI, 4096, .inl kn)), (gr, .inl (cI, 4096, .inl R0))] := hD
                refine dm_loop (nL := 9) (head := 91) (P := fun (y : Nat × (Nat → Int32) × (Nat → Int32) × Nat) => y.1 ≤ 64 ∧ y.2.2.2 ≤ 4 ∧ d16 y.2.2.1 y.2.2.2 ∧ nrm y.2.2.1 y.2.2.2 ∧ dvb 65536 y.2.2.1 y.2.2.2 = mg / r ^ y.1 ∧ (y.1 = 0 ∨ r ^ (y.1 - 1) ≤ mg) ∧ txt y.1 (fun i => cdv (mg / r ^ i % r)) y.2.1) (w := fun y => [(g, .inr (4, [.int (nI 0), .int (nI kt), .ref gi, .int (nI y.1), .ref go, .int (nI kz), .ref gn, .int (nI y.2.2.2), .ref gr, .long kv])), (gi, .inl (cC, 65536, .inl ki)), (go, .inl (cC, 65536, .inl y.2.1)), (gn, .inl (cI, 4096, .inl kn)), (gr, .inl (cI, 4096, .inl y.2.2.1))]) (lv := fun _ => [(8, .int (nI 1)), (4, .int (nI r)), (0, .ref g)]) (μ := fun y => 64 - y.1) ?_ (0, ko, R0, S0) ⟨Nat.zero_le _, b1, b2, b4, by dsimp only; rw [Nat.pow_zero, Nat.div_one]; exact b3, Or.inl rfl, fun j hj => absurd hj (Nat.not_lt_zero _)⟩ hP hD hS (lv_sub hl [0, 5, 2] rfl)
                rintro ⟨cn, G, F, S⟩ H locs ls ⟨h1, h2, h3, h4, h5, h6, h7⟩ hP hD hS hl ih
                dsimp only at h1 h2 h3 h4 h5 h6 h7
                have hP : va_P D vwCl [(g, .inr (4, [.int (nI 0), .int (nI kt), .ref gi, .int (nI cn), .ref go, .int (nI kz), .ref gn, .int (nI S), .ref gr, .long kv])), (gi, .inl (cC, 65536, .inl ki)), (go, .inl (cC, 65536, .inl G)), (gn, .inl (cI, 4096, .inl kn)), (gr, .inl (cI, 4096, .inl F))] H := hP
                have hD : va_D A [(g, .inr (4, [.int (nI 0), .int (nI kt), .ref gi, .int (nI cn), .ref go, .int (nI kz), .ref gn, .int (nI S), .ref gr, .long kv])), (gi, .inl (cC, 65536, .inl ki)), (go, .inl (cC, 65536, .inl G)), (gn, .inl (cI, 4096, .inl kn)), (gr, .inl (cI, 4096, .inl F))] := hD
                have hl : lv_has ls 9 [(8, .int (nI 1)), (4, .int (nI r)), (0, .ref g)] := hl
                refine lv_aload_n hx hb dX4_show_91 rfl (lv_at hl 2 rfl) ?_
                refine va_get (D := D) (ci := 4) (C := RX4) (T := TX4) (N := 10) (v := .int (nI S)) hx hb hts kin_X4_w hown hK hP 0 rfl rfl 7 (by decide) (hts _ kfl_X4_28) (fun _ h9 => h9) rfl dX4_show_92 ?_
                refine dm_if_le (tgt := 129) hx hb (by omega) dX4_show_95 (by decide) (fun hz => ?_) (fun hz => ?_)
                · have hlt : mg < r ^ cn := (Nat.div_eq_zero_iff.mp (by rw [← h5, hz]; rfl)).resolve_left (Nat.ne_of_gt (Nat.pow_pos (by omega)))
                  refine lv_aload_n hx hb dX4_show_129 rfl (lv_at hl 2 rfl) ?_
                  refine va_get (D := D) (ci := 4) (C := RX4) (T := TX4) (N := 10) (v := .int (nI cn)) hx hb hts kin_X4_w hown hK hP 0 rfl rfl 3 (by decide) (hts _ kfl_X4_56) (fun _ h9 => h9) rfl dX4_show_130 ?_
                  refine dm_if_ne (tgt := 149) hx hb (by omega) dX4_show_133 (by decide) (fun hw => ?_) (fun hw => ?_)
                  · refine lv_iload hx hb dX4_show_149 (lv_at hl 0 rfl) ?_
                    refine dm_if_eq (tgt := 175) hx hb (by omega) dX4_show_151 (by decide) (fun hk => ?_) (fun hk => ?_)
                    · omega
                    · refine lv_aload_n hx hb dX4_show_154 rfl (lv_at hl 2 rfl) ?_
                      refine va_get (D := D) (ci := 4) (C := RX4) (T := TX4) (N := 10) (v := .ref go) hx hb hts kin_X4_w hown hK hP 0 rfl rfl 4 (by decide) (hts _ kfl_X4_14) (fun _ h9 => h9) rfl dX4_show_155 ?_
                      refine lv_aload_n hx hb dX4_show_158 rfl (lv_at hl 2 rfl) ?_
                      refine va_get (D := D) (ci := 4) (C := RX4) (T := TX4) (N := 10) (v := .int (nI cn)) hx hb hts kin_X4_w hown hK hP 0 rfl rfl 3 (by decide) (hts _ kfl_X4_56) (fun _ h9 => h9) rfl dX4_show_159 ?_
                      refine lv_bipush (v := nI 45) hx hb dX4_show_162 (by decide) ?_
                      refine dm_cast (j := cn) (f' := upd (G) cn (nI 45)) hx hb hK hP hD hS 2 2 rfl rfl (by omega) (by decide) (by rw [narC (by decide)]) dX4_show_164 (fun H locs hP hD hS => ?_)
                      have hP : va_P D vwCl [(g, .inr (4, [.int (nI 0), .int (nI kt), .ref gi, .int (nI cn), .ref go, .int (nI kz), .ref gn, .int (nI S), .ref gr, .long kv])), (gi, .inl (cC, 65536, .inl ki)), (go, .inl (cC, 65536, .inl (upd (G) cn (nI 45)))), (gn, .inl (cI, 4096, .inl kn)), (gr, .inl (cI, 4096, .inl F))] H := hP
                      have hD : va_D A [(g, .inr (4, [.int (nI 0), .int (nI kt), .ref gi, .int (nI cn), .ref go, .int (nI kz), .ref gn, .int (nI S), .ref gr, .long kv])), (gi, .inl (cC, 65536, .inl ki)), (go, .inl (cC, 65536, .inl (upd (G) cn (nI 45)))), (gn, .inl (cI, 4096, .inl kn)), (gr, .inl (cI, 4096, .inl F))] := hD
                      refine lv_aload_n hx hb dX4_show_165 rfl (lv_at hl 2 rfl) ?_
                      refine lv_dup hx hb dX4_show_166 rfl ?_
                      refine va_get (D := D) (ci := 4) (C := RX4) (T := TX4) (N := 10) (v := .int (nI cn)) hx hb hts kin_X4_w hown hK hP 0 rfl rfl 3 (by decide) (hts _ kfl_X4_56) (fun _ h9 => h9) rfl dX4_show_167 ?_
                      refine lv_iconst (v := nI 1) hx hb dX4_show_170 (by decide) ?_
                      refine lv_iadd hx hb dX4_show_171 ?_
                      refine dm_ti (y := nI (cn + 1)) (nI_1 _) ?_
                      refine va_put (D := D) (ci := 4) (v := .int (nI (cn + 1))) (ty := .int) (C := RX4) (T := TX4) (N := 10) hx hb hts kin_X4_w tyX4 tyX4_ok nmX4 hown hK hP hD hS 0 rfl rfl 3 (by decide) (hts _ kfl_X4_56) (fun _ h9 => h9) rfl (by decide +kernel) rfl rfl (Nat.le_of_ble_eq_true rfl) dX4_show_172 (fun H locs hP hD hS => ?_)
                      have hP : va_P D vwCl [(g, .inr (4, [.int (nI 0), .int (nI kt), .ref gi, .int (nI (cn + 1)), .ref go, .int (nI kz), .ref gn, .int (nI S), .ref gr, .long kv])), (gi, .inl (cC, 65536, .inl ki)), (go, .inl (cC, 65536, .inl (upd (G) cn (nI 45)))), (gn, .inl (cI, 4096, .inl kn)), (gr, .inl (cI, 4096, .inl F))] H := hP
                      have hD : va_D A [(g, .inr (4, [.int (nI 0), .int (nI kt), .ref gi, .int (nI (cn + 1)), .ref go, .int (nI kz), .ref gn, .int (nI S), .ref gr, .long kv])), (gi, .inl (cC, 65536, .inl ki)), (go, .inl (cC, 65536, .inl (upd (G) cn (nI 45)))), (gn, .inl (cI, 4096, .inl kn)), (gr, .inl (cI, 4096, .inl F))] := hD
                      refine lv_aload_n hx hb dX4_show_175 rfl (lv_at hl 2 rfl) ?_
                      have htt : txt (cn + 1) (outG r mg cn) (upd (G) cn (nI 45)) := by
                        intro j hj
                        rcases (show j < cn ∨ j = cn by omega) with h9 | h9
                        · unfold outG; rw [if_pos h9, pk_un (by omega)]; exact h7 j h9
                        · unfold outG; rw [if_neg (by omega), h9, pk_us]; exact ⟨rfl, by decide⟩
                      refine dm_gov (wr := [(gi, .inl (cC, 65536, .inl ki)), (gn, .inl (cI, 4096, .inl kn)), (gr, .inl (cI, 4096, .inl F))]) (dm_rV (n := 0) (As := []) (rest := []) hC hl (c_X4_turnOut l D cB cI cC g gi go gn gr kt (cn + 1) kz S (nI 0) kv (upd (G) cn (nI 45)) (outG r mg cn) (by omega) (by omega) htt H.size) kco_X4_turnOut ki_X4 kim_X4_turnOut kse_X4_turnOut kml_X4_70 (by decide +kernel) ⟨Nat.le_of_ble_eq_true rfl, Nat.le_of_ble_eq_true rfl⟩ rfl rfl ⟨dm_blind, va_recv hK hP (ci := 4) (q0 := 0) rfl rfl, dm_preU hK hP hD hC.2.2.2.2.2.2.2 [0, 2] (by decide) rfl⟩ rfl rfl (Nat.le_of_ble_eq_true rfl) dX4_show_176 ⟨Nat.le_of_ble_eq_true rfl, Nat.le_of_ble_eq_true rfl⟩) hP hD hS hA [0, 2] [1, 3, 4] rfl rfl (by decide) (by decide) (fun G9 H locs hG9 hP hD hS => ?_)
                      have hP : va_P D vwCl [(gi, .inl (cC, 65536, .inl ki)), (gn, .inl (cI, 4096, .inl kn)), (gr, .inl (cI, 4096, .inl F)), (g, .inr (4, [.int (nI 0), .int (nI kt), .ref gi, .int (nI (cn + 1)), .ref go, .int (nI kz), .ref gn, .int (nI S), .ref gr, .long kv])), (go, .inl (cC, 65536, .inl G9))] H := hP
                      have hD : va_D A [(gi, .inl (cC, 65536, .inl ki)), (gn, .inl (cI, 4096, .inl kn)), (gr, .inl (cI, 4096, .inl F)), (g, .inr (4, [.int (nI 0), .int (nI kt), .ref gi, .int (nI (cn + 1)), .ref go, .int (nI kz), .ref gn, .int (nI S), .ref gr, .long kv])), (go, .inl (cC, 65536, .inl G9))] := hD
                      have hP := hP.sub (ws' := [(g, .inr (4, [.int (nI 0), .int (nI kt), .ref gi, .int (nI (cn + 1)), .ref go, .int (nI kz), .ref gn, .int (nI S), .ref gr, .long kv])), (gi, .inl (cC, 65536, .inl ki)), (go, .inl (cC, 65536, .inl G9)), (gn, .inl (cI, 4096, .inl kn)), (gr, .inl (cI, 4096, .inl F))]) [3, 0, 4, 1, 2] rfl
                      have hD := hD.sub (ws' := [(g, .inr (4, [.int (nI 0), .int (nI kt), .ref gi, .int (nI (cn + 1)), .ref go, .int (nI kz), .ref gn, .int (nI S), .ref gr, .long kv])), (gi, .inl (cC, 65536, .inl ki)), (go, .inl (cC, 65536, .inl G9)), (gn, .inl (cI, 4096, .inl kn)), (gr, .inl (cI, 4096, .inl F))]) [3, 0, 4, 1, 2] (by decide) rfl
                      refine lv_aload_n hx hb dX4_show_179 rfl (lv_at hl 2 rfl) ?_
                      refine va_get (D := D) (ci := 4) (C := RX4) (T := TX4) (N := 10) (v := .int (nI (cn + 1))) hx hb hts kin_X4_w hown hK hP 0 rfl rfl 3 (by decide) (hts _ kfl_X4_56) (fun _ h9 => h9) rfl dX4_show_180 ?_
                      exact dm_iret hC hK (G9, cn + 1, F, S) ⟨by show cn + 1 ≤ 65536; omega, Or.inr ⟨hwd, r, cn, hr2, hr36, rfl, ⟨by omega, hlt, Or.inr (h6.resolve_left hw)⟩, by show cn + 1 = _; omega, rfl, hG9⟩⟩ hP hD hS dX4_show_183
                  · have hV0 : mg = 0 := by rw [hw, Nat.pow_zero] at hlt; omega
                    refine lv_aload_n hx hb dX4_show_136 rfl (lv_at hl 2 rfl) ?_
                    refine va_get (D := D) (ci := 4) (C := RX4) (T := TX4) (N := 10) (v := .ref go) hx hb hts kin_X4_w hown hK hP 0 rfl rfl 4 (by decide) (hts _ kfl_X4_14) (fun _ h9 => h9) rfl dX4_show_137 ?_
                    refine lv_iconst (v := nI 0) hx hb dX4_show_140 (by decide) ?_
                    refine lv_bipush (v := nI 48) hx hb dX4_show_141 (by decide) ?_
                    refine dm_cast (j := 0) (f' := upd G 0 (nI 48)) hx hb hK hP hD hS 2 2 rfl rfl (by omega) (by decide) (by rw [narC (by decide)]) dX4_show_143 (fun H locs hP hD hS => ?_)
                    have hP : va_P D vwCl [(g, .inr (4, [.int (nI 0), .int (nI kt), .ref gi, .int (nI cn), .ref go, .int (nI kz), .ref gn, .int (nI S), .ref gr, .long kv])), (gi, .inl (cC, 65536, .inl ki)), (go, .inl (cC, 65536, .inl (upd G 0 (nI 48)))), (gn, .inl (cI, 4096, .inl kn)), (gr, .inl (cI, 4096, .inl F))] H := hP
                    have hD : va_D A [(g, .inr (4, [.int (nI 0), .int (nI kt), .ref gi, .int (nI cn), .ref go, .int (nI kz), .ref gn, .int (nI S), .ref gr, .long kv])), (gi, .inl (cC, 65536, .inl ki)), (go, .inl (cC, 65536, .inl (upd G 0 (nI 48)))), (gn, .inl (cI, 4096, .inl kn)), (gr, .inl (cI, 4096, .inl F))] := hD
                    refine lv_aload_n hx hb dX4_show_144 rfl (lv_at hl 2 rfl) ?_
                    refine lv_iconst (v := nI 1) hx hb dX4_show_145 (by decide) ?_
                    refine va_put (D := D) (ci := 4) (v := .int (nI 1)) (ty := .int) (C := RX4) (T := TX4) (N := 10) hx hb hts kin_X4_w tyX4 tyX4_ok nmX4 hown hK hP hD hS 0 rfl rfl 3 (by decide) (hts _ kfl_X4_56) (fun _ h9 => h9) rfl (by decide +kernel) rfl rfl (Nat.le_of_ble_eq_true rfl) dX4_show_146 (fun H locs hP hD hS => ?_)
                    have hP : va_P D vwCl [(g, .inr (4, [.int (nI 0), .int (nI kt), .ref gi, .int (nI 1), .ref go, .int (nI kz), .ref gn, .int (nI S), .ref gr, .long kv])), (gi, .inl (cC, 65536, .inl ki)), (go, .inl (cC, 65536, .inl (upd G 0 (nI 48)))), (gn, .inl (cI, 4096, .inl kn)), (gr, .inl (cI, 4096, .inl F))] H := hP
                    have hD : va_D A [(g, .inr (4, [.int (nI 0), .int (nI kt), .ref gi, .int (nI 1), .ref go, .int (nI kz), .ref gn, .int (nI S), .ref gr, .long kv])), (gi, .inl (cC, 65536, .inl ki)), (go, .inl (cC, 65536, .inl (upd G 0 (nI 48)))), (gn, .inl (cI, 4096, .inl kn)), (gr, .inl (cI, 4096, .inl F))] := hD
                    have h48 : txt 1 (fun i => cdv (mg / r ^ i % r)) (upd G 0 (nI 48)) := fun j hj => by
                      rw [show j = 0 by omega, pk_us, hV0]
                      dsimp only
                      rw [Nat.zero_div, Nat.zero_mod]
                      exact ⟨rfl, by decide⟩
                    refine lv_iload hx hb dX4_show_149 (lv_at hl 0 rfl) ?_
                    refine dm_if_eq (tgt := 175) hx hb (by omega) dX4_show_151 (by decide) (fun hk => ?_) (fun hk => ?_)
                    · omega
                    · refine lv_aload_n hx hb dX4_show_154 rfl (lv_at hl 2 rfl) ?_
                      refine va_get (D := D) (ci := 4) (C := RX4) (T := TX4) (N := 10) (v := .ref go) hx hb hts kin_X4_w hown hK hP 0 rfl rfl 4 (by decide) (hts _ kfl_X4_14) (fun _ h9 => h9) rfl dX4_show_155 ?_
                      refine lv_aload_n hx hb dX4_show_158 rfl (lv_at hl 2 rfl) ?_
                      refine va_get (D := D) (ci := 4) (C := RX4) (T := TX4) (N := 10) (v := .int (nI 1)) hx hb hts kin_X4_w hown hK hP 0 rfl rfl 3 (by decide) (hts _ kfl_X4_56) (fun _ h9 => h9) rfl dX4_show_159 ?_
                      refine lv_bipush (v := nI 45) hx hb dX4_show_162 (by decide) ?_
                      refine dm_cast (j := 1) (f' := upd (upd G 0 (nI 48)) 1 (nI 45)) hx hb hK hP hD hS 2 2 rfl rfl (by omega) (by decide) (by rw [narC (by decide)]) dX4_show_164 (fun H locs hP hD hS => ?_)
                      have hP : va_P D vwCl [(g, .inr (4, [.int (nI 0), .int (nI kt), .ref gi, .int (nI 1), .ref go, .int (nI kz), .ref gn, .int (nI S), .ref gr, .long kv])), (gi, .inl (cC, 65536, .inl ki)), (go, .inl (cC, 65536, .inl (upd (upd G 0 (nI 48)) 1 (nI 45)))), (gn, .inl (cI, 4096, .inl kn)), (gr, .inl (cI, 4096, .inl F))] H := hP
                      have hD : va_D A [(g, .inr (4, [.int (nI 0), .int (nI kt), .ref gi, .int (nI 1), .ref go, .int (nI kz), .ref gn, .int (nI S), .ref gr, .long kv])), (gi, .inl (cC, 65536, .inl ki)), (go, .inl (cC, 65536, .inl (upd (upd G 0 (nI 48)) 1 (nI 45)))), (gn, .inl (cI, 4096, .inl kn)), (gr, .inl (cI, 4096, .inl F))] := hD
                      refine lv_aload_n hx hb dX4_show_165 rfl (lv_at hl 2 rfl) ?_
                      refine lv_dup hx hb dX4_show_166 rfl ?_
                      refine va_get (D := D) (ci := 4) (C := RX4) (T := TX4) (N := 10) (v := .int (nI 1)) hx hb hts kin_X4_w hown hK hP 0 rfl rfl 3 (by decide) (hts _ kfl_X4_56) (fun _ h9 => h9) rfl dX4_show_167 ?_
                      refine lv_iconst (v := nI 1) hx hb dX4_show_170 (by decide) ?_
                      refine lv_iadd hx hb dX4_show_171 ?_
                      refine dm_ti (y := nI (1 + 1)) (nI_1 _) ?_
                      refine va_put (D := D) (ci := 4) (v := .int (nI (1 + 1))) (ty := .int) (C := RX4) (T := TX4) (N := 10) hx hb hts kin_X4_w tyX4 tyX4_ok nmX4 hown hK hP hD hS 0 rfl rfl 3 (by decide) (hts _ kfl_X4_56) (fun _ h9 => h9) rfl (by decide +kernel) rfl rfl (Nat.le_of_ble_eq_true rfl) dX4_show_172 (fun H locs hP hD hS => ?_)
                      have hP : va_P D vwCl [(g, .inr (4, [.int (nI 0), .int (nI kt), .ref gi, .int (nI (1 + 1)), .ref go, .int (nI kz), .ref gn, .int (nI S), .ref gr, .long kv])), (gi, .inl (cC, 65536, .inl ki)), (go, .inl (cC, 65536, .inl (upd (upd G 0 (nI 48)) 1 (nI 45)))), (gn, .inl (cI, 4096, .inl kn)), (gr, .inl (cI, 4096, .inl F))] H := hP
                      have hD : va_D A [(g, .inr (4, [.int (nI 0), .int (nI kt), .ref gi, .int (nI (1 + 1)), .ref go, .int (nI kz), .ref gn, .int (nI S), .ref gr, .long kv])), (gi, .inl (cC, 65536, .inl ki)), (go, .inl (cC, 65536, .inl (upd (upd G 0 (nI 48)) 1 (nI 45)))), (gn, .inl (cI, 4096, .inl kn)), (gr, .inl (cI, 4096, .inl F))] := hD
                      refine lv_aload_n hx hb dX4_show_175 rfl (lv_at hl 2 rfl) ?_
                      have htt : txt (1 + 1) (outG r mg 1) (upd (upd G 0 (nI 48)) 1 (nI 45)) := by
                        intro j hj
                        rcases (show j < 1 ∨ j = 1 by omega) with h9 | h9
                        · unfold outG; rw [if_pos h9, pk_un (by omega)]; exact h48 j h9
                        · unfold outG; rw [if_neg (by omega), h9, pk_us]; exact ⟨rfl, by decide⟩
                      refine dm_gov (wr := [(gi, .inl (cC, 65536, .inl ki)), (gn, .inl (cI, 4096, .inl kn)), (gr, .inl (cI, 4096, .inl F))]) (dm_rV (n := 0) (As := []) (rest := []) hC hl (c_X4_turnOut l D cB cI cC g gi go gn gr kt (1 + 1) kz S (nI 0) kv (upd (upd G 0 (nI 48)) 1 (nI 45)) (outG r mg 1) (by omega) (by omega) htt H.size) kco_X4_turnOut ki_X4 kim_X4_turnOut kse_X4_turnOut kml_X4_70 (by decide +kernel) ⟨Nat.le_of_ble_eq_true rfl, Nat.le_of_ble_eq_true rfl⟩ rfl rfl ⟨dm_blind, va_recv hK hP (ci := 4) (q0 := 0) rfl rfl, dm_preU hK hP hD hC.2.2.2.2.2.2.2 [0, 2] (by decide) rfl⟩ rfl rfl (Nat.le_of_ble_eq_true rfl) dX4_show_176 ⟨Nat.le_of_ble_eq_true rfl, Nat.le_of_ble_eq_true rfl⟩) hP hD hS hA [0, 2] [1, 3, 4] rfl rfl (by decide) (by decide) (fun G9 H locs hG9 hP hD hS => ?_)
                      have hP : va_P D vwCl [(gi, .inl (cC, 65536, .inl ki)), (gn, .inl (cI, 4096, .inl kn)), (gr, .inl (cI, 4096, .inl F)), (g, .inr (4, [.int (nI 0), .int (nI kt), .ref gi, .int (nI (1 + 1)), .ref go, .int (nI kz), .ref gn, .int (nI S), .ref gr, .long kv])), (go, .inl (cC, 65536, .inl G9))] H := hP
                      have hD : va_D A [(gi, .inl (cC, 65536, .inl ki)), (gn, .inl (cI, 4096, .inl kn)), (gr, .inl (cI, 4096, .inl F)), (g, .inr (4, [.int (nI 0), .int (nI kt), .ref gi, .int (nI (1 + 1)), .ref go, .int (nI kz), .ref gn, .int (nI S), .ref gr, .long kv])), (go, .inl (cC, 65536, .inl G9))] := hD
                      have hP := hP.sub (ws' := [(g, .inr (4, [.int (nI 0), .int (nI kt), .ref gi, .int (nI (1 + 1)), .ref go, .int (nI kz), .ref gn, .int (nI S), .ref gr, .long kv])), (gi, .inl (cC, 65536, .inl ki)), (go, .inl (cC, 65536, .inl G9)), (gn, .inl (cI, 4096, .inl kn)), (gr, .inl (cI, 4096, .inl F))]) [3, 0, 4, 1, 2] rfl
                      have hD := hD.sub (ws' := [(g, .inr (4, [.int (nI 0), .int (nI kt), .ref gi, .int (nI (1 + 1)), .ref go, .int (nI kz), .ref gn, .int (nI S), .ref gr, .long kv])), (gi, .inl (cC, 65536, .inl ki)), (go, .inl (cC, 65536, .inl G9)), (gn, .inl (cI, 4096, .inl kn)), (gr, .inl (cI, 4096, .inl F))]) [3, 0, 4, 1, 2] (by decide) rfl
                      refine lv_aload_n hx hb dX4_show_179 rfl (lv_at hl 2 rfl) ?_
                      refine va_get (D := D) (ci := 4) (C := RX4) (T := TX4) (N := 10) (v := .int (nI (1 + 1))) hx hb hts kin_X4_w hown hK hP 0 rfl rfl 3 (by decide) (hts _ kfl_X4_56) (fun _ h9 => h9) rfl dX4_show_180 ?_
                      exact dm_iret hC hK (G9, 1 + 1, F, S) ⟨by show 1 + 1 ≤ 65536; omega, Or.inr ⟨hwd, r, 1, hr2, hr36, rfl, ⟨Nat.le_refl _, by rw [hV0]; exact Nat.pow_pos (by omega), Or.inl rfl⟩, by show 1 + 1 = _; omega, rfl, hG9⟩⟩ hP hD hS dX4_show_183
                · have hVt : 0 < mg / r ^ cn := by
                    obtain ⟨k, rfl⟩ : ∃ k, S = k + 1 := ⟨S - 1, by omega⟩
                    rw [← h5]
                    exact Nat.lt_of_lt_of_le (Nat.pow_pos (by decide)) (nrm16_ge h4)
                  have hVc : r ^ cn ≤ mg := pow_le_of_div (k := 0) (by omega) (by rw [Nat.pow_zero]; exact hVt)
                  have hc64 : cn < 64 := by have h9 : mg < r ^ 64 := Nat.lt_of_lt_of_le hmgl (Nat.pow_le_pow_left hr2 64); exact (Nat.pow_lt_pow_iff_right (show 1 < r by omega)).mp (Nat.lt_of_le_of_lt hVc h9)
                  refine lv_aload_n hx hb dX4_show_98 rfl (lv_at hl 2 rfl) ?_
                  refine va_get (D := D) (ci := 4) (C := RX4) (T := TX4) (N := 10) (v := .ref go) hx hb hts kin_X4_w hown hK hP 0 rfl rfl 4 (by decide) (hts _ kfl_X4_14) (fun _ h9 => h9) rfl dX4_show_99 ?_
                  refine lv_aload_n hx hb dX4_show_102 rfl (lv_at hl 2 rfl) ?_
                  refine va_get (D := D) (ci := 4) (C := RX4) (T := TX4) (N := 10) (v := .int (nI cn)) hx hb hts kin_X4_w hown hK hP 0 rfl rfl 3 (by decide) (hts _ kfl_X4_56) (fun _ h9 => h9) rfl dX4_show_103 ?_
                  refine lv_aload_n hx hb dX4_show_106 rfl (lv_at hl 2 rfl) ?_
                  refine lv_iload hx hb dX4_show_107 (lv_at hl 1 rfl) ?_
                  refine dm_goi (wr := [(gi, .inl (cC, 65536, .inl ki)), (go, .inl (cC, 65536, .inl G)), (gn, .inl (cI, 4096, .inl kn))]) (dm_rV (n := 1) (As := [.int (nI r)]) (rest := [.int (nI cn), .ref go]) hC hl (c_X4_divide l D cB cI cC g gi go gn gr kt cn kz S (nI 0) kv F r (by omega) h3 (by omega) (by omega) H.size) kco_X4_divide ki_X4 kim_X4_divide kse_X4_divide kml_X4_63 (by decide +kernel) ⟨Nat.le_of_ble_eq_true rfl, Nat.le_of_ble_eq_true rfl⟩ rfl rfl ⟨dm_blind, va_recv hK hP (ci := 4) (q0 := 0) rfl rfl, dm_preU hK hP hD hC.2.2.2.2.2.2.2 [0, 4] (by decide) rfl⟩ rfl rfl (Nat.le_of_ble_eq_true rfl) dX4_show_109 ⟨Nat.le_of_ble_eq_true rfl, Nat.le_of_ble_eq_true rfl⟩) hP hD hS hA [0, 4] [1, 2, 3] rfl rfl (by decide) (by decide) (fun rv q H locs hd9 hP hD hS => ?_)
                  obtain ⟨F2, S2⟩ := q
                  have hP : va_P D vwCl [(gi, .inl (cC, 65536, .inl ki)), (go, .inl (cC, 65536, .inl G)), (gn, .inl (cI, 4096, .inl kn)), (g, .inr (4, [.int (nI 0), .int (nI kt), .ref gi, .int (nI cn), .ref go, .int (nI kz), .ref gn, .int (nI S2), .ref gr, .long kv])), (gr, .inl (cI, 4096, .inl F2))] H := hP
                  have hD : va_D A [(gi, .inl (cC, 65536, .inl ki)), (go, .inl (cC, 65536, .inl G)), (gn, .inl (cI, 4096, .inl kn)), (g, .inr (4, [.int (nI 0), .int (nI kt), .ref gi, .int (nI cn), .ref go, .int (nI kz), .ref gn, .int (nI S2), .ref gr, .long kv])), (gr, .inl (cI, 4096, .inl F2))] := hD
                  have hP := hP.sub (ws' := [(g, .inr (4, [.int (nI 0), .int (nI kt), .ref gi, .int (nI cn), .ref go, .int (nI kz), .ref gn, .int (nI S2), .ref gr, .long kv])), (gi, .inl (cC, 65536, .inl ki)), (go, .inl (cC, 65536, .inl G)), (gn, .inl (cI, 4096, .inl kn)), (gr, .inl (cI, 4096, .inl F2))]) [3, 0, 1, 2, 4] rfl
                  have hD := hD.sub (ws' := [(g, .inr (4, [.int (nI 0), .int (nI kt), .ref gi, .int (nI cn), .ref go, .int (nI kz), .ref gn, .int (nI S2), .ref gr, .long kv])), (gi, .inl (cC, 65536, .inl ki)), (go, .inl (cC, 65536, .inl G)), (gn, .inl (cI, 4096, .inl kn)), (gr, .inl (cI, 4096, .inl F2))]) [3, 0, 1, 2, 4] (by decide) rfl
                  obtain ⟨d1, d2, d3, d4, d5⟩ := hd9
                  dsimp only at d2 d3 d4 d5
                  rw [h5] at d1 d4
                  subst d1
                  have hml9 : mg / r ^ cn % r < r := Nat.mod_lt _ (by omega)
                  refine dm_gori (dm_rS (n := 1) (As := [.int (nI (mg / r ^ cn % r))]) (rest := [.int (nI cn), .ref go]) hC hl (c_X4_character l D cB cI cC (mg / r ^ cn % r) (by omega) H.size) kco_X4_character ki_X4 kst_X4_character kml_X4_66 (by decide +kernel) ⟨Nat.le_of_ble_eq_true rfl, Nat.le_of_ble_eq_true rfl⟩ rfl rfl ⟨dm_blind, dm_preU hK hP hD hC.2.2.2.2.2.2.2 [] (by decide) rfl⟩ rfl rfl (Nat.le_of_ble_eq_true rfl) dX4_show_112 ⟨Nat.le_of_ble_eq_true rfl, Nat.le_of_ble_eq_true rfl⟩) (fun r9 e9 => ?_)
                  subst e9
                  refine dm_cast (j := cn) (f' := upd G cn (nI (cdv (mg / r ^ cn % r)))) hx hb hK hP hD hS 2 2 rfl rfl (by omega) (by decide) (by rw [narC (cdv_l hr36 hr2)]) dX4_show_115 (fun H locs hP hD hS => ?_)
                  have hP : va_P D vwCl [(g, .inr (4, [.int (nI 0), .int (nI kt), .ref gi, .int (nI cn), .ref go, .int (nI kz), .ref gn, .int (nI S2), .ref gr, .long kv])), (gi, .inl (cC, 65536, .inl ki)), (go, .inl (cC, 65536, .inl (upd G cn (nI (cdv (mg / r ^ cn % r)))))), (gn, .inl (cI, 4096, .inl kn)), (gr, .inl (cI, 4096, .inl F2))] H := hP
                  have hD : va_D A [(g, .inr (4, [.int (nI 0), .int (nI kt), .ref gi, .int (nI cn), .ref go, .int (nI kz), .ref gn, .int (nI S2), .ref gr, .long kv])), (gi, .inl (cC, 65536, .inl ki)), (go, .inl (cC, 65536, .inl (upd G cn (nI (cdv (mg / r ^ cn % r)))))), (gn, .inl (cI, 4096, .inl kn)), (gr, .inl (cI, 4096, .inl F2))] := hD
                  refine lv_aload_n hx hb dX4_show_116 rfl (lv_at hl 2 rfl) ?_
                  refine lv_dup hx hb dX4_show_117 rfl ?_
                  refine va_get (D := D) (ci := 4) (C := RX4) (T := TX4) (N := 10) (v := .int (nI cn)) hx hb hts kin_X4_w hown hK hP 0 rfl rfl 3 (by decide) (hts _ kfl_X4_56) (fun _ h9 => h9) rfl dX4_show_118 ?_
                  refine lv_iconst (v := nI 1) hx hb dX4_show_121 (by decide) ?_
                  refine lv_iadd hx hb dX4_show_122 ?_
                  refine dm_ti (y := nI (cn + 1)) (nI_1 _) ?_
                  refine va_put (D := D) (ci := 4) (v := .int (nI (cn + 1))) (ty := .int) (C := RX4) (T := TX4) (N := 10) hx hb hts kin_X4_w tyX4 tyX4_ok nmX4 hown hK hP hD hS 0 rfl rfl 3 (by decide) (hts _ kfl_X4_56) (fun _ h9 => h9) rfl (by decide +kernel) rfl rfl (Nat.le_of_ble_eq_true rfl) dX4_show_123 (fun H locs hP hD hS => ?_)
                  have hP : va_P D vwCl [(g, .inr (4, [.int (nI 0), .int (nI kt), .ref gi, .int (nI (cn + 1)), .ref go, .int (nI kz), .ref gn, .int (nI S2), .ref gr, .long kv])), (gi, .inl (cC, 65536, .inl ki)), (go, .inl (cC, 65536, .inl (upd G cn (nI (cdv (mg / r ^ cn % r)))))), (gn, .inl (cI, 4096, .inl kn)), (gr, .inl (cI, 4096, .inl F2))] H := hP
                  have hD : va_D A [(g, .inr (4, [.int (nI 0), .int (nI kt), .ref gi, .int (nI (cn + 1)), .ref go, .int (nI kz), .ref gn, .int (nI S2), .ref gr, .long kv])), (gi, .inl (cC, 65536, .inl ki)), (go, .inl (cC, 65536, .inl (upd G cn (nI (cdv (mg / r ^ cn % r)))))), (gn, .inl (cI, 4096, .inl kn)), (gr, .inl (cI, 4096, .inl F2))] := hD
                  refine lv_goto (tgt := 91) hx hb dX4_show_126 (by decide) ?_
                  exact ih (cn + 1, upd G cn (nI (cdv (mg / r ^ cn % r))), F2, S2) H locs ls (by show 64 - (cn + 1) < 64 - cn; omega) ⟨by show cn + 1 ≤ 64; omega, by show S2 ≤ 4; omega, d3, d5, by show dvb _ F2 S2 = mg / r ^ (cn + 1); rw [d4, Nat.div_div_eq_div_mul, ← Nat.pow_succ], Or.inr (by show r ^ (cn + 1 - 1) ≤ mg; rw [Nat.add_sub_cancel]; exact hVc), txt_push (O := (fun i => cdv (mg / r ^ i % r))) h7 (cdv_l hr36 hr2)⟩ hP hD hS (lv_sub hl [0, 1, 2] rfl)
        · rw [if_neg hneg] at hmg hng
          have hmgl : mg < 18446744073709551616 := by omega
          refine dm_cutR (nL := 9) (σ := Unit) 69 (fun _ => True) (fun _ => [(8, .int (nI 0)), (6, .long (lN sv)), (0, .ref g), (1, .long (lN xv)), (3, .int wd), (4, .int (nI r)), (5, .int (nI sg))]) (fun hJ => ?_) ?_
          · refine lv_iload hx hb dX4_show_50 (lv_at hl 5 rfl) ?_
            refine dm_if_eq (tgt := 66) hx hb (by omega) dX4_show_52 (by decide) (fun hs => ?_) (fun hs => ?_)
            · refine lv_iconst (v := nI 0) hx hb dX4_show_66 (by decide) ?_
              refine lv_istore (lv' := [(8, .int (nI 0)), (6, .long (lN sv)), (0, .ref g), (1, .long (lN xv)), (3, .int wd), (4, .int (nI r)), (5, .int (nI sg))]) hx hb dX4_show_67 hl (by decide) rfl (fun ls hl => ?_)
              exact hJ () ls trivial (lv_sub hl [0, 1, 2, 3, 4, 5, 6] rfl)
            · have hsvl : sv < 9223372036854775808 := by omega
              refine lv_lload hx hb dX4_show_55 (lv_at hl 0 rfl) ?_
              refine lv_lconst (v := lN 0) hx hb dX4_show_57 (by decide) ?_
              refine dm_lc_ge (tgt := 66) hx hb (by omega) (by omega) dX4_show_58 dX4_show_59 (by decide) (fun hs2 => ?_) (fun hs2 => ?_)
              · refine lv_iconst (v := nI 0) hx hb dX4_show_66 (by decide) ?_
                refine lv_istore (lv' := [(8, .int (nI 0)), (6, .long (lN sv)), (0, .ref g), (1, .long (lN xv)), (3, .int wd), (4, .int (nI r)), (5, .int (nI sg))]) hx hb dX4_show_67 hl (by decide) rfl (fun ls hl => ?_)
                exact hJ () ls trivial (lv_sub hl [0, 1, 2, 3, 4, 5, 6] rfl)
              · exact absurd hs2 (Nat.not_lt_zero _)
          · rintro - ls - hl
            refine lv_aload_n hx hb dX4_show_69 rfl (lv_at hl 2 rfl) ?_
            refine lv_iload hx hb dX4_show_70 (lv_at hl 0 rfl) ?_
            refine dm_if_eq (tgt := 81) hx hb (by omega) dX4_show_72 (by decide) (fun hg => ?_) (fun hg => ?_)
            · refine lv_lload hx hb dX4_show_81 (lv_at hl 1 rfl) ?_
              refine dm_tl (y := lN mg) (by rw [hmg]) ?_
              refine dm_gov (wr := [(gi, .inl (cC, 65536, .inl ki)), (go, .inl (cC, 65536, .inl ko)), (gn, .inl (cI, 4096, .inl kn))]) (dm_rV (n := 1) (As := [.long (lN mg)]) (rest := []) hC hl (c_X4_load l D cB cI cC g gi go gn gr kt kw kz ks (nI 0) kv kr mg hmgl H.size) kco_X4_load ki_X4 kim_X4_load kse_X4_load kml_X4_80 (by decide +kernel) ⟨Nat.le_of_ble_eq_true rfl, Nat.le_of_ble_eq_true rfl⟩ rfl rfl ⟨dm_blind, va_recv hK hP (ci := 4) (q0 := 0) rfl rfl, dm_preU hK hP hD hC.2.2.2.2.2.2.2 [0, 4] (by decide) rfl⟩ rfl rfl (Nat.le_of_ble_eq_true rfl) dX4_show_83 ⟨Nat.le_of_ble_eq_true rfl, Nat.le_of_ble_eq_true rfl⟩) hP hD hS hA [0, 4] [1, 2, 3] rfl rfl (by decide) (by decide) (fun q H locs hb9 hP hD hS => ?_)
              obtain ⟨R0, S0⟩ := q
              have hP : va_P D vwCl [(gi, .inl (cC, 65536, .inl ki)), (go, .inl (cC, 65536, .inl ko)), (gn, .inl (cI, 4096, .inl kn)), (g, .inr (4, [.int (nI 0), .int (nI kt), .ref gi, .int (nI kw), .ref go, .int (nI kz), .ref gn, .int (nI S0), .ref gr, .long kv])), (gr, .inl (cI, 4096, .inl R0))] H := hP
              have hD : va_D A [(gi, .inl (cC, 65536, .inl ki)), (go, .inl (cC, 65536, .inl ko)), (gn, .inl (cI, 4096, .inl kn)), (g, .inr (4, [.int (nI 0), .int (nI kt), .ref gi, .int (nI kw), .ref go, .int (nI kz), .ref gn, .int (nI S0), .ref gr, .long kv])), (gr, .inl (cI, 4096, .inl R0))] := hD
              have hP := hP.sub (ws' := [(g, .inr (4, [.int (nI 0), .int (nI kt), .ref gi, .int (nI kw), .ref go, .int (nI kz), .ref gn, .int (nI S0), .ref gr, .long kv])), (gi, .inl (cC, 65536, .inl ki)), (go, .inl (cC, 65536, .inl ko)), (gn, .inl (cI, 4096, .inl kn)), (gr, .inl (cI, 4096, .inl R0))]) [3, 0, 1, 2, 4] rfl
              have hD := hD.sub (ws' := [(g, .inr (4, [.int (nI 0), .int (nI kt), .ref gi, .int (nI kw), .ref go, .int (nI kz), .ref gn, .int (nI S0), .ref gr, .long kv])), (gi, .inl (cC, 65536, .inl ki)), (go, .inl (cC, 65536, .inl ko)), (gn, .inl (cI, 4096, .inl kn)), (gr, .inl (cI, 4096, .inl R0))]) [3, 0, 1, 2, 4] (by decide) rfl
              obtain ⟨b1, b2, b3, b4⟩ := hb9
              dsimp only at b1 b2 b3 b4
              refine lv_aload_n hx hb dX4_show_86 rfl (lv_at hl 2 rfl) ?_
              refine lv_iconst (v := nI 0) hx hb dX4_show_87 (by decide) ?_
              refine va_put (D := D) (ci := 4) (v := .int (nI 0)) (ty := .int) (C := RX4) (T := TX4) (N := 10) hx hb hts kin_X4_w tyX4 tyX4_ok nmX4 hown hK hP hD hS 0 rfl rfl 3 (by decide) (hts _ kfl_X4_56) (fun _ h9 => h9) rfl (by decide +kernel) rfl rfl (Nat.le_of_ble_eq_true rfl) dX4_show_88 (fun H locs hP hD hS => ?_)
              have hP : va_P D vwCl [(g, .inr (4, [.int (nI 0), .int (nI kt), .ref gi, .int (nI 0), .ref go, .int (nI kz), .ref gn, .int (nI S0), .ref gr, .long kv])), (gi, .inl (cC, 65536, .inl ki)), (go, .inl (cC, 65536, .inl ko)), (gn, .inl (cI, 4096, .inl kn)), (gr, .inl (cI, 4096, .inl R0))] H := hP
              have hD : va_D A [(g, .inr (4, [.int (nI 0), .int (nI kt), .ref gi, .int (nI 0), .ref go, .int (nI kz), .ref gn, .int (nI S0), .ref gr, .long kv])), (gi, .inl (cC, 65536, .inl ki)), (go, .inl (cC, 65536, .inl ko)), (gn, .inl (cI, 4096, .inl kn)), (gr, .inl (cI, 4096, .inl R0))] := hD
              refine dm_loop (nL := 9) (head := 91) (P := fun (y : Nat × (Nat → Int32) × (Nat → Int32) × Nat) => y.1 ≤ 64 ∧ y.2.2.2 ≤ 4 ∧ d16 y.2.2.1 y.2.2.2 ∧ nrm y.2.2.1 y.2.2.2 ∧ dvb 65536 y.2.2.1 y.2.2.2 = mg / r ^ y.1 ∧ (y.1 = 0 ∨ r ^ (y.1 - 1) ≤ mg) ∧ txt y.1 (fun i => cdv (mg / r ^ i % r)) y.2.1) (w := fun y => [(g, .inr (4, [.int (nI 0), .int (nI kt), .ref gi, .int (nI y.1), .ref go, .int (nI kz), .ref gn, .int (nI y.2.2.2), .ref gr, .long kv])), (gi, .inl (cC, 65536, .inl ki)), (go, .inl (cC, 65536, .inl y.2.1)), (gn, .inl (cI, 4096, .inl kn)), (gr, .inl (cI, 4096, .inl y.2.2.1))]) (lv := fun _ => [(8, .int (nI 0)), (4, .int (nI r)), (0, .ref g)]) (μ := fun y => 64 - y.1) ?_ (0, ko, R0, S0) ⟨Nat.zero_le _, b1, b2, b4, by dsimp only; rw [Nat.pow_zero, Nat.div_one]; exact b3, Or.inl rfl, fun j hj => absurd hj (Nat.not_lt_zero _)⟩ hP hD hS (lv_sub hl [0, 5, 2] rfl)
              rintro ⟨cn, G, F, S⟩ H locs ls ⟨h1, h2, h3, h4, h5, h6, h7⟩ hP hD hS hl ih
              dsimp only at h1 h2 h3 h4 h5 h6 h7
              have hP : va_P D vwCl [(g, .inr (4, [.int (nI 0), .int (nI kt), .ref gi, .int (nI cn), .ref go, .int (nI kz), .ref gn, .int (nI S), .ref gr, .long kv])), (gi, .inl (cC, 65536, .inl ki)), (go, .inl (cC, 65536, .inl G)), (gn, .inl (cI, 4096, .inl kn)), (gr, .inl (cI, 4096, .inl F))] H := hP
              have hD : va_D A [(g, .inr (4, [.int (nI 0), .int (nI kt), .ref gi, .int (nI cn), .ref go, .int (nI kz), .ref gn, .int (nI S), .ref gr, .long kv])), (gi, .inl (cC, 65536, .inl ki)), (go, .inl (cC, 65536, .inl G)), (gn, .inl (cI, 4096, .inl kn)), (gr, .inl (cI, 4096, .inl F))] := hD
              have hl : lv_has ls 9 [(8, .int (nI 0)), (4, .int (nI r)), (0, .ref g)] := hl
              refine lv_aload_n hx hb dX4_show_91 rfl (lv_at hl 2 rfl) ?_
              refine va_get (D := D) (ci := 4) (C := RX4) (T := TX4) (N := 10) (v := .int (nI S)) hx hb hts kin_X4_w hown hK hP 0 rfl rfl 7 (by decide) (hts _ kfl_X4_28) (fun _ h9 => h9) rfl dX4_show_92 ?_
              refine dm_if_le (tgt := 129) hx hb (by omega) dX4_show_95 (by decide) (fun hz => ?_) (fun hz => ?_)
              · have hlt : mg < r ^ cn := (Nat.div_eq_zero_iff.mp (by rw [← h5, hz]; rfl)).resolve_left (Nat.ne_of_gt (Nat.pow_pos (by omega)))
                refine lv_aload_n hx hb dX4_show_129 rfl (lv_at hl 2 rfl) ?_
                refine va_get (D := D) (ci := 4) (C := RX4) (T := TX4) (N := 10) (v := .int (nI cn)) hx hb hts kin_X4_w hown hK hP 0 rfl rfl 3 (by decide) (hts _ kfl_X4_56) (fun _ h9 => h9) rfl dX4_show_130 ?_
                refine dm_if_ne (tgt := 149) hx hb (by omega) dX4_show_133 (by decide) (fun hw => ?_) (fun hw => ?_)
                · refine lv_iload hx hb dX4_show_149 (lv_at hl 0 rfl) ?_
                  refine dm_if_eq (tgt := 175) hx hb (by omega) dX4_show_151 (by decide) (fun hk => ?_) (fun hk => ?_)
                  · have htt : txt cn (outG r mg cn) (G) := fun j hj => by unfold outG; rw [if_pos hj]; exact h7 j hj
                    refine lv_aload_n hx hb dX4_show_175 rfl (lv_at hl 2 rfl) ?_
                    refine dm_gov (wr := [(gi, .inl (cC, 65536, .inl ki)), (gn, .inl (cI, 4096, .inl kn)), (gr, .inl (cI, 4096, .inl F))]) (dm_rV (n := 0) (As := []) (rest := []) hC hl (c_X4_turnOut l D cB cI cC g gi go gn gr kt cn kz S (nI 0) kv (G) (outG r mg cn) (by omega) (by omega) htt H.size) kco_X4_turnOut ki_X4 kim_X4_turnOut kse_X4_turnOut kml_X4_70 (by decide +kernel) ⟨Nat.le_of_ble_eq_true rfl, Nat.le_of_ble_eq_true rfl⟩ rfl rfl ⟨dm_blind, va_recv hK hP (ci := 4) (q0 := 0) rfl rfl, dm_preU hK hP hD hC.2.2.2.2.2.2.2 [0, 2] (by decide) rfl⟩ rfl rfl (Nat.le_of_ble_eq_true rfl) dX4_show_176 ⟨Nat.le_of_ble_eq_true rfl, Nat.le_of_ble_eq_true rfl⟩) hP hD hS hA [0, 2] [1, 3, 4] rfl rfl (by decide) (by decide) (fun G9 H locs hG9 hP hD hS => ?_)
                    have hP : va_P D vwCl [(gi, .inl (cC, 65536, .inl ki)), (gn, .inl (cI, 4096, .inl kn)), (gr, .inl (cI, 4096, .inl F)), (g, .inr (4, [.int (nI 0), .int (nI kt), .ref gi, .int (nI cn), .ref go, .int (nI kz), .ref gn, .int (nI S), .ref gr, .long kv])), (go, .inl (cC, 65536, .inl G9))] H := hP
                    have hD : va_D A [(gi, .inl (cC, 65536, .inl ki)), (gn, .inl (cI, 4096, .inl kn)), (gr, .inl (cI, 4096, .inl F)), (g, .inr (4, [.int (nI 0), .int (nI kt), .ref gi, .int (nI cn), .ref go, .int (nI kz), .ref gn, .int (nI S), .ref gr, .long kv])), (go, .inl (cC, 65536, .inl G9))] := hD
                    have hP := hP.sub (ws' := [(g, .inr (4, [.int (nI 0), .int (nI kt), .ref gi, .int (nI cn), .ref go, .int (nI kz), .ref gn, .int (nI S), .ref gr, .long kv])), (gi, .inl (cC, 65536, .inl ki)), (go, .inl (cC, 65536, .inl G9)), (gn, .inl (cI, 4096, .inl kn)), (gr, .inl (cI, 4096, .inl F))]) [3, 0, 4, 1, 2] rfl
                    have hD := hD.sub (ws' := [(g, .inr (4, [.int (nI 0), .int (nI kt), .ref gi, .int (nI cn), .ref go, .int (nI kz), .ref gn, .int (nI S), .ref gr, .long kv])), (gi, .inl (cC, 65536, .inl ki)), (go, .inl (cC, 65536, .inl G9)), (gn, .inl (cI, 4096, .inl kn)), (gr, .inl (cI, 4096, .inl F))]) [3, 0, 4, 1, 2] (by decide) rfl
                    refine lv_aload_n hx hb dX4_show_179 rfl (lv_at hl 2 rfl) ?_
                    refine va_get (D := D) (ci := 4) (C := RX4) (T := TX4) (N := 10) (v := .int (nI cn)) hx hb hts kin_X4_w hown hK hP 0 rfl rfl 3 (by decide) (hts _ kfl_X4_56) (fun _ h9 => h9) rfl dX4_show_180 ?_
                    exact dm_iret hC hK (G9, cn, F, S) ⟨by show cn ≤ 65536; omega, Or.inr ⟨hwd, r, cn, hr2, hr36, rfl, ⟨by omega, hlt, Or.inr (h6.resolve_left hw)⟩, by show cn = _; omega, rfl, hG9⟩⟩ hP hD hS dX4_show_183
                  · omega
                · have hV0 : mg = 0 := by rw [hw, Nat.pow_zero] at hlt; omega
                  refine lv_aload_n hx hb dX4_show_136 rfl (lv_at hl 2 rfl) ?_
                  refine va_get (D := D) (ci := 4) (C := RX4) (T := TX4) (N := 10) (v := .ref go) hx hb hts kin_X4_w hown hK hP 0 rfl rfl 4 (by decide) (hts _ kfl_X4_14) (fun _ h9 => h9) rfl dX4_show_137 ?_
                  refine lv_iconst (v := nI 0) hx hb dX4_show_140 (by decide) ?_
                  refine lv_bipush (v := nI 48) hx hb dX4_show_141 (by decide) ?_
                  refine dm_cast (j := 0) (f' := upd G 0 (nI 48)) hx hb hK hP hD hS 2 2 rfl rfl (by omega) (by decide) (by rw [narC (by decide)]) dX4_show_143 (fun H locs hP hD hS => ?_)
                  have hP : va_P D vwCl [(g, .inr (4, [.int (nI 0), .int (nI kt), .ref gi, .int (nI cn), .ref go, .int (nI kz), .ref gn, .int (nI S), .ref gr, .long kv])), (gi, .inl (cC, 65536, .inl ki)), (go, .inl (cC, 65536, .inl (upd G 0 (nI 48)))), (gn, .inl (cI, 4096, .inl kn)), (gr, .inl (cI, 4096, .inl F))] H := hP
                  have hD : va_D A [(g, .inr (4, [.int (nI 0), .int (nI kt), .ref gi, .int (nI cn), .ref go, .int (nI kz), .ref gn, .int (nI S), .ref gr, .long kv])), (gi, .inl (cC, 65536, .inl ki)), (go, .inl (cC, 65536, .inl (upd G 0 (nI 48)))), (gn, .inl (cI, 4096, .inl kn)), (gr, .inl (cI, 4096, .inl F))] := hD
                  refine lv_aload_n hx hb dX4_show_144 rfl (lv_at hl 2 rfl) ?_
                  refine lv_iconst (v := nI 1) hx hb dX4_show_145 (by decide) ?_
                  refine va_put (D := D) (ci := 4) (v := .int (nI 1)) (ty := .int) (C := RX4) (T := TX4) (N := 10) hx hb hts kin_X4_w tyX4 tyX4_ok nmX4 hown hK hP hD hS 0 rfl rfl 3 (by decide) (hts _ kfl_X4_56) (fun _ h9 => h9) rfl (by decide +kernel) rfl rfl (Nat.le_of_ble_eq_true rfl) dX4_show_146 (fun H locs hP hD hS => ?_)
                  have hP : va_P D vwCl [(g, .inr (4, [.int (nI 0), .int (nI kt), .ref gi, .int (nI 1), .ref go, .int (nI kz), .ref gn, .int (nI S), .ref gr, .long kv])), (gi, .inl (cC, 65536, .inl ki)), (go, .inl (cC, 65536, .inl (upd G 0 (nI 48)))), (gn, .inl (cI, 4096, .inl kn)), (gr, .inl (cI, 4096, .inl F))] H := hP
                  have hD : va_D A [(g, .inr (4, [.int (nI 0), .int (nI kt), .ref gi, .int (nI 1), .ref go, .int (nI kz), .ref gn, .int (nI S), .ref gr, .long kv])), (gi, .inl (cC, 65536, .inl ki)), (go, .inl (cC, 65536, .inl (upd G 0 (nI 48)))), (gn, .inl (cI, 4096, .inl kn)), (gr, .inl (cI, 4096, .inl F))] := hD
                  have h48 : txt 1 (fun i => cdv (mg / r ^ i % r)) (upd G 0 (nI 48)) := fun j hj => by
                    rw [show j = 0 by omega, pk_us, hV0]
                    dsimp only
                    rw [Nat.zero_div, Nat.zero_mod]
                    exact ⟨rfl, by decide⟩
                  refine lv_iload hx hb dX4_show_149 (lv_at hl 0 rfl) ?_
                  refine dm_if_eq (tgt := 175) hx hb (by omega) dX4_show_151 (by decide) (fun hk => ?_) (fun hk => ?_)
                  · have htt : txt 1 (outG r mg 1) (upd G 0 (nI 48)) := fun j hj => by unfold outG; rw [if_pos hj]; exact h48 j hj
                    refine lv_aload_n hx hb dX4_show_175 rfl (lv_at hl 2 rfl) ?_
                    refine dm_gov (wr := [(gi, .inl (cC, 65536, .inl ki)), (gn, .inl (cI, 4096, .inl kn)), (gr, .inl (cI, 4096, .inl F))]) (dm_rV (n := 0) (As := []) (rest := []) hC hl (c_X4_turnOut l D cB cI cC g gi go gn gr kt 1 kz S (nI 0) kv (upd G 0 (nI 48)) (outG r mg 1) (by omega) (by omega) htt H.size) kco_X4_turnOut ki_X4 kim_X4_turnOut kse_X4_turnOut kml_X4_70 (by decide +kernel) ⟨Nat.le_of_ble_eq_true rfl, Nat.le_of_ble_eq_true rfl⟩ rfl rfl ⟨dm_blind, va_recv hK hP (ci := 4) (q0 := 0) rfl rfl, dm_preU hK hP hD hC.2.2.2.2.2.2.2 [0, 2] (by decide) rfl⟩ rfl rfl (Nat.le_of_ble_eq_true rfl) dX4_show_176 ⟨Nat.le_of_ble_eq_true rfl, Nat.le_of_ble_eq_true rfl⟩) hP hD hS hA [0, 2] [1, 3, 4] rfl rfl (by decide) (by decide) (fun G9 H locs hG9 hP hD hS => ?_)
                    have hP : va_P D vwCl [(gi, .inl (cC, 65536, .inl ki)), (gn, .inl (cI, 4096, .inl kn)), (gr, .inl (cI, 4096, .inl F)), (g, .inr (4, [.int (nI 0), .int (nI kt), .ref gi, .int (nI 1), .ref go, .int (nI kz), .ref gn, .int (nI S), .ref gr, .long kv])), (go, .inl (cC, 65536, .inl G9))] H := hP
                    have hD : va_D A [(gi, .inl (cC, 65536, .inl ki)), (gn, .inl (cI, 4096, .inl kn)), (gr, .inl (cI, 4096, .inl F)), (g, .inr (4, [.int (nI 0), .int (nI kt), .ref gi, .int (nI 1), .ref go, .int (nI kz), .ref gn, .int (nI S), .ref gr, .long kv])), (go, .inl (cC, 65536, .inl G9))] := hD
                    have hP := hP.sub (ws' := [(g, .inr (4, [.int (nI 0), .int (nI kt), .ref gi, .int (nI 1), .ref go, .int (nI kz), .ref gn, .int (nI S), .ref gr, .long kv])), (gi, .inl (cC, 65536, .inl ki)), (go, .inl (cC, 65536, .inl G9)), (gn, .inl (cI, 4096, .inl kn)), (gr, .inl (cI, 4096, .inl F))]) [3, 0, 4, 1, 2] rfl
                    have hD := hD.sub (ws' := [(g, .inr (4, [.int (nI 0), .int (nI kt), .ref gi, .int (nI 1), .ref go, .int (nI kz), .ref gn, .int (nI S), .ref gr, .long kv])), (gi, .inl (cC, 65536, .inl ki)), (go, .inl (cC, 65536, .inl G9)), (gn, .inl (cI, 4096, .inl kn)), (gr, .inl (cI, 4096, .inl F))]) [3, 0, 4, 1, 2] (by decide) rfl
                    refine lv_aload_n hx hb dX4_show_179 rfl (lv_at hl 2 rfl) ?_
                    refine va_get (D := D) (ci := 4) (C := RX4) (T := TX4) (N := 10) (v := .int (nI 1)) hx hb hts kin_X4_w hown hK hP 0 rfl rfl 3 (by decide) (hts _ kfl_X4_56) (fun _ h9 => h9) rfl dX4_show_180 ?_
                    exact dm_iret hC hK (G9, 1, F, S) ⟨by show 1 ≤ 65536; omega, Or.inr ⟨hwd, r, 1, hr2, hr36, rfl, ⟨Nat.le_refl _, by rw [hV0]; exact Nat.pow_pos (by omega), Or.inl rfl⟩, by show 1 = _; omega, rfl, hG9⟩⟩ hP hD hS dX4_show_183
                  · omega
              · have hVt : 0 < mg / r ^ cn := by
                  obtain ⟨k, rfl⟩ : ∃ k, S = k + 1 := ⟨S - 1, by omega⟩
                  rw [← h5]
                  exact Nat.lt_of_lt_of_le (Nat.pow_pos (by decide)) (nrm16_ge h4)
                have hVc : r ^ cn ≤ mg := pow_le_of_div (k := 0) (by omega) (by rw [Nat.pow_zero]; exact hVt)
                have hc64 : cn < 64 := by have h9 : mg < r ^ 64 := Nat.lt_of_lt_of_le hmgl (Nat.pow_le_pow_left hr2 64); exact (Nat.pow_lt_pow_iff_right (show 1 < r by omega)).mp (Nat.lt_of_le_of_lt hVc h9)
                refine lv_aload_n hx hb dX4_show_98 rfl (lv_at hl 2 rfl) ?_
                refine va_get (D := D) (ci := 4) (C := RX4) (T := TX4) (N := 10) (v := .ref go) hx hb hts kin_X4_w hown hK hP 0 rfl rfl 4 (by decide) (hts _ kfl_X4_14) (fun _ h9 => h9) rfl dX4_show_99 ?_
                refine lv_aload_n hx hb dX4_show_102 rfl (lv_at hl 2 rfl) ?_
                refine va_get (D := D) (ci := 4) (C := RX4) (T := TX4) (N := 10) (v := .int (nI cn)) hx hb hts kin_X4_w hown hK hP 0 rfl rfl 3 (by decide) (hts _ kfl_X4_56) (fun _ h9 => h9) rfl dX4_show_103 ?_
                refine lv_aload_n hx hb dX4_show_106 rfl (lv_at hl 2 rfl) ?_
                refine lv_iload hx hb dX4_show_107 (lv_at hl 1 rfl) ?_
                refine dm_goi (wr := [(gi, .inl (cC, 65536, .inl ki)), (go, .inl (cC, 65536, .inl G)), (gn, .inl (cI, 4096, .inl kn))]) (dm_rV (n := 1) (As := [.int (nI r)]) (rest := [.int (nI cn), .ref go]) hC hl (c_X4_divide l D cB cI cC g gi go gn gr kt cn kz S (nI 0) kv F r (by omega) h3 (by omega) (by omega) H.size) kco_X4_divide ki_X4 kim_X4_divide kse_X4_divide kml_X4_63 (by decide +kernel) ⟨Nat.le_of_ble_eq_true rfl, Nat.le_of_ble_eq_true rfl⟩ rfl rfl ⟨dm_blind, va_recv hK hP (ci := 4) (q0 := 0) rfl rfl, dm_preU hK hP hD hC.2.2.2.2.2.2.2 [0, 4] (by decide) rfl⟩ rfl rfl (Nat.le_of_ble_eq_true rfl) dX4_show_109 ⟨Nat.le_of_ble_eq_true rfl, Nat.le_of_ble_eq_true rfl⟩) hP hD hS hA [0, 4] [1, 2, 3] rfl rfl (by decide) (by decide) (fun rv q H locs hd9 hP hD hS => ?_)
                obtain ⟨F2, S2⟩ := q
                have hP : va_P D vwCl [(gi, .inl (cC, 65536, .inl ki)), (go, .inl (cC, 65536, .inl G)), (gn, .inl (cI, 4096, .inl kn)), (g, .inr (4, [.int (nI 0), .int (nI kt), .ref gi, .int (nI cn), .ref go, .int (nI kz), .ref gn, .int (nI S2), .ref gr, .long kv])), (gr, .inl (cI, 4096, .inl F2))] H := hP
                have hD : va_D A [(gi, .inl (cC, 65536, .inl ki)), (go, .inl (cC, 65536, .inl G)), (gn, .inl (cI, 4096, .inl kn)), (g, .inr (4, [.int (nI 0), .int (nI kt), .ref gi, .int (nI cn), .ref go, .int (nI kz), .ref gn, .int (nI S2), .ref gr, .long kv])), (gr, .inl (cI, 4096, .inl F2))] := hD
                have hP := hP.sub (ws' := [(g, .inr (4, [.int (nI 0), .int (nI kt), .ref gi, .int (nI cn), .ref go, .int (nI kz), .ref gn, .int (nI S2), .ref gr, .long kv])), (gi, .inl (cC, 65536, .inl ki)), (go, .inl (cC, 65536, .inl G)), (gn, .inl (cI, 4096, .inl kn)), (gr, .inl (cI, 4096, .inl F2))]) [3, 0, 1, 2, 4] rfl
                have hD := hD.sub (ws' := [(g, .inr (4, [.int (nI 0), .int (nI kt), .ref gi, .int (nI cn), .ref go, .int (nI kz), .ref gn, .int (nI S2), .ref gr, .long kv])), (gi, .inl (cC, 65536, .inl ki)), (go, .inl (cC, 65536, .inl G)), (gn, .inl (cI, 4096, .inl kn)), (gr, .inl (cI, 4096, .inl F2))]) [3, 0, 1, 2, 4] (by decide) rfl
                obtain ⟨d1, d2, d3, d4, d5⟩ := hd9
                dsimp only at d2 d3 d4 d5
                rw [h5] at d1 d4
                subst d1
                have hml9 : mg / r ^ cn % r < r := Nat.mod_lt _ (by omega)
                refine dm_gori (dm_rS (n := 1) (As := [.int (nI (mg / r ^ cn % r))]) (rest := [.int (nI cn), .ref go]) hC hl (c_X4_character l D cB cI cC (mg / r ^ cn % r) (by omega) H.size) kco_X4_character ki_X4 kst_X4_character kml_X4_66 (by decide +kernel) ⟨Nat.le_of_ble_eq_true rfl, Nat.le_of_ble_eq_true rfl⟩ rfl rfl ⟨dm_blind, dm_preU hK hP hD hC.2.2.2.2.2.2.2 [] (by decide) rfl⟩ rfl rfl (Nat.le_of_ble_eq_true rfl) dX4_show_112 ⟨Nat.le_of_ble_eq_true rfl, Nat.le_of_ble_eq_true rfl⟩) (fun r9 e9 => ?_)
                subst e9
                refine dm_cast (j := cn) (f' := upd G cn (nI (cdv (mg / r ^ cn % r)))) hx hb hK hP hD hS 2 2 rfl rfl (by omega) (by decide) (by rw [narC (cdv_l hr36 hr2)]) dX4_show_115 (fun H locs hP hD hS => ?_)
                have hP : va_P D vwCl [(g, .inr (4, [.int (nI 0), .int (nI kt), .ref gi, .int (nI cn), .ref go, .int (nI kz), .ref gn, .int (nI S2), .ref gr, .long kv])), (gi, .inl (cC, 65536, .inl ki)), (go, .inl (cC, 65536, .inl (upd G cn (nI (cdv (mg / r ^ cn % r)))))), (gn, .inl (cI, 4096, .inl kn)), (gr, .inl (cI, 4096, .inl F2))] H := hP
                have hD : va_D A [(g, .inr (4, [.int (nI 0), .int (nI kt), .ref gi, .int (nI cn), .ref go, .int (nI kz), .ref gn, .int (nI S2), .ref gr, .long kv])), (gi, .inl (cC, 65536, .inl ki)), (go, .inl (cC, 65536, .inl (upd G cn (nI (cdv (mg / r ^ cn % r)))))), (gn, .inl (cI, 4096, .inl kn)), (gr, .inl (cI, 4096, .inl F2))] := hD
                refine lv_aload_n hx hb dX4_show_116 rfl (lv_at hl 2 rfl) ?_
                refine lv_dup hx hb dX4_show_117 rfl ?_
                refine va_get (D := D) (ci := 4) (C := RX4) (T := TX4) (N := 10) (v := .int (nI cn)) hx hb hts kin_X4_w hown hK hP 0 rfl rfl 3 (by decide) (hts _ kfl_X4_56) (fun _ h9 => h9) rfl dX4_show_118 ?_
                refine lv_iconst (v := nI 1) hx hb dX4_show_121 (by decide) ?_
                refine lv_iadd hx hb dX4_show_122 ?_
                refine dm_ti (y := nI (cn + 1)) (nI_1 _) ?_
                refine va_put (D := D) (ci := 4) (v := .int (nI (cn + 1))) (ty := .int) (C := RX4) (T := TX4) (N := 10) hx hb hts kin_X4_w tyX4 tyX4_ok nmX4 hown hK hP hD hS 0 rfl rfl 3 (by decide) (hts _ kfl_X4_56) (fun _ h9 => h9) rfl (by decide +kernel) rfl rfl (Nat.le_of_ble_eq_true rfl) dX4_show_123 (fun H locs hP hD hS => ?_)
                have hP : va_P D vwCl [(g, .inr (4, [.int (nI 0), .int (nI kt), .ref gi, .int (nI (cn + 1)), .ref go, .int (nI kz), .ref gn, .int (nI S2), .ref gr, .long kv])), (gi, .inl (cC, 65536, .inl ki)), (go, .inl (cC, 65536, .inl (upd G cn (nI (cdv (mg / r ^ cn % r)))))), (gn, .inl (cI, 4096, .inl kn)), (gr, .inl (cI, 4096, .inl F2))] H := hP
                have hD : va_D A [(g, .inr (4, [.int (nI 0), .int (nI kt), .ref gi, .int (nI (cn + 1)), .ref go, .int (nI kz), .ref gn, .int (nI S2), .ref gr, .long kv])), (gi, .inl (cC, 65536, .inl ki)), (go, .inl (cC, 65536, .inl (upd G cn (nI (cdv (mg / r ^ cn % r)))))), (gn, .inl (cI, 4096, .inl kn)), (gr, .inl (cI, 4096, .inl F2))] := hD
                refine lv_goto (tgt := 91) hx hb dX4_show_126 (by decide) ?_
                exact ih (cn + 1, upd G cn (nI (cdv (mg / r ^ cn % r))), F2, S2) H locs ls (by show 64 - (cn + 1) < 64 - cn; omega) ⟨by show cn + 1 ≤ 64; omega, by show S2 ≤ 4; omega, d3, d5, by show dvb _ F2 S2 = mg / r ^ (cn + 1); rw [d4, Nat.div_div_eq_div_mul, ← Nat.pow_succ], Or.inr (by show r ^ (cn + 1 - 1) ≤ mg; rw [Nat.add_sub_cancel]; exact hVc), txt_push (O := (fun i => cdv (mg / r ^ i % r))) h7 (cdv_l hr36 hr2)⟩ hP hD hS (lv_sub hl [0, 1, 2] rfl)
            · omega
    · refine lv_iconst (v := -1) hx hb dX4_show_20 (by decide) ?_
      exact dm_iret hC hK (ko, kw, kr, ks) ⟨hkw, Or.inl ⟨fun h9 => (e2.resolve_left (fun h8 => absurd (hd.symm.trans h8.2) (by decide))).1 h9.2, rfl, rfl, rfl⟩⟩ hP hD hS dX4_show_21
