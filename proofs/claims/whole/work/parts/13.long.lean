theorem dvb_shift2 {f g : Nat → Int32} {u x : Nat} (hx : x < 18446744073709551616) (h0 : g 0 = nI x) (h1 : g 1 = nI (x / 4294967296)) (h : ∀ j, j < u → g (j + 2) = f j) : dvb 4294967296 g (u + 2) = dvb 4294967296 f u * 18446744073709551616 + x := by
  rw [show u + 2 = (u + 1) + 1 from rfl, dvb_low, dvb_low, h0]
  have e1 : g (0 + 1) = nI (x / 4294967296) := h1
  rw [e1, un_mod, un_mod]
  have e2 : dvb 4294967296 (fun j => g (j + 1 + 1)) u = dvb 4294967296 f u := dvb_congr (fun j hj => h j hj)
  rw [e2]
  omega
theorem wl_shl (x : Int32) : x.toInt64 <<< ((32 : Int32).toInt64 &&& 63) = lN (un x * 4294967296) := by
  obtain ⟨n, hn, hx⟩ := wb_of x.toInt64
  have h1 := wl_un x
  rw [hx] at h1 ⊢
  have h2 : lN n &&& 4294967295 = lN (n % 2 ^ 32) := wb_mask (k := 32) hn (by decide)
  rw [h2] at h1
  have h3 : n % 2 ^ 32 = un x := by
    have h4 := congrArg (fun z => Int64.toBitVec z |>.toNat) h1
    have h5 := un_lt x
    rw [wb_tn (by omega), wb_tn (by omega)] at h4
    exact h4
  have h6 : lN n <<< ((32 : Int32).toInt64 &&& 63) = lN (n * 2 ^ 32) := wb_shl n (k := 32) (by decide)
  rw [h6, wb_mod, ← h3]
  congr 1
  omega
theorem dvb_two {f : Nat → Int32} {u : Nat} (hu : u ≤ 2) : un (wAt f u (nI 1)) * 4294967296 + un (wAt f u (nI 0)) = dvb 4294967296 f u := by
  rcases (show u = 0 ∨ u = 1 ∨ u = 2 by omega) with rfl | rfl | rfl
  · rw [wAt_ge (by decide) (by decide), wAt_ge (by decide) (by decide), un_0]; rfl
  · rw [wAt_ge (by decide) (by decide), wAt_in (by decide) (by decide), un_0]; simp [dvb]
  · rw [wAt_in (by decide) (by decide), wAt_in (by decide) (by decide)]; simp [dvb]; omega

set_option maxRecDepth 100000 in
set_option maxHeartbeats 4000000 in
theorem c_X2_appendLong (l : Launch) (D : va_G) (cB cI cC : ClassId) (h a N u x : Nat) (f : Nat → Int32) (hu : u ≤ N) (hN2 : 2 ≤ N) (hNb : N < 2 ^ 31) (hx8 : x < 18446744073709551616) : MI l yX2_appendLong (Cond.code yX2_appendLong cX2_appendLong 3 (some .boolean)) 1 D (TY cB cI cC) [.ref h, .long (lN x)] [(h, .inr (2, [.ref a, .int (nI u)])), (a, .inl (cI, N, .inl f))] (S := (Nat → Int32) × Nat) (fun r q => (u + 2 ≤ N → r = 1 ∧ q.2 ≤ N ∧ dvb 4294967296 q.1 q.2 = dvb 4294967296 f u * 18446744073709551616 + x ∧ nrm q.1 q.2) ∧ (N < u + 2 → r = 0 ∧ q = (f, u))) (fun q => [(h, .inr (2, [.ref a, .int (nI q.2)])), (a, .inl (cI, N, .inl q.1))]) := by
  refine MI.of (by decide) (Nat.le_of_ble_eq_true rfl) ?_
  intro p e s m below meth c ls A hC hA hP hK hD hS hl
  obtain ⟨hx, hb, hr, hml, hown, hts, hlocks, hN⟩ := id hC
  have hown : s.vm.findClass RX2 = some m.cls := hown
  have hl : lv_has ls 3 [(0, .ref h), (1, .long (lN x))] := hl
  refine lv_aload_n hx hb dX2_appendLong_0 rfl (lv_at hl 0 rfl) ?_
  refine va_get (D := D) (ci := 2) (C := RX2) (T := TX2) (N := 2) (v := .int (nI u)) hx hb hts kin_X2_w hown hK hP 0 rfl rfl 1 (by decide) (hts _ kfl_X2_21) (fun _ h9 => h9) rfl dX2_appendLong_1 ?_
  refine lv_aload_n hx hb dX2_appendLong_4 rfl (lv_at hl 0 rfl) ?_
  refine va_get (D := D) (ci := 2) (C := RX2) (T := TX2) (N := 2) (v := .ref a) hx hb hts kin_X2_w hown hK hP 0 rfl rfl 0 (by decide) (hts _ kfl_X2_15) (fun _ h9 => h9) rfl dX2_appendLong_5 ?_
  refine va_alen (v := nI N) hx hb hK hP 1 1 rfl rfl rfl dX2_appendLong_8 ?_
  refine lv_iconst (v := nI 2) hx hb dX2_appendLong_9 (by decide) ?_
  refine lv_isub hx hb dX2_appendLong_10 ?_
  refine dm_ti (y := nI (N - 2)) (pk_sub hN2) ?_
  refine dm_icmp_le (tgt := 16) hx hb (by omega) (by omega) dX2_appendLong_11 (by decide) (fun hc => ?_) (fun hc => ?_)
  · refine lv_aload_n hx hb dX2_appendLong_16 rfl (lv_at hl 0 rfl) ?_
    refine va_get (D := D) (ci := 2) (C := RX2) (T := TX2) (N := 2) (v := .ref a) hx hb hts kin_X2_w hown hK hP 0 rfl rfl 0 (by decide) (hts _ kfl_X2_15) (fun _ h9 => h9) rfl dX2_appendLong_17 ?_
    refine lv_iconst (v := nI 0) hx hb dX2_appendLong_20 (by decide) ?_
    refine lv_aload_n hx hb dX2_appendLong_21 rfl (lv_at hl 0 rfl) ?_
    refine va_get (D := D) (ci := 2) (C := RX2) (T := TX2) (N := 2) (v := .ref a) hx hb hts kin_X2_w hown hK hP 0 rfl rfl 0 (by decide) (hts _ kfl_X2_15) (fun _ h9 => h9) rfl dX2_appendLong_22 ?_
    refine lv_iconst (v := nI 2) hx hb dX2_appendLong_25 (by decide) ?_
    refine lv_aload_n hx hb dX2_appendLong_26 rfl (lv_at hl 0 rfl) ?_
    refine va_get (D := D) (ci := 2) (C := RX2) (T := TX2) (N := 2) (v := .int (nI u)) hx hb hts kin_X2_w hown hK hP 0 rfl rfl 1 (by decide) (hts _ kfl_X2_21) (fun _ h9 => h9) rfl dX2_appendLong_27 ?_
    refine dm_copyi (sp := 0) (dp := 2) (n := u) hC hl (hts _ kml_X2_43) hK hP hD hS 1 1 1 1 rfl rfl rfl rfl (by omega) (by omega) hNb hNb ⟨Nat.le_of_ble_eq_true rfl, Nat.le_of_ble_eq_true rfl⟩ dX2_appendLong_30 (fun H locs hP hD hS => ?_)
    have hP : va_P D vwCl [(h, .inr (2, [.ref a, .int (nI u)])), (a, .inl (cI, N, .inl (va_cpy f f 0 2 u)))] H := hP
    have hD : va_D A [(h, .inr (2, [.ref a, .int (nI u)])), (a, .inl (cI, N, .inl (va_cpy f f 0 2 u)))] := hD
    refine lv_aload_n hx hb dX2_appendLong_33 rfl (lv_at hl 0 rfl) ?_
    refine va_get (D := D) (ci := 2) (C := RX2) (T := TX2) (N := 2) (v := .ref a) hx hb hts kin_X2_w hown hK hP 0 rfl rfl 0 (by decide) (hts _ kfl_X2_15) (fun _ h9 => h9) rfl dX2_appendLong_34 ?_
    refine lv_iconst (v := nI 0) hx hb dX2_appendLong_37 (by decide) ?_
    refine lv_lload_n hx hb dX2_appendLong_38 rfl (lv_at hl 1 rfl) ?_
    refine lv_l2i (v := nI x) hx hb dX2_appendLong_39 (lN_low) ?_
    refine dm_iast (j := 0) (f' := upd (va_cpy f f 0 2 u) 0 (nI x)) hx hb hK hP hD hS 1 1 rfl rfl (by omega) hNb (rfl) dX2_appendLong_40 (fun H locs hP hD hS => ?_)
    have hP : va_P D vwCl [(h, .inr (2, [.ref a, .int (nI u)])), (a, .inl (cI, N, .inl (upd (va_cpy f f 0 2 u) 0 (nI x))))] H := hP
    have hD : va_D A [(h, .inr (2, [.ref a, .int (nI u)])), (a, .inl (cI, N, .inl (upd (va_cpy f f 0 2 u) 0 (nI x))))] := hD
    refine lv_aload_n hx hb dX2_appendLong_41 rfl (lv_at hl 0 rfl) ?_
    refine va_get (D := D) (ci := 2) (C := RX2) (T := TX2) (N := 2) (v := .ref a) hx hb hts kin_X2_w hown hK hP 0 rfl rfl 0 (by decide) (hts _ kfl_X2_15) (fun _ h9 => h9) rfl dX2_appendLong_42 ?_
    refine lv_iconst (v := nI 1) hx hb dX2_appendLong_45 (by decide) ?_
    refine lv_lload_n hx hb dX2_appendLong_46 rfl (lv_at hl 1 rfl) ?_
    refine lv_bipush (v := nI 32) hx hb dX2_appendLong_47 (by decide) ?_
    refine lv_lushr (v := lN (x / 4294967296)) hx hb dX2_appendLong_49 (wl_hi hx8) ?_
    refine lv_l2i (v := nI (x / 4294967296)) hx hb dX2_appendLong_50 (lN_low) ?_
    refine dm_iast (j := 1) (f' := upd (upd (va_cpy f f 0 2 u) 0 (nI x)) 1 (nI (x / 4294967296))) hx hb hK hP hD hS 1 1 rfl rfl (by omega) hNb (rfl) dX2_appendLong_51 (fun H locs hP hD hS => ?_)
    have hP : va_P D vwCl [(h, .inr (2, [.ref a, .int (nI u)])), (a, .inl (cI, N, .inl (upd (upd (va_cpy f f 0 2 u) 0 (nI x)) 1 (nI (x / 4294967296)))))] H := hP
    have hD : va_D A [(h, .inr (2, [.ref a, .int (nI u)])), (a, .inl (cI, N, .inl (upd (upd (va_cpy f f 0 2 u) 0 (nI x)) 1 (nI (x / 4294967296)))))] := hD
    refine lv_aload_n hx hb dX2_appendLong_52 rfl (lv_at hl 0 rfl) ?_
    refine lv_dup hx hb dX2_appendLong_53 rfl ?_
    refine va_get (D := D) (ci := 2) (C := RX2) (T := TX2) (N := 2) (v := .int (nI u)) hx hb hts kin_X2_w hown hK hP 0 rfl rfl 1 (by decide) (hts _ kfl_X2_21) (fun _ h9 => h9) rfl dX2_appendLong_54 ?_
    refine lv_iconst (v := nI 2) hx hb dX2_appendLong_57 (by decide) ?_
    refine lv_iadd hx hb dX2_appendLong_58 ?_
    refine dm_ti (y := nI (u + 2)) (nI_add u 2) ?_
    refine va_put (D := D) (ci := 2) (v := .int (nI (u + 2))) (ty := .int) (C := RX2) (T := TX2) (N := 2) hx hb hts kin_X2_w tyX2 tyX2_ok nmX2 hown hK hP hD hS 0 rfl rfl 1 (by decide) (hts _ kfl_X2_21) (fun _ h9 => h9) rfl (by decide +kernel) rfl rfl (Nat.le_of_ble_eq_true rfl) dX2_appendLong_59 (fun H locs hP hD hS => ?_)
    have hP : va_P D vwCl [(h, .inr (2, [.ref a, .int (nI (u + 2))])), (a, .inl (cI, N, .inl (upd (upd (va_cpy f f 0 2 u) 0 (nI x)) 1 (nI (x / 4294967296)))))] H := hP
    have hD : va_D A [(h, .inr (2, [.ref a, .int (nI (u + 2))])), (a, .inl (cI, N, .inl (upd (upd (va_cpy f f 0 2 u) 0 (nI x)) 1 (nI (x / 4294967296)))))] := hD
    refine lv_aload_n hx hb dX2_appendLong_62 rfl (lv_at hl 0 rfl) ?_
    have hv : dvb 4294967296 (upd (upd (va_cpy f f 0 2 u) 0 (nI x)) 1 (nI (x / 4294967296))) (u + 2) = dvb 4294967296 f u * 18446744073709551616 + x := by
      refine dvb_shift2 hx8 ?_ ?_ ?_
      · rw [pk_un (by decide), pk_us]
      · rw [pk_us]
      · intro j hj
        rw [pk_un (by omega), pk_un (by omega), pk_cpy_in (by omega) (by omega)]
        congr 1
        omega
    refine dm_gov (wr := []) (dm_rV (n := 0) (As := []) (rest := []) hC hl (c_X2_dropZeros l D cB cI cC 4294967296 h a N (u + 2) (upd (upd (va_cpy f f 0 2 u) 0 (nI x)) 1 (nI (x / 4294967296))) (by omega) hNb H.size) kco_X2_dropZeros ki_X2 kim_X2_dropZeros kse_X2_dropZeros kml_X2_68 (by decide +kernel) ⟨Nat.le_of_ble_eq_true rfl, Nat.le_of_ble_eq_true rfl⟩ rfl rfl ⟨dm_blind, va_recv hK hP (ci := 2) (q0 := 0) rfl rfl, dm_preU hK hP hD hC.2.2.2.2.2.2.2 [0, 1] (by decide) rfl⟩ rfl rfl (Nat.le_of_ble_eq_true rfl) dX2_appendLong_63 ⟨Nat.le_of_ble_eq_true rfl, Nat.le_of_ble_eq_true rfl⟩) hP hD hS hA [0, 1] [] rfl rfl (by decide) (by decide) (fun u2 H locs hw hP hD hS => ?_)
    have hP : va_P D vwCl [(h, .inr (2, [.ref a, .int (nI u2)])), (a, .inl (cI, N, .inl (upd (upd (va_cpy f f 0 2 u) 0 (nI x)) 1 (nI (x / 4294967296)))))] H := hP
    have hD : va_D A [(h, .inr (2, [.ref a, .int (nI u2)])), (a, .inl (cI, N, .inl (upd (upd (va_cpy f f 0 2 u) 0 (nI x)) 1 (nI (x / 4294967296)))))] := hD
    refine lv_iconst (v := nI 1) hx hb dX2_appendLong_66 (by decide) ?_
    refine dm_zret (v := nI 1) hC (Or.inr rfl) hK (upd (upd (va_cpy f f 0 2 u) 0 (nI x)) 1 (nI (x / 4294967296)), u2) ⟨fun _ => ⟨rfl, by show u2 ≤ N; omega, by show dvb _ _ u2 = _; rw [hw.2.1]; exact hv, hw.2.2⟩, fun h9 => absurd h9 (by omega)⟩ hP hD hS dX2_appendLong_67
  · refine lv_iconst (v := nI 0) hx hb dX2_appendLong_14 (by decide) ?_
    exact dm_zret (v := nI 0) hC (Or.inl rfl) hK (f, u) ⟨fun h9 => absurd h9 (by omega), fun _ => ⟨rfl, rfl⟩⟩ hP hD hS dX2_appendLong_15

set_option maxRecDepth 100000 in
set_option maxHeartbeats 4000000 in
theorem c_X2_becomeLong (l : Launch) (D : va_G) (cB cI cC : ClassId) (h a N u x : Nat) (f : Nat → Int32) (hN2 : 2 ≤ N) (hNb : N < 2 ^ 31) (hx8 : x < 18446744073709551616) : MV l yX2_becomeLong (Cond.code yX2_becomeLong cX2_becomeLong 3 none) 2 D (TY cB cI cC) [.ref h, .long (lN x)] [(h, .inr (2, [.ref a, .int (nI u)])), (a, .inl (cI, N, .inl f))] (S := (Nat → Int32) × Nat) (fun q => q.2 ≤ N ∧ dvb 4294967296 q.1 q.2 = x ∧ nrm q.1 q.2) (fun q => [(h, .inr (2, [.ref a, .int (nI q.2)])), (a, .inl (cI, N, .inl q.1))]) := by
  refine MV.of (by decide) (Nat.le_of_ble_eq_true rfl) ?_
  intro p e s m below meth c ls A hC hA hP hK hD hS hl
  obtain ⟨hx, hb, hr, hml, hown, hts, hlocks, hN⟩ := id hC
  have hown : s.vm.findClass RX2 = some m.cls := hown
  have hl : lv_has ls 3 [(0, .ref h), (1, .long (lN x))] := hl
  refine lv_aload_n hx hb dX2_becomeLong_0 rfl (lv_at hl 0 rfl) ?_
  refine lv_iconst (v := nI 0) hx hb dX2_becomeLong_1 (by decide) ?_
  refine va_put (D := D) (ci := 2) (v := .int (nI 0)) (ty := .int) (C := RX2) (T := TX2) (N := 2) hx hb hts kin_X2_w tyX2 tyX2_ok nmX2 hown hK hP hD hS 0 rfl rfl 1 (by decide) (hts _ kfl_X2_21) (fun _ h9 => h9) rfl (by decide +kernel) rfl rfl (Nat.le_of_ble_eq_true rfl) dX2_becomeLong_2 (fun H locs hP hD hS => ?_)
  have hP : va_P D vwCl [(h, .inr (2, [.ref a, .int (nI 0)])), (a, .inl (cI, N, .inl f))] H := hP
  have hD : va_D A [(h, .inr (2, [.ref a, .int (nI 0)])), (a, .inl (cI, N, .inl f))] := hD
  refine lv_aload_n hx hb dX2_becomeLong_5 rfl (lv_at hl 0 rfl) ?_
  refine lv_lload_n hx hb dX2_becomeLong_6 rfl (lv_at hl 1 rfl) ?_
  refine dm_goi (wr := []) (dm_rV (n := 1) (As := [.long (lN x)]) (rest := []) hC hl (c_X2_appendLong l D cB cI cC h a N 0 x f (by omega) hN2 hNb hx8 H.size) kco_X2_appendLong ki_X2 kim_X2_appendLong kse_X2_appendLong kml_X2_36 (by decide +kernel) ⟨Nat.le_of_ble_eq_true rfl, Nat.le_of_ble_eq_true rfl⟩ rfl rfl ⟨dm_blind, va_recv hK hP (ci := 2) (q0 := 0) rfl rfl, dm_preU hK hP hD hC.2.2.2.2.2.2.2 [0, 1] (by decide) rfl⟩ rfl rfl (Nat.le_of_ble_eq_true rfl) dX2_becomeLong_7 ⟨Nat.le_of_ble_eq_true rfl, Nat.le_of_ble_eq_true rfl⟩) hP hD hS hA [0, 1] [] rfl rfl (by decide) (by decide) (fun r q H locs hw hP hD hS => ?_)
  obtain ⟨g2, u2⟩ := q
  have hP : va_P D vwCl [(h, .inr (2, [.ref a, .int (nI u2)])), (a, .inl (cI, N, .inl g2))] H := hP
  have hD : va_D A [(h, .inr (2, [.ref a, .int (nI u2)])), (a, .inl (cI, N, .inl g2))] := hD
  have hw := hw.1 (by omega)
  refine lv_pop hx hb dX2_becomeLong_10 rfl ?_
  refine dm_vret hC hK (g2, u2) ⟨hw.2.1, by rw [hw.2.2.1]; simp [dvb], hw.2.2.2⟩ hP hD hS dX2_becomeLong_11

set_option maxRecDepth 100000 in
set_option maxHeartbeats 4000000 in
theorem c_X2_becomeCopyOf (l : Launch) (D : va_G) (cB cI cC : ClassId) (h a h2 a2 N u v : Nat) (f g : Nat → Int32) (hv : v ≤ N) (hNb : N < 2 ^ 31) : MV l yX2_becomeCopyOf (Cond.code yX2_becomeCopyOf cX2_becomeCopyOf 2 none) 1 D (TY cB cI cC) [.ref h, .ref h2] [(h, .inr (2, [.ref a, .int (nI u)])), (a, .inl (cI, N, .inl f)), (h2, .inr (2, [.ref a2, .int (nI v)])), (a2, .inl (cI, N, .inl g))] (S := Nat → Int32) (fun g2 => ∀ j, j < v → g2 j = g j) (fun g2 => [(h, .inr (2, [.ref a, .int (nI v)])), (a, .inl (cI, N, .inl g2)), (h2, .inr (2, [.ref a2, .int (nI v)])), (a2, .inl (cI, N, .inl g))]) := by
  refine MV.of (by decide) (Nat.le_of_ble_eq_true rfl) ?_
  intro p e s m below meth c ls A hC hA hP hK hD hS hl
  obtain ⟨hx, hb, hr, hml, hown, hts, hlocks, hN⟩ := id hC
  have hown : s.vm.findClass RX2 = some m.cls := hown
  have hl : lv_has ls 2 [(0, .ref h), (1, .ref h2)] := hl
  refine lv_aload_n hx hb dX2_becomeCopyOf_0 rfl (lv_at hl 0 rfl) ?_
  refine lv_aload_n hx hb dX2_becomeCopyOf_1 rfl (lv_at hl 1 rfl) ?_
  refine va_get (D := D) (ci := 2) (C := RX2) (T := TX2) (N := 2) (v := .int (nI v)) hx hb hts kin_X2_w hown hK hP 2 rfl rfl 1 (by decide) (hts _ kfl_X2_21) (fun _ h9 => h9) rfl dX2_becomeCopyOf_2 ?_
  refine lv_aload_n hx hb dX2_becomeCopyOf_5 rfl (lv_at hl 0 rfl) ?_
  refine va_get (D := D) (ci := 2) (C := RX2) (T := TX2) (N := 2) (v := .ref a) hx hb hts kin_X2_w hown hK hP 0 rfl rfl 0 (by decide) (hts _ kfl_X2_15) (fun _ h9 => h9) rfl dX2_becomeCopyOf_6 ?_
  refine va_alen (v := nI N) hx hb hK hP 1 1 rfl rfl rfl dX2_becomeCopyOf_9 ?_
  refine va_mmin hx hb (hml.trans hl.1.symm) hown (hts _ kml_X2_40) (hts _ kst_J9_min_7cf53) (hts _ ki_J9) (hts _ kco_J9_min_7cf53) (Nat.le_of_ble_eq_true rfl) (Nat.le_of_ble_eq_true rfl) (Nat.le_of_ble_eq_true rfl) (Nat.le_of_ble_eq_true rfl) dX2_becomeCopyOf_10 ?_
  refine dm_ti (y := nI v) (if_neg (nI_nlt hv hNb)) ?_
  refine va_put (D := D) (ci := 2) (v := .int (nI v)) (ty := .int) (C := RX2) (T := TX2) (N := 2) hx hb hts kin_X2_w tyX2 tyX2_ok nmX2 hown hK hP hD hS 0 rfl rfl 1 (by decide) (hts _ kfl_X2_21) (fun _ h9 => h9) rfl (by decide +kernel) rfl rfl (Nat.le_of_ble_eq_true rfl) dX2_becomeCopyOf_13 (fun H locs hP hD hS => ?_)
  have hP : va_P D vwCl [(h, .inr (2, [.ref a, .int (nI v)])), (a, .inl (cI, N, .inl f)), (h2, .inr (2, [.ref a2, .int (nI v)])), (a2, .inl (cI, N, .inl g))] H := hP
  have hD : va_D A [(h, .inr (2, [.ref a, .int (nI v)])), (a, .inl (cI, N, .inl f)), (h2, .inr (2, [.ref a2, .int (nI v)])), (a2, .inl (cI, N, .inl g))] := hD
  refine lv_aload_n hx hb dX2_becomeCopyOf_16 rfl (lv_at hl 1 rfl) ?_
  refine va_get (D := D) (ci := 2) (C := RX2) (T := TX2) (N := 2) (v := .ref a2) hx hb hts kin_X2_w hown hK hP 2 rfl rfl 0 (by decide) (hts _ kfl_X2_15) (fun _ h9 => h9) rfl dX2_becomeCopyOf_17 ?_
  refine lv_iconst (v := nI 0) hx hb dX2_becomeCopyOf_20 (by decide) ?_
  refine lv_aload_n hx hb dX2_becomeCopyOf_21 rfl (lv_at hl 0 rfl) ?_
  refine va_get (D := D) (ci := 2) (C := RX2) (T := TX2) (N := 2) (v := .ref a) hx hb hts kin_X2_w hown hK hP 0 rfl rfl 0 (by decide) (hts _ kfl_X2_15) (fun _ h9 => h9) rfl dX2_becomeCopyOf_22 ?_
  refine lv_iconst (v := nI 0) hx hb dX2_becomeCopyOf_25 (by decide) ?_
  refine lv_aload_n hx hb dX2_becomeCopyOf_26 rfl (lv_at hl 0 rfl) ?_
  refine va_get (D := D) (ci := 2) (C := RX2) (T := TX2) (N := 2) (v := .int (nI v)) hx hb hts kin_X2_w hown hK hP 0 rfl rfl 1 (by decide) (hts _ kfl_X2_21) (fun _ h9 => h9) rfl dX2_becomeCopyOf_27 ?_
  refine dm_copyi (sp := 0) (dp := 0) (n := v) hC hl (hts _ kml_X2_43) hK hP hD hS 3 1 1 1 rfl rfl rfl rfl (by omega) (by omega) hNb hNb ⟨Nat.le_of_ble_eq_true rfl, Nat.le_of_ble_eq_true rfl⟩ dX2_becomeCopyOf_30 (fun H locs hP hD hS => ?_)
  have hP : va_P D vwCl [(h, .inr (2, [.ref a, .int (nI v)])), (a, .inl (cI, N, .inl (va_cpy g f 0 0 v))), (h2, .inr (2, [.ref a2, .int (nI v)])), (a2, .inl (cI, N, .inl g))] H := hP
  have hD : va_D A [(h, .inr (2, [.ref a, .int (nI v)])), (a, .inl (cI, N, .inl (va_cpy g f 0 0 v))), (h2, .inr (2, [.ref a2, .int (nI v)])), (a2, .inl (cI, N, .inl g))] := hD
  exact dm_vret hC hK (va_cpy g f 0 0 v) (fun j hj => sb_cpy0 hj) hP hD hS dX2_becomeCopyOf_33

set_option maxRecDepth 100000 in
set_option maxHeartbeats 4000000 in
theorem c_X2_lowLong (l : Launch) (D : va_G) (cB cI cC : ClassId) (h a N u : Nat) (f : Nat → Int32) (hu : u ≤ N) (hu2 : u ≤ 2) (hNb : N < 2 ^ 31) : ROl l yX2_lowLong (Cond.code yX2_lowLong cX2_lowLong 1 (some .long)) 1 D (TY cB cI cC) [.ref h] [(h, .inr (2, [.ref a, .int (nI u)])), (a, .inl (cI, N, .inl f))] (fun r => r = lN (dvb 4294967296 f u)) := by
  refine ROl.of (by decide) (Nat.le_of_ble_eq_true rfl) ?_
  intro p e s m below meth c ls A hC hA hP hK hD hS hl
  obtain ⟨hx, hb, hr, hml, hown, hts, hlocks, hN⟩ := id hC
  have hown : s.vm.findClass RX2 = some m.cls := hown
  have hl : lv_has ls 1 [(0, .ref h)] := hl
  refine lv_aload_n hx hb dX2_lowLong_0 rfl (lv_at hl 0 rfl) ?_
  refine lv_iconst (v := nI 1) hx hb dX2_lowLong_1 (by decide) ?_
  refine dm_gori (dm_rV (n := 1) (As := [.int (nI 1)]) (rest := []) hC hl (c_X2_wordAt l D cB cI cC h a N u f (nI 1) hu hNb s.heap.size) kco_X2_wordAt ki_X2 kim_X2_wordAt kse_X2_wordAt kml_X2_31 (by decide +kernel) ⟨Nat.le_of_ble_eq_true rfl, Nat.le_of_ble_eq_true rfl⟩ rfl rfl ⟨dm_blind, va_recv hK hP (ci := 2) (q0 := 0) rfl rfl, dm_preU hK hP hD hC.2.2.2.2.2.2.2 [0, 1] (by decide) rfl⟩ rfl rfl (Nat.le_of_ble_eq_true rfl) dX2_lowLong_2 ⟨Nat.le_of_ble_eq_true rfl, Nat.le_of_ble_eq_true rfl⟩) (fun r1 h1 => ?_)
  subst h1
  refine lv_i2l (v := (wAt f u (nI 1) : Int32).toInt64) hx hb dX2_lowLong_5 (rfl) ?_
  refine lv_bipush (v := nI 32) hx hb dX2_lowLong_6 (by decide) ?_
  refine lv_lshl (v := lN (un (wAt f u (nI 1)) * 4294967296)) hx hb dX2_lowLong_8 (wl_shl _) ?_
  refine lv_aload_n hx hb dX2_lowLong_9 rfl (lv_at hl 0 rfl) ?_
  refine lv_iconst (v := nI 0) hx hb dX2_lowLong_10 (by decide) ?_
  refine dm_gori (dm_rV (n := 1) (As := [.int (nI 0)]) (rest := [.long (lN (un (wAt f u (nI 1)) * 4294967296))]) hC hl (c_X2_wordAt l D cB cI cC h a N u f (nI 0) hu hNb s.heap.size) kco_X2_wordAt ki_X2 kim_X2_wordAt kse_X2_wordAt kml_X2_31 (by decide +kernel) ⟨Nat.le_of_ble_eq_true rfl, Nat.le_of_ble_eq_true rfl⟩ rfl rfl ⟨dm_blind, va_recv hK hP (ci := 2) (q0 := 0) rfl rfl, dm_preU hK hP hD hC.2.2.2.2.2.2.2 [0, 1] (by decide) rfl⟩ rfl rfl (Nat.le_of_ble_eq_true rfl) dX2_lowLong_11 ⟨Nat.le_of_ble_eq_true rfl, Nat.le_of_ble_eq_true rfl⟩) (fun r0 h0 => ?_)
  subst h0
  have hb0 := un_lt (wAt f u (nI 0))
  have hb1 := un_lt (wAt f u (nI 1))
  refine lv_i2l (v := (wAt f u (nI 0) : Int32).toInt64) hx hb dX2_lowLong_14 (rfl) ?_
  refine lv_ldc2 (v := 4294967295) hx hb hown (hts _ kct_X2_34) dX2_lowLong_15 ?_
  refine lv_land hx hb dX2_lowLong_18 ?_
  refine dm_tl (y := lN (un (wAt f u (nI 0)))) (wl_un _) ?_
  refine lv_lor hx hb dX2_lowLong_19 ?_
  refine dm_tl (y := lN (un (wAt f u (nI 1)) * 4294967296 + un (wAt f u (nI 0)))) (g_or (k := 32) (by decide) hb0 (by omega)) ?_
  exact ri_lret hC (by rw [dvb_two hu2]) dX2_lowLong_20
