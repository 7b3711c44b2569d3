set_option maxRecDepth 100000 in
set_option maxHeartbeats 4000000 in
theorem c_X2_becomeSquareOf (l : Launch) (D : va_G) (cB cI cC : ClassId) (h a h2 a2 N u v : Nat) (f g : Nat → Int32) (hv : v ≤ N) (hNb : N < 1073741824) : MI l yX2_becomeSquareOf (Cond.code yX2_becomeSquareOf cX2_becomeSquareOf 4 (some .boolean)) 1 D (TY cB cI cC) [.ref h, .ref h2] [(h, .inr (2, [.ref a, .int (nI u)])), (a, .inl (cI, N, .inl f)), (h2, .inr (2, [.ref a2, .int (nI v)])), (a2, .inl (cI, N, .inl g))] (S := (Nat → Int32) × Nat) (fun r q => (2 * v ≤ N → r = 1 ∧ q.2 ≤ N ∧ dvb 4294967296 q.1 q.2 = dvb 4294967296 g v * dvb 4294967296 g v ∧ nrm q.1 q.2) ∧ (N < 2 * v → r = 0 ∧ q = (f, u))) (fun q => [(h, .inr (2, [.ref a, .int (nI q.2)])), (a, .inl (cI, N, .inl q.1)), (h2, .inr (2, [.ref a2, .int (nI v)])), (a2, .inl (cI, N, .inl g))]) := by
  refine MI.of (by decide) (Nat.le_of_ble_eq_true rfl) ?_
  intro p e s m below meth c ls A hC hA hP hK hD hS hl
  obtain ⟨hx, hb, hr, hml, hown, hts, hlocks, hN⟩ := id hC
  have hown : s.vm.findClass RX2 = some m.cls := hown
  have hl : lv_has ls 4 [(0, .ref h), (1, .ref h2)] := hl
  have hNb2 := hNb
  have hNb : N < 2 ^ 31 := by omega
  refine lv_aload_n hx hb dX2_becomeSquareOf_0 rfl (lv_at hl 1 rfl) ?_
  refine va_get (D := D) (ci := 2) (C := RX2) (T := TX2) (N := 2) (v := .int (nI v)) hx hb hts kin_X2_w hown hK hP 2 rfl rfl 1 (by decide) (hts _ kfl_X2_21) (fun _ h9 => h9) rfl dX2_becomeSquareOf_1 ?_
  refine lv_istore_n (lv' := [(2, .int (nI v)), (0, .ref h), (1, .ref h2)]) hx hb dX2_becomeSquareOf_4 rfl hl (by decide) rfl (fun ls hl => ?_)
  refine lv_iload_n hx hb dX2_becomeSquareOf_5 rfl (lv_at hl 0 rfl) ?_
  refine lv_aload_n hx hb dX2_becomeSquareOf_6 rfl (lv_at hl 1 rfl) ?_
  refine va_get (D := D) (ci := 2) (C := RX2) (T := TX2) (N := 2) (v := .ref a) hx hb hts kin_X2_w hown hK hP 0 rfl rfl 0 (by decide) (hts _ kfl_X2_15) (fun _ h9 => h9) rfl dX2_becomeSquareOf_7 ?_
  refine va_alen (v := nI N) hx hb hK hP 1 1 rfl rfl rfl dX2_becomeSquareOf_10 ?_
  refine lv_iconst (v := nI 2) hx hb dX2_becomeSquareOf_11 (by decide) ?_
  refine lv_idiv hx hb dX2_becomeSquareOf_12 (by decide) ?_
  refine dm_ti (y := nI (N / 2)) (pk_div hNb (by decide) (by decide)) ?_
  refine dm_icmp_le (tgt := 18) hx hb (by omega) (by omega) dX2_becomeSquareOf_13 (by decide) (fun hc => ?_) (fun hc => ?_)
  · have h2v : 2 * v ≤ N := by omega
    refine lv_iconst (v := nI 0) hx hb dX2_becomeSquareOf_18 (by decide) ?_
    refine lv_istore_n (lv' := [(3, .int (nI 0)), (2, .int (nI v)), (0, .ref h), (1, .ref h2)]) hx hb dX2_becomeSquareOf_19 rfl hl (by decide) rfl (fun ls hl => ?_)
    refine dm_loop (nL := 4) (head := 20) (P := fun (x : Nat × (Nat → Int32)) => x.1 ≤ 2 * v ∧ ∀ j, j < x.1 → x.2 j = 0) (w := fun x => [(h, .inr (2, [.ref a, .int (nI u)])), (a, .inl (cI, N, .inl x.2)), (h2, .inr (2, [.ref a2, .int (nI v)])), (a2, .inl (cI, N, .inl g))]) (lv := fun x => [(3, .int (nI x.1)), (2, .int (nI v)), (0, .ref h), (1, .ref h2)]) (μ := fun x => 2 * v - x.1) ?_ (0, f) ⟨Nat.zero_le _, fun j hj => absurd hj (Nat.not_lt_zero _)⟩ hP hD hS hl
    rintro ⟨i, F⟩ H locs ls ⟨hi, hz⟩ hP hD hS hl ih
    dsimp only at hi hz
    have hP : va_P D vwCl [(h, .inr (2, [.ref a, .int (nI u)])), (a, .inl (cI, N, .inl F)), (h2, .inr (2, [.ref a2, .int (nI v)])), (a2, .inl (cI, N, .inl g))] H := hP
    have hl : lv_has ls 4 [(3, .int (nI i)), (2, .int (nI v)), (0, .ref h), (1, .ref h2)] := hl
    refine lv_iload_n hx hb dX2_becomeSquareOf_20 rfl (lv_at hl 0 rfl) ?_
    refine lv_iconst (v := nI 2) hx hb dX2_becomeSquareOf_21 (by decide) ?_
    refine lv_iload_n hx hb dX2_becomeSquareOf_22 rfl (lv_at hl 1 rfl) ?_
    refine lv_imul hx hb dX2_becomeSquareOf_23 ?_
    refine dm_ti (y := nI (2 * v)) (pk_mul 2 v) ?_
    refine dm_icmp_ge (tgt := 40) hx hb (by omega) (by omega) dX2_becomeSquareOf_24 (by decide) (fun hd => ?_) (fun hd => ?_)
    · have hi2 : i = 2 * v := by omega
      subst hi2
      refine lv_iconst (v := nI 0) hx hb dX2_becomeSquareOf_40 (by decide) ?_
      refine lv_istore_n (lv' := [(3, .int (nI 0)), (2, .int (nI v)), (0, .ref h), (1, .ref h2)]) hx hb dX2_becomeSquareOf_41 rfl hl (by decide) rfl (fun ls hl => ?_)
      refine dm_loop (nL := 4) (head := 42) (P := fun (x : Nat × (Nat → Int32)) => x.1 ≤ v ∧ (∀ k, x.1 + v ≤ k → k < 2 * v → x.2 k = 0) ∧ ∃ t, dvb 4294967296 g v = dvb 4294967296 g x.1 + t ∧ 2 * dvb 4294967296 x.2 (2 * v) + sqs g x.1 + t * t = dvb 4294967296 g v * dvb 4294967296 g v) (w := fun x => [(h, .inr (2, [.ref a, .int (nI u)])), (a, .inl (cI, N, .inl x.2)), (h2, .inr (2, [.ref a2, .int (nI v)])), (a2, .inl (cI, N, .inl g))]) (lv := fun x => [(3, .int (nI x.1)), (2, .int (nI v)), (0, .ref h), (1, .ref h2)]) (μ := fun x => v - x.1) ?_ (0, F) ⟨Nat.zero_le _, fun k _ hk => hz k hk, dvb 4294967296 g v, (Nat.zero_add _).symm, by dsimp only; rw [dvb_zero hz]; show 2 * 0 + 0 + _ = _; omega⟩ hP hD hS hl
      clear ih hz
      rintro ⟨i, F⟩ H locs ls ⟨hi, hz, tt, ht1, ht2⟩ hP hD hS hl ih
      dsimp only at hi hz ht1 ht2
      have hP : va_P D vwCl [(h, .inr (2, [.ref a, .int (nI u)])), (a, .inl (cI, N, .inl F)), (h2, .inr (2, [.ref a2, .int (nI v)])), (a2, .inl (cI, N, .inl g))] H := hP
      have hD : va_D A [(h, .inr (2, [.ref a, .int (nI u)])), (a, .inl (cI, N, .inl F)), (h2, .inr (2, [.ref a2, .int (nI v)])), (a2, .inl (cI, N, .inl g))] := hD
      have hl : lv_has ls 4 [(3, .int (nI i)), (2, .int (nI v)), (0, .ref h), (1, .ref h2)] := hl
      refine lv_iload_n hx hb dX2_becomeSquareOf_42 rfl (lv_at hl 0 rfl) ?_
      refine lv_iload_n hx hb dX2_becomeSquareOf_43 rfl (lv_at hl 1 rfl) ?_
      refine dm_icmp_ge (tgt := 63) hx hb (by omega) (by omega) dX2_becomeSquareOf_44 (by decide) (fun he => ?_) (fun he => ?_)
      · have hiv : i = v := by omega
        subst hiv
        have ht0 : tt = 0 := by omega
        rw [ht0] at ht2
        have hlt := dv32_lt g i
        have hTT : dvb 4294967296 g i * dvb 4294967296 g i < 4294967296 ^ (2 * i) := by
          rw [show 2 * i = i + i by omega, Nat.pow_add]
          exact Nat.mul_lt_mul'' hlt hlt
        refine lv_aload_n hx hb dX2_becomeSquareOf_63 rfl (lv_at hl 2 rfl) ?_
        refine lv_aload_n hx hb dX2_becomeSquareOf_64 rfl (lv_at hl 3 rfl) ?_
        refine va_get (D := D) (ci := 2) (C := RX2) (T := TX2) (N := 2) (v := .ref a2) hx hb hts kin_X2_w hown hK hP 2 rfl rfl 0 (by decide) (hts _ kfl_X2_15) (fun _ h9 => h9) rfl dX2_becomeSquareOf_65 ?_
        refine lv_iload_n hx hb dX2_becomeSquareOf_68 rfl (lv_at hl 1 rfl) ?_
        refine dm_gov (wr := [(h2, .inr (2, [.ref a2, .int (nI i)]))]) (dm_rV (n := 2) (As := [.ref a2, .int (nI i)]) (rest := []) hC hl (c_X2_doubleAndAddSquares l D cB cI cC h a a2 N u i F g h2v hNb (by omega) H.size) kco_X2_doubleAndAddSquares ki_X2 kim_X2_doubleAndAddSquares kse_X2_doubleAndAddSquares kml_X2_78 (by decide +kernel) ⟨Nat.le_of_ble_eq_true rfl, Nat.le_of_ble_eq_true rfl⟩ rfl rfl ⟨dm_blind, va_recv hK hP (ci := 2) (q0 := 0) rfl rfl, dm_preU hK hP hD hC.2.2.2.2.2.2.2 [0, 1, 3] (by decide) rfl⟩ rfl rfl (Nat.le_of_ble_eq_true rfl) dX2_becomeSquareOf_69 ⟨Nat.le_of_ble_eq_true rfl, Nat.le_of_ble_eq_true rfl⟩) hP hD hS hA [0, 1, 3] [2] rfl rfl (by decide) (by decide) (fun F2 H locs hw hP hD hS => ?_)
        have hP : va_P D vwCl [(h2, .inr (2, [.ref a2, .int (nI i)])), (h, .inr (2, [.ref a, .int (nI u)])), (a, .inl (cI, N, .inl F2)), (a2, .inl (cI, N, .inl g))] H := hP
        have hD : va_D A [(h2, .inr (2, [.ref a2, .int (nI i)])), (h, .inr (2, [.ref a, .int (nI u)])), (a, .inl (cI, N, .inl F2)), (a2, .inl (cI, N, .inl g))] := hD
        refine lv_aload_n hx hb dX2_becomeSquareOf_72 rfl (lv_at hl 2 rfl) ?_
        refine lv_iconst (v := nI 2) hx hb dX2_becomeSquareOf_73 (by decide) ?_
        refine lv_iload_n hx hb dX2_becomeSquareOf_74 rfl (lv_at hl 1 rfl) ?_
        refine lv_imul hx hb dX2_becomeSquareOf_75 ?_
        refine dm_ti (y := nI (2 * i)) (pk_mul 2 i) ?_
        refine va_put (D := D) (ci := 2) (v := .int (nI (2 * i))) (ty := .int) (C := RX2) (T := TX2) (N := 2) hx hb hts kin_X2_w tyX2 tyX2_ok nmX2 hown hK hP hD hS 1 rfl rfl 1 (by decide) (hts _ kfl_X2_21) (fun _ h9 => h9) rfl (by decide +kernel) rfl rfl (Nat.le_of_ble_eq_true rfl) dX2_becomeSquareOf_76 (fun H locs hP hD hS => ?_)
        have hP : va_P D vwCl [(h2, .inr (2, [.ref a2, .int (nI i)])), (h, .inr (2, [.ref a, .int (nI (2 * i))])), (a, .inl (cI, N, .inl F2)), (a2, .inl (cI, N, .inl g))] H := hP
        have hD : va_D A [(h2, .inr (2, [.ref a2, .int (nI i)])), (h, .inr (2, [.ref a, .int (nI (2 * i))])), (a, .inl (cI, N, .inl F2)), (a2, .inl (cI, N, .inl g))] := hD
        refine lv_aload_n hx hb dX2_becomeSquareOf_79 rfl (lv_at hl 2 rfl) ?_
        refine dm_gov (wr := [(h2, .inr (2, [.ref a2, .int (nI i)])), (a2, .inl (cI, N, .inl g))]) (dm_rV (n := 0) (As := []) (rest := []) hC hl (c_X2_dropZeros l D cB cI cC 4294967296 h a N (2 * i) F2 h2v hNb H.size) kco_X2_dropZeros ki_X2 kim_X2_dropZeros kse_X2_dropZeros kml_X2_68 (by decide +kernel) ⟨Nat.le_of_ble_eq_true rfl, Nat.le_of_ble_eq_true rfl⟩ rfl rfl ⟨dm_blind, va_recv hK hP (ci := 2) (q0 := 1) rfl rfl, dm_preU hK hP hD hC.2.2.2.2.2.2.2 [1, 2] (by decide) rfl⟩ rfl rfl (Nat.le_of_ble_eq_true rfl) dX2_becomeSquareOf_80 ⟨Nat.le_of_ble_eq_true rfl, Nat.le_of_ble_eq_true rfl⟩) hP hD hS hA [1, 2] [0, 3] rfl rfl (by decide) (by decide) (fun u2 H locs hw2 hP hD hS => ?_)
        have hP : va_P D vwCl [(h2, .inr (2, [.ref a2, .int (nI i)])), (a2, .inl (cI, N, .inl g)), (h, .inr (2, [.ref a, .int (nI u2)])), (a, .inl (cI, N, .inl F2))] H := hP
        have hD : va_D A [(h2, .inr (2, [.ref a2, .int (nI i)])), (a2, .inl (cI, N, .inl g)), (h, .inr (2, [.ref a, .int (nI u2)])), (a, .inl (cI, N, .inl F2))] := hD
        have hP := hP.sub (ws' := [(h, .inr (2, [.ref a, .int (nI u2)])), (a, .inl (cI, N, .inl F2)), (h2, .inr (2, [.ref a2, .int (nI i)])), (a2, .inl (cI, N, .inl g))]) [2, 3, 0, 1] rfl
        have hD := hD.sub (ws' := [(h, .inr (2, [.ref a, .int (nI u2)])), (a, .inl (cI, N, .inl F2)), (h2, .inr (2, [.ref a2, .int (nI i)])), (a2, .inl (cI, N, .inl g))]) [2, 3, 0, 1] (by decide) rfl
        refine lv_iconst (v := nI 1) hx hb dX2_becomeSquareOf_83 (by decide) ?_
        exact dm_zret (v := nI 1) hC (Or.inr rfl) hK (F2, u2) ⟨fun _ => ⟨rfl, by show u2 ≤ N; omega, by show dvb _ F2 u2 = _; rw [hw2.2.1, hw, ← ht2]; omega, hw2.2.2⟩, fun h9 => absurd h9 (by omega)⟩ hP hD hS dX2_becomeSquareOf_84
      · refine lv_aload_n hx hb dX2_becomeSquareOf_47 rfl (lv_at hl 2 rfl) ?_
        refine lv_iload_n hx hb dX2_becomeSquareOf_48 rfl (lv_at hl 0 rfl) ?_
        refine lv_aload_n hx hb dX2_becomeSquareOf_49 rfl (lv_at hl 3 rfl) ?_
        refine va_get (D := D) (ci := 2) (C := RX2) (T := TX2) (N := 2) (v := .ref a2) hx hb hts kin_X2_w hown hK hP 2 rfl rfl 0 (by decide) (hts _ kfl_X2_15) (fun _ h9 => h9) rfl dX2_becomeSquareOf_50 ?_
        refine lv_iload_n hx hb dX2_becomeSquareOf_53 rfl (lv_at hl 1 rfl) ?_
        refine dm_gov (wr := [(h2, .inr (2, [.ref a2, .int (nI v)]))]) (dm_rV (n := 3) (As := [.int (nI i), .ref a2, .int (nI v)]) (rest := []) hC hl (c_X2_addProductsAbove l D cB cI cC h a a2 N u i v F g he h2v hNb (hz (i + v) (Nat.le_refl _) (by omega)) H.size) kco_X2_addProductsAbove ki_X2 kim_X2_addProductsAbove kse_X2_addProductsAbove kml_X2_74 (by decide +kernel) ⟨Nat.le_of_ble_eq_true rfl, Nat.le_of_ble_eq_true rfl⟩ rfl rfl ⟨dm_blind, va_recv hK hP (ci := 2) (q0 := 0) rfl rfl, dm_preU hK hP hD hC.2.2.2.2.2.2.2 [0, 1, 3] (by decide) rfl⟩ rfl rfl (Nat.le_of_ble_eq_true rfl) dX2_becomeSquareOf_54 ⟨Nat.le_of_ble_eq_true rfl, Nat.le_of_ble_eq_true rfl⟩) hP hD hS hA [0, 1, 3] [2] rfl rfl (by decide) (by decide) (fun F2 H locs hw hP hD hS => ?_)
        have hP : va_P D vwCl [(h2, .inr (2, [.ref a2, .int (nI v)])), (h, .inr (2, [.ref a, .int (nI u)])), (a, .inl (cI, N, .inl F2)), (a2, .inl (cI, N, .inl g))] H := hP
        have hD : va_D A [(h2, .inr (2, [.ref a2, .int (nI v)])), (h, .inr (2, [.ref a, .int (nI u)])), (a, .inl (cI, N, .inl F2)), (a2, .inl (cI, N, .inl g))] := hD
        have hP := hP.sub (ws' := [(h, .inr (2, [.ref a, .int (nI u)])), (a, .inl (cI, N, .inl F2)), (h2, .inr (2, [.ref a2, .int (nI v)])), (a2, .inl (cI, N, .inl g))]) [1, 2, 0, 3] rfl
        have hD := hD.sub (ws' := [(h, .inr (2, [.ref a, .int (nI u)])), (a, .inl (cI, N, .inl F2)), (h2, .inr (2, [.ref a2, .int (nI v)])), (a2, .inl (cI, N, .inl g))]) [1, 2, 0, 3] (by decide) rfl
        refine lv_iinc (v := nI (i + 1)) (lv' := [(3, .int (nI (i + 1))), (2, .int (nI v)), (0, .ref h), (1, .ref h2)]) hx hb dX2_becomeSquareOf_57 hl (k := 0) rfl ((nI_succ i).symm) (by decide) rfl (fun ls hl => ?_)
        refine lv_goto (tgt := 42) hx hb dX2_becomeSquareOf_60 (by decide) ?_
        obtain ⟨t2, ht3⟩ := dvb_mono (f := g) (show i + 1 ≤ v by omega)
        have e1 : dvb 4294967296 g (i + 1) = dvb 4294967296 g i + un (g i) * 4294967296 ^ i := rfl
        refine ih (i + 1, F2) H locs ls (by show v - (i + 1) < v - i; omega) ⟨by show i + 1 ≤ v; omega, fun k hk1 hk2 => ?_, t2, ht3, ?_⟩ hP hD hS (lv_sub hl [0, 1, 2, 3] rfl)
        · show F2 k = 0
          have hk1 : i + 1 + v ≤ k := hk1
          rw [hw.1 k (by omega)]
          exact hz k (by omega) hk2
        · show 2 * dvb 4294967296 F2 (2 * v) + (sqs g i + un (g i) * un (g i) * 4294967296 ^ (2 * i)) + t2 * t2 = _
          rw [show 2 * i = i + i by omega, Nat.pow_add]
          have h3 := hw.2
          rw [e1] at h3 ht3
          refine sq_step h3 ht3 ?_
          rw [← ht2, show tt = un (g i) * 4294967296 ^ i + t2 by omega]
    · refine lv_aload_n hx hb dX2_becomeSquareOf_27 rfl (lv_at hl 2 rfl) ?_
      refine va_get (D := D) (ci := 2) (C := RX2) (T := TX2) (N := 2) (v := .ref a) hx hb hts kin_X2_w hown hK hP 0 rfl rfl 0 (by decide) (hts _ kfl_X2_15) (fun _ h9 => h9) rfl dX2_becomeSquareOf_28 ?_
      refine lv_iload_n hx hb dX2_becomeSquareOf_31 rfl (lv_at hl 0 rfl) ?_
      refine lv_iconst (v := nI 0) hx hb dX2_becomeSquareOf_32 (by decide) ?_
      refine dm_iast (j := i) (f' := upd F i (nI 0)) hx hb hK hP hD hS 1 1 rfl rfl (by omega) hNb (rfl) dX2_becomeSquareOf_33 (fun H locs hP hD hS => ?_)
      have hP : va_P D vwCl [(h, .inr (2, [.ref a, .int (nI u)])), (a, .inl (cI, N, .inl (upd F i (nI 0)))), (h2, .inr (2, [.ref a2, .int (nI v)])), (a2, .inl (cI, N, .inl g))] H := hP
      have hD : va_D A [(h, .inr (2, [.ref a, .int (nI u)])), (a, .inl (cI, N, .inl (upd F i (nI 0)))), (h2, .inr (2, [.ref a2, .int (nI v)])), (a2, .inl (cI, N, .inl g))] := hD
      refine lv_iinc (v := nI (i + 1)) (lv' := [(3, .int (nI (i + 1))), (2, .int (nI v)), (0, .ref h), (1, .ref h2)]) hx hb dX2_becomeSquareOf_34 hl (k := 0) rfl ((nI_succ i).symm) (by decide) rfl (fun ls hl => ?_)
      refine lv_goto (tgt := 20) hx hb dX2_becomeSquareOf_37 (by decide) ?_
      exact ih (i + 1, upd F i (nI 0)) H locs ls (by show 2 * v - (i + 1) < 2 * v - i; omega) ⟨by show i + 1 ≤ 2 * v; omega, fun j hj => (Nat.lt_or_eq_of_le (Nat.le_of_lt_succ hj)).elim (fun h3 => by show upd F i (nI 0) j = 0; rw [pk_un (by omega)]; exact hz j h3) (fun h3 => by show upd F i (nI 0) j = 0; rw [h3, pk_us]; rfl)⟩ hP hD hS (lv_sub hl [0, 1, 2, 3] rfl)
  · refine lv_iconst (v := nI 0) hx hb dX2_becomeSquareOf_16 (by decide) ?_
    exact dm_zret (v := nI 0) hC (Or.inl rfl) hK (f, u) ⟨fun h9 => absurd h9 (by omega), fun _ => ⟨rfl, rfl⟩⟩ hP hD hS dX2_becomeSquareOf_17
