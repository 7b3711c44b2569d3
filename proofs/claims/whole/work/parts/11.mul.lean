theorem nrm_of_ge {f : Nat → Int32} {k : Nat} (h : 4294967296 ^ k ≤ dvb 4294967296 f (k + 1)) : nrm f (k + 1) := by
  intro j hj e0
  have hjk : j = k := by omega
  subst hjk
  have h1 : dvb 4294967296 f (j + 1) = dvb 4294967296 f j + un (f j) * 4294967296 ^ j := rfl
  rw [e0, un_0] at h1
  have h2 := dv32_lt f j
  omega
theorem nrm_ge {f : Nat → Int32} {k : Nat} (h : nrm f (k + 1)) : 4294967296 ^ k ≤ dvb 4294967296 f (k + 1) := dvb_ge (h k rfl)
theorem nI_ne0' {n : Nat} (h0 : 0 < n) (h : n < 4294967296) : nI n ≠ 0 := fun e0 => by
  have := congrArg un e0
  rw [un_nI h, un_0] at this
  omega

set_option maxRecDepth 100000 in
set_option maxHeartbeats 4000000 in
theorem c_X2_appendCarry (l : Launch) (D : va_G) (cB cI cC : ClassId) (h a N u cv : Nat) (f : Nat → Int32) (hu : u ≤ N) (hNb : N < 2 ^ 31) (hcv : cv < 4294967296) : MI l yX2_appendCarry (Cond.code yX2_appendCarry cX2_appendCarry 3 (some .boolean)) 0 D (TY cB cI cC) [.ref h, .long (lN cv)] [(h, .inr (2, [.ref a, .int (nI u)])), (a, .inl (cI, N, .inl f))] (S := (Nat → Int32) × Nat) (fun r q => (r = 1 ∧ q.2 ≤ N ∧ dvb 4294967296 q.1 q.2 = dvb 4294967296 f u + cv * 4294967296 ^ u ∧ ((cv ≠ 0 ∨ nrm f u) → nrm q.1 q.2)) ∨ (r = 0 ∧ q.2 ≤ N ∧ 4294967296 ^ N ≤ dvb 4294967296 f u + cv * 4294967296 ^ u)) (fun q => [(h, .inr (2, [.ref a, .int (nI q.2)])), (a, .inl (cI, N, .inl q.1))]) := by
  refine MI.of (by decide) (Nat.le_of_ble_eq_true rfl) ?_
  intro p e s m below meth c ls A hC hA hP hK hD hS hl
  obtain ⟨hx, hb, hr, hml, hown, hts, hlocks, hN⟩ := id hC
  have hown : s.vm.findClass RX2 = some m.cls := hown
  have hl : lv_has ls 3 [(0, .ref h), (1, .long (lN cv))] := hl
  refine lv_lload_n hx hb dX2_appendCarry_0 rfl (lv_at hl 1 rfl) ?_
  refine lv_lconst (v := lN 0) hx hb dX2_appendCarry_1 (by decide) ?_
  refine dm_lc_ne (tgt := 8) hx hb (by omega) (by omega) dX2_appendCarry_2 dX2_appendCarry_3 (by decide) (fun hc => ?_) (fun hc => ?_)
  · refine lv_aload_n hx hb dX2_appendCarry_8 rfl (lv_at hl 0 rfl) ?_
    refine va_get (D := D) (ci := 2) (C := RX2) (T := TX2) (N := 2) (v := .int (nI u)) hx hb hts kin_X2_w hown hK hP 0 rfl rfl 1 (by decide) (hts _ kfl_X2_21) (fun _ h9 => h9) rfl dX2_appendCarry_9 ?_
    refine lv_aload_n hx hb dX2_appendCarry_12 rfl (lv_at hl 0 rfl) ?_
    refine va_get (D := D) (ci := 2) (C := RX2) (T := TX2) (N := 2) (v := .ref a) hx hb hts kin_X2_w hown hK hP 0 rfl rfl 0 (by decide) (hts _ kfl_X2_15) (fun _ h9 => h9) rfl dX2_appendCarry_13 ?_
    refine va_alen (v := nI N) hx hb hK hP 1 1 rfl rfl rfl dX2_appendCarry_16 ?_
    refine dm_icmp_lt (tgt := 22) hx hb (by omega) (by omega) dX2_appendCarry_17 (by decide) (fun hd => ?_) (fun hd => ?_)
    · refine lv_aload_n hx hb dX2_appendCarry_22 rfl (lv_at hl 0 rfl) ?_
      refine va_get (D := D) (ci := 2) (C := RX2) (T := TX2) (N := 2) (v := .ref a) hx hb hts kin_X2_w hown hK hP 0 rfl rfl 0 (by decide) (hts _ kfl_X2_15) (fun _ h9 => h9) rfl dX2_appendCarry_23 ?_
      refine lv_aload_n hx hb dX2_appendCarry_26 rfl (lv_at hl 0 rfl) ?_
      refine va_get (D := D) (ci := 2) (C := RX2) (T := TX2) (N := 2) (v := .int (nI u)) hx hb hts kin_X2_w hown hK hP 0 rfl rfl 1 (by decide) (hts _ kfl_X2_21) (fun _ h9 => h9) rfl dX2_appendCarry_27 ?_
      refine lv_lload_n hx hb dX2_appendCarry_30 rfl (lv_at hl 1 rfl) ?_
      refine lv_l2i (v := nI cv) hx hb dX2_appendCarry_31 (lN_low) ?_
      refine dm_iast (j := u) (f' := upd f u (nI cv)) hx hb hK hP hD hS 1 1 rfl rfl (by omega) hNb (rfl) dX2_appendCarry_32 (fun H locs hP hD hS => ?_)
      have hP : va_P D vwCl [(h, .inr (2, [.ref a, .int (nI u)])), (a, .inl (cI, N, .inl (upd f u (nI cv))))] H := hP
      have hD : va_D A [(h, .inr (2, [.ref a, .int (nI u)])), (a, .inl (cI, N, .inl (upd f u (nI cv))))] := hD
      refine lv_aload_n hx hb dX2_appendCarry_33 rfl (lv_at hl 0 rfl) ?_
      refine lv_dup hx hb dX2_appendCarry_34 rfl ?_
      refine va_get (D := D) (ci := 2) (C := RX2) (T := TX2) (N := 2) (v := .int (nI u)) hx hb hts kin_X2_w hown hK hP 0 rfl rfl 1 (by decide) (hts _ kfl_X2_21) (fun _ h9 => h9) rfl dX2_appendCarry_35 ?_
      refine lv_iconst (v := 1) hx hb dX2_appendCarry_38 (by decide) ?_
      refine lv_iadd hx hb dX2_appendCarry_39 ?_
      refine dm_ti (y := nI (u + 1)) (nI_1 u) ?_
      refine va_put (D := D) (ci := 2) (v := .int (nI (u + 1))) (ty := .int) (C := RX2) (T := TX2) (N := 2) hx hb hts kin_X2_w tyX2 tyX2_ok nmX2 hown hK hP hD hS 0 rfl rfl 1 (by decide) (hts _ kfl_X2_21) (fun _ h9 => h9) rfl (by decide +kernel) rfl rfl (Nat.le_of_ble_eq_true rfl) dX2_appendCarry_40 (fun H locs hP hD hS => ?_)
      have hP : va_P D vwCl [(h, .inr (2, [.ref a, .int (nI (u + 1))])), (a, .inl (cI, N, .inl (upd f u (nI cv))))] H := hP
      have hD : va_D A [(h, .inr (2, [.ref a, .int (nI (u + 1))])), (a, .inl (cI, N, .inl (upd f u (nI cv))))] := hD
      refine lv_iconst (v := 1) hx hb dX2_appendCarry_43 (by decide) ?_
      refine dm_zret (v := 1) hC (Or.inr rfl) hK (upd f u (nI cv), u + 1) (Or.inl ⟨rfl, by show u + 1 ≤ N; omega, ?_, ?_⟩) hP hD hS dX2_appendCarry_44
      · show dvb 4294967296 (upd f u (nI cv)) u + un (upd f u (nI cv) u) * 4294967296 ^ u = _
        rw [dvb_upd (Nat.le_refl u), pk_us, un_nI hcv]
      · intro _ k hk
        have hk : u + 1 = k + 1 := hk
        show upd f u (nI cv) k ≠ 0
        rw [show k = u by omega, pk_us]
        exact nI_ne0' (by omega) hcv
    · refine lv_iconst (v := 0) hx hb dX2_appendCarry_20 (by decide) ?_
      refine dm_zret (v := 0) hC (Or.inl rfl) hK (f, u) (Or.inr ⟨rfl, hu, ?_⟩) hP hD hS dX2_appendCarry_21
      rw [show u = N by omega]
      have h1 : 1 * 4294967296 ^ N ≤ cv * 4294967296 ^ N := Nat.mul_le_mul_right _ (by omega)
      omega
  · refine lv_iconst (v := 1) hx hb dX2_appendCarry_6 (by decide) ?_
    exact dm_zret (v := 1) hC (Or.inr rfl) hK (f, u) (Or.inl ⟨rfl, hu, by show dvb 4294967296 f u = _; rw [hc]; omega, fun h9 => h9.resolve_left (fun q => q hc)⟩) hP hD hS dX2_appendCarry_7

set_option maxRecDepth 100000 in
set_option maxHeartbeats 4000000 in
/-- times the factor, and more -/
theorem c_X2_multiplyAndAdd (l : Launch) (D : va_G) (cB cI cC : ClassId) (h a N u fac mo : Nat) (f : Nat → Int32) (hu : u ≤ N) (hNb : N < 2 ^ 31) (hf1 : 0 < fac) (hfac : fac < 4294967296) (hmo : mo < 4294967296) (hn : nrm f u) : MI l yX2_multiplyAndAdd (Cond.code yX2_multiplyAndAdd cX2_multiplyAndAdd 10 (some .boolean)) 1 D (TY cB cI cC) [.ref h, .long (lN fac), .long (lN mo)] [(h, .inr (2, [.ref a, .int (nI u)])), (a, .inl (cI, N, .inl f))] (S := (Nat → Int32) × Nat) (fun r q => (r = 1 ∧ q.2 ≤ N ∧ dvb 4294967296 q.1 q.2 = dvb 4294967296 f u * fac + mo ∧ nrm q.1 q.2) ∨ (r = 0 ∧ q.2 ≤ N ∧ 4294967296 ^ N ≤ dvb 4294967296 f u * fac + mo)) (fun q => [(h, .inr (2, [.ref a, .int (nI q.2)])), (a, .inl (cI, N, .inl q.1))]) := by
  refine MI.of (by decide) (Nat.le_of_ble_eq_true rfl) ?_
  intro p e s m below meth c ls A hC hA hP hK hD hS hl
  obtain ⟨hx, hb, hr, hml, hown, hts, hlocks, hN⟩ := id hC
  have hown : s.vm.findClass RX2 = some m.cls := hown
  have hl : lv_has ls 10 [(0, .ref h), (1, .long (lN fac)), (3, .long (lN mo))] := hl
  refine lv_lload_n hx hb dX2_multiplyAndAdd_0 rfl (lv_at hl 2 rfl) ?_
  refine lv_lstore (lv' := [(5, .long (lN mo)), (0, .ref h), (1, .long (lN fac)), (3, .long (lN mo))]) hx hb dX2_multiplyAndAdd_1 hl (by decide) rfl (fun ls hl => ?_)
  refine lv_iconst (v := 0) hx hb dX2_multiplyAndAdd_3 (by decide) ?_
  refine dm_ti (y := nI 0) (nI_0.symm) ?_
  refine lv_istore (lv' := [(7, .int (nI 0)), (5, .long (lN mo)), (0, .ref h), (1, .long (lN fac)), (3, .long (lN mo))]) hx hb dX2_multiplyAndAdd_4 hl (by decide) rfl (fun ls hl => ?_)
  refine dm_loop (nL := 10) (head := 6) (P := fun (x : Nat × Nat × (Nat → Int32)) => x.1 ≤ u ∧ x.2.1 < 4294967296 ∧ dvb 4294967296 x.2.2 x.1 + x.2.1 * 4294967296 ^ x.1 = dvb 4294967296 f x.1 * fac + mo ∧ ∀ j, x.1 ≤ j → x.2.2 j = f j) (w := fun x => [(h, .inr (2, [.ref a, .int (nI u)])), (a, .inl (cI, N, .inl x.2.2))]) (lv := fun x => [(7, .int (nI x.1)), (5, .long (lN x.2.1)), (0, .ref h), (1, .long (lN fac)), (3, .long (lN mo))]) (μ := fun x => u - x.1) ?_ (0, mo, f) ⟨Nat.zero_le _, hmo, by simp [dvb], fun _ _ => rfl⟩ hP hD hS hl
  rintro ⟨i, car, g⟩ H locs ls ⟨hi, hcar, hinv, hge⟩ hP hD hS hl ih
  have hi : i ≤ u := hi
  have hcar : car < 4294967296 := hcar
  have hinv : dvb 4294967296 g i + car * 4294967296 ^ i = dvb 4294967296 f i * fac + mo := hinv
  have hge : ∀ j, i ≤ j → g j = f j := hge
  have hP : va_P D vwCl [(h, .inr (2, [.ref a, .int (nI u)])), (a, .inl (cI, N, .inl g))] H := hP
  have hl : lv_has ls 10 [(7, .int (nI i)), (5, .long (lN car)), (0, .ref h), (1, .long (lN fac)), (3, .long (lN mo))] := hl
  refine lv_iload hx hb dX2_multiplyAndAdd_6 (lv_at hl 0 rfl) ?_
  refine lv_aload_n hx hb dX2_multiplyAndAdd_8 rfl (lv_at hl 2 rfl) ?_
  refine va_get (D := D) (ci := 2) (C := RX2) (T := TX2) (N := 2) (v := .int (nI u)) hx hb hts kin_X2_w hown hK hP 0 rfl rfl 1 (by decide) (hts _ kfl_X2_21) (fun _ h9 => h9) rfl dX2_multiplyAndAdd_9 ?_
  refine dm_icmp_ge (tgt := 57) hx hb (by omega) (by omega) dX2_multiplyAndAdd_12 (by decide) (fun hc => ?_) (fun hc => ?_)
  · have hiu : i = u := by omega
    subst hiu
    refine lv_aload_n hx hb dX2_multiplyAndAdd_57 rfl (lv_at hl 2 rfl) ?_
    refine lv_lload hx hb dX2_multiplyAndAdd_58 (lv_at hl 1 rfl) ?_
    refine dm_goi (wr := []) (dm_rV (n := 1) (As := [.long (lN car)]) (rest := []) hC hl (c_X2_appendCarry l D cB cI cC h a N i car g hu hNb hcar H.size) kco_X2_appendCarry ki_X2 kim_X2_appendCarry kse_X2_appendCarry kml_X2_65 (by decide +kernel) ⟨Nat.le_of_ble_eq_true rfl, Nat.le_of_ble_eq_true rfl⟩ rfl rfl ⟨dm_blind, va_recv hK hP (ci := 2) (q0 := 0) rfl rfl, dm_preU hK hP hD hC.2.2.2.2.2.2.2 [0, 1] (by decide) rfl⟩ rfl rfl (Nat.le_of_ble_eq_true rfl) dX2_multiplyAndAdd_60 ⟨Nat.le_of_ble_eq_true rfl, Nat.le_of_ble_eq_true rfl⟩) hP hD hS hA [0, 1] [] rfl rfl (by decide) (by decide) (fun r q H locs hw hP hD hS => ?_)
    obtain ⟨g2, u2⟩ := q
    have hP : va_P D vwCl [(h, .inr (2, [.ref a, .int (nI u2)])), (a, .inl (cI, N, .inl g2))] H := hP
    have hD : va_D A [(h, .inr (2, [.ref a, .int (nI u2)])), (a, .inl (cI, N, .inl g2))] := hD
    refine dm_zret hC (hw.elim (fun h9 => Or.inr h9.1) (fun h9 => Or.inl h9.1)) hK (g2, u2) ?_ hP hD hS dX2_multiplyAndAdd_63
    rw [hinv] at hw
    rcases hw with ⟨h1, h2, h3, h4⟩ | ⟨h1, h2, h3⟩
    · refine Or.inl ⟨h1, h2, h3, ?_⟩
      by_cases hz : car = 0
      · refine h4 (Or.inr ?_)
        cases i with
        | zero => exact nrm_0 g
        | succ k =>
          refine nrm_of_ge ?_
          have h5 := nrm_ge hn
          rw [hz] at hinv
          have h6 : dvb 4294967296 f (k + 1) * 1 ≤ dvb 4294967296 f (k + 1) * fac := Nat.mul_le_mul_left _ hf1
          omega
      · exact h4 (Or.inl hz)
    · exact Or.inr ⟨h1, h2, h3⟩
  · refine lv_aload_n hx hb dX2_multiplyAndAdd_15 rfl (lv_at hl 2 rfl) ?_
    refine va_get (D := D) (ci := 2) (C := RX2) (T := TX2) (N := 2) (v := .ref a) hx hb hts kin_X2_w hown hK hP 0 rfl rfl 0 (by decide) (hts _ kfl_X2_15) (fun _ h9 => h9) rfl dX2_multiplyAndAdd_16 ?_
    refine lv_iload hx hb dX2_multiplyAndAdd_19 (lv_at hl 0 rfl) ?_
    refine dm_iald (j := i) hx hb hK hP 1 1 rfl rfl (by omega) hNb dX2_multiplyAndAdd_21 ?_
    refine dm_ti (y := f i) (hge i (Nat.le_refl i)) ?_
    refine lv_i2l (v := (f i : Int32).toInt64) hx hb dX2_multiplyAndAdd_22 (rfl) ?_
    refine lv_ldc2 (v := 4294967295) hx hb hown (hts _ kct_X2_34) dX2_multiplyAndAdd_23 ?_
    refine lv_land hx hb dX2_multiplyAndAdd_26 ?_
    refine dm_tl (y := lN (un (f i))) (wl_un (f i)) ?_
    refine lv_lload_n hx hb dX2_multiplyAndAdd_27 rfl (lv_at hl 3 rfl) ?_
    refine lv_lmul hx hb dX2_multiplyAndAdd_28 ?_
    refine dm_tl (y := lN (un (f i) * fac)) (lN_mul _ _) ?_
    refine lv_lload hx hb dX2_multiplyAndAdd_29 (lv_at hl 1 rfl) ?_
    refine lv_ladd hx hb dX2_multiplyAndAdd_31 ?_
    refine dm_tl (y := lN (un (f i) * fac + car)) (lN_add _ _) ?_
    have hb1 : un (f i) * fac + car < 18446744073709551616 := by
      have h1 : un (f i) * fac ≤ 4294967295 * 4294967295 := Nat.mul_le_mul (by have := un_lt (f i); omega) (by omega)
      omega
    refine lv_lstore (lv' := [(8, .long (lN (un (f i) * fac + car))), (7, .int (nI i)), (5, .long (lN car)), (0, .ref h), (1, .long (lN fac)), (3, .long (lN mo))]) hx hb dX2_multiplyAndAdd_32 hl (by decide) rfl (fun ls hl => ?_)
    refine lv_aload_n hx hb dX2_multiplyAndAdd_34 rfl (lv_at hl 3 rfl) ?_
    refine va_get (D := D) (ci := 2) (C := RX2) (T := TX2) (N := 2) (v := .ref a) hx hb hts kin_X2_w hown hK hP 0 rfl rfl 0 (by decide) (hts _ kfl_X2_15) (fun _ h9 => h9) rfl dX2_multiplyAndAdd_35 ?_
    refine lv_iload hx hb dX2_multiplyAndAdd_38 (lv_at hl 1 rfl) ?_
    refine lv_lload hx hb dX2_multiplyAndAdd_40 (lv_at hl 0 rfl) ?_
    refine lv_l2i (v := nI (un (f i) * fac + car)) hx hb dX2_multiplyAndAdd_42 (lN_low) ?_
    refine dm_iast (j := i) (f' := upd g i (nI (un (f i) * fac + car))) hx hb hK hP hD hS 1 1 rfl rfl (by omega) hNb (rfl) dX2_multiplyAndAdd_43 (fun H locs hP hD hS => ?_)
    have hP : va_P D vwCl [(h, .inr (2, [.ref a, .int (nI u)])), (a, .inl (cI, N, .inl (upd g i (nI (un (f i) * fac + car)))))] H := hP
    have hD : va_D A [(h, .inr (2, [.ref a, .int (nI u)])), (a, .inl (cI, N, .inl (upd g i (nI (un (f i) * fac + car)))))] := hD
    refine lv_lload hx hb dX2_multiplyAndAdd_44 (lv_at hl 0 rfl) ?_
    refine lv_bipush (v := 32) hx hb dX2_multiplyAndAdd_46 (by decide) ?_
    refine lv_lushr (v := lN ((un (f i) * fac + car) / 4294967296)) hx hb dX2_multiplyAndAdd_48 (wl_hi hb1) ?_
    refine lv_lstore (lv' := [(5, .long (lN ((un (f i) * fac + car) / 4294967296))), (8, .long (lN (un (f i) * fac + car))), (7, .int (nI i)), (0, .ref h), (1, .long (lN fac)), (3, .long (lN mo))]) hx hb dX2_multiplyAndAdd_49 hl (by decide) rfl (fun ls hl => ?_)
    refine lv_iinc (v := nI (i + 1)) (lv' := [(7, .int (nI (i + 1))), (5, .long (lN ((un (f i) * fac + car) / 4294967296))), (8, .long (lN (un (f i) * fac + car))), (0, .ref h), (1, .long (lN fac)), (3, .long (lN mo))]) hx hb dX2_multiplyAndAdd_51 hl (k := 2) rfl ((nI_succ i).symm) (by decide) rfl (fun ls hl => ?_)
    refine lv_goto (tgt := 6) hx hb dX2_multiplyAndAdd_54 (by decide) ?_
    refine ih (i + 1, (un (f i) * fac + car) / 4294967296, upd g i (nI (un (f i) * fac + car))) H locs ls (by show u - (i + 1) < u - i; omega) ⟨by show i + 1 ≤ u; omega, by show _ / _ < _; omega, ?_, fun j hj => ?_⟩ hP hD hS (lv_sub hl [0, 1, 3, 4, 5] rfl)
    · show dvb 4294967296 (upd g i _) i + un (upd g i _ i) * 4294967296 ^ i + _ * 4294967296 ^ (i + 1) = _
      rw [dvb_upd (Nat.le_refl i), pk_us, un_mod]
      exact dvb_mul_step (by decide) hinv
    · show upd g i _ j = f j
      rw [pk_un (by have : i + 1 ≤ j := hj; omega)]
      exact hge j (by have : i + 1 ≤ j := hj; omega)
