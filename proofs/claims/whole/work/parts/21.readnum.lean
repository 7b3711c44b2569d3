set_option maxRecDepth 100000 in
set_option maxHeartbeats 4000000 in
theorem c_X2_becomeDigitsOf (l : Launch) (D : va_G) (cB cI cC : ClassId) (h a ht at_ N u n i0 r : Nat) (T : Nat → Nat) (f tf : Nat → Int32) (hNb : N < 2 ^ 31) (hn6 : n ≤ 65536) (hi0 : i0 ≤ n) (hr2 : 2 ≤ r) (hr : r ≤ 36) (htx : txt n T tf) (hall : ∀ j, i0 ≤ j → j < n → dgv (T j) < r) : MI l yX2_becomeDigitsOf (Cond.code yX2_becomeDigitsOf cX2_becomeDigitsOf 11 (some .boolean)) 2 D (TY cB cI cC) [.ref h, .ref ht, .int (nI i0), .int (nI r)] [(h, .inr (2, [.ref a, .int (nI u)])), (a, .inl (cI, N, .inl f)), (ht, .inr (0, [.ref at_, .int (nI n)])), (at_, .inl (cB, 65536, .inl tf))] (S := (Nat → Int32) × Nat) (fun b q => (b = 1 ∧ q.2 ≤ N ∧ dvb 4294967296 q.1 q.2 = hn r T i0 (n - i0) ∧ nrm q.1 q.2) ∨ (b = 0 ∧ q.2 ≤ N ∧ 4294967296 ^ N ≤ hn r T i0 (n - i0))) (fun q => [(h, .inr (2, [.ref a, .int (nI q.2)])), (a, .inl (cI, N, .inl q.1)), (ht, .inr (0, [.ref at_, .int (nI n)])), (at_, .inl (cB, 65536, .inl tf))]) := by
  refine MI.of (by decide) (Nat.le_of_ble_eq_true rfl) ?_
  intro p e s m below meth c ls A hC hA hP hK hD hS hl
  obtain ⟨hx, hb, hr, hml, hown, hts, hlocks, hN⟩ := id hC
  have hown : s.vm.findClass RX2 = some m.cls := hown
  have hl : lv_has ls 11 [(0, .ref h), (1, .ref ht), (2, .int (nI i0)), (3, .int (nI r))] := hl
  refine lv_aload_n hx hb dX2_becomeDigitsOf_0 rfl (lv_at hl 0 rfl) ?_
  refine lv_iconst (v := nI 0) hx hb dX2_becomeDigitsOf_1 (by decide) ?_
  refine va_put (D := D) (ci := 2) (v := .int (nI 0)) (ty := .int) (C := RX2) (T := TX2) (N := 2) hx hb hts kin_X2_w tyX2 tyX2_ok nmX2 hown hK hP hD hS 0 rfl rfl 1 (by decide) (hts _ kfl_X2_21) (fun _ h9 => h9) rfl (by decide +kernel) rfl rfl (Nat.le_of_ble_eq_true rfl) dX2_becomeDigitsOf_2 (fun H locs hP hD hS => ?_)
  have hP : va_P D vwCl [(h, .inr (2, [.ref a, .int (nI 0)])), (a, .inl (cI, N, .inl f)), (ht, .inr (0, [.ref at_, .int (nI n)])), (at_, .inl (cB, 65536, .inl tf))] H := hP
  have hD : va_D A [(h, .inr (2, [.ref a, .int (nI 0)])), (a, .inl (cI, N, .inl f)), (ht, .inr (0, [.ref at_, .int (nI n)])), (at_, .inl (cB, 65536, .inl tf))] := hD
  refine lv_ldc2 (v := 4294967295) hx hb hown (hts _ kct_X2_34) dX2_becomeDigitsOf_5 ?_
  refine dm_tl (y := lN 4294967295) (rfl) ?_
  refine lv_iload_n hx hb dX2_becomeDigitsOf_8 rfl (lv_at hl 3 rfl) ?_
  refine lv_i2l (v := lN r) hx hb dX2_becomeDigitsOf_9 (nI_l (by omega)) ?_
  obtain ⟨mo, hmo⟩ : ∃ z, z = 4294967295 / r := ⟨_, rfl⟩
  have hmo1 : 1 ≤ mo := by rw [hmo]; exact (Nat.le_div_iff_mul_le (by omega)).mpr (by omega)
  have hmor : ∀ z, z ≤ mo → z * r ≤ 4294967295 := fun z hz => (Nat.le_div_iff_mul_le (by omega)).mp (by rw [← hmo]; exact hz)
  have hmob : mo ≤ 4294967295 := by rw [hmo]; exact Nat.div_le_self _ _
  refine lv_ldiv hx hb dX2_becomeDigitsOf_10 (fun e0 => by have := (pk_lEQ (b := 0) (by omega) (by decide)).mp e0; omega) ?_
  refine dm_tl (y := lN mo) (by rw [hmo]; exact pk_lDiv (by decide) (by omega) (by omega)) ?_
  refine lv_lstore (lv' := [(4, .long (lN mo)), (0, .ref h), (1, .ref ht), (2, .int (nI i0)), (3, .int (nI r))]) hx hb dX2_becomeDigitsOf_11 hl (by decide) rfl (fun ls hl => ?_)
  refine lv_lconst (v := lN 1) hx hb dX2_becomeDigitsOf_13 (by decide) ?_
  refine lv_lstore (lv' := [(6, .long (lN 1)), (4, .long (lN mo)), (0, .ref h), (1, .ref ht), (2, .int (nI i0)), (3, .int (nI r))]) hx hb dX2_becomeDigitsOf_14 hl (by decide) rfl (fun ls hl => ?_)
  refine lv_lconst (v := lN 0) hx hb dX2_becomeDigitsOf_16 (by decide) ?_
  refine lv_lstore (lv' := [(8, .long (lN 0)), (6, .long (lN 1)), (4, .long (lN mo)), (0, .ref h), (1, .ref ht), (2, .int (nI i0)), (3, .int (nI r))]) hx hb dX2_becomeDigitsOf_17 hl (by decide) rfl (fun ls hl => ?_)
  refine lv_iload_n hx hb dX2_becomeDigitsOf_19 rfl (lv_at hl 5 rfl) ?_
  refine lv_istore (lv' := [(10, .int (nI i0)), (8, .long (lN 0)), (6, .long (lN 1)), (4, .long (lN mo)), (0, .ref h), (1, .ref ht), (2, .int (nI i0)), (3, .int (nI r))]) hx hb dX2_becomeDigitsOf_20 hl (by decide) rfl (fun ls hl => ?_)
  refine dm_loop (nL := 11) (head := 22) (P := fun (x : Nat × Nat × Nat × (Nat → Int32) × Nat) => i0 ≤ x.1 ∧ x.1 ≤ n ∧ 1 ≤ x.2.1 ∧ x.2.1 ≤ mo ∧ x.2.2.1 < x.2.1 ∧ x.2.2.2.2 ≤ N ∧ nrm x.2.2.2.1 x.2.2.2.2 ∧ dvb 4294967296 x.2.2.2.1 x.2.2.2.2 * x.2.1 + x.2.2.1 = hn r T i0 (x.1 - i0) ∧ (x.1 = n → x.2.1 = 1)) (w := fun x => [(h, .inr (2, [.ref a, .int (nI x.2.2.2.2)])), (a, .inl (cI, N, .inl x.2.2.2.1)), (ht, .inr (0, [.ref at_, .int (nI n)])), (at_, .inl (cB, 65536, .inl tf))]) (lv := fun x => [(10, .int (nI x.1)), (8, .long (lN x.2.2.1)), (6, .long (lN x.2.1)), (4, .long (lN mo)), (0, .ref h), (1, .ref ht), (2, .int (nI i0)), (3, .int (nI r))]) (μ := fun x => n - x.1) ?_ (i0, 1, 0, f, 0) ⟨Nat.le_refl _, hi0, Nat.le_refl _, hmo1, by show 0 < 1; decide, Nat.zero_le _, nrm_0 f, by dsimp only; rw [Nat.sub_self]; rfl, fun _ => rfl⟩ hP hD hS hl
  rintro ⟨i, fa, pr, F, U⟩ H locs ls ⟨hi1, hi2, hf1, hf2, hp1, hU, hnr, hval, hend⟩ hP hD hS hl ih
  dsimp only at hi1 hi2 hf1 hf2 hp1 hU hnr hval hend
  have hP : va_P D vwCl [(h, .inr (2, [.ref a, .int (nI U)])), (a, .inl (cI, N, .inl F)), (ht, .inr (0, [.ref at_, .int (nI n)])), (at_, .inl (cB, 65536, .inl tf))] H := hP
  have hD : va_D A [(h, .inr (2, [.ref a, .int (nI U)])), (a, .inl (cI, N, .inl F)), (ht, .inr (0, [.ref at_, .int (nI n)])), (at_, .inl (cB, 65536, .inl tf))] := hD
  have hl : lv_has ls 11 [(10, .int (nI i)), (8, .long (lN pr)), (6, .long (lN fa)), (4, .long (lN mo)), (0, .ref h), (1, .ref ht), (2, .int (nI i0)), (3, .int (nI r))] := hl
  refine lv_iload hx hb dX2_becomeDigitsOf_22 (lv_at hl 0 rfl) ?_
  refine lv_aload_n hx hb dX2_becomeDigitsOf_24 rfl (lv_at hl 5 rfl) ?_
  refine dm_gori (dm_rVN (n := 0) (As := []) (rest := [.int (nI i)]) hC hl (c_X0_size l D cB cI cC ht at_ n tf H.size) kco_X0_size ki_X0 kim_X0_size kse_X0_size knl_X2_49 (by decide +kernel) ⟨Nat.le_of_ble_eq_true rfl, Nat.le_of_ble_eq_true rfl⟩ rfl rfl ⟨dm_blind, va_recv hK hP (ci := 0) (q0 := 2) rfl rfl, dm_preU hK hP hD hC.2.2.2.2.2.2.2 [2, 3] (by decide) rfl⟩ rfl rfl (Nat.le_of_ble_eq_true rfl) dX2_becomeDigitsOf_25 ⟨Nat.le_of_ble_eq_true rfl, Nat.le_of_ble_eq_true rfl⟩) (fun z1 hs1 => ?_)
  subst hs1
  refine dm_icmp_ge (tgt := 100) hx hb (by omega) (by omega) dX2_becomeDigitsOf_28 (by decide) (fun hc => ?_) (fun hc => ?_)
  · have hin : i = n := by omega
    subst hin
    have hf := hend rfl
    subst hf
    refine lv_iconst (v := nI 1) hx hb dX2_becomeDigitsOf_100 (by decide) ?_
    refine dm_zret (v := nI 1) hC (Or.inr rfl) hK (F, U) (Or.inl ⟨rfl, hU, ?_, hnr⟩) hP hD hS dX2_becomeDigitsOf_101
    show dvb _ F U = _
    omega
  · have hmf := hmor fa hf2
    have hdi := hall i hi1 hc
    have hTi := (htx i hc).2
    obtain ⟨fa2, hfa2⟩ : ∃ z, z = fa * r := ⟨_, rfl⟩
    obtain ⟨pr2, hpr2⟩ : ∃ z, z = pr * r + dgv (T i) := ⟨_, rfl⟩
    have hlt2 : pr2 < fa2 := by
      have h8 : (pr + 1) * r ≤ fa * r := Nat.mul_le_mul_right _ hp1
      rw [Nat.add_mul] at h8
      omega
    have hval2 : dvb 4294967296 F U * fa2 + pr2 = hn r T i0 (i + 1 - i0) := by
      rw [show i + 1 - i0 = (i - i0) + 1 by omega]
      show _ = hn r T i0 (i - i0) * r + dgv (T (i0 + (i - i0)))
      rw [← hval, show i0 + (i - i0) = i by omega, hfa2, hpr2, Nat.add_mul, Nat.mul_assoc]
      omega
    have hfa1 : 1 ≤ fa2 := by omega
    refine lv_lload hx hb dX2_becomeDigitsOf_31 (lv_at hl 2 rfl) ?_
    refine lv_iload_n hx hb dX2_becomeDigitsOf_33 rfl (lv_at hl 7 rfl) ?_
    refine lv_i2l (v := lN r) hx hb dX2_becomeDigitsOf_34 (nI_l (by omega)) ?_
    refine lv_lmul hx hb dX2_becomeDigitsOf_35 ?_
    refine dm_tl (y := lN fa2) (by rw [hfa2]; exact lN_mul _ _) ?_
    refine lv_lstore (lv' := [(6, .long (lN fa2)), (10, .int (nI i)), (8, .long (lN pr)), (4, .long (lN mo)), (0, .ref h), (1, .ref ht), (2, .int (nI i0)), (3, .int (nI r))]) hx hb dX2_becomeDigitsOf_36 hl (by decide) rfl (fun ls hl => ?_)
    refine lv_lload hx hb dX2_becomeDigitsOf_38 (lv_at hl 2 rfl) ?_
    refine lv_iload_n hx hb dX2_becomeDigitsOf_40 rfl (lv_at hl 7 rfl) ?_
    refine lv_i2l (v := lN r) hx hb dX2_becomeDigitsOf_41 (nI_l (by omega)) ?_
    refine lv_lmul hx hb dX2_becomeDigitsOf_42 ?_
    refine dm_tl (y := lN (pr * r)) (lN_mul _ _) ?_
    refine lv_aload_n hx hb dX2_becomeDigitsOf_43 rfl (lv_at hl 5 rfl) ?_
    refine lv_iload hx hb dX2_becomeDigitsOf_44 (lv_at hl 1 rfl) ?_
    refine dm_gori (dm_rVN (n := 1) (As := [.int (nI i)]) (rest := [.long (lN (pr * r))]) hC hl (c_X0_codeAt l D cB cI cC ht at_ n tf (nI i) hn6 H.size) kco_X0_codeAt ki_X0 kim_X0_codeAt kse_X0_codeAt knl_X2_55 (by decide +kernel) ⟨Nat.le_of_ble_eq_true rfl, Nat.le_of_ble_eq_true rfl⟩ rfl rfl ⟨dm_blind, va_recv hK hP (ci := 0) (q0 := 2) rfl rfl, dm_preU hK hP hD hC.2.2.2.2.2.2.2 [2, 3] (by decide) rfl⟩ rfl rfl (Nat.le_of_ble_eq_true rfl) dX2_becomeDigitsOf_46 ⟨Nat.le_of_ble_eq_true rfl, Nat.le_of_ble_eq_true rfl⟩) (fun r1 h1 => ?_)
    have e1 : r1 = nI (T i) := (h1.1 i hc rfl).trans (htx i hc).1
    subst e1
    refine dm_gori (dm_rSN (n := 1) (As := [.int (nI (T i))]) (rest := [.long (lN (pr * r))]) hC hl (c_X3_digitOf l D cB cI cC (T i) (by omega) H.size) kco_X3_digitOf ki_X3 kst_X3_digitOf knl_X2_58 (by decide +kernel) ⟨Nat.le_of_ble_eq_true rfl, Nat.le_of_ble_eq_true rfl⟩ rfl rfl ⟨dm_blind, dm_preU hK hP hD hC.2.2.2.2.2.2.2 [] (by decide) rfl⟩ rfl rfl (Nat.le_of_ble_eq_true rfl) dX2_becomeDigitsOf_49 ⟨Nat.le_of_ble_eq_true rfl, Nat.le_of_ble_eq_true rfl⟩) (fun r2 h2 => ?_)
    subst h2
    refine lv_i2l (v := lN (dgv (T i))) hx hb dX2_becomeDigitsOf_52 (nI_l (by omega)) ?_
    refine lv_ladd hx hb dX2_becomeDigitsOf_53 ?_
    refine dm_tl (y := lN pr2) (by rw [hpr2]; exact lN_add _ _) ?_
    refine lv_lstore (lv' := [(8, .long (lN pr2)), (6, .long (lN fa2)), (10, .int (nI i)), (4, .long (lN mo)), (0, .ref h), (1, .ref ht), (2, .int (nI i0)), (3, .int (nI r))]) hx hb dX2_becomeDigitsOf_54 hl (by decide) rfl (fun ls hl => ?_)
    refine lv_lload hx hb dX2_becomeDigitsOf_56 (lv_at hl 1 rfl) ?_
    refine lv_lload hx hb dX2_becomeDigitsOf_58 (lv_at hl 3 rfl) ?_
    refine dm_cutR (nL := 11) (σ := Unit) 75 (fun _ => True) (fun _ => [(8, .long (lN pr2)), (6, .long (lN fa2)), (10, .int (nI i)), (4, .long (lN mo)), (0, .ref h), (1, .ref ht), (2, .int (nI i0)), (3, .int (nI r))]) (fun hJ => ?_) ?_
    · refine dm_lc_gt (tgt := 75) hx hb (by omega) (by omega) dX2_becomeDigitsOf_60 dX2_becomeDigitsOf_61 (by decide) (fun hd => ?_) (fun hd => ?_)
      · exact hJ () ls trivial hl
      · refine lv_iload hx hb dX2_becomeDigitsOf_64 (lv_at hl 2 rfl) ?_
        refine lv_aload_n hx hb dX2_becomeDigitsOf_66 rfl (lv_at hl 5 rfl) ?_
        refine dm_gori (dm_rVN (n := 0) (As := []) (rest := [.int (nI i)]) hC hl (c_X0_size l D cB cI cC ht at_ n tf H.size) kco_X0_size ki_X0 kim_X0_size kse_X0_size knl_X2_49 (by decide +kernel) ⟨Nat.le_of_ble_eq_true rfl, Nat.le_of_ble_eq_true rfl⟩ rfl rfl ⟨dm_blind, va_recv hK hP (ci := 0) (q0 := 2) rfl rfl, dm_preU hK hP hD hC.2.2.2.2.2.2.2 [2, 3] (by decide) rfl⟩ rfl rfl (Nat.le_of_ble_eq_true rfl) dX2_becomeDigitsOf_67 ⟨Nat.le_of_ble_eq_true rfl, Nat.le_of_ble_eq_true rfl⟩) (fun z2 hs1 => ?_)
        subst hs1
        refine lv_iconst (v := nI 1) hx hb dX2_becomeDigitsOf_70 (by decide) ?_
        refine lv_isub hx hb dX2_becomeDigitsOf_71 ?_
        refine dm_ti (y := nI (n - 1)) (pk_sub (by omega)) ?_
        refine dm_icmp_ne (tgt := 94) hx hb (by omega) (by omega) dX2_becomeDigitsOf_72 (by decide) (fun he => ?_) (fun he => ?_)
        · refine lv_iinc (v := nI (i + 1)) (lv' := [(10, .int (nI (i + 1))), (8, .long (lN pr2)), (6, .long (lN fa2)), (4, .long (lN mo)), (0, .ref h), (1, .ref ht), (2, .int (nI i0)), (3, .int (nI r))]) hx hb dX2_becomeDigitsOf_94 hl (k := 2) rfl ((nI_succ i).symm) (by decide) rfl (fun ls hl => ?_)
          refine lv_goto (tgt := 22) hx hb dX2_becomeDigitsOf_97 (by decide) ?_
          exact ih (i + 1, fa2, pr2, F, U) H locs ls (by show n - (i + 1) < n - i; omega) ⟨by show i0 ≤ i + 1; omega, by show i + 1 ≤ n; omega, hfa1, hd, hlt2, hU, hnr, hval2, fun h9 => by have h9 : i + 1 = n := h9; omega⟩ hP hD hS (lv_sub hl [0, 1, 2, 3, 4, 5, 6, 7] rfl)
        · exact hJ () ls trivial hl
    · rintro - ls - hl
      refine lv_aload_n hx hb dX2_becomeDigitsOf_75 rfl (lv_at hl 4 rfl) ?_
      refine lv_lload hx hb dX2_becomeDigitsOf_76 (lv_at hl 1 rfl) ?_
      refine lv_lload hx hb dX2_becomeDigitsOf_78 (lv_at hl 0 rfl) ?_
      refine dm_goi (wr := [(ht, .inr (0, [.ref at_, .int (nI n)])), (at_, .inl (cB, 65536, .inl tf))]) (dm_rV (n := 2) (As := [.long (lN fa2), .long (lN pr2)]) (rest := []) hC hl (c_X2_multiplyAndAdd l D cB cI cC h a N U fa2 pr2 F hU hNb (by omega) (by omega) (by omega) hnr H.size) kco_X2_multiplyAndAdd ki_X2 kim_X2_multiplyAndAdd kse_X2_multiplyAndAdd kml_X2_61 (by decide +kernel) ⟨Nat.le_of_ble_eq_true rfl, Nat.le_of_ble_eq_true rfl⟩ rfl rfl ⟨dm_blind, va_recv hK hP (ci := 2) (q0 := 0) rfl rfl, dm_preU hK hP hD hC.2.2.2.2.2.2.2 [0, 1] (by decide) rfl⟩ rfl rfl (Nat.le_of_ble_eq_true rfl) dX2_becomeDigitsOf_80 ⟨Nat.le_of_ble_eq_true rfl, Nat.le_of_ble_eq_true rfl⟩) hP hD hS hA [0, 1] [2, 3] rfl rfl (by decide) (by decide) (fun rb q H locs hw hP hD hS => ?_)
      obtain ⟨G, U2⟩ := q
      have hP : va_P D vwCl [(ht, .inr (0, [.ref at_, .int (nI n)])), (at_, .inl (cB, 65536, .inl tf)), (h, .inr (2, [.ref a, .int (nI U2)])), (a, .inl (cI, N, .inl G))] H := hP
      have hD : va_D A [(ht, .inr (0, [.ref at_, .int (nI n)])), (at_, .inl (cB, 65536, .inl tf)), (h, .inr (2, [.ref a, .int (nI U2)])), (a, .inl (cI, N, .inl G))] := hD
      have hP := hP.sub (ws' := [(h, .inr (2, [.ref a, .int (nI U2)])), (a, .inl (cI, N, .inl G)), (ht, .inr (0, [.ref at_, .int (nI n)])), (at_, .inl (cB, 65536, .inl tf))]) [2, 3, 0, 1] rfl
      have hD := hD.sub (ws' := [(h, .inr (2, [.ref a, .int (nI U2)])), (a, .inl (cI, N, .inl G)), (ht, .inr (0, [.ref at_, .int (nI n)])), (at_, .inl (cB, 65536, .inl tf))]) [2, 3, 0, 1] (by decide) rfl
      rw [hval2] at hw
      dsimp only at hw
      refine lv_if_ne (tgt := 88) hx hb dX2_becomeDigitsOf_83 (by decide) (fun hb1 => ?_) (fun hb1 => ?_)
      · have hw1 := hw.resolve_right (fun h9 => hb1 h9.1)
        refine lv_lconst (v := lN 1) hx hb dX2_becomeDigitsOf_88 (by decide) ?_
        refine lv_lstore (lv' := [(6, .long (lN 1)), (8, .long (lN pr2)), (10, .int (nI i)), (4, .long (lN mo)), (0, .ref h), (1, .ref ht), (2, .int (nI i0)), (3, .int (nI r))]) hx hb dX2_becomeDigitsOf_89 hl (by decide) rfl (fun ls hl => ?_)
        refine lv_lconst (v := lN 0) hx hb dX2_becomeDigitsOf_91 (by decide) ?_
        refine lv_lstore (lv' := [(8, .long (lN 0)), (6, .long (lN 1)), (10, .int (nI i)), (4, .long (lN mo)), (0, .ref h), (1, .ref ht), (2, .int (nI i0)), (3, .int (nI r))]) hx hb dX2_becomeDigitsOf_92 hl (by decide) rfl (fun ls hl => ?_)
        refine lv_iinc (v := nI (i + 1)) (lv' := [(10, .int (nI (i + 1))), (8, .long (lN 0)), (6, .long (lN 1)), (4, .long (lN mo)), (0, .ref h), (1, .ref ht), (2, .int (nI i0)), (3, .int (nI r))]) hx hb dX2_becomeDigitsOf_94 hl (k := 2) rfl ((nI_succ i).symm) (by decide) rfl (fun ls hl => ?_)
        refine lv_goto (tgt := 22) hx hb dX2_becomeDigitsOf_97 (by decide) ?_
        exact ih (i + 1, 1, 0, G, U2) H locs ls (by show n - (i + 1) < n - i; omega) ⟨by show i0 ≤ i + 1; omega, by show i + 1 ≤ n; omega, Nat.le_refl _, hmo1, by show 0 < 1; decide, hw1.2.1, hw1.2.2.2, by show dvb _ G U2 * 1 + 0 = hn r T i0 (i + 1 - i0); rw [hw1.2.2.1]; omega, fun _ => rfl⟩ hP hD hS (lv_sub hl [0, 1, 2, 3, 4, 5, 6, 7] rfl)
      · have hw1 := hw.resolve_left (fun h9 => absurd (hb1.symm.trans h9.1) (by decide))
        refine lv_iconst (v := nI 0) hx hb dX2_becomeDigitsOf_86 (by decide) ?_
        refine dm_zret (v := nI 0) hC (Or.inl rfl) hK (G, U2) (Or.inr ⟨rfl, hw1.2.1, Nat.le_trans hw1.2.2 ?_⟩) hP hD hS dX2_becomeDigitsOf_87
        have h8 := hn_mono (r := r) (by omega) (T := T) (i := i0) (k := i + 1 - i0) (d := n - (i + 1))
        rwa [show i + 1 - i0 + (n - (i + 1)) = n - i0 by omega] at h8
