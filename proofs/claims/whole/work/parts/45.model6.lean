def pv (V x d : Nat) : Nat := V * 65536 ^ d + x / 2 ^ (64 - 16 * d)
theorem pv_step {V x d : Nat} (hd : d < 4) : pv V x d * 65536 + x / 2 ^ (16 * (3 - d)) % 65536 = pv V x (d + 1) := by
  unfold pv
  have h1 : x / 2 ^ (64 - 16 * d) = x / 2 ^ (16 * (3 - d)) / 65536 := by
    rw [Nat.div_div_eq_div_mul, show (65536 : Nat) = 2 ^ 16 from rfl, ← Nat.pow_add]
    congr 2
    omega
  rw [h1, show 64 - 16 * (d + 1) = 16 * (3 - d) by omega, Nat.pow_succ, Nat.add_mul, Nat.mul_assoc]
  omega
theorem pv_0 {V x : Nat} (hx : x < 18446744073709551616) : pv V x 0 = V := by
  unfold pv
  rw [Nat.pow_zero, Nat.mul_one, Nat.div_eq_of_lt (by exact hx)]
  rfl
theorem pv_4 {V x : Nat} : pv V x 4 = V * 18446744073709551616 + x := by
  unfold pv
  rw [show 64 - 16 * 4 = 0 from rfl, Nat.pow_zero, Nat.div_one]
theorem pv_le {V x d : Nat} (hd : d ≤ 4) : pv V x d ≤ V * 18446744073709551616 + x := by
  rw [← pv_4]
  have h : ∀ c, d + c ≤ 4 → pv V x d ≤ pv V x (d + c) := by
    intro c
    induction c with
    | zero => intro _; exact Nat.le_refl _
    | succ c ih =>
      intro hc
      have h1 := ih (by omega)
      have h2 := pv_step (V := V) (x := x) (d := d + c) (by omega)
      rw [← Nat.add_assoc]
      omega
  have := h (4 - d) (by omega)
  rwa [show d + (4 - d) = 4 by omega] at this
theorem p3_dec : ∀ d, d < 4 → nI (3 - d) + Int32.ofInt (-1) = nI 3 - nI (d + 1) := by decide
theorem nI_or16' {a b : Nat} (ha : a < 65536) (hb : b < 65536) : nI a ||| nI (b * 65536) = nI (b * 65536 + a) := by
  have h : (nI a ||| nI (b * 65536)).toBitVec = (nI (b * 65536 + a)).toBitVec := by
    show (nI a).toBitVec ||| (nI (b * 65536)).toBitVec = _
    rw [BitVec.or_comm]
    apply BitVec.eq_of_toNat_eq
    rw [BitVec.toNat_or, pk_tn (by omega), pk_tn (by omega), pk_tn (by omega), Nat.mul_comm]
    exact (Nat.two_pow_add_eq_or_of_lt (i := 16) ha b).symm
  exact Int32.toBitVec_inj.mp h

set_option maxRecDepth 100000 in
set_option maxHeartbeats 4000000 in
theorem c_X4_push (l : Launch) (D : va_G) (cB cI cC : ClassId) (g gi go gn gr kt kw kz ks : Nat) (th : Int32) (kv : Int64) (ki ko kn kr : Nat → Int32) (x : Nat) (hx8 : x < 18446744073709551616) (hkz : kz ≤ 4096) (hdn : d16 kn kz) (hnn : nrm kn kz) : MI l yX4_push (Cond.code yX4_push cX4_push 4 (some .boolean)) 1 D (TY cB cI cC) [.ref g, .long (lN x)] [(g, .inr (4, [.int th, .int (nI kt), .ref gi, .int (nI kw), .ref go, .int (nI kz), .ref gn, .int (nI ks), .ref gr, .long kv])), (gi, .inl (cC, 65536, .inl ki)), (go, .inl (cC, 65536, .inl ko)), (gn, .inl (cI, 4096, .inl kn)), (gr, .inl (cI, 4096, .inl kr))] (S := (Nat → Int32) × Nat × (Nat → Int32) × Nat) (fun r q => q.2.1 ≤ 4096 ∧ d16 q.1 q.2.1 ∧ nrm q.1 q.2.1 ∧ ((dvb 65536 kn kz * 18446744073709551616 + x < 65536 ^ 4096 ∧ r = 1 ∧ dvb 65536 q.1 q.2.1 = dvb 65536 kn kz * 18446744073709551616 + x) ∨ (65536 ^ 4096 ≤ dvb 65536 kn kz * 18446744073709551616 + x ∧ r = 0 ∧ dvb 65536 q.1 q.2.1 = dvb 65536 kn kz))) (fun q => [(g, .inr (4, [.int (nI 0), .int (nI kt), .ref gi, .int (nI kw), .ref go, .int (nI q.2.1), .ref gn, .int (nI q.2.2.2), .ref gr, .long kv])), (gi, .inl (cC, 65536, .inl ki)), (go, .inl (cC, 65536, .inl ko)), (gn, .inl (cI, 4096, .inl q.1)), (gr, .inl (cI, 4096, .inl q.2.2.1))]) := by
  refine MI.of (by decide) (Nat.le_of_ble_eq_true rfl) ?_
  intro p e s m below meth c ls A hC hA hP hK hD hS hl
  obtain ⟨hx, hb, hr, hml, hown, hts, hlocks, hN⟩ := id hC
  have hown : s.vm.findClass RX4 = some m.cls := hown
  have hl : lv_has ls 4 [(0, .ref g), (1, .long (lN x))] := hl
  refine lv_aload_n hx hb dX4_push_0 rfl (lv_at hl 0 rfl) ?_
  refine lv_iconst (v := nI 0) hx hb dX4_push_1 (by decide) ?_
  refine va_put (D := D) (ci := 4) (v := .int (nI 0)) (ty := .int) (C := RX4) (T := TX4) (N := 10) hx hb hts kin_X4_w tyX4 tyX4_ok nmX4 hown hK hP hD hS 0 rfl rfl 0 (by decide) (hts _ kfl_X4_24) (fun _ h9 => h9) rfl (by decide +kernel) rfl rfl (Nat.le_of_ble_eq_true rfl) dX4_push_2 (fun H locs hP hD hS => ?_)
  have hP : va_P D vwCl [(g, .inr (4, [.int (nI 0), .int (nI kt), .ref gi, .int (nI kw), .ref go, .int (nI kz), .ref gn, .int (nI ks), .ref gr, .long kv])), (gi, .inl (cC, 65536, .inl ki)), (go, .inl (cC, 65536, .inl ko)), (gn, .inl (cI, 4096, .inl kn)), (gr, .inl (cI, 4096, .inl kr))] H := hP
  have hD : va_D A [(g, .inr (4, [.int (nI 0), .int (nI kt), .ref gi, .int (nI kw), .ref go, .int (nI kz), .ref gn, .int (nI ks), .ref gr, .long kv])), (gi, .inl (cC, 65536, .inl ki)), (go, .inl (cC, 65536, .inl ko)), (gn, .inl (cI, 4096, .inl kn)), (gr, .inl (cI, 4096, .inl kr))] := hD
  refine lv_aload_n hx hb dX4_push_5 rfl (lv_at hl 0 rfl) ?_
  refine dm_gov (wr := [(gi, .inl (cC, 65536, .inl ki)), (go, .inl (cC, 65536, .inl ko))]) (dm_rV (n := 0) (As := []) (rest := []) hC hl (c_X4_take l D cB cI cC g gi go gn gr kt kw kz ks (nI 0) kv kn kr hkz H.size) kco_X4_take ki_X4 kim_X4_take kse_X4_take kml_X4_59 (by decide +kernel) ⟨Nat.le_of_ble_eq_true rfl, Nat.le_of_ble_eq_true rfl⟩ rfl rfl ⟨dm_blind, va_recv hK hP (ci := 4) (q0 := 0) rfl rfl, dm_preU hK hP hD hC.2.2.2.2.2.2.2 [0, 3, 4] (by decide) rfl⟩ rfl rfl (Nat.le_of_ble_eq_true rfl) dX4_push_6 ⟨Nat.le_of_ble_eq_true rfl, Nat.le_of_ble_eq_true rfl⟩) hP hD hS hA [0, 3, 4] [1, 2] rfl rfl (by decide) (by decide) (fun R0 H locs hR0 hP hD hS => ?_)
  have hP : va_P D vwCl [(gi, .inl (cC, 65536, .inl ki)), (go, .inl (cC, 65536, .inl ko)), (g, .inr (4, [.int (nI 0), .int (nI kt), .ref gi, .int (nI kw), .ref go, .int (nI kz), .ref gn, .int (nI kz), .ref gr, .long kv])), (gn, .inl (cI, 4096, .inl kn)), (gr, .inl (cI, 4096, .inl R0))] H := hP
  have hD : va_D A [(gi, .inl (cC, 65536, .inl ki)), (go, .inl (cC, 65536, .inl ko)), (g, .inr (4, [.int (nI 0), .int (nI kt), .ref gi, .int (nI kw), .ref go, .int (nI kz), .ref gn, .int (nI kz), .ref gr, .long kv])), (gn, .inl (cI, 4096, .inl kn)), (gr, .inl (cI, 4096, .inl R0))] := hD
  have hP := hP.sub (ws' := [(g, .inr (4, [.int (nI 0), .int (nI kt), .ref gi, .int (nI kw), .ref go, .int (nI kz), .ref gn, .int (nI kz), .ref gr, .long kv])), (gi, .inl (cC, 65536, .inl ki)), (go, .inl (cC, 65536, .inl ko)), (gn, .inl (cI, 4096, .inl kn)), (gr, .inl (cI, 4096, .inl R0))]) [2, 0, 1, 3, 4] rfl
  have hD := hD.sub (ws' := [(g, .inr (4, [.int (nI 0), .int (nI kt), .ref gi, .int (nI kw), .ref go, .int (nI kz), .ref gn, .int (nI kz), .ref gr, .long kv])), (gi, .inl (cC, 65536, .inl ki)), (go, .inl (cC, 65536, .inl ko)), (gn, .inl (cI, 4096, .inl kn)), (gr, .inl (cI, 4096, .inl R0))]) [2, 0, 1, 3, 4] (by decide) rfl
  have hdR := d16_congr hR0 hdn
  have hvR : dvb 65536 R0 kz = dvb 65536 kn kz := dvb_congr hR0
  refine lv_iconst (v := nI 3) hx hb dX4_push_9 (by decide) ?_
  refine lv_istore_n (lv' := [(3, .int (nI 3)), (0, .ref g), (1, .long (lN x))]) hx hb dX4_push_10 rfl hl (by decide) rfl (fun ls hl => ?_)
  obtain ⟨V, hVe⟩ : ∃ z, z = dvb 65536 kn kz := ⟨_, rfl⟩
  rw [← hVe] at hvR ⊢
  have hl : lv_has ls 4 [(3, .int (nI 3 - nI 0)), (0, .ref g), (1, .long (lN x))] := by rw [show nI 3 - nI 0 = nI 3 by decide]; exact lv_sub hl [0, 1, 2] rfl
  refine dm_loop (nL := 4) (head := 11) (P := fun (y : Nat × (Nat → Int32) × Nat) => y.1 ≤ 4 ∧ y.2.2 ≤ 4096 ∧ d16 y.2.1 y.2.2 ∧ dvb 65536 y.2.1 y.2.2 = pv V x y.1) (w := fun y => [(g, .inr (4, [.int (nI 0), .int (nI kt), .ref gi, .int (nI kw), .ref go, .int (nI kz), .ref gn, .int (nI y.2.2), .ref gr, .long kv])), (gi, .inl (cC, 65536, .inl ki)), (go, .inl (cC, 65536, .inl ko)), (gn, .inl (cI, 4096, .inl kn)), (gr, .inl (cI, 4096, .inl y.2.1))]) (lv := fun y => [(3, .int (nI 3 - nI y.1)), (0, .ref g), (1, .long (lN x))]) (μ := fun y => 4 - y.1) ?_ (0, R0, kz) ⟨Nat.zero_le _, hkz, hdR, by dsimp only; rw [pv_0 hx8]; exact hvR⟩ hP hD hS hl
  rintro ⟨d, F, S⟩ H locs ls ⟨h1, h2, h3, h4⟩ hP hD hS hl ih
  dsimp only at h1 h2 h3 h4
  have hP : va_P D vwCl [(g, .inr (4, [.int (nI 0), .int (nI kt), .ref gi, .int (nI kw), .ref go, .int (nI kz), .ref gn, .int (nI S), .ref gr, .long kv])), (gi, .inl (cC, 65536, .inl ki)), (go, .inl (cC, 65536, .inl ko)), (gn, .inl (cI, 4096, .inl kn)), (gr, .inl (cI, 4096, .inl F))] H := hP
  have hD : va_D A [(g, .inr (4, [.int (nI 0), .int (nI kt), .ref gi, .int (nI kw), .ref go, .int (nI kz), .ref gn, .int (nI S), .ref gr, .long kv])), (gi, .inl (cC, 65536, .inl ki)), (go, .inl (cC, 65536, .inl ko)), (gn, .inl (cI, 4096, .inl kn)), (gr, .inl (cI, 4096, .inl F))] := hD
  have hl : lv_has ls 4 [(3, .int (nI 3 - nI d)), (0, .ref g), (1, .long (lN x))] := hl
  rcases (show d = 4 ∨ d < 4 by omega) with hd | hd
  · rw [hd] at hl h4
    rw [pv_4] at h4
    refine lv_iload_n hx hb dX4_push_11 rfl (lv_at hl 0 rfl) ?_
    refine lv_if_lt (tgt := 43) hx hb dX4_push_12 (by decide) (fun hc => ?_) (fun hc => ?_)
    · refine lv_aload_n hx hb dX4_push_43 rfl (lv_at hl 1 rfl) ?_
      refine dm_gov (wr := [(gi, .inl (cC, 65536, .inl ki)), (go, .inl (cC, 65536, .inl ko))]) (dm_rV (n := 0) (As := []) (rest := []) hC hl (c_X4_give l D cB cI cC g gi go gn gr kt kw kz S (nI 0) kv kn F h2 H.size) kco_X4_give ki_X4 kim_X4_give kse_X4_give kml_X4_53 (by decide +kernel) ⟨Nat.le_of_ble_eq_true rfl, Nat.le_of_ble_eq_true rfl⟩ rfl rfl ⟨dm_blind, va_recv hK hP (ci := 4) (q0 := 0) rfl rfl, dm_preU hK hP hD hC.2.2.2.2.2.2.2 [0, 3, 4] (by decide) rfl⟩ rfl rfl (Nat.le_of_ble_eq_true rfl) dX4_push_44 ⟨Nat.le_of_ble_eq_true rfl, Nat.le_of_ble_eq_true rfl⟩) hP hD hS hA [0, 3, 4] [1, 2] rfl rfl (by decide) (by decide) (fun q H locs hg hP hD hS => ?_)
      obtain ⟨kn2, kz2⟩ := q
      have hP : va_P D vwCl [(gi, .inl (cC, 65536, .inl ki)), (go, .inl (cC, 65536, .inl ko)), (g, .inr (4, [.int (nI 0), .int (nI kt), .ref gi, .int (nI kw), .ref go, .int (nI kz2), .ref gn, .int (nI kz2), .ref gr, .long kv])), (gn, .inl (cI, 4096, .inl kn2)), (gr, .inl (cI, 4096, .inl F))] H := hP
      have hD : va_D A [(gi, .inl (cC, 65536, .inl ki)), (go, .inl (cC, 65536, .inl ko)), (g, .inr (4, [.int (nI 0), .int (nI kt), .ref gi, .int (nI kw), .ref go, .int (nI kz2), .ref gn, .int (nI kz2), .ref gr, .long kv])), (gn, .inl (cI, 4096, .inl kn2)), (gr, .inl (cI, 4096, .inl F))] := hD
      have hP := hP.sub (ws' := [(g, .inr (4, [.int (nI 0), .int (nI kt), .ref gi, .int (nI kw), .ref go, .int (nI kz2), .ref gn, .int (nI kz2), .ref gr, .long kv])), (gi, .inl (cC, 65536, .inl ki)), (go, .inl (cC, 65536, .inl ko)), (gn, .inl (cI, 4096, .inl kn2)), (gr, .inl (cI, 4096, .inl F))]) [2, 0, 1, 3, 4] rfl
      have hD := hD.sub (ws' := [(g, .inr (4, [.int (nI 0), .int (nI kt), .ref gi, .int (nI kw), .ref go, .int (nI kz2), .ref gn, .int (nI kz2), .ref gr, .long kv])), (gi, .inl (cC, 65536, .inl ki)), (go, .inl (cC, 65536, .inl ko)), (gn, .inl (cI, 4096, .inl kn2)), (gr, .inl (cI, 4096, .inl F))]) [2, 0, 1, 3, 4] (by decide) rfl
      obtain ⟨g1, g2, g3, g4⟩ := hg
      dsimp only at g1 g2 g3 g4
      refine lv_iconst (v := nI 1) hx hb dX4_push_47 (by decide) ?_
      exact dm_zret (v := nI 1) hC (Or.inr rfl) hK (kn2, kz2, F, kz2) ⟨by show kz2 ≤ 4096; omega, d16_give g4 g1 h3, g3, Or.inl ⟨by rw [← h4]; exact Nat.lt_of_lt_of_le (d16_lt h3) (Nat.pow_le_pow_right (by decide) h2), rfl, by show dvb _ kn2 kz2 = _; rw [g2, h4]⟩⟩ hP hD hS dX4_push_48
    · exact absurd (by decide) hc
  · have hl : lv_has ls 4 [(3, .int (nI (3 - d))), (0, .ref g), (1, .long (lN x))] := by rw [show nI (3 - d) = nI 3 - nI d from (pk_sub (by omega)).symm]; exact hl
    have hps := pv_step (V := V) (x := x) hd
    obtain ⟨mo, hmo⟩ : ∃ z, z = x / 2 ^ (16 * (3 - d)) % 65536 := ⟨_, rfl⟩
    have hmol : mo < 65536 := by rw [hmo]; exact Nat.mod_lt _ (by decide)
    rw [← hmo] at hps
    refine lv_iload_n hx hb dX4_push_11 rfl (lv_at hl 0 rfl) ?_
    refine dm_if_lt (tgt := 43) hx hb (by omega) dX4_push_12 (by decide) (fun hc => ?_) (fun hc => ?_)
    · exact hc.elim
    · refine lv_aload_n hx hb dX4_push_15 rfl (lv_at hl 1 rfl) ?_
      refine lv_ldc (v := nI 65536) hx hb hown (hts _ kct_X4_7) dX4_push_16 ?_
      refine lv_lload_n hx hb dX4_push_18 rfl (lv_at hl 2 rfl) ?_
      refine lv_bipush (v := nI 16) hx hb dX4_push_19 (by decide) ?_
      refine lv_iload_n hx hb dX4_push_21 rfl (lv_at hl 0 rfl) ?_
      refine lv_imul hx hb dX4_push_22 ?_
      refine dm_ti (y := nI (16 * (3 - d))) (pk_mul 16 _) ?_
      refine lv_lshr (v := (lN x >>> ((nI (16 * (3 - d)) : Int32).toInt64 &&& 63))) hx hb dX4_push_23 (rfl) ?_
      refine lv_ldc2 (v := 65535) hx hb hown (hts _ kct_X4_31) dX4_push_24 ?_
      refine lv_land hx hb dX4_push_27 ?_
      refine dm_tl (y := lN mo) (by rw [hmo]; exact sar_mask (k := 16) hx8 (by omega) (by omega) (by decide)) ?_
      refine lv_l2i (v := nI mo) hx hb dX4_push_28 (lN_low) ?_
      refine dm_goi (wr := [(gi, .inl (cC, 65536, .inl ki)), (go, .inl (cC, 65536, .inl ko)), (gn, .inl (cI, 4096, .inl kn))]) (dm_rV (n := 2) (As := [.int (nI 65536), .int (nI mo)]) (rest := []) hC hl (c_X4_timesAdd l D cB cI cC g gi go gn gr kt kw kz S (nI 0) kv F 65536 mo h2 h3 (by decide) (by decide) (by omega) H.size) kco_X4_timesAdd ki_X4 kim_X4_timesAdd kse_X4_timesAdd kml_X4_49 (by decide +kernel) ⟨Nat.le_of_ble_eq_true rfl, Nat.le_of_ble_eq_true rfl⟩ rfl rfl ⟨dm_blind, va_recv hK hP (ci := 4) (q0 := 0) rfl rfl, dm_preU hK hP hD hC.2.2.2.2.2.2.2 [0, 4] (by decide) rfl⟩ rfl rfl (Nat.le_of_ble_eq_true rfl) dX4_push_29 ⟨Nat.le_of_ble_eq_true rfl, Nat.le_of_ble_eq_true rfl⟩) hP hD hS hA [0, 4] [1, 2, 3] rfl rfl (by decide) (by decide) (fun rb q H locs hw hP hD hS => ?_)
      obtain ⟨F2, S2⟩ := q
      have hP : va_P D vwCl [(gi, .inl (cC, 65536, .inl ki)), (go, .inl (cC, 65536, .inl ko)), (gn, .inl (cI, 4096, .inl kn)), (g, .inr (4, [.int (nI 0), .int (nI kt), .ref gi, .int (nI kw), .ref go, .int (nI kz), .ref gn, .int (nI S2), .ref gr, .long kv])), (gr, .inl (cI, 4096, .inl F2))] H := hP
      have hD : va_D A [(gi, .inl (cC, 65536, .inl ki)), (go, .inl (cC, 65536, .inl ko)), (gn, .inl (cI, 4096, .inl kn)), (g, .inr (4, [.int (nI 0), .int (nI kt), .ref gi, .int (nI kw), .ref go, .int (nI kz), .ref gn, .int (nI S2), .ref gr, .long kv])), (gr, .inl (cI, 4096, .inl F2))] := hD
      have hP := hP.sub (ws' := [(g, .inr (4, [.int (nI 0), .int (nI kt), .ref gi, .int (nI kw), .ref go, .int (nI kz), .ref gn, .int (nI S2), .ref gr, .long kv])), (gi, .inl (cC, 65536, .inl ki)), (go, .inl (cC, 65536, .inl ko)), (gn, .inl (cI, 4096, .inl kn)), (gr, .inl (cI, 4096, .inl F2))]) [3, 0, 1, 2, 4] rfl
      have hD := hD.sub (ws' := [(g, .inr (4, [.int (nI 0), .int (nI kt), .ref gi, .int (nI kw), .ref go, .int (nI kz), .ref gn, .int (nI S2), .ref gr, .long kv])), (gi, .inl (cC, 65536, .inl ki)), (go, .inl (cC, 65536, .inl ko)), (gn, .inl (cI, 4096, .inl kn)), (gr, .inl (cI, 4096, .inl F2))]) [3, 0, 1, 2, 4] (by decide) rfl
      rw [h4, hps] at hw
      dsimp only at hw
      refine lv_if_ne (tgt := 37) hx hb dX4_push_32 (by decide) (fun hb1 => ?_) (fun hb1 => ?_)
      · have hw1 := hw.resolve_right (fun h9 => hb1 h9.1)
        refine lv_iinc (v := (nI 3 - nI (d + 1))) (lv' := [(3, .int (nI 3 - nI (d + 1))), (0, .ref g), (1, .long (lN x))]) hx hb dX4_push_37 hl (k := 0) rfl (p3_dec d hd) (by decide) rfl (fun ls hl => ?_)
        refine lv_goto (tgt := 11) hx hb dX4_push_40 (by decide) ?_
        exact ih (d + 1, F2, S2) H locs ls (by show 4 - (d + 1) < 4 - d; omega) ⟨by show d + 1 ≤ 4; omega, hw1.2.1, hw1.2.2.1, hw1.2.2.2.1⟩ hP hD hS (lv_sub hl [0, 1, 2] rfl)
      · have hw1 := hw.resolve_left (fun h9 => absurd (hb1.symm.trans h9.1) (by decide))
        refine lv_iconst (v := nI 0) hx hb dX4_push_35 (by decide) ?_
        exact dm_zret (v := nI 0) hC (Or.inl rfl) hK (kn, kz, F2, S2) ⟨hkz, hdn, hnn, Or.inr ⟨Nat.le_trans hw1.2.2 (pv_le (by omega)), rfl, hVe.symm⟩⟩ hP hD hS dX4_push_36

set_option maxRecDepth 100000 in
set_option maxHeartbeats 4000000 in
theorem c_X4_power (l : Launch) (D : va_G) (cB cI cC : ClassId) (g gi go gn gr kt kw kz ks : Nat) (th : Int32) (kv : Int64) (ki ko kn kr : Nat → Int32) (b e0 : Int32) (hkz : kz ≤ 4096) (hdn : d16 kn kz) (hnn : nrm kn kz) : MI l yX4_power (Cond.code yX4_power cX4_power 4 (some .boolean)) 1 D (TY cB cI cC) [.ref g, .int b, .int e0] [(g, .inr (4, [.int th, .int (nI kt), .ref gi, .int (nI kw), .ref go, .int (nI kz), .ref gn, .int (nI ks), .ref gr, .long kv])), (gi, .inl (cC, 65536, .inl ki)), (go, .inl (cC, 65536, .inl ko)), (gn, .inl (cI, 4096, .inl kn)), (gr, .inl (cI, 4096, .inl kr))] (S := (Nat → Int32) × Nat × (Nat → Int32) × Nat) (fun r q => q.2.1 ≤ 4096 ∧ d16 q.1 q.2.1 ∧ nrm q.1 q.2.1 ∧ ((∃ bb ee, pwOK b e0 bb ee ∧ r = 1 ∧ dvb 65536 q.1 q.2.1 = bb ^ ee) ∨ ((∀ bb ee, ¬ pwOK b e0 bb ee) ∧ r = 0 ∧ dvb 65536 q.1 q.2.1 = dvb 65536 kn kz))) (fun q => [(g, .inr (4, [.int (nI 0), .int (nI kt), .ref gi, .int (nI kw), .ref go, .int (nI q.2.1), .ref gn, .int (nI q.2.2.2), .ref gr, .long kv])), (gi, .inl (cC, 65536, .inl ki)), (go, .inl (cC, 65536, .inl ko)), (gn, .inl (cI, 4096, .inl q.1)), (gr, .inl (cI, 4096, .inl q.2.2.1))]) := by
  refine MI.of (by decide) (Nat.le_of_ble_eq_true rfl) ?_
  intro p e s m below meth c ls A hC hA hP hK hD hS hl
  obtain ⟨hx, hb, hr, hml, hown, hts, hlocks, hN⟩ := id hC
  have hown : s.vm.findClass RX4 = some m.cls := hown
  have hl : lv_has ls 4 [(0, .ref g), (1, .int b), (2, .int e0)] := hl
  refine lv_aload_n hx hb dX4_power_0 rfl (lv_at hl 0 rfl) ?_
  refine lv_iconst (v := nI 0) hx hb dX4_power_1 (by decide) ?_
  refine va_put (D := D) (ci := 4) (v := .int (nI 0)) (ty := .int) (C := RX4) (T := TX4) (N := 10) hx hb hts kin_X4_w tyX4 tyX4_ok nmX4 hown hK hP hD hS 0 rfl rfl 0 (by decide) (hts _ kfl_X4_24) (fun _ h9 => h9) rfl (by decide +kernel) rfl rfl (Nat.le_of_ble_eq_true rfl) dX4_power_2 (fun H locs hP hD hS => ?_)
  have hP : va_P D vwCl [(g, .inr (4, [.int (nI 0), .int (nI kt), .ref gi, .int (nI kw), .ref go, .int (nI kz), .ref gn, .int (nI ks), .ref gr, .long kv])), (gi, .inl (cC, 65536, .inl ki)), (go, .inl (cC, 65536, .inl ko)), (gn, .inl (cI, 4096, .inl kn)), (gr, .inl (cI, 4096, .inl kr))] H := hP
  have hD : va_D A [(g, .inr (4, [.int (nI 0), .int (nI kt), .ref gi, .int (nI kw), .ref go, .int (nI kz), .ref gn, .int (nI ks), .ref gr, .long kv])), (gi, .inl (cC, 65536, .inl ki)), (go, .inl (cC, 65536, .inl ko)), (gn, .inl (cI, 4096, .inl kn)), (gr, .inl (cI, 4096, .inl kr))] := hD
  refine lv_iload_n hx hb dX4_power_5 rfl (lv_at hl 1 rfl) ?_
  refine lv_if_lt (tgt := 13) hx hb dX4_power_6 (by decide) (fun h1 => ?_) (fun h1 => ?_)
  · refine lv_iconst (v := nI 0) hx hb dX4_power_13 (by decide) ?_
    exact dm_zret (v := nI 0) hC (Or.inl rfl) hK (kn, kz, kr, ks) ⟨hkz, hdn, hnn, Or.inr ⟨fun bb ee h9 => by rw [h9.1] at h1; exact nI_pos h9.2.2.1 h1, rfl, rfl⟩⟩ hP hD hS dX4_power_14
  · refine lv_iload_n hx hb dX4_power_9 rfl (lv_at hl 2 rfl) ?_
    refine lv_if_ge (tgt := 15) hx hb dX4_power_10 (by decide) (fun h2 => ?_) (fun h2 => ?_)
    · obtain ⟨bb, hbb, rfl⟩ := nI_of h1
      obtain ⟨ee, hee, rfl⟩ := nI_nn h2
      refine lv_aload_n hx hb dX4_power_15 rfl (lv_at hl 0 rfl) ?_
      refine lv_iconst (v := nI 1) hx hb dX4_power_16 (by decide) ?_
      refine va_put (D := D) (ci := 4) (v := .int (nI 1)) (ty := .int) (C := RX4) (T := TX4) (N := 10) hx hb hts kin_X4_w tyX4 tyX4_ok nmX4 hown hK hP hD hS 0 rfl rfl 7 (by decide) (hts _ kfl_X4_28) (fun _ h9 => h9) rfl (by decide +kernel) rfl rfl (Nat.le_of_ble_eq_true rfl) dX4_power_17 (fun H locs hP hD hS => ?_)
      have hP : va_P D vwCl [(g, .inr (4, [.int (nI 0), .int (nI kt), .ref gi, .int (nI kw), .ref go, .int (nI kz), .ref gn, .int (nI 1), .ref gr, .long kv])), (gi, .inl (cC, 65536, .inl ki)), (go, .inl (cC, 65536, .inl ko)), (gn, .inl (cI, 4096, .inl kn)), (gr, .inl (cI, 4096, .inl kr))] H := hP
      have hD : va_D A [(g, .inr (4, [.int (nI 0), .int (nI kt), .ref gi, .int (nI kw), .ref go, .int (nI kz), .ref gn, .int (nI 1), .ref gr, .long kv])), (gi, .inl (cC, 65536, .inl ki)), (go, .inl (cC, 65536, .inl ko)), (gn, .inl (cI, 4096, .inl kn)), (gr, .inl (cI, 4096, .inl kr))] := hD
      refine lv_aload_n hx hb dX4_power_20 rfl (lv_at hl 0 rfl) ?_
      refine va_get (D := D) (ci := 4) (C := RX4) (T := TX4) (N := 10) (v := .ref gr) hx hb hts kin_X4_w hown hK hP 0 rfl rfl 8 (by decide) (hts _ kfl_X4_21) (fun _ h9 => h9) rfl dX4_power_21 ?_
      refine lv_iconst (v := nI 0) hx hb dX4_power_24 (by decide) ?_
      refine lv_iconst (v := nI 1) hx hb dX4_power_25 (by decide) ?_
      refine dm_iast (j := 0) (f' := upd kr 0 (nI 1)) hx hb hK hP hD hS 4 1 rfl rfl (by omega) (by decide) (rfl) dX4_power_26 (fun H locs hP hD hS => ?_)
      have hP : va_P D vwCl [(g, .inr (4, [.int (nI 0), .int (nI kt), .ref gi, .int (nI kw), .ref go, .int (nI kz), .ref gn, .int (nI 1), .ref gr, .long kv])), (gi, .inl (cC, 65536, .inl ki)), (go, .inl (cC, 65536, .inl ko)), (gn, .inl (cI, 4096, .inl kn)), (gr, .inl (cI, 4096, .inl (upd kr 0 (nI 1))))] H := hP
      have hD : va_D A [(g, .inr (4, [.int (nI 0), .int (nI kt), .ref gi, .int (nI kw), .ref go, .int (nI kz), .ref gn, .int (nI 1), .ref gr, .long kv])), (gi, .inl (cC, 65536, .inl ki)), (go, .inl (cC, 65536, .inl ko)), (gn, .inl (cI, 4096, .inl kn)), (gr, .inl (cI, 4096, .inl (upd kr 0 (nI 1))))] := hD
      refine lv_iload_n hx hb dX4_power_27 rfl (lv_at hl 1 rfl) ?_
      refine dm_if_ne (tgt := 40) hx hb (by omega) dX4_power_28 (by decide) (fun hb0 => ?_) (fun hb0 => ?_)
      · refine lv_iconst (v := nI 0) hx hb dX4_power_40 (by decide) ?_
        refine lv_istore_n (lv' := [(3, .int (nI 0)), (0, .ref g), (1, .int (nI bb)), (2, .int (nI ee))]) hx hb dX4_power_41 rfl hl (by decide) rfl (fun ls hl => ?_)
        refine dm_loop (nL := 4) (head := 42) (P := fun (y : Nat × (Nat → Int32) × Nat) => y.1 ≤ ee ∧ y.2.2 ≤ 4096 ∧ d16 y.2.1 y.2.2 ∧ dvb 65536 y.2.1 y.2.2 = if bb ≤ 1 then bb ^ ee else bb ^ y.1) (w := fun y => [(g, .inr (4, [.int (nI 0), .int (nI kt), .ref gi, .int (nI kw), .ref go, .int (nI kz), .ref gn, .int (nI y.2.2), .ref gr, .long kv])), (gi, .inl (cC, 65536, .inl ki)), (go, .inl (cC, 65536, .inl ko)), (gn, .inl (cI, 4096, .inl kn)), (gr, .inl (cI, 4096, .inl y.2.1))]) (lv := fun y => [(3, .int (nI y.1)), (0, .ref g), (1, .int (nI bb)), (2, .int (nI ee))]) (μ := fun y => ee - y.1) ?_ (0, upd kr 0 (nI 1), 1) ⟨Nat.zero_le _, by show 1 ≤ 4096; decide, fun j hj => by have hj : j < 1 := hj; show un (upd kr 0 (nI 1) j) < 65536; rw [show j = 0 by omega, pk_us]; decide, by show 0 + un (upd kr 0 (nI 1) 0) * 65536 ^ 0 = if bb ≤ 1 then bb ^ ee else bb ^ 0; rw [pk_us, show un (nI 1) = 1 from rfl, Nat.pow_zero, Nat.pow_zero]; (split; (rw [show bb = 1 by omega, Nat.one_pow]); rfl)⟩ hP hD hS (lv_sub hl [0, 1, 2, 3] rfl)
        rintro ⟨k, F, S⟩ H locs ls ⟨k1, k2, k3, k4⟩ hP hD hS hl ih
        dsimp only at k1 k2 k3 k4
        have hP : va_P D vwCl [(g, .inr (4, [.int (nI 0), .int (nI kt), .ref gi, .int (nI kw), .ref go, .int (nI kz), .ref gn, .int (nI S), .ref gr, .long kv])), (gi, .inl (cC, 65536, .inl ki)), (go, .inl (cC, 65536, .inl ko)), (gn, .inl (cI, 4096, .inl kn)), (gr, .inl (cI, 4096, .inl F))] H := hP
        have hD : va_D A [(g, .inr (4, [.int (nI 0), .int (nI kt), .ref gi, .int (nI kw), .ref go, .int (nI kz), .ref gn, .int (nI S), .ref gr, .long kv])), (gi, .inl (cC, 65536, .inl ki)), (go, .inl (cC, 65536, .inl ko)), (gn, .inl (cI, 4096, .inl kn)), (gr, .inl (cI, 4096, .inl F))] := hD
        have hl : lv_has ls 4 [(3, .int (nI k)), (0, .ref g), (1, .int (nI bb)), (2, .int (nI ee))] := hl
        refine dm_cutR (nL := 4) (σ := Unit) 69 (fun _ => dvb 65536 F S = bb ^ ee) (fun _ => [(3, .int (nI k)), (0, .ref g), (1, .int (nI bb)), (2, .int (nI ee))]) (fun hJ => ?_) ?_
        · refine lv_iload_n hx hb dX4_power_42 rfl (lv_at hl 0 rfl) ?_
          refine lv_iload_n hx hb dX4_power_43 rfl (lv_at hl 3 rfl) ?_
          refine dm_icmp_ge (tgt := 69) hx hb (by omega) (by omega) dX4_power_44 (by decide) (fun hk => ?_) (fun hk => ?_)
          · refine hJ () ls ?_ hl
            rw [k4, show k = ee by omega]
            split <;> rfl
          · refine lv_iload_n hx hb dX4_power_47 rfl (lv_at hl 2 rfl) ?_
            refine lv_iconst (v := nI 1) hx hb dX4_power_48 (by decide) ?_
            refine dm_icmp_le (tgt := 69) hx hb (by omega) (by omega) dX4_power_49 (by decide) (fun hbq => ?_) (fun hbq => ?_)
            · refine hJ () ls ?_ hl
              rw [k4, if_pos hbq]
            · rw [if_neg (by omega)] at k4
              refine lv_aload_n hx hb dX4_power_52 rfl (lv_at hl 1 rfl) ?_
              refine lv_iload_n hx hb dX4_power_53 rfl (lv_at hl 2 rfl) ?_
              refine lv_iconst (v := nI 0) hx hb dX4_power_54 (by decide) ?_
              refine dm_goi (wr := [(gi, .inl (cC, 65536, .inl ki)), (go, .inl (cC, 65536, .inl ko)), (gn, .inl (cI, 4096, .inl kn))]) (dm_rV (n := 2) (As := [.int (nI bb), .int (nI 0)]) (rest := []) hC hl (c_X4_timesAdd l D cB cI cC g gi go gn gr kt kw kz S (nI 0) kv F bb 0 k2 k3 (by omega) hbb (by decide) H.size) kco_X4_timesAdd ki_X4 kim_X4_timesAdd kse_X4_timesAdd kml_X4_49 (by decide +kernel) ⟨Nat.le_of_ble_eq_true rfl, Nat.le_of_ble_eq_true rfl⟩ rfl rfl ⟨dm_blind, va_recv hK hP (ci := 4) (q0 := 0) rfl rfl, dm_preU hK hP hD hC.2.2.2.2.2.2.2 [0, 4] (by decide) rfl⟩ rfl rfl (Nat.le_of_ble_eq_true rfl) dX4_power_55 ⟨Nat.le_of_ble_eq_true rfl, Nat.le_of_ble_eq_true rfl⟩) hP hD hS hA [0, 4] [1, 2, 3] rfl rfl (by decide) (by decide) (fun rb q H locs hw hP hD hS => ?_)
              obtain ⟨F2, S2⟩ := q
              have hP : va_P D vwCl [(gi, .inl (cC, 65536, .inl ki)), (go, .inl (cC, 65536, .inl ko)), (gn, .inl (cI, 4096, .inl kn)), (g, .inr (4, [.int (nI 0), .int (nI kt), .ref gi, .int (nI kw), .ref go, .int (nI kz), .ref gn, .int (nI S2), .ref gr, .long kv])), (gr, .inl (cI, 4096, .inl F2))] H := hP
              have hD : va_D A [(gi, .inl (cC, 65536, .inl ki)), (go, .inl (cC, 65536, .inl ko)), (gn, .inl (cI, 4096, .inl kn)), (g, .inr (4, [.int (nI 0), .int (nI kt), .ref gi, .int (nI kw), .ref go, .int (nI kz), .ref gn, .int (nI S2), .ref gr, .long kv])), (gr, .inl (cI, 4096, .inl F2))] := hD
              have hP := hP.sub (ws' := [(g, .inr (4, [.int (nI 0), .int (nI kt), .ref gi, .int (nI kw), .ref go, .int (nI kz), .ref gn, .int (nI S2), .ref gr, .long kv])), (gi, .inl (cC, 65536, .inl ki)), (go, .inl (cC, 65536, .inl ko)), (gn, .inl (cI, 4096, .inl kn)), (gr, .inl (cI, 4096, .inl F2))]) [3, 0, 1, 2, 4] rfl
              have hD := hD.sub (ws' := [(g, .inr (4, [.int (nI 0), .int (nI kt), .ref gi, .int (nI kw), .ref go, .int (nI kz), .ref gn, .int (nI S2), .ref gr, .long kv])), (gi, .inl (cC, 65536, .inl ki)), (go, .inl (cC, 65536, .inl ko)), (gn, .inl (cI, 4096, .inl kn)), (gr, .inl (cI, 4096, .inl F2))]) [3, 0, 1, 2, 4] (by decide) rfl
              have hpe : bb ^ k * bb = bb ^ (k + 1) := rfl
              rw [k4, Nat.add_zero, hpe] at hw
              dsimp only at hw
              refine lv_if_ne (tgt := 63) hx hb dX4_power_58 (by decide) (fun hb1 => ?_) (fun hb1 => ?_)
              · have hw1 := hw.resolve_right (fun h9 => hb1 h9.1)
                refine lv_iinc (v := nI (k + 1)) (lv' := [(3, .int (nI (k + 1))), (0, .ref g), (1, .int (nI bb)), (2, .int (nI ee))]) hx hb dX4_power_63 hl (k := 0) rfl ((nI_succ k).symm) (by decide) rfl (fun ls hl => ?_)
                refine lv_goto (tgt := 42) hx hb dX4_power_66 (by decide) ?_
                exact ih (k + 1, F2, S2) H locs ls (by show ee - (k + 1) < ee - k; omega) ⟨by show k + 1 ≤ ee; omega, hw1.2.1, hw1.2.2.1, by show dvb _ F2 S2 = if _ then _ else bb ^ (k + 1); rw [if_neg (by omega)]; exact hw1.2.2.2.1⟩ hP hD hS (lv_sub hl [0, 1, 2, 3] rfl)
              · have hw1 := hw.resolve_left (fun h9 => absurd (hb1.symm.trans h9.1) (by decide))
                have hbig : 4294967296 ^ 2048 ≤ bb ^ ee := by rw [← pow_eq]; exact Nat.le_trans hw1.2.2 (Nat.pow_le_pow_right (by omega) (by omega))
                refine lv_iconst (v := nI 0) hx hb dX4_power_61 (by decide) ?_
                refine dm_zret (v := nI 0) hC (Or.inl rfl) hK (kn, kz, F2, S2) ⟨hkz, hdn, hnn, Or.inr ⟨fun b2 e2 h9 => ?_, rfl, rfl⟩⟩ hP hD hS dX4_power_62
                have e1 := (nI_eq hbb h9.2.2.1).mp h9.1
                have e3 := (nI_eq hee h9.2.2.2.1).mp h9.2.1
                have h8 := h9.2.2.2.2
                rw [← e1, ← e3] at h8
                exact absurd hbig (Nat.not_le.mpr h8)
        · rintro - ls hv hl
          have hv : dvb 65536 F S = bb ^ ee := hv
          have hfit : bb ^ ee < 4294967296 ^ 2048 := by rw [← hv, ← pow_eq]; exact Nat.lt_of_lt_of_le (d16_lt k3) (Nat.pow_le_pow_right (by decide) k2)
          refine lv_aload_n hx hb dX4_power_69 rfl (lv_at hl 1 rfl) ?_
          refine dm_gov (wr := [(gi, .inl (cC, 65536, .inl ki)), (go, .inl (cC, 65536, .inl ko))]) (dm_rV (n := 0) (As := []) (rest := []) hC hl (c_X4_give l D cB cI cC g gi go gn gr kt kw kz S (nI 0) kv kn F k2 H.size) kco_X4_give ki_X4 kim_X4_give kse_X4_give kml_X4_53 (by decide +kernel) ⟨Nat.le_of_ble_eq_true rfl, Nat.le_of_ble_eq_true rfl⟩ rfl rfl ⟨dm_blind, va_recv hK hP (ci := 4) (q0 := 0) rfl rfl, dm_preU hK hP hD hC.2.2.2.2.2.2.2 [0, 3, 4] (by decide) rfl⟩ rfl rfl (Nat.le_of_ble_eq_true rfl) dX4_power_70 ⟨Nat.le_of_ble_eq_true rfl, Nat.le_of_ble_eq_true rfl⟩) hP hD hS hA [0, 3, 4] [1, 2] rfl rfl (by decide) (by decide) (fun q H locs hg hP hD hS => ?_)
          obtain ⟨kn2, kz2⟩ := q
          have hP : va_P D vwCl [(gi, .inl (cC, 65536, .inl ki)), (go, .inl (cC, 65536, .inl ko)), (g, .inr (4, [.int (nI 0), .int (nI kt), .ref gi, .int (nI kw), .ref go, .int (nI kz2), .ref gn, .int (nI kz2), .ref gr, .long kv])), (gn, .inl (cI, 4096, .inl kn2)), (gr, .inl (cI, 4096, .inl F))] H := hP
          have hD : va_D A [(gi, .inl (cC, 65536, .inl ki)), (go, .inl (cC, 65536, .inl ko)), (g, .inr (4, [.int (nI 0), .int (nI kt), .ref gi, .int (nI kw), .ref go, .int (nI kz2), .ref gn, .int (nI kz2), .ref gr, .long kv])), (gn, .inl (cI, 4096, .inl kn2)), (gr, .inl (cI, 4096, .inl F))] := hD
          have hP := hP.sub (ws' := [(g, .inr (4, [.int (nI 0), .int (nI kt), .ref gi, .int (nI kw), .ref go, .int (nI kz2), .ref gn, .int (nI kz2), .ref gr, .long kv])), (gi, .inl (cC, 65536, .inl ki)), (go, .inl (cC, 65536, .inl ko)), (gn, .inl (cI, 4096, .inl kn2)), (gr, .inl (cI, 4096, .inl F))]) [2, 0, 1, 3, 4] rfl
          have hD := hD.sub (ws' := [(g, .inr (4, [.int (nI 0), .int (nI kt), .ref gi, .int (nI kw), .ref go, .int (nI kz2), .ref gn, .int (nI kz2), .ref gr, .long kv])), (gi, .inl (cC, 65536, .inl ki)), (go, .inl (cC, 65536, .inl ko)), (gn, .inl (cI, 4096, .inl kn2)), (gr, .inl (cI, 4096, .inl F))]) [2, 0, 1, 3, 4] (by decide) rfl
          obtain ⟨g1, g2, g3, g4⟩ := hg
          dsimp only at g1 g2 g3 g4
          refine lv_iconst (v := nI 1) hx hb dX4_power_73 (by decide) ?_
          exact dm_zret (v := nI 1) hC (Or.inr rfl) hK (kn2, kz2, F, kz2) ⟨by show kz2 ≤ 4096; omega, d16_give g4 g1 k3, g3, Or.inl ⟨bb, ee, ⟨rfl, rfl, hbb, hee, hfit⟩, rfl, by show dvb _ kn2 kz2 = _; rw [g2, hv]⟩⟩ hP hD hS dX4_power_74
      · refine lv_iload_n hx hb dX4_power_31 rfl (lv_at hl 2 rfl) ?_
        refine dm_if_le (tgt := 40) hx hb (by omega) dX4_power_32 (by decide) (fun he0 => ?_) (fun he0 => ?_)
        · refine lv_iconst (v := nI 0) hx hb dX4_power_40 (by decide) ?_
          refine lv_istore_n (lv' := [(3, .int (nI 0)), (0, .ref g), (1, .int (nI bb)), (2, .int (nI ee))]) hx hb dX4_power_41 rfl hl (by decide) rfl (fun ls hl => ?_)
          refine dm_loop (nL := 4) (head := 42) (P := fun (y : Nat × (Nat → Int32) × Nat) => y.1 ≤ ee ∧ y.2.2 ≤ 4096 ∧ d16 y.2.1 y.2.2 ∧ dvb 65536 y.2.1 y.2.2 = if bb ≤ 1 then bb ^ ee else bb ^ y.1) (w := fun y => [(g, .inr (4, [.int (nI 0), .int (nI kt), .ref gi, .int (nI kw), .ref go, .int (nI kz), .ref gn, .int (nI y.2.2), .ref gr, .long kv])), (gi, .inl (cC, 65536, .inl ki)), (go, .inl (cC, 65536, .inl ko)), (gn, .inl (cI, 4096, .inl kn)), (gr, .inl (cI, 4096, .inl y.2.1))]) (lv := fun y => [(3, .int (nI y.1)), (0, .ref g), (1, .int (nI bb)), (2, .int (nI ee))]) (μ := fun y => ee - y.1) ?_ (0, upd kr 0 (nI 1), 1) ⟨Nat.zero_le _, by show 1 ≤ 4096; decide, fun j hj => by have hj : j < 1 := hj; show un (upd kr 0 (nI 1) j) < 65536; rw [show j = 0 by omega, pk_us]; decide, by show 0 + un (upd kr 0 (nI 1) 0) * 65536 ^ 0 = if bb ≤ 1 then bb ^ ee else bb ^ 0; rw [pk_us, show un (nI 1) = 1 from rfl, Nat.pow_zero, Nat.pow_zero]; (rw [if_pos (by omega), he0, Nat.pow_zero])⟩ hP hD hS (lv_sub hl [0, 1, 2, 3] rfl)
          rintro ⟨k, F, S⟩ H locs ls ⟨k1, k2, k3, k4⟩ hP hD hS hl ih
          dsimp only at k1 k2 k3 k4
          have hP : va_P D vwCl [(g, .inr (4, [.int (nI 0), .int (nI kt), .ref gi, .int (nI kw), .ref go, .int (nI kz), .ref gn, .int (nI S), .ref gr, .long kv])), (gi, .inl (cC, 65536, .inl ki)), (go, .inl (cC, 65536, .inl ko)), (gn, .inl (cI, 4096, .inl kn)), (gr, .inl (cI, 4096, .inl F))] H := hP
          have hD : va_D A [(g, .inr (4, [.int (nI 0), .int (nI kt), .ref gi, .int (nI kw), .ref go, .int (nI kz), .ref gn, .int (nI S), .ref gr, .long kv])), (gi, .inl (cC, 65536, .inl ki)), (go, .inl (cC, 65536, .inl ko)), (gn, .inl (cI, 4096, .inl kn)), (gr, .inl (cI, 4096, .inl F))] := hD
          have hl : lv_has ls 4 [(3, .int (nI k)), (0, .ref g), (1, .int (nI bb)), (2, .int (nI ee))] := hl
          refine dm_cutR (nL := 4) (σ := Unit) 69 (fun _ => dvb 65536 F S = bb ^ ee) (fun _ => [(3, .int (nI k)), (0, .ref g), (1, .int (nI bb)), (2, .int (nI ee))]) (fun hJ => ?_) ?_
          · refine lv_iload_n hx hb dX4_power_42 rfl (lv_at hl 0 rfl) ?_
            refine lv_iload_n hx hb dX4_power_43 rfl (lv_at hl 3 rfl) ?_
            refine dm_icmp_ge (tgt := 69) hx hb (by omega) (by omega) dX4_power_44 (by decide) (fun hk => ?_) (fun hk => ?_)
            · refine hJ () ls ?_ hl
              rw [k4, show k = ee by omega]
              split <;> rfl
            · refine lv_iload_n hx hb dX4_power_47 rfl (lv_at hl 2 rfl) ?_
              refine lv_iconst (v := nI 1) hx hb dX4_power_48 (by decide) ?_
              refine dm_icmp_le (tgt := 69) hx hb (by omega) (by omega) dX4_power_49 (by decide) (fun hbq => ?_) (fun hbq => ?_)
              · refine hJ () ls ?_ hl
                rw [k4, if_pos hbq]
              · rw [if_neg (by omega)] at k4
                refine lv_aload_n hx hb dX4_power_52 rfl (lv_at hl 1 rfl) ?_
                refine lv_iload_n hx hb dX4_power_53 rfl (lv_at hl 2 rfl) ?_
                refine lv_iconst (v := nI 0) hx hb dX4_power_54 (by decide) ?_
                refine dm_goi (wr := [(gi, .inl (cC, 65536, .inl ki)), (go, .inl (cC, 65536, .inl ko)), (gn, .inl (cI, 4096, .inl kn))]) (dm_rV (n := 2) (As := [.int (nI bb), .int (nI 0)]) (rest := []) hC hl (c_X4_timesAdd l D cB cI cC g gi go gn gr kt kw kz S (nI 0) kv F bb 0 k2 k3 (by omega) hbb (by decide) H.size) kco_X4_timesAdd ki_X4 kim_X4_timesAdd kse_X4_timesAdd kml_X4_49 (by decide +kernel) ⟨Nat.le_of_ble_eq_true rfl, Nat.le_of_ble_eq_true rfl⟩ rfl rfl ⟨dm_blind, va_recv hK hP (ci := 4) (q0 := 0) rfl rfl, dm_preU hK hP hD hC.2.2.2.2.2.2.2 [0, 4] (by decide) rfl⟩ rfl rfl (Nat.le_of_ble_eq_true rfl) dX4_power_55 ⟨Nat.le_of_ble_eq_true rfl, Nat.le_of_ble_eq_true rfl⟩) hP hD hS hA [0, 4] [1, 2, 3] rfl rfl (by decide) (by decide) (fun rb q H locs hw hP hD hS => ?_)
                obtain ⟨F2, S2⟩ := q
                have hP : va_P D vwCl [(gi, .inl (cC, 65536, .inl ki)), (go, .inl (cC, 65536, .inl ko)), (gn, .inl (cI, 4096, .inl kn)), (g, .inr (4, [.int (nI 0), .int (nI kt), .ref gi, .int (nI kw), .ref go, .int (nI kz), .ref gn, .int (nI S2), .ref gr, .long kv])), (gr, .inl (cI, 4096, .inl F2))] H := hP
                have hD : va_D A [(gi, .inl (cC, 65536, .inl ki)), (go, .inl (cC, 65536, .inl ko)), (gn, .inl (cI, 4096, .inl kn)), (g, .inr (4, [.int (nI 0), .int (nI kt), .ref gi, .int (nI kw), .ref go, .int (nI kz), .ref gn, .int (nI S2), .ref gr, .long kv])), (gr, .inl (cI, 4096, .inl F2))] := hD
                have hP := hP.sub (ws' := [(g, .inr (4, [.int (nI 0), .int (nI kt), .ref gi, .int (nI kw), .ref go, .int (nI kz), .ref gn, .int (nI S2), .ref gr, .long kv])), (gi, .inl (cC, 65536, .inl ki)), (go, .inl (cC, 65536, .inl ko)), (gn, .inl (cI, 4096, .inl kn)), (gr, .inl (cI, 4096, .inl F2))]) [3, 0, 1, 2, 4] rfl
                have hD := hD.sub (ws' := [(g, .inr (4, [.int (nI 0), .int (nI kt), .ref gi, .int (nI kw), .ref go, .int (nI kz), .ref gn, .int (nI S2), .ref gr, .long kv])), (gi, .inl (cC, 65536, .inl ki)), (go, .inl (cC, 65536, .inl ko)), (gn, .inl (cI, 4096, .inl kn)), (gr, .inl (cI, 4096, .inl F2))]) [3, 0, 1, 2, 4] (by decide) rfl
                have hpe : bb ^ k * bb = bb ^ (k + 1) := rfl
                rw [k4, Nat.add_zero, hpe] at hw
                dsimp only at hw
                refine lv_if_ne (tgt := 63) hx hb dX4_power_58 (by decide) (fun hb1 => ?_) (fun hb1 => ?_)
                · have hw1 := hw.resolve_right (fun h9 => hb1 h9.1)
                  refine lv_iinc (v := nI (k + 1)) (lv' := [(3, .int (nI (k + 1))), (0, .ref g), (1, .int (nI bb)), (2, .int (nI ee))]) hx hb dX4_power_63 hl (k := 0) rfl ((nI_succ k).symm) (by decide) rfl (fun ls hl => ?_)
                  refine lv_goto (tgt := 42) hx hb dX4_power_66 (by decide) ?_
                  exact ih (k + 1, F2, S2) H locs ls (by show ee - (k + 1) < ee - k; omega) ⟨by show k + 1 ≤ ee; omega, hw1.2.1, hw1.2.2.1, by show dvb _ F2 S2 = if _ then _ else bb ^ (k + 1); rw [if_neg (by omega)]; exact hw1.2.2.2.1⟩ hP hD hS (lv_sub hl [0, 1, 2, 3] rfl)
                · have hw1 := hw.resolve_left (fun h9 => absurd (hb1.symm.trans h9.1) (by decide))
                  have hbig : 4294967296 ^ 2048 ≤ bb ^ ee := by rw [← pow_eq]; exact Nat.le_trans hw1.2.2 (Nat.pow_le_pow_right (by omega) (by omega))
                  refine lv_iconst (v := nI 0) hx hb dX4_power_61 (by decide) ?_
                  refine dm_zret (v := nI 0) hC (Or.inl rfl) hK (kn, kz, F2, S2) ⟨hkz, hdn, hnn, Or.inr ⟨fun b2 e2 h9 => ?_, rfl, rfl⟩⟩ hP hD hS dX4_power_62
                  have e1 := (nI_eq hbb h9.2.2.1).mp h9.1
                  have e3 := (nI_eq hee h9.2.2.2.1).mp h9.2.1
                  have h8 := h9.2.2.2.2
                  rw [← e1, ← e3] at h8
                  exact absurd hbig (Nat.not_le.mpr h8)
          · rintro - ls hv hl
            have hv : dvb 65536 F S = bb ^ ee := hv
            have hfit : bb ^ ee < 4294967296 ^ 2048 := by rw [← hv, ← pow_eq]; exact Nat.lt_of_lt_of_le (d16_lt k3) (Nat.pow_le_pow_right (by decide) k2)
            refine lv_aload_n hx hb dX4_power_69 rfl (lv_at hl 1 rfl) ?_
            refine dm_gov (wr := [(gi, .inl (cC, 65536, .inl ki)), (go, .inl (cC, 65536, .inl ko))]) (dm_rV (n := 0) (As := []) (rest := []) hC hl (c_X4_give l D cB cI cC g gi go gn gr kt kw kz S (nI 0) kv kn F k2 H.size) kco_X4_give ki_X4 kim_X4_give kse_X4_give kml_X4_53 (by decide +kernel) ⟨Nat.le_of_ble_eq_true rfl, Nat.le_of_ble_eq_true rfl⟩ rfl rfl ⟨dm_blind, va_recv hK hP (ci := 4) (q0 := 0) rfl rfl, dm_preU hK hP hD hC.2.2.2.2.2.2.2 [0, 3, 4] (by decide) rfl⟩ rfl rfl (Nat.le_of_ble_eq_true rfl) dX4_power_70 ⟨Nat.le_of_ble_eq_true rfl, Nat.le_of_ble_eq_true rfl⟩) hP hD hS hA [0, 3, 4] [1, 2] rfl rfl (by decide) (by decide) (fun q H locs hg hP hD hS => ?_)
            obtain ⟨kn2, kz2⟩ := q
            have hP : va_P D vwCl [(gi, .inl (cC, 65536, .inl ki)), (go, .inl (cC, 65536, .inl ko)), (g, .inr (4, [.int (nI 0), .int (nI kt), .ref gi, .int (nI kw), .ref go, .int (nI kz2), .ref gn, .int (nI kz2), .ref gr, .long kv])), (gn, .inl (cI, 4096, .inl kn2)), (gr, .inl (cI, 4096, .inl F))] H := hP
            have hD : va_D A [(gi, .inl (cC, 65536, .inl ki)), (go, .inl (cC, 65536, .inl ko)), (g, .inr (4, [.int (nI 0), .int (nI kt), .ref gi, .int (nI kw), .ref go, .int (nI kz2), .ref gn, .int (nI kz2), .ref gr, .long kv])), (gn, .inl (cI, 4096, .inl kn2)), (gr, .inl (cI, 4096, .inl F))] := hD
            have hP := hP.sub (ws' := [(g, .inr (4, [.int (nI 0), .int (nI kt), .ref gi, .int (nI kw), .ref go, .int (nI kz2), .ref gn, .int (nI kz2), .ref gr, .long kv])), (gi, .inl (cC, 65536, .inl ki)), (go, .inl (cC, 65536, .inl ko)), (gn, .inl (cI, 4096, .inl kn2)), (gr, .inl (cI, 4096, .inl F))]) [2, 0, 1, 3, 4] rfl
            have hD := hD.sub (ws' := [(g, .inr (4, [.int (nI 0), .int (nI kt), .ref gi, .int (nI kw), .ref go, .int (nI kz2), .ref gn, .int (nI kz2), .ref gr, .long kv])), (gi, .inl (cC, 65536, .inl ki)), (go, .inl (cC, 65536, .inl ko)), (gn, .inl (cI, 4096, .inl kn2)), (gr, .inl (cI, 4096, .inl F))]) [2, 0, 1, 3, 4] (by decide) rfl
            obtain ⟨g1, g2, g3, g4⟩ := hg
            dsimp only at g1 g2 g3 g4
            refine lv_iconst (v := nI 1) hx hb dX4_power_73 (by decide) ?_
            exact dm_zret (v := nI 1) hC (Or.inr rfl) hK (kn2, kz2, F, kz2) ⟨by show kz2 ≤ 4096; omega, d16_give g4 g1 k3, g3, Or.inl ⟨bb, ee, ⟨rfl, rfl, hbb, hee, hfit⟩, rfl, by show dvb _ kn2 kz2 = _; rw [g2, hv]⟩⟩ hP hD hS dX4_power_74
        · refine lv_aload_n hx hb dX4_power_35 rfl (lv_at hl 0 rfl) ?_
          refine lv_iconst (v := nI 0) hx hb dX4_power_36 (by decide) ?_
          refine va_put (D := D) (ci := 4) (v := .int (nI 0)) (ty := .int) (C := RX4) (T := TX4) (N := 10) hx hb hts kin_X4_w tyX4 tyX4_ok nmX4 hown hK hP hD hS 0 rfl rfl 7 (by decide) (hts _ kfl_X4_28) (fun _ h9 => h9) rfl (by decide +kernel) rfl rfl (Nat.le_of_ble_eq_true rfl) dX4_power_37 (fun H locs hP hD hS => ?_)
          have hP : va_P D vwCl [(g, .inr (4, [.int (nI 0), .int (nI kt), .ref gi, .int (nI kw), .ref go, .int (nI kz), .ref gn, .int (nI 0), .ref gr, .long kv])), (gi, .inl (cC, 65536, .inl ki)), (go, .inl (cC, 65536, .inl ko)), (gn, .inl (cI, 4096, .inl kn)), (gr, .inl (cI, 4096, .inl (upd kr 0 (nI 1))))] H := hP
          have hD : va_D A [(g, .inr (4, [.int (nI 0), .int (nI kt), .ref gi, .int (nI kw), .ref go, .int (nI kz), .ref gn, .int (nI 0), .ref gr, .long kv])), (gi, .inl (cC, 65536, .inl ki)), (go, .inl (cC, 65536, .inl ko)), (gn, .inl (cI, 4096, .inl kn)), (gr, .inl (cI, 4096, .inl (upd kr 0 (nI 1))))] := hD
          refine lv_iconst (v := nI 0) hx hb dX4_power_40 (by decide) ?_
          refine lv_istore_n (lv' := [(3, .int (nI 0)), (0, .ref g), (1, .int (nI bb)), (2, .int (nI ee))]) hx hb dX4_power_41 rfl hl (by decide) rfl (fun ls hl => ?_)
          refine dm_loop (nL := 4) (head := 42) (P := fun (y : Nat × (Nat → Int32) × Nat) => y.1 ≤ ee ∧ y.2.2 ≤ 4096 ∧ d16 y.2.1 y.2.2 ∧ dvb 65536 y.2.1 y.2.2 = if bb ≤ 1 then bb ^ ee else bb ^ y.1) (w := fun y => [(g, .inr (4, [.int (nI 0), .int (nI kt), .ref gi, .int (nI kw), .ref go, .int (nI kz), .ref gn, .int (nI y.2.2), .ref gr, .long kv])), (gi, .inl (cC, 65536, .inl ki)), (go, .inl (cC, 65536, .inl ko)), (gn, .inl (cI, 4096, .inl kn)), (gr, .inl (cI, 4096, .inl y.2.1))]) (lv := fun y => [(3, .int (nI y.1)), (0, .ref g), (1, .int (nI bb)), (2, .int (nI ee))]) (μ := fun y => ee - y.1) ?_ (0, upd kr 0 (nI 1), 0) ⟨Nat.zero_le _, by show 0 ≤ 4096; decide, fun j hj => absurd hj (Nat.not_lt_zero _), by show 0 = if bb ≤ 1 then bb ^ ee else bb ^ 0; rw [if_pos (by omega), hb0, Nat.zero_pow he0]⟩ hP hD hS (lv_sub hl [0, 1, 2, 3] rfl)
          rintro ⟨k, F, S⟩ H locs ls ⟨k1, k2, k3, k4⟩ hP hD hS hl ih
          dsimp only at k1 k2 k3 k4
          have hP : va_P D vwCl [(g, .inr (4, [.int (nI 0), .int (nI kt), .ref gi, .int (nI kw), .ref go, .int (nI kz), .ref gn, .int (nI S), .ref gr, .long kv])), (gi, .inl (cC, 65536, .inl ki)), (go, .inl (cC, 65536, .inl ko)), (gn, .inl (cI, 4096, .inl kn)), (gr, .inl (cI, 4096, .inl F))] H := hP
          have hD : va_D A [(g, .inr (4, [.int (nI 0), .int (nI kt), .ref gi, .int (nI kw), .ref go, .int (nI kz), .ref gn, .int (nI S), .ref gr, .long kv])), (gi, .inl (cC, 65536, .inl ki)), (go, .inl (cC, 65536, .inl ko)), (gn, .inl (cI, 4096, .inl kn)), (gr, .inl (cI, 4096, .inl F))] := hD
          have hl : lv_has ls 4 [(3, .int (nI k)), (0, .ref g), (1, .int (nI bb)), (2, .int (nI ee))] := hl
          refine dm_cutR (nL := 4) (σ := Unit) 69 (fun _ => dvb 65536 F S = bb ^ ee) (fun _ => [(3, .int (nI k)), (0, .ref g), (1, .int (nI bb)), (2, .int (nI ee))]) (fun hJ => ?_) ?_
          · refine lv_iload_n hx hb dX4_power_42 rfl (lv_at hl 0 rfl) ?_
            refine lv_iload_n hx hb dX4_power_43 rfl (lv_at hl 3 rfl) ?_
            refine dm_icmp_ge (tgt := 69) hx hb (by omega) (by omega) dX4_power_44 (by decide) (fun hk => ?_) (fun hk => ?_)
            · refine hJ () ls ?_ hl
              rw [k4, show k = ee by omega]
              split <;> rfl
            · refine lv_iload_n hx hb dX4_power_47 rfl (lv_at hl 2 rfl) ?_
              refine lv_iconst (v := nI 1) hx hb dX4_power_48 (by decide) ?_
              refine dm_icmp_le (tgt := 69) hx hb (by omega) (by omega) dX4_power_49 (by decide) (fun hbq => ?_) (fun hbq => ?_)
              · refine hJ () ls ?_ hl
                rw [k4, if_pos hbq]
              · rw [if_neg (by omega)] at k4
                refine lv_aload_n hx hb dX4_power_52 rfl (lv_at hl 1 rfl) ?_
                refine lv_iload_n hx hb dX4_power_53 rfl (lv_at hl 2 rfl) ?_
                refine lv_iconst (v := nI 0) hx hb dX4_power_54 (by decide) ?_
                refine dm_goi (wr := [(gi, .inl (cC, 65536, .inl ki)), (go, .inl (cC, 65536, .inl ko)), (gn, .inl (cI, 4096, .inl kn))]) (dm_rV (n := 2) (As := [.int (nI bb), .int (nI 0)]) (rest := []) hC hl (c_X4_timesAdd l D cB cI cC g gi go gn gr kt kw kz S (nI 0) kv F bb 0 k2 k3 (by omega) hbb (by decide) H.size) kco_X4_timesAdd ki_X4 kim_X4_timesAdd kse_X4_timesAdd kml_X4_49 (by decide +kernel) ⟨Nat.le_of_ble_eq_true rfl, Nat.le_of_ble_eq_true rfl⟩ rfl rfl ⟨dm_blind, va_recv hK hP (ci := 4) (q0 := 0) rfl rfl, dm_preU hK hP hD hC.2.2.2.2.2.2.2 [0, 4] (by decide) rfl⟩ rfl rfl (Nat.le_of_ble_eq_true rfl) dX4_power_55 ⟨Nat.le_of_ble_eq_true rfl, Nat.le_of_ble_eq_true rfl⟩) hP hD hS hA [0, 4] [1, 2, 3] rfl rfl (by decide) (by decide) (fun rb q H locs hw hP hD hS => ?_)
                obtain ⟨F2, S2⟩ := q
                have hP : va_P D vwCl [(gi, .inl (cC, 65536, .inl ki)), (go, .inl (cC, 65536, .inl ko)), (gn, .inl (cI, 4096, .inl kn)), (g, .inr (4, [.int (nI 0), .int (nI kt), .ref gi, .int (nI kw), .ref go, .int (nI kz), .ref gn, .int (nI S2), .ref gr, .long kv])), (gr, .inl (cI, 4096, .inl F2))] H := hP
                have hD : va_D A [(gi, .inl (cC, 65536, .inl ki)), (go, .inl (cC, 65536, .inl ko)), (gn, .inl (cI, 4096, .inl kn)), (g, .inr (4, [.int (nI 0), .int (nI kt), .ref gi, .int (nI kw), .ref go, .int (nI kz), .ref gn, .int (nI S2), .ref gr, .long kv])), (gr, .inl (cI, 4096, .inl F2))] := hD
                have hP := hP.sub (ws' := [(g, .inr (4, [.int (nI 0), .int (nI kt), .ref gi, .int (nI kw), .ref go, .int (nI kz), .ref gn, .int (nI S2), .ref gr, .long kv])), (gi, .inl (cC, 65536, .inl ki)), (go, .inl (cC, 65536, .inl ko)), (gn, .inl (cI, 4096, .inl kn)), (gr, .inl (cI, 4096, .inl F2))]) [3, 0, 1, 2, 4] rfl
                have hD := hD.sub (ws' := [(g, .inr (4, [.int (nI 0), .int (nI kt), .ref gi, .int (nI kw), .ref go, .int (nI kz), .ref gn, .int (nI S2), .ref gr, .long kv])), (gi, .inl (cC, 65536, .inl ki)), (go, .inl (cC, 65536, .inl ko)), (gn, .inl (cI, 4096, .inl kn)), (gr, .inl (cI, 4096, .inl F2))]) [3, 0, 1, 2, 4] (by decide) rfl
                have hpe : bb ^ k * bb = bb ^ (k + 1) := rfl
                rw [k4, Nat.add_zero, hpe] at hw
                dsimp only at hw
                refine lv_if_ne (tgt := 63) hx hb dX4_power_58 (by decide) (fun hb1 => ?_) (fun hb1 => ?_)
                · have hw1 := hw.resolve_right (fun h9 => hb1 h9.1)
                  refine lv_iinc (v := nI (k + 1)) (lv' := [(3, .int (nI (k + 1))), (0, .ref g), (1, .int (nI bb)), (2, .int (nI ee))]) hx hb dX4_power_63 hl (k := 0) rfl ((nI_succ k).symm) (by decide) rfl (fun ls hl => ?_)
                  refine lv_goto (tgt := 42) hx hb dX4_power_66 (by decide) ?_
                  exact ih (k + 1, F2, S2) H locs ls (by show ee - (k + 1) < ee - k; omega) ⟨by show k + 1 ≤ ee; omega, hw1.2.1, hw1.2.2.1, by show dvb _ F2 S2 = if _ then _ else bb ^ (k + 1); rw [if_neg (by omega)]; exact hw1.2.2.2.1⟩ hP hD hS (lv_sub hl [0, 1, 2, 3] rfl)
                · have hw1 := hw.resolve_left (fun h9 => absurd (hb1.symm.trans h9.1) (by decide))
                  have hbig : 4294967296 ^ 2048 ≤ bb ^ ee := by rw [← pow_eq]; exact Nat.le_trans hw1.2.2 (Nat.pow_le_pow_right (by omega) (by omega))
                  refine lv_iconst (v := nI 0) hx hb dX4_power_61 (by decide) ?_
                  refine dm_zret (v := nI 0) hC (Or.inl rfl) hK (kn, kz, F2, S2) ⟨hkz, hdn, hnn, Or.inr ⟨fun b2 e2 h9 => ?_, rfl, rfl⟩⟩ hP hD hS dX4_power_62
                  have e1 := (nI_eq hbb h9.2.2.1).mp h9.1
                  have e3 := (nI_eq hee h9.2.2.2.1).mp h9.2.1
                  have h8 := h9.2.2.2.2
                  rw [← e1, ← e3] at h8
                  exact absurd hbig (Nat.not_le.mpr h8)
          · rintro - ls hv hl
            have hv : dvb 65536 F S = bb ^ ee := hv
            have hfit : bb ^ ee < 4294967296 ^ 2048 := by rw [← hv, ← pow_eq]; exact Nat.lt_of_lt_of_le (d16_lt k3) (Nat.pow_le_pow_right (by decide) k2)
            refine lv_aload_n hx hb dX4_power_69 rfl (lv_at hl 1 rfl) ?_
            refine dm_gov (wr := [(gi, .inl (cC, 65536, .inl ki)), (go, .inl (cC, 65536, .inl ko))]) (dm_rV (n := 0) (As := []) (rest := []) hC hl (c_X4_give l D cB cI cC g gi go gn gr kt kw kz S (nI 0) kv kn F k2 H.size) kco_X4_give ki_X4 kim_X4_give kse_X4_give kml_X4_53 (by decide +kernel) ⟨Nat.le_of_ble_eq_true rfl, Nat.le_of_ble_eq_true rfl⟩ rfl rfl ⟨dm_blind, va_recv hK hP (ci := 4) (q0 := 0) rfl rfl, dm_preU hK hP hD hC.2.2.2.2.2.2.2 [0, 3, 4] (by decide) rfl⟩ rfl rfl (Nat.le_of_ble_eq_true rfl) dX4_power_70 ⟨Nat.le_of_ble_eq_true rfl, Nat.le_of_ble_eq_true rfl⟩) hP hD hS hA [0, 3, 4] [1, 2] rfl rfl (by decide) (by decide) (fun q H locs hg hP hD hS => ?_)
            obtain ⟨kn2, kz2⟩ := q
            have hP : va_P D vwCl [(gi, .inl (cC, 65536, .inl ki)), (go, .inl (cC, 65536, .inl ko)), (g, .inr (4, [.int (nI 0), .int (nI kt), .ref gi, .int (nI kw), .ref go, .int (nI kz2), .ref gn, .int (nI kz2), .ref gr, .long kv])), (gn, .inl (cI, 4096, .inl kn2)), (gr, .inl (cI, 4096, .inl F))] H := hP
            have hD : va_D A [(gi, .inl (cC, 65536, .inl ki)), (go, .inl (cC, 65536, .inl ko)), (g, .inr (4, [.int (nI 0), .int (nI kt), .ref gi, .int (nI kw), .ref go, .int (nI kz2), .ref gn, .int (nI kz2), .ref gr, .long kv])), (gn, .inl (cI, 4096, .inl kn2)), (gr, .inl (cI, 4096, .inl F))] := hD
            have hP := hP.sub (ws' := [(g, .inr (4, [.int (nI 0), .int (nI kt), .ref gi, .int (nI kw), .ref go, .int (nI kz2), .ref gn, .int (nI kz2), .ref gr, .long kv])), (gi, .inl (cC, 65536, .inl ki)), (go, .inl (cC, 65536, .inl ko)), (gn, .inl (cI, 4096, .inl kn2)), (gr, .inl (cI, 4096, .inl F))]) [2, 0, 1, 3, 4] rfl
            have hD := hD.sub (ws' := [(g, .inr (4, [.int (nI 0), .int (nI kt), .ref gi, .int (nI kw), .ref go, .int (nI kz2), .ref gn, .int (nI kz2), .ref gr, .long kv])), (gi, .inl (cC, 65536, .inl ki)), (go, .inl (cC, 65536, .inl ko)), (gn, .inl (cI, 4096, .inl kn2)), (gr, .inl (cI, 4096, .inl F))]) [2, 0, 1, 3, 4] (by decide) rfl
            obtain ⟨g1, g2, g3, g4⟩ := hg
            dsimp only at g1 g2 g3 g4
            refine lv_iconst (v := nI 1) hx hb dX4_power_73 (by decide) ?_
            exact dm_zret (v := nI 1) hC (Or.inr rfl) hK (kn2, kz2, F, kz2) ⟨by show kz2 ≤ 4096; omega, d16_give g4 g1 k3, g3, Or.inl ⟨bb, ee, ⟨rfl, rfl, hbb, hee, hfit⟩, rfl, by show dvb _ kn2 kz2 = _; rw [g2, hv]⟩⟩ hP hD hS dX4_power_74
    · refine lv_iconst (v := nI 0) hx hb dX4_power_13 (by decide) ?_
      exact dm_zret (v := nI 0) hC (Or.inl rfl) hK (kn, kz, kr, ks) ⟨hkz, hdn, hnn, Or.inr ⟨fun bb ee h9 => by rw [h9.2.1] at h2; exact h2 (nI_pos' h9.2.2.2.1), rfl, rfl⟩⟩ hP hD hS dX4_power_14
