theorem cdv_l {r x : Nat} (h : r ≤ 36) (h2 : 2 ≤ r) : cdv (x % r) < 128 := cdv_lt (by have := Nat.mod_lt x (show 0 < r by omega); omega)
theorem txt_push {c : Nat} {O : Nat → Nat} {f : Nat → Int32} (h : txt c O f) (ho : O c < 128) : txt (c + 1) O (upd f c (nI (O c))) := fun j hj => by
  rcases (show j < c ∨ j = c by omega) with h1 | h1
  · rw [pk_un (by omega)]; exact h j h1
  · rw [h1, pk_us]; exact ⟨rfl, ho⟩
theorem txt_congr {c : Nat} {O O' : Nat → Nat} {f : Nat → Int32} (h : txt c O f) (ho : ∀ j, j < c → O' j = O j) : txt c O' f := fun j hj => by rw [ho j hj]; exact h j hj

set_option maxRecDepth 100000 in
set_option maxHeartbeats 4000000 in
theorem c_X4_write (l : Launch) (D : va_G) (cB cI cC : ClassId) (g gi go gn gr kt kw kz ks : Nat) (th : Int32) (kv : Int64) (ki ko kn kr : Nat → Int32) (x : Int32) (hkw : kw ≤ 65536) (hkz : kz ≤ 4096) (hdn : d16 kn kz) (hnn : nrm kn kz) (hV : ∀ r, 2 ≤ r → dvb 65536 kn kz < r ^ 65536) : MI l yX4_write (Cond.code yX4_write cX4_write 6 (some .int)) 1 D (TY cB cI cC) [.ref g, .int x] [(g, .inr (4, [.int th, .int (nI kt), .ref gi, .int (nI kw), .ref go, .int (nI kz), .ref gn, .int (nI ks), .ref gr, .long kv])), (gi, .inl (cC, 65536, .inl ki)), (go, .inl (cC, 65536, .inl ko)), (gn, .inl (cI, 4096, .inl kn)), (gr, .inl (cI, 4096, .inl kr))] (S := (Nat → Int32) × Nat × (Nat → Int32) × Nat) (fun b q => q.2.1 ≤ 65536 ∧ ((¬ isR x ∧ b = -1 ∧ q.1 = ko ∧ q.2.1 = kw) ∨ (∃ r, 2 ≤ r ∧ r ≤ 36 ∧ x = nI r ∧ b = nI q.2.1 ∧ isND r (dvb 65536 kn kz) q.2.1 ∧ txt q.2.1 (fun j => cdv (dvb 65536 kn kz / r ^ (q.2.1 - 1 - j) % r)) q.1))) (fun q => [(g, .inr (4, [.int (nI 0), .int (nI kt), .ref gi, .int (nI q.2.1), .ref go, .int (nI kz), .ref gn, .int (nI q.2.2.2), .ref gr, .long kv])), (gi, .inl (cC, 65536, .inl ki)), (go, .inl (cC, 65536, .inl q.1)), (gn, .inl (cI, 4096, .inl kn)), (gr, .inl (cI, 4096, .inl q.2.2.1))]) := by
  refine MI.of (by decide) (Nat.le_of_ble_eq_true rfl) ?_
  intro p e s m below meth c ls A hC hA hP hK hD hS hl
  obtain ⟨hx, hb, hr, hml, hown, hts, hlocks, hN⟩ := id hC
  have hown : s.vm.findClass RX4 = some m.cls := hown
  have hl : lv_has ls 6 [(0, .ref g), (1, .int x)] := hl
  refine lv_aload_n hx hb dX4_write_0 rfl (lv_at hl 0 rfl) ?_
  refine lv_iconst (v := nI 0) hx hb dX4_write_1 (by decide) ?_
  refine va_put (D := D) (ci := 4) (v := .int (nI 0)) (ty := .int) (C := RX4) (T := TX4) (N := 10) hx hb hts kin_X4_w tyX4 tyX4_ok nmX4 hown hK hP hD hS 0 rfl rfl 0 (by decide) (hts _ kfl_X4_24) (fun _ h9 => h9) rfl (by decide +kernel) rfl rfl (Nat.le_of_ble_eq_true rfl) dX4_write_2 (fun H locs hP hD hS => ?_)
  have hP : va_P D vwCl [(g, .inr (4, [.int (nI 0), .int (nI kt), .ref gi, .int (nI kw), .ref go, .int (nI kz), .ref gn, .int (nI ks), .ref gr, .long kv])), (gi, .inl (cC, 65536, .inl ki)), (go, .inl (cC, 65536, .inl ko)), (gn, .inl (cI, 4096, .inl kn)), (gr, .inl (cI, 4096, .inl kr))] H := hP
  have hD : va_D A [(g, .inr (4, [.int (nI 0), .int (nI kt), .ref gi, .int (nI kw), .ref go, .int (nI kz), .ref gn, .int (nI ks), .ref gr, .long kv])), (gi, .inl (cC, 65536, .inl ki)), (go, .inl (cC, 65536, .inl ko)), (gn, .inl (cI, 4096, .inl kn)), (gr, .inl (cI, 4096, .inl kr))] := hD
  refine lv_iload_n hx hb dX4_write_5 rfl (lv_at hl 1 rfl) ?_
  refine dm_gori (dm_rS (n := 1) (As := [.int x]) (rest := []) hC hl (c_X4_isRadix l D cB cI cC x H.size) kco_X4_isRadix ki_X4 kst_X4_isRadix kml_X4_41 (by decide +kernel) ⟨Nat.le_of_ble_eq_true rfl, Nat.le_of_ble_eq_true rfl⟩ rfl rfl ⟨dm_blind, dm_preU hK hP hD hC.2.2.2.2.2.2.2 [] (by decide) rfl⟩ rfl rfl (Nat.le_of_ble_eq_true rfl) dX4_write_6 ⟨Nat.le_of_ble_eq_true rfl, Nat.le_of_ble_eq_true rfl⟩) (fun r1 e1 => ?_)
  refine lv_if_ne (tgt := 14) hx hb dX4_write_9 (by decide) (fun hc => ?_) (fun hc => ?_)
  · obtain ⟨⟨r, hr2, hr36, rfl⟩, -⟩ := e1.resolve_right (fun h9 => hc h9.2)
    have hVr := hV r hr2
    refine lv_aload_n hx hb dX4_write_14 rfl (lv_at hl 0 rfl) ?_
    refine dm_gov (wr := [(gi, .inl (cC, 65536, .inl ki)), (go, .inl (cC, 65536, .inl ko))]) (dm_rV (n := 0) (As := []) (rest := []) hC hl (c_X4_take l D cB cI cC g gi go gn gr kt kw kz ks (nI 0) kv kn kr hkz H.size) kco_X4_take ki_X4 kim_X4_take kse_X4_take kml_X4_59 (by decide +kernel) ⟨Nat.le_of_ble_eq_true rfl, Nat.le_of_ble_eq_true rfl⟩ rfl rfl ⟨dm_blind, va_recv hK hP (ci := 4) (q0 := 0) rfl rfl, dm_preU hK hP hD hC.2.2.2.2.2.2.2 [0, 3, 4] (by decide) rfl⟩ rfl rfl (Nat.le_of_ble_eq_true rfl) dX4_write_15 ⟨Nat.le_of_ble_eq_true rfl, Nat.le_of_ble_eq_true rfl⟩) hP hD hS hA [0, 3, 4] [1, 2] rfl rfl (by decide) (by decide) (fun R0 H locs hR0 hP hD hS => ?_)
    have hP : va_P D vwCl [(gi, .inl (cC, 65536, .inl ki)), (go, .inl (cC, 65536, .inl ko)), (g, .inr (4, [.int (nI 0), .int (nI kt), .ref gi, .int (nI kw), .ref go, .int (nI kz), .ref gn, .int (nI kz), .ref gr, .long kv])), (gn, .inl (cI, 4096, .inl kn)), (gr, .inl (cI, 4096, .inl R0))] H := hP
    have hD : va_D A [(gi, .inl (cC, 65536, .inl ki)), (go, .inl (cC, 65536, .inl ko)), (g, .inr (4, [.int (nI 0), .int (nI kt), .ref gi, .int (nI kw), .ref go, .int (nI kz), .ref gn, .int (nI kz), .ref gr, .long kv])), (gn, .inl (cI, 4096, .inl kn)), (gr, .inl (cI, 4096, .inl R0))] := hD
    have hP := hP.sub (ws' := [(g, .inr (4, [.int (nI 0), .int (nI kt), .ref gi, .int (nI kw), .ref go, .int (nI kz), .ref gn, .int (nI kz), .ref gr, .long kv])), (gi, .inl (cC, 65536, .inl ki)), (go, .inl (cC, 65536, .inl ko)), (gn, .inl (cI, 4096, .inl kn)), (gr, .inl (cI, 4096, .inl R0))]) [2, 0, 1, 3, 4] rfl
    have hD := hD.sub (ws' := [(g, .inr (4, [.int (nI 0), .int (nI kt), .ref gi, .int (nI kw), .ref go, .int (nI kz), .ref gn, .int (nI kz), .ref gr, .long kv])), (gi, .inl (cC, 65536, .inl ki)), (go, .inl (cC, 65536, .inl ko)), (gn, .inl (cI, 4096, .inl kn)), (gr, .inl (cI, 4096, .inl R0))]) [2, 0, 1, 3, 4] (by decide) rfl
    have hdR := d16_congr hR0 hdn
    have hnR := nrm_congr hR0 hnn
    have hvR : dvb 65536 R0 kz = dvb 65536 kn kz := dvb_congr hR0
    obtain ⟨V, hVe⟩ : ∃ z, z = dvb 65536 kn kz := ⟨_, rfl⟩
    rw [← hVe] at hVr hvR ⊢
    refine lv_aload_n hx hb dX4_write_18 rfl (lv_at hl 0 rfl) ?_
    refine lv_iconst (v := nI 0) hx hb dX4_write_19 (by decide) ?_
    refine va_put (D := D) (ci := 4) (v := .int (nI 0)) (ty := .int) (C := RX4) (T := TX4) (N := 10) hx hb hts kin_X4_w tyX4 tyX4_ok nmX4 hown hK hP hD hS 0 rfl rfl 3 (by decide) (hts _ kfl_X4_56) (fun _ h9 => h9) rfl (by decide +kernel) rfl rfl (Nat.le_of_ble_eq_true rfl) dX4_write_20 (fun H locs hP hD hS => ?_)
    have hP : va_P D vwCl [(g, .inr (4, [.int (nI 0), .int (nI kt), .ref gi, .int (nI 0), .ref go, .int (nI kz), .ref gn, .int (nI kz), .ref gr, .long kv])), (gi, .inl (cC, 65536, .inl ki)), (go, .inl (cC, 65536, .inl ko)), (gn, .inl (cI, 4096, .inl kn)), (gr, .inl (cI, 4096, .inl R0))] H := hP
    have hD : va_D A [(g, .inr (4, [.int (nI 0), .int (nI kt), .ref gi, .int (nI 0), .ref go, .int (nI kz), .ref gn, .int (nI kz), .ref gr, .long kv])), (gi, .inl (cC, 65536, .inl ki)), (go, .inl (cC, 65536, .inl ko)), (gn, .inl (cI, 4096, .inl kn)), (gr, .inl (cI, 4096, .inl R0))] := hD
    refine lv_iconst (v := nI 1) hx hb dX4_write_23 (by decide) ?_
    refine lv_istore_n (lv' := [(2, .int (nI 1)), (0, .ref g), (1, .int (nI r))]) hx hb dX4_write_24 rfl hl (by decide) rfl (fun ls hl => ?_)
    refine lv_iload_n hx hb dX4_write_25 rfl (lv_at hl 2 rfl) ?_
    refine lv_istore_n (lv' := [(3, .int (nI r)), (2, .int (nI 1)), (0, .ref g), (1, .int (nI r))]) hx hb dX4_write_26 rfl hl (by decide) rfl (fun ls hl => ?_)
    have hl : lv_has ls 6 [(3, .int (nI (r ^ 1))), (2, .int (nI 1)), (0, .ref g), (1, .int (nI r))] := by rw [Nat.pow_one]; exact lv_sub hl [0, 1, 2, 3] rfl
    refine dm_cutR (nL := 6) (σ := Nat) 45 (fun m => 1 ≤ m ∧ m < 32768 ∧ r ^ m < 32768) (fun m => [(3, .int (nI (r ^ m))), (2, .int (nI m)), (0, .ref g), (1, .int (nI r))]) (fun hJ => ?_) ?_
    · refine dm_loopR (nL := 6) 27 (fun m => 1 ≤ m ∧ m < 32768 ∧ r ^ m < 32768) (fun m => [(3, .int (nI (r ^ m))), (2, .int (nI m)), (0, .ref g), (1, .int (nI r))]) (fun m => 32768 - r ^ m) ?_ 1 ⟨Nat.le_refl _, by decide, by rw [Nat.pow_one]; omega⟩ hl
      rintro m ls ⟨hm1, hm2, hm3⟩ hl ih
      have hps : r ^ m * r = r ^ (m + 1) := rfl
      have hbnd : r ^ m * r ≤ 32768 * 36 := Nat.mul_le_mul (by omega) hr36
      refine lv_iload_n hx hb dX4_write_27 rfl (lv_at hl 0 rfl) ?_
      refine lv_iload_n hx hb dX4_write_28 rfl (lv_at hl 3 rfl) ?_
      refine lv_imul hx hb dX4_write_29 ?_
      refine dm_ti (y := nI (r ^ (m + 1))) (pk_mul _ _) ?_
      refine lv_ldc (v := nI 32768) hx hb hown (hts _ kct_X4_62) dX4_write_30 ?_
      refine dm_icmp_ge (tgt := 45) hx hb (by omega) (by omega) dX4_write_32 (by decide) (fun hd => ?_) (fun hd => ?_)
      · exact hJ m ls ⟨hm1, hm2, hm3⟩ hl
      · have hlt : m + 1 < r ^ (m + 1) := Nat.lt_pow_self (by omega)
        have hgr : r ^ m * 2 ≤ r ^ m * r := Nat.mul_le_mul_left _ hr2
        have hpp : 0 < r ^ m := Nat.pow_pos (by omega)
        refine lv_iload_n hx hb dX4_write_35 rfl (lv_at hl 0 rfl) ?_
        refine lv_iload_n hx hb dX4_write_36 rfl (lv_at hl 3 rfl) ?_
        refine lv_imul hx hb dX4_write_37 ?_
        refine dm_ti (y := nI (r ^ (m + 1))) (pk_mul _ _) ?_
        refine lv_istore_n (lv' := [(3, .int (nI (r ^ (m + 1)))), (2, .int (nI m)), (0, .ref g), (1, .int (nI r))]) hx hb dX4_write_38 rfl hl (by decide) rfl (fun ls hl => ?_)
        refine lv_iinc (v := nI (m + 1)) (lv' := [(2, .int (nI (m + 1))), (3, .int (nI (r ^ (m + 1)))), (0, .ref g), (1, .int (nI r))]) hx hb dX4_write_39 hl (k := 1) rfl ((nI_succ m).symm) (by decide) rfl (fun ls hl => ?_)
        refine lv_goto (tgt := 27) hx hb dX4_write_42 (by decide) ?_
        exact ih (m + 1) ls (by omega) ⟨by omega, by omega, hd⟩ (lv_sub hl [1, 0, 2, 3] rfl)
    · rintro m ls ⟨hm1, hm2, hm3⟩ hl
      have hpm : 0 < r ^ m := Nat.pow_pos (by omega)
      refine dm_loop (nL := 6) (head := 45) (P := fun (y : Nat × (Nat → Int32) × (Nat → Int32) × Nat) => y.1 ≤ 65536 ∧ y.2.2.2 ≤ 4096 ∧ d16 y.2.2.1 y.2.2.2 ∧ nrm y.2.2.1 y.2.2.2 ∧ dvb 65536 y.2.2.1 y.2.2.2 = V / r ^ y.1 ∧ (y.1 = 0 ∨ r ^ (y.1 - 1) ≤ V) ∧ txt y.1 (fun i => cdv (V / r ^ i % r)) y.2.1) (w := fun y => [(g, .inr (4, [.int (nI 0), .int (nI kt), .ref gi, .int (nI y.1), .ref go, .int (nI kz), .ref gn, .int (nI y.2.2.2), .ref gr, .long kv])), (gi, .inl (cC, 65536, .inl ki)), (go, .inl (cC, 65536, .inl y.2.1)), (gn, .inl (cI, 4096, .inl kn)), (gr, .inl (cI, 4096, .inl y.2.2.1))]) (lv := fun _ => [(3, .int (nI (r ^ m))), (2, .int (nI m)), (0, .ref g), (1, .int (nI r))]) (μ := fun y => 65536 - y.1) ?_ (0, ko, R0, kz) ⟨Nat.zero_le _, hkz, hdR, hnR, by dsimp only; rw [Nat.pow_zero, Nat.div_one]; exact hvR, Or.inl rfl, fun j hj => absurd hj (Nat.not_lt_zero _)⟩ hP hD hS hl
      rintro ⟨cn, G, F, S⟩ H locs ls ⟨h1, h2, h3, h4, h5, h6, h7⟩ hP hD hS hl ih
      dsimp only at h1 h2 h3 h4 h5 h6 h7
      have hP : va_P D vwCl [(g, .inr (4, [.int (nI 0), .int (nI kt), .ref gi, .int (nI cn), .ref go, .int (nI kz), .ref gn, .int (nI S), .ref gr, .long kv])), (gi, .inl (cC, 65536, .inl ki)), (go, .inl (cC, 65536, .inl G)), (gn, .inl (cI, 4096, .inl kn)), (gr, .inl (cI, 4096, .inl F))] H := hP
      have hD : va_D A [(g, .inr (4, [.int (nI 0), .int (nI kt), .ref gi, .int (nI cn), .ref go, .int (nI kz), .ref gn, .int (nI S), .ref gr, .long kv])), (gi, .inl (cC, 65536, .inl ki)), (go, .inl (cC, 65536, .inl G)), (gn, .inl (cI, 4096, .inl kn)), (gr, .inl (cI, 4096, .inl F))] := hD
      have hl : lv_has ls 6 [(3, .int (nI (r ^ m))), (2, .int (nI m)), (0, .ref g), (1, .int (nI r))] := hl
      refine lv_aload_n hx hb dX4_write_45 rfl (lv_at hl 2 rfl) ?_
      refine va_get (D := D) (ci := 4) (C := RX4) (T := TX4) (N := 10) (v := .int (nI S)) hx hb hts kin_X4_w hown hK hP 0 rfl rfl 7 (by decide) (hts _ kfl_X4_28) (fun _ h9 => h9) rfl dX4_write_46 ?_
      refine dm_if_le (tgt := 121) hx hb (by omega) dX4_write_49 (by decide) (fun hz => ?_) (fun hz => ?_)
      · have hlt : V < r ^ cn := (Nat.div_eq_zero_iff.mp (by rw [← h5, hz]; rfl)).resolve_left (Nat.ne_of_gt (Nat.pow_pos (by omega)))
        refine lv_aload_n hx hb dX4_write_121 rfl (lv_at hl 2 rfl) ?_
        refine va_get (D := D) (ci := 4) (C := RX4) (T := TX4) (N := 10) (v := .int (nI cn)) hx hb hts kin_X4_w hown hK hP 0 rfl rfl 3 (by decide) (hts _ kfl_X4_56) (fun _ h9 => h9) rfl dX4_write_122 ?_
        refine dm_if_ne (tgt := 141) hx hb (by omega) dX4_write_125 (by decide) (fun hw => ?_) (fun hw => ?_)
        · refine lv_aload_n hx hb dX4_write_141 rfl (lv_at hl 2 rfl) ?_
          refine dm_gov (wr := [(gi, .inl (cC, 65536, .inl ki)), (gn, .inl (cI, 4096, .inl kn)), (gr, .inl (cI, 4096, .inl F))]) (dm_rV (n := 0) (As := []) (rest := []) hC hl (c_X4_turnOut l D cB cI cC g gi go gn gr kt cn kz S (nI 0) kv G (fun i => cdv (V / r ^ i % r)) (by omega) (by omega) h7 H.size) kco_X4_turnOut ki_X4 kim_X4_turnOut kse_X4_turnOut kml_X4_70 (by decide +kernel) ⟨Nat.le_of_ble_eq_true rfl, Nat.le_of_ble_eq_true rfl⟩ rfl rfl ⟨dm_blind, va_recv hK hP (ci := 4) (q0 := 0) rfl rfl, dm_preU hK hP hD hC.2.2.2.2.2.2.2 [0, 2] (by decide) rfl⟩ rfl rfl (Nat.le_of_ble_eq_true rfl) dX4_write_142 ⟨Nat.le_of_ble_eq_true rfl, Nat.le_of_ble_eq_true rfl⟩) hP hD hS hA [0, 2] [1, 3, 4] rfl rfl (by decide) (by decide) (fun G9 H locs hG9 hP hD hS => ?_)
          have hP : va_P D vwCl [(gi, .inl (cC, 65536, .inl ki)), (gn, .inl (cI, 4096, .inl kn)), (gr, .inl (cI, 4096, .inl F)), (g, .inr (4, [.int (nI 0), .int (nI kt), .ref gi, .int (nI cn), .ref go, .int (nI kz), .ref gn, .int (nI S), .ref gr, .long kv])), (go, .inl (cC, 65536, .inl G9))] H := hP
          have hD : va_D A [(gi, .inl (cC, 65536, .inl ki)), (gn, .inl (cI, 4096, .inl kn)), (gr, .inl (cI, 4096, .inl F)), (g, .inr (4, [.int (nI 0), .int (nI kt), .ref gi, .int (nI cn), .ref go, .int (nI kz), .ref gn, .int (nI S), .ref gr, .long kv])), (go, .inl (cC, 65536, .inl G9))] := hD
          have hP := hP.sub (ws' := [(g, .inr (4, [.int (nI 0), .int (nI kt), .ref gi, .int (nI cn), .ref go, .int (nI kz), .ref gn, .int (nI S), .ref gr, .long kv])), (gi, .inl (cC, 65536, .inl ki)), (go, .inl (cC, 65536, .inl G9)), (gn, .inl (cI, 4096, .inl kn)), (gr, .inl (cI, 4096, .inl F))]) [3, 0, 4, 1, 2] rfl
          have hD := hD.sub (ws' := [(g, .inr (4, [.int (nI 0), .int (nI kt), .ref gi, .int (nI cn), .ref go, .int (nI kz), .ref gn, .int (nI S), .ref gr, .long kv])), (gi, .inl (cC, 65536, .inl ki)), (go, .inl (cC, 65536, .inl G9)), (gn, .inl (cI, 4096, .inl kn)), (gr, .inl (cI, 4096, .inl F))]) [3, 0, 4, 1, 2] (by decide) rfl
          refine lv_aload_n hx hb dX4_write_145 rfl (lv_at hl 2 rfl) ?_
          refine va_get (D := D) (ci := 4) (C := RX4) (T := TX4) (N := 10) (v := .int (nI cn)) hx hb hts kin_X4_w hown hK hP 0 rfl rfl 3 (by decide) (hts _ kfl_X4_56) (fun _ h9 => h9) rfl dX4_write_146 ?_
          exact dm_iret hC hK (G9, cn, F, S) ⟨by show cn ≤ 65536; omega, Or.inr ⟨r, hr2, hr36, rfl, rfl, ⟨by show 1 ≤ cn; omega, hlt, Or.inr (h6.resolve_left hw)⟩, hG9⟩⟩ hP hD hS dX4_write_149
        · have hV0 : V = 0 := by rw [hw, Nat.pow_zero] at hlt; omega
          refine lv_aload_n hx hb dX4_write_128 rfl (lv_at hl 2 rfl) ?_
          refine va_get (D := D) (ci := 4) (C := RX4) (T := TX4) (N := 10) (v := .ref go) hx hb hts kin_X4_w hown hK hP 0 rfl rfl 4 (by decide) (hts _ kfl_X4_14) (fun _ h9 => h9) rfl dX4_write_129 ?_
          refine lv_iconst (v := nI 0) hx hb dX4_write_132 (by decide) ?_
          refine lv_bipush (v := nI 48) hx hb dX4_write_133 (by decide) ?_
          refine dm_cast (j := 0) (f' := upd G 0 (nI 48)) hx hb hK hP hD hS 2 2 rfl rfl (by omega) (by decide) (by rw [narC (by decide)]) dX4_write_135 (fun H locs hP hD hS => ?_)
          have hP : va_P D vwCl [(g, .inr (4, [.int (nI 0), .int (nI kt), .ref gi, .int (nI cn), .ref go, .int (nI kz), .ref gn, .int (nI S), .ref gr, .long kv])), (gi, .inl (cC, 65536, .inl ki)), (go, .inl (cC, 65536, .inl (upd G 0 (nI 48)))), (gn, .inl (cI, 4096, .inl kn)), (gr, .inl (cI, 4096, .inl F))] H := hP
          have hD : va_D A [(g, .inr (4, [.int (nI 0), .int (nI kt), .ref gi, .int (nI cn), .ref go, .int (nI kz), .ref gn, .int (nI S), .ref gr, .long kv])), (gi, .inl (cC, 65536, .inl ki)), (go, .inl (cC, 65536, .inl (upd G 0 (nI 48)))), (gn, .inl (cI, 4096, .inl kn)), (gr, .inl (cI, 4096, .inl F))] := hD
          refine lv_aload_n hx hb dX4_write_136 rfl (lv_at hl 2 rfl) ?_
          refine lv_iconst (v := nI 1) hx hb dX4_write_137 (by decide) ?_
          refine va_put (D := D) (ci := 4) (v := .int (nI 1)) (ty := .int) (C := RX4) (T := TX4) (N := 10) hx hb hts kin_X4_w tyX4 tyX4_ok nmX4 hown hK hP hD hS 0 rfl rfl 3 (by decide) (hts _ kfl_X4_56) (fun _ h9 => h9) rfl (by decide +kernel) rfl rfl (Nat.le_of_ble_eq_true rfl) dX4_write_138 (fun H locs hP hD hS => ?_)
          have hP : va_P D vwCl [(g, .inr (4, [.int (nI 0), .int (nI kt), .ref gi, .int (nI 1), .ref go, .int (nI kz), .ref gn, .int (nI S), .ref gr, .long kv])), (gi, .inl (cC, 65536, .inl ki)), (go, .inl (cC, 65536, .inl (upd G 0 (nI 48)))), (gn, .inl (cI, 4096, .inl kn)), (gr, .inl (cI, 4096, .inl F))] H := hP
          have hD : va_D A [(g, .inr (4, [.int (nI 0), .int (nI kt), .ref gi, .int (nI 1), .ref go, .int (nI kz), .ref gn, .int (nI S), .ref gr, .long kv])), (gi, .inl (cC, 65536, .inl ki)), (go, .inl (cC, 65536, .inl (upd G 0 (nI 48)))), (gn, .inl (cI, 4096, .inl kn)), (gr, .inl (cI, 4096, .inl F))] := hD
          refine lv_aload_n hx hb dX4_write_141 rfl (lv_at hl 2 rfl) ?_
          have h48 : txt 1 (fun i => cdv (V / r ^ i % r)) (upd G 0 (nI 48)) := fun j hj => by
            rw [show j = 0 by omega, pk_us, hV0]
            dsimp only
            rw [Nat.zero_div, Nat.zero_mod]
            exact ⟨rfl, by decide⟩
          refine dm_gov (wr := [(gi, .inl (cC, 65536, .inl ki)), (gn, .inl (cI, 4096, .inl kn)), (gr, .inl (cI, 4096, .inl F))]) (dm_rV (n := 0) (As := []) (rest := []) hC hl (c_X4_turnOut l D cB cI cC g gi go gn gr kt 1 kz S (nI 0) kv (upd G 0 (nI 48)) (fun i => cdv (V / r ^ i % r)) (by omega) (by omega) h48 H.size) kco_X4_turnOut ki_X4 kim_X4_turnOut kse_X4_turnOut kml_X4_70 (by decide +kernel) ⟨Nat.le_of_ble_eq_true rfl, Nat.le_of_ble_eq_true rfl⟩ rfl rfl ⟨dm_blind, va_recv hK hP (ci := 4) (q0 := 0) rfl rfl, dm_preU hK hP hD hC.2.2.2.2.2.2.2 [0, 2] (by decide) rfl⟩ rfl rfl (Nat.le_of_ble_eq_true rfl) dX4_write_142 ⟨Nat.le_of_ble_eq_true rfl, Nat.le_of_ble_eq_true rfl⟩) hP hD hS hA [0, 2] [1, 3, 4] rfl rfl (by decide) (by decide) (fun G9 H locs hG9 hP hD hS => ?_)
          have hP : va_P D vwCl [(gi, .inl (cC, 65536, .inl ki)), (gn, .inl (cI, 4096, .inl kn)), (gr, .inl (cI, 4096, .inl F)), (g, .inr (4, [.int (nI 0), .int (nI kt), .ref gi, .int (nI 1), .ref go, .int (nI kz), .ref gn, .int (nI S), .ref gr, .long kv])), (go, .inl (cC, 65536, .inl G9))] H := hP
          have hD : va_D A [(gi, .inl (cC, 65536, .inl ki)), (gn, .inl (cI, 4096, .inl kn)), (gr, .inl (cI, 4096, .inl F)), (g, .inr (4, [.int (nI 0), .int (nI kt), .ref gi, .int (nI 1), .ref go, .int (nI kz), .ref gn, .int (nI S), .ref gr, .long kv])), (go, .inl (cC, 65536, .inl G9))] := hD
          have hP := hP.sub (ws' := [(g, .inr (4, [.int (nI 0), .int (nI kt), .ref gi, .int (nI 1), .ref go, .int (nI kz), .ref gn, .int (nI S), .ref gr, .long kv])), (gi, .inl (cC, 65536, .inl ki)), (go, .inl (cC, 65536, .inl G9)), (gn, .inl (cI, 4096, .inl kn)), (gr, .inl (cI, 4096, .inl F))]) [3, 0, 4, 1, 2] rfl
          have hD := hD.sub (ws' := [(g, .inr (4, [.int (nI 0), .int (nI kt), .ref gi, .int (nI 1), .ref go, .int (nI kz), .ref gn, .int (nI S), .ref gr, .long kv])), (gi, .inl (cC, 65536, .inl ki)), (go, .inl (cC, 65536, .inl G9)), (gn, .inl (cI, 4096, .inl kn)), (gr, .inl (cI, 4096, .inl F))]) [3, 0, 4, 1, 2] (by decide) rfl
          refine lv_aload_n hx hb dX4_write_145 rfl (lv_at hl 2 rfl) ?_
          refine va_get (D := D) (ci := 4) (C := RX4) (T := TX4) (N := 10) (v := .int (nI 1)) hx hb hts kin_X4_w hown hK hP 0 rfl rfl 3 (by decide) (hts _ kfl_X4_56) (fun _ h9 => h9) rfl dX4_write_146 ?_
          exact dm_iret hC hK (G9, 1, F, S) ⟨by show 1 ≤ 65536; omega, Or.inr ⟨r, hr2, hr36, rfl, rfl, ⟨Nat.le_refl _, by rw [hV0]; exact Nat.pow_pos (by omega), Or.inl rfl⟩, hG9⟩⟩ hP hD hS dX4_write_149
      · have hVt : 0 < V / r ^ cn := by
          obtain ⟨k, rfl⟩ : ∃ k, S = k + 1 := ⟨S - 1, by omega⟩
          rw [← h5]
          exact Nat.lt_of_lt_of_le (Nat.pow_pos (by decide)) (nrm16_ge h4)
        obtain ⟨Vt, hVte⟩ : ∃ z, z = V / r ^ cn := ⟨_, rfl⟩
        rw [← hVte] at h5 hVt
        refine lv_aload_n hx hb dX4_write_52 rfl (lv_at hl 2 rfl) ?_
        refine lv_iload_n hx hb dX4_write_53 rfl (lv_at hl 0 rfl) ?_
        refine dm_goi (wr := [(gi, .inl (cC, 65536, .inl ki)), (go, .inl (cC, 65536, .inl G)), (gn, .inl (cI, 4096, .inl kn))]) (dm_rV (n := 1) (As := [.int (nI (r ^ m))]) (rest := []) hC hl (c_X4_divide l D cB cI cC g gi go gn gr kt cn kz S (nI 0) kv F (r ^ m) h2 h3 hpm (by omega) H.size) kco_X4_divide ki_X4 kim_X4_divide kse_X4_divide kml_X4_63 (by decide +kernel) ⟨Nat.le_of_ble_eq_true rfl, Nat.le_of_ble_eq_true rfl⟩ rfl rfl ⟨dm_blind, va_recv hK hP (ci := 4) (q0 := 0) rfl rfl, dm_preU hK hP hD hC.2.2.2.2.2.2.2 [0, 4] (by decide) rfl⟩ rfl rfl (Nat.le_of_ble_eq_true rfl) dX4_write_54 ⟨Nat.le_of_ble_eq_true rfl, Nat.le_of_ble_eq_true rfl⟩) hP hD hS hA [0, 4] [1, 2, 3] rfl rfl (by decide) (by decide) (fun rv q H locs hd9 hP hD hS => ?_)
        obtain ⟨F2, S2⟩ := q
        have hP : va_P D vwCl [(gi, .inl (cC, 65536, .inl ki)), (go, .inl (cC, 65536, .inl G)), (gn, .inl (cI, 4096, .inl kn)), (g, .inr (4, [.int (nI 0), .int (nI kt), .ref gi, .int (nI cn), .ref go, .int (nI kz), .ref gn, .int (nI S2), .ref gr, .long kv])), (gr, .inl (cI, 4096, .inl F2))] H := hP
        have hD : va_D A [(gi, .inl (cC, 65536, .inl ki)), (go, .inl (cC, 65536, .inl G)), (gn, .inl (cI, 4096, .inl kn)), (g, .inr (4, [.int (nI 0), .int (nI kt), .ref gi, .int (nI cn), .ref go, .int (nI kz), .ref gn, .int (nI S2), .ref gr, .long kv])), (gr, .inl (cI, 4096, .inl F2))] := hD
        have hP := hP.sub (ws' := [(g, .inr (4, [.int (nI 0), .int (nI kt), .ref gi, .int (nI cn), .ref go, .int (nI kz), .ref gn, .int (nI S2), .ref gr, .long kv])), (gi, .inl (cC, 65536, .inl ki)), (go, .inl (cC, 65536, .inl G)), (gn, .inl (cI, 4096, .inl kn)), (gr, .inl (cI, 4096, .inl F2))]) [3, 0, 1, 2, 4] rfl
        have hD := hD.sub (ws' := [(g, .inr (4, [.int (nI 0), .int (nI kt), .ref gi, .int (nI cn), .ref go, .int (nI kz), .ref gn, .int (nI S2), .ref gr, .long kv])), (gi, .inl (cC, 65536, .inl ki)), (go, .inl (cC, 65536, .inl G)), (gn, .inl (cI, 4096, .inl kn)), (gr, .inl (cI, 4096, .inl F2))]) [3, 0, 1, 2, 4] (by decide) rfl
        obtain ⟨d1, d2, d3, d4, d5⟩ := hd9
        dsimp only at d2 d3 d4 d5
        rw [h5] at d1 d4
        subst d1
        have hPb : Vt % r ^ m < r ^ m := Nat.mod_lt _ hpm
        refine lv_istore (lv' := [(4, .int (nI (Vt % r ^ m))), (3, .int (nI (r ^ m))), (2, .int (nI m)), (0, .ref g), (1, .int (nI r))]) hx hb dX4_write_57 hl (by decide) rfl (fun ls hl => ?_)
        refine lv_iconst (v := nI 0) hx hb dX4_write_59 (by decide) ?_
        refine lv_istore (lv' := [(5, .int (nI 0)), (4, .int (nI (Vt % r ^ m))), (3, .int (nI (r ^ m))), (2, .int (nI m)), (0, .ref g), (1, .int (nI r))]) hx hb dX4_write_60 hl (by decide) rfl (fun ls hl => ?_)
        have hl : lv_has ls 6 [(5, .int (nI 0)), (4, .int (nI (Vt % r ^ m / r ^ 0))), (3, .int (nI (r ^ m))), (2, .int (nI m)), (0, .ref g), (1, .int (nI r))] := by rw [Nat.pow_zero, Nat.div_one]; exact lv_sub hl [0, 1, 2, 3, 4, 5] rfl
        refine dm_loop (nL := 6) (head := 62) (P := fun (y : Nat × (Nat → Int32)) => y.1 ≤ m ∧ cn + y.1 ≤ 65536 ∧ (cn + y.1 = 0 ∨ r ^ (cn + y.1 - 1) ≤ V) ∧ txt (cn + y.1) (fun i => cdv (V / r ^ i % r)) y.2) (w := fun y => [(g, .inr (4, [.int (nI 0), .int (nI kt), .ref gi, .int (nI (cn + y.1)), .ref go, .int (nI kz), .ref gn, .int (nI S2), .ref gr, .long kv])), (gi, .inl (cC, 65536, .inl ki)), (go, .inl (cC, 65536, .inl y.2)), (gn, .inl (cI, 4096, .inl kn)), (gr, .inl (cI, 4096, .inl F2))]) (lv := fun y => [(5, .int (nI y.1)), (4, .int (nI (Vt % r ^ m / r ^ y.1))), (3, .int (nI (r ^ m))), (2, .int (nI m)), (0, .ref g), (1, .int (nI r))]) (μ := fun y => m - y.1) ?_ (0, G) ⟨Nat.zero_le _, h1, h6, h7⟩ hP hD hS hl
        rintro ⟨k, G2⟩ H locs ls ⟨k1, k2, k3, k4⟩ hP hD hS hl ih2
        dsimp only at k1 k2 k3 k4
        have hP : va_P D vwCl [(g, .inr (4, [.int (nI 0), .int (nI kt), .ref gi, .int (nI (cn + k)), .ref go, .int (nI kz), .ref gn, .int (nI S2), .ref gr, .long kv])), (gi, .inl (cC, 65536, .inl ki)), (go, .inl (cC, 65536, .inl G2)), (gn, .inl (cI, 4096, .inl kn)), (gr, .inl (cI, 4096, .inl F2))] H := hP
        have hD : va_D A [(g, .inr (4, [.int (nI 0), .int (nI kt), .ref gi, .int (nI (cn + k)), .ref go, .int (nI kz), .ref gn, .int (nI S2), .ref gr, .long kv])), (gi, .inl (cC, 65536, .inl ki)), (go, .inl (cC, 65536, .inl G2)), (gn, .inl (cI, 4096, .inl kn)), (gr, .inl (cI, 4096, .inl F2))] := hD
        have hl : lv_has ls 6 [(5, .int (nI k)), (4, .int (nI (Vt % r ^ m / r ^ k))), (3, .int (nI (r ^ m))), (2, .int (nI m)), (0, .ref g), (1, .int (nI r))] := hl
        have hQb : Vt % r ^ m / r ^ k ≤ Vt % r ^ m := Nat.div_le_self _ _
        refine dm_cutR (nL := 6) (σ := Unit) 80 (fun _ => k < m ∧ r ^ (cn + k) ≤ V) (fun _ => [(5, .int (nI k)), (4, .int (nI (Vt % r ^ m / r ^ k))), (3, .int (nI (r ^ m))), (2, .int (nI m)), (0, .ref g), (1, .int (nI r))]) (fun hJ => ?_) ?_
        · refine lv_iload hx hb dX4_write_62 (lv_at hl 0 rfl) ?_
          refine lv_iload_n hx hb dX4_write_64 rfl (lv_at hl 3 rfl) ?_
          refine dm_icmp_ge (tgt := 118) hx hb (by omega) (by omega) dX4_write_65 (by decide) (fun hk => ?_) (fun hk => ?_)
          · have hkm : k = m := by omega
            refine lv_goto (tgt := 45) hx hb dX4_write_118 (by decide) ?_
            exact ih (cn + k, G2, F2, S2) H locs ls (by show 65536 - (cn + k) < 65536 - cn; have h9 : 0 < k := (by omega); omega) ⟨k2, by show S2 ≤ 4096; omega, d3, d5, by show dvb _ F2 S2 = V / r ^ (cn + k); rw [d4]; rw [hVte, div_pow_add, hkm], k3, k4⟩ hP hD hS (lv_sub hl [2, 3, 4, 5] rfl)
          · refine lv_aload_n hx hb dX4_write_68 rfl (lv_at hl 4 rfl) ?_
            refine va_get (D := D) (ci := 4) (C := RX4) (T := TX4) (N := 10) (v := .int (nI S2)) hx hb hts kin_X4_w hown hK hP 0 rfl rfl 7 (by decide) (hts _ kfl_X4_28) (fun _ h9 => h9) rfl dX4_write_69 ?_
            refine dm_if_gt (tgt := 80) hx hb (by omega) dX4_write_72 (by decide) (fun hs => ?_) (fun hs => ?_)
            · have hq1 : 0 < Vt / r ^ m := by
                obtain ⟨j, rfl⟩ : ∃ j, S2 = j + 1 := ⟨S2 - 1, by omega⟩
                rw [← d4]
                exact Nat.lt_of_lt_of_le (Nat.pow_pos (by decide)) (nrm16_ge d5)
              have hV1 : r ^ (cn + m) ≤ V := by
                refine pow_le_of_div (by omega) ?_
                rw [← hVte]
                have h9 := pow_le_of_div (V := Vt) (r := r) (c := m) (k := 0) (by omega) (by rw [Nat.pow_zero]; exact hq1)
                exact h9
              exact hJ () ls ⟨hk, Nat.le_trans (Nat.pow_le_pow_right (by omega) (by omega)) hV1⟩ hl
            · have hq0 : Vt / r ^ m = 0 := by rw [← d4, hs]; rfl
              have hPe : Vt % r ^ m = Vt := Nat.mod_eq_of_lt ((Nat.div_eq_zero_iff.mp hq0).resolve_left (Nat.ne_of_gt hpm))
              refine lv_iload hx hb dX4_write_75 (lv_at hl 1 rfl) ?_
              refine dm_if_le (tgt := 118) hx hb (by omega) dX4_write_77 (by decide) (fun hv => ?_) (fun hv => ?_)
              · rw [hPe] at hv
                refine lv_goto (tgt := 45) hx hb dX4_write_118 (by decide) ?_
                exact ih (cn + k, G2, F2, S2) H locs ls (by show 65536 - (cn + k) < 65536 - cn; have h9 : 0 < k := Nat.pos_of_ne_zero (fun h9 => by rw [h9, Nat.pow_zero, Nat.div_one] at hv; omega); omega) ⟨k2, by show S2 ≤ 4096; omega, d3, d5, by show dvb _ F2 S2 = V / r ^ (cn + k); rw [d4]; rw [hq0, ← div_pow_add, ← hVte, hv], k3, k4⟩ hP hD hS (lv_sub hl [2, 3, 4, 5] rfl)
              · rw [hPe] at hv
                have hge : r ^ k ≤ Vt := Nat.le_of_not_lt (fun h9 => by have := Nat.div_eq_of_lt h9; omega)
                exact hJ () ls ⟨hk, pow_le_of_div (by omega) (by rw [← hVte]; exact hge)⟩ hl
        · rintro - ls ⟨hkm, hkV⟩ hl
          have hck := (Nat.pow_lt_pow_iff_right (show 1 < r by omega)).mp (Nat.lt_of_le_of_lt hkV hVr)
          have hdig : Vt % r ^ m / r ^ k % r = V / r ^ (cn + k) % r := by rw [mod_digit (by omega) hkm, hVte, div_pow_add]
          have hml9 : V / r ^ (cn + k) % r < r := Nat.mod_lt _ (by omega)
          refine lv_aload_n hx hb dX4_write_80 rfl (lv_at hl 4 rfl) ?_
          refine va_get (D := D) (ci := 4) (C := RX4) (T := TX4) (N := 10) (v := .ref go) hx hb hts kin_X4_w hown hK hP 0 rfl rfl 4 (by decide) (hts _ kfl_X4_14) (fun _ h9 => h9) rfl dX4_write_81 ?_
          refine lv_aload_n hx hb dX4_write_84 rfl (lv_at hl 4 rfl) ?_
          refine va_get (D := D) (ci := 4) (C := RX4) (T := TX4) (N := 10) (v := .int (nI (cn + k))) hx hb hts kin_X4_w hown hK hP 0 rfl rfl 3 (by decide) (hts _ kfl_X4_56) (fun _ h9 => h9) rfl dX4_write_85 ?_
          refine lv_iload hx hb dX4_write_88 (lv_at hl 1 rfl) ?_
          refine lv_iload_n hx hb dX4_write_90 rfl (lv_at hl 5 rfl) ?_
          refine lv_irem hx hb dX4_write_91 (nI_ne0 (by omega) (by omega)) ?_
          refine dm_ti (y := nI (V / r ^ (cn + k) % r)) (by rw [pk_rem (by omega) (by omega) (by omega), hdig]) ?_
          refine dm_gori (dm_rS (n := 1) (As := [.int (nI (V / r ^ (cn + k) % r))]) (rest := [.int (nI (cn + k)), .ref go]) hC hl (c_X4_character l D cB cI cC (V / r ^ (cn + k) % r) (by omega) H.size) kco_X4_character ki_X4 kst_X4_character kml_X4_66 (by decide +kernel) ⟨Nat.le_of_ble_eq_true rfl, Nat.le_of_ble_eq_true rfl⟩ rfl rfl ⟨dm_blind, dm_preU hK hP hD hC.2.2.2.2.2.2.2 [] (by decide) rfl⟩ rfl rfl (Nat.le_of_ble_eq_true rfl) dX4_write_92 ⟨Nat.le_of_ble_eq_true rfl, Nat.le_of_ble_eq_true rfl⟩) (fun r9 e9 => ?_)
          subst e9
          refine dm_cast (j := (cn + k)) (f' := upd G2 (cn + k) (nI (cdv (V / r ^ (cn + k) % r)))) hx hb hK hP hD hS 2 2 rfl rfl (by omega) (by decide) (by rw [narC (cdv_l hr36 hr2)]) dX4_write_95 (fun H locs hP hD hS => ?_)
          have hP : va_P D vwCl [(g, .inr (4, [.int (nI 0), .int (nI kt), .ref gi, .int (nI (cn + k)), .ref go, .int (nI kz), .ref gn, .int (nI S2), .ref gr, .long kv])), (gi, .inl (cC, 65536, .inl ki)), (go, .inl (cC, 65536, .inl (upd G2 (cn + k) (nI (cdv (V / r ^ (cn + k) % r)))))), (gn, .inl (cI, 4096, .inl kn)), (gr, .inl (cI, 4096, .inl F2))] H := hP
          have hD : va_D A [(g, .inr (4, [.int (nI 0), .int (nI kt), .ref gi, .int (nI (cn + k)), .ref go, .int (nI kz), .ref gn, .int (nI S2), .ref gr, .long kv])), (gi, .inl (cC, 65536, .inl ki)), (go, .inl (cC, 65536, .inl (upd G2 (cn + k) (nI (cdv (V / r ^ (cn + k) % r)))))), (gn, .inl (cI, 4096, .inl kn)), (gr, .inl (cI, 4096, .inl F2))] := hD
          refine lv_aload_n hx hb dX4_write_96 rfl (lv_at hl 4 rfl) ?_
          refine lv_dup hx hb dX4_write_97 rfl ?_
          refine va_get (D := D) (ci := 4) (C := RX4) (T := TX4) (N := 10) (v := .int (nI (cn + k))) hx hb hts kin_X4_w hown hK hP 0 rfl rfl 3 (by decide) (hts _ kfl_X4_56) (fun _ h9 => h9) rfl dX4_write_98 ?_
          refine lv_iconst (v := nI 1) hx hb dX4_write_101 (by decide) ?_
          refine lv_iadd hx hb dX4_write_102 ?_
          refine dm_ti (y := nI (cn + (k + 1))) (nI_1 _) ?_
          refine va_put (D := D) (ci := 4) (v := .int (nI (cn + (k + 1)))) (ty := .int) (C := RX4) (T := TX4) (N := 10) hx hb hts kin_X4_w tyX4 tyX4_ok nmX4 hown hK hP hD hS 0 rfl rfl 3 (by decide) (hts _ kfl_X4_56) (fun _ h9 => h9) rfl (by decide +kernel) rfl rfl (Nat.le_of_ble_eq_true rfl) dX4_write_103 (fun H locs hP hD hS => ?_)
          have hP : va_P D vwCl [(g, .inr (4, [.int (nI 0), .int (nI kt), .ref gi, .int (nI (cn + (k + 1))), .ref go, .int (nI kz), .ref gn, .int (nI S2), .ref gr, .long kv])), (gi, .inl (cC, 65536, .inl ki)), (go, .inl (cC, 65536, .inl (upd G2 (cn + k) (nI (cdv (V / r ^ (cn + k) % r)))))), (gn, .inl (cI, 4096, .inl kn)), (gr, .inl (cI, 4096, .inl F2))] H := hP
          have hD : va_D A [(g, .inr (4, [.int (nI 0), .int (nI kt), .ref gi, .int (nI (cn + (k + 1))), .ref go, .int (nI kz), .ref gn, .int (nI S2), .ref gr, .long kv])), (gi, .inl (cC, 65536, .inl ki)), (go, .inl (cC, 65536, .inl (upd G2 (cn + k) (nI (cdv (V / r ^ (cn + k) % r)))))), (gn, .inl (cI, 4096, .inl kn)), (gr, .inl (cI, 4096, .inl F2))] := hD
          refine lv_iload hx hb dX4_write_106 (lv_at hl 1 rfl) ?_
          refine lv_iload_n hx hb dX4_write_108 rfl (lv_at hl 5 rfl) ?_
          refine lv_idiv hx hb dX4_write_109 (nI_ne0 (by omega) (by omega)) ?_
          refine dm_ti (y := nI (Vt % r ^ m / r ^ (k + 1))) (by rw [pk_div (by omega) (by omega) (by omega), Nat.div_div_eq_div_mul, ← Nat.pow_succ]) ?_
          refine lv_istore (lv' := [(4, .int (nI (Vt % r ^ m / r ^ (k + 1)))), (5, .int (nI k)), (3, .int (nI (r ^ m))), (2, .int (nI m)), (0, .ref g), (1, .int (nI r))]) hx hb dX4_write_110 hl (by decide) rfl (fun ls hl => ?_)
          refine lv_iinc (v := nI (k + 1)) (lv' := [(5, .int (nI (k + 1))), (4, .int (nI (Vt % r ^ m / r ^ (k + 1)))), (3, .int (nI (r ^ m))), (2, .int (nI m)), (0, .ref g), (1, .int (nI r))]) hx hb dX4_write_112 hl (k := 1) rfl ((nI_succ k).symm) (by decide) rfl (fun ls hl => ?_)
          refine lv_goto (tgt := 62) hx hb dX4_write_115 (by decide) ?_
          exact ih2 (k + 1, upd G2 (cn + k) (nI (cdv (V / r ^ (cn + k) % r)))) H locs ls (by show m - (k + 1) < m - k; omega) ⟨by show k + 1 ≤ m; omega, by show cn + (k + 1) ≤ 65536; omega, Or.inr (by show r ^ (cn + (k + 1) - 1) ≤ V; rw [show cn + (k + 1) - 1 = cn + k by omega]; exact hkV), txt_push (O := (fun i => cdv (V / r ^ i % r))) k4 (cdv_l hr36 hr2)⟩ hP hD hS (lv_sub hl [0, 1, 2, 3, 4, 5] rfl)
  · have e2 := e1.resolve_left (fun h9 => absurd (hc.symm.trans h9.2) (by decide))
    refine lv_iconst (v := -1) hx hb dX4_write_12 (by decide) ?_
    exact dm_iret hC hK (ko, kw, kr, ks) ⟨hkw, Or.inl ⟨e2.1, rfl, rfl, rfl⟩⟩ hP hD hS dX4_write_13
