theorem pow_eq : (65536 : Nat) ^ 4096 = 4294967296 ^ 2048 := by rw [show (4096 : Nat) = 2 * 2048 from rfl, Nat.pow_mul]
theorem dgm_lt {c r : Nat} (hr : r ≤ 36) : dgm c < r ↔ dgv c < r := by
  unfold dgm
  split <;> omega
theorem dgm_eq {c r : Nat} (hr : r ≤ 36) (h : dgv c < r) : dgm c = dgv c := if_pos (by omega)
theorem dgm_b (c : Nat) : dgm c < 100 := by unfold dgm; split <;> omega
theorem d16_give {f g : Nat → Int32} {n k : Nat} (h : ∀ j, j < k → g j = f j) (hk : k ≤ n) (hd : d16 f n) : d16 g k := fun j hj => by rw [h j hj]; exact hd j (by omega)
theorem d16_congr {f g : Nat → Int32} {n : Nat} (h : ∀ j, j < n → g j = f j) (hd : d16 f n) : d16 g n := fun j hj => by rw [h j hj]; exact hd j hj

set_option maxRecDepth 100000 in
set_option maxHeartbeats 4000000 in
theorem c_X4_read (l : Launch) (D : va_G) (cB cI cC : ClassId) (g gi go gn gr kt kw kz ks : Nat) (th : Int32) (kv : Int64) (ki ko kn kr : Nat → Int32) (x : Int32) (T : Nat → Nat) (hkt : kt ≤ 65536) (htx : txt kt T ki) (hkz : kz ≤ 4096) (hdn : d16 kn kz) (hnn : nrm kn kz) : MI l yX4_read (Cond.code yX4_read cX4_read 4 (some .int)) 1 D (TY cB cI cC) [.ref g, .int x] [(g, .inr (4, [.int th, .int (nI kt), .ref gi, .int (nI kw), .ref go, .int (nI kz), .ref gn, .int (nI ks), .ref gr, .long kv])), (gi, .inl (cC, 65536, .inl ki)), (go, .inl (cC, 65536, .inl ko)), (gn, .inl (cI, 4096, .inl kn)), (gr, .inl (cI, 4096, .inl kr))] (S := (Nat → Int32) × Nat × (Nat → Int32) × Nat × Nat) (fun b q => q.2.1 ≤ 4096 ∧ d16 q.1 q.2.1 ∧ nrm q.1 q.2.1 ∧ ((¬ isR x ∧ b = -3 ∧ q.2.2.2.2 = kt ∧ dvb 65536 q.1 q.2.1 = dvb 65536 kn kz) ∨ (∃ r, 2 ≤ r ∧ r ≤ 36 ∧ x = nI r ∧ b = rdA r kt T ∧ q.2.2.2.2 = 0 ∧ dvb 65536 q.1 q.2.1 = rdV r kt T (dvb 65536 kn kz)))) (fun q => [(g, .inr (4, [.int (nI 0), .int (nI q.2.2.2.2), .ref gi, .int (nI kw), .ref go, .int (nI q.2.1), .ref gn, .int (nI q.2.2.2.1), .ref gr, .long kv])), (gi, .inl (cC, 65536, .inl ki)), (go, .inl (cC, 65536, .inl ko)), (gn, .inl (cI, 4096, .inl q.1)), (gr, .inl (cI, 4096, .inl q.2.2.1))]) := by
  refine MI.of (by decide) (Nat.le_of_ble_eq_true rfl) ?_
  intro p e s m below meth c ls A hC hA hP hK hD hS hl
  obtain ⟨hx, hb, hr, hml, hown, hts, hlocks, hN⟩ := id hC
  have hown : s.vm.findClass RX4 = some m.cls := hown
  have hl : lv_has ls 4 [(0, .ref g), (1, .int x)] := hl
  refine lv_aload_n hx hb dX4_read_0 rfl (lv_at hl 0 rfl) ?_
  refine lv_iconst (v := nI 0) hx hb dX4_read_1 (by decide) ?_
  refine va_put (D := D) (ci := 4) (v := .int (nI 0)) (ty := .int) (C := RX4) (T := TX4) (N := 10) hx hb hts kin_X4_w tyX4 tyX4_ok nmX4 hown hK hP hD hS 0 rfl rfl 0 (by decide) (hts _ kfl_X4_24) (fun _ h9 => h9) rfl (by decide +kernel) rfl rfl (Nat.le_of_ble_eq_true rfl) dX4_read_2 (fun H locs hP hD hS => ?_)
  have hP : va_P D vwCl [(g, .inr (4, [.int (nI 0), .int (nI kt), .ref gi, .int (nI kw), .ref go, .int (nI kz), .ref gn, .int (nI ks), .ref gr, .long kv])), (gi, .inl (cC, 65536, .inl ki)), (go, .inl (cC, 65536, .inl ko)), (gn, .inl (cI, 4096, .inl kn)), (gr, .inl (cI, 4096, .inl kr))] H := hP
  have hD : va_D A [(g, .inr (4, [.int (nI 0), .int (nI kt), .ref gi, .int (nI kw), .ref go, .int (nI kz), .ref gn, .int (nI ks), .ref gr, .long kv])), (gi, .inl (cC, 65536, .inl ki)), (go, .inl (cC, 65536, .inl ko)), (gn, .inl (cI, 4096, .inl kn)), (gr, .inl (cI, 4096, .inl kr))] := hD
  refine lv_iload_n hx hb dX4_read_5 rfl (lv_at hl 1 rfl) ?_
  refine dm_gori (dm_rS (n := 1) (As := [.int x]) (rest := []) hC hl (c_X4_isRadix l D cB cI cC x H.size) kco_X4_isRadix ki_X4 kst_X4_isRadix kml_X4_41 (by decide +kernel) ⟨Nat.le_of_ble_eq_true rfl, Nat.le_of_ble_eq_true rfl⟩ rfl rfl ⟨dm_blind, dm_preU hK hP hD hC.2.2.2.2.2.2.2 [] (by decide) rfl⟩ rfl rfl (Nat.le_of_ble_eq_true rfl) dX4_read_6 ⟨Nat.le_of_ble_eq_true rfl, Nat.le_of_ble_eq_true rfl⟩) (fun r1 e1 => ?_)
  refine lv_if_ne (tgt := 15) hx hb dX4_read_9 (by decide) (fun hc => ?_) (fun hc => ?_)
  · obtain ⟨⟨r, hr2, hr36, rfl⟩, -⟩ := e1.resolve_right (fun h9 => hc h9.2)
    refine lv_aload_n hx hb dX4_read_15 rfl (lv_at hl 0 rfl) ?_
    refine va_get (D := D) (ci := 4) (C := RX4) (T := TX4) (N := 10) (v := .int (nI kt)) hx hb hts kin_X4_w hown hK hP 0 rfl rfl 1 (by decide) (hts _ kfl_X4_38) (fun _ h9 => h9) rfl dX4_read_16 ?_
    refine lv_istore_n (lv' := [(2, .int (nI kt)), (0, .ref g), (1, .int (nI r))]) hx hb dX4_read_19 rfl hl (by decide) rfl (fun ls hl => ?_)
    refine lv_aload_n hx hb dX4_read_20 rfl (lv_at hl 1 rfl) ?_
    refine lv_iconst (v := nI 0) hx hb dX4_read_21 (by decide) ?_
    refine va_put (D := D) (ci := 4) (v := .int (nI 0)) (ty := .int) (C := RX4) (T := TX4) (N := 10) hx hb hts kin_X4_w tyX4 tyX4_ok nmX4 hown hK hP hD hS 0 rfl rfl 1 (by decide) (hts _ kfl_X4_38) (fun _ h9 => h9) rfl (by decide +kernel) rfl rfl (Nat.le_of_ble_eq_true rfl) dX4_read_22 (fun H locs hP hD hS => ?_)
    have hP : va_P D vwCl [(g, .inr (4, [.int (nI 0), .int (nI 0), .ref gi, .int (nI kw), .ref go, .int (nI kz), .ref gn, .int (nI ks), .ref gr, .long kv])), (gi, .inl (cC, 65536, .inl ki)), (go, .inl (cC, 65536, .inl ko)), (gn, .inl (cI, 4096, .inl kn)), (gr, .inl (cI, 4096, .inl kr))] H := hP
    have hD : va_D A [(g, .inr (4, [.int (nI 0), .int (nI 0), .ref gi, .int (nI kw), .ref go, .int (nI kz), .ref gn, .int (nI ks), .ref gr, .long kv])), (gi, .inl (cC, 65536, .inl ki)), (go, .inl (cC, 65536, .inl ko)), (gn, .inl (cI, 4096, .inl kn)), (gr, .inl (cI, 4096, .inl kr))] := hD
    refine lv_aload_n hx hb dX4_read_25 rfl (lv_at hl 1 rfl) ?_
    refine lv_iconst (v := nI 0) hx hb dX4_read_26 (by decide) ?_
    refine va_put (D := D) (ci := 4) (v := .int (nI 0)) (ty := .int) (C := RX4) (T := TX4) (N := 10) hx hb hts kin_X4_w tyX4 tyX4_ok nmX4 hown hK hP hD hS 0 rfl rfl 7 (by decide) (hts _ kfl_X4_28) (fun _ h9 => h9) rfl (by decide +kernel) rfl rfl (Nat.le_of_ble_eq_true rfl) dX4_read_27 (fun H locs hP hD hS => ?_)
    have hP : va_P D vwCl [(g, .inr (4, [.int (nI 0), .int (nI 0), .ref gi, .int (nI kw), .ref go, .int (nI kz), .ref gn, .int (nI 0), .ref gr, .long kv])), (gi, .inl (cC, 65536, .inl ki)), (go, .inl (cC, 65536, .inl ko)), (gn, .inl (cI, 4096, .inl kn)), (gr, .inl (cI, 4096, .inl kr))] H := hP
    have hD : va_D A [(g, .inr (4, [.int (nI 0), .int (nI 0), .ref gi, .int (nI kw), .ref go, .int (nI kz), .ref gn, .int (nI 0), .ref gr, .long kv])), (gi, .inl (cC, 65536, .inl ki)), (go, .inl (cC, 65536, .inl ko)), (gn, .inl (cI, 4096, .inl kn)), (gr, .inl (cI, 4096, .inl kr))] := hD
    refine lv_iconst (v := nI 0) hx hb dX4_read_30 (by decide) ?_
    refine lv_istore_n (lv' := [(3, .int (nI 0)), (2, .int (nI kt)), (0, .ref g), (1, .int (nI r))]) hx hb dX4_read_31 rfl hl (by decide) rfl (fun ls hl => ?_)
    refine dm_loopR (nL := 4) 32 (fun k => k ≤ kt ∧ fo r T k (kt - k) = fo r T 0 kt) (fun k => [(3, .int (nI k)), (2, .int (nI kt)), (0, .ref g), (1, .int (nI r))]) (fun k => kt - k) ?_ 0 ⟨Nat.zero_le _, rfl⟩ hl
    rintro k ls ⟨hk, hfo⟩ hl ih
    refine lv_iload_n hx hb dX4_read_32 rfl (lv_at hl 0 rfl) ?_
    refine lv_iload_n hx hb dX4_read_33 rfl (lv_at hl 1 rfl) ?_
    refine dm_icmp_ge (tgt := 58) hx hb (by omega) (by omega) dX4_read_34 (by decide) (fun hd => ?_) (fun hd => ?_)
    · have hfe : fo r T 0 kt = kt := by rw [← hfo, show k = kt by omega, Nat.sub_self]; rfl
      refine lv_iload_n hx hb dX4_read_58 rfl (lv_at hl 1 rfl) ?_
      refine dm_if_ne (tgt := 64) hx hb (by omega) dX4_read_59 (by decide) (fun hz => ?_) (fun hz => ?_)
      · have hall := fo_all (r := r) (T := T) (k := kt) (i := 0) (by omega)
        rw [Nat.zero_add] at hall
        clear ih
        refine lv_iconst (v := nI 0) hx hb dX4_read_64 (by decide) ?_
        refine lv_istore_n (lv' := [(3, .int (nI 0)), (2, .int (nI kt)), (0, .ref g), (1, .int (nI r))]) hx hb dX4_read_65 rfl hl (by decide) rfl (fun ls hl => ?_)
        refine dm_loop (nL := 4) (head := 66) (P := fun (y : Nat × (Nat → Int32) × Nat) => y.1 ≤ kt ∧ y.2.2 ≤ 4096 ∧ d16 y.2.1 y.2.2 ∧ dvb 65536 y.2.1 y.2.2 = hn r T 0 y.1) (w := fun y => [(g, .inr (4, [.int (nI 0), .int (nI 0), .ref gi, .int (nI kw), .ref go, .int (nI kz), .ref gn, .int (nI y.2.2), .ref gr, .long kv])), (gi, .inl (cC, 65536, .inl ki)), (go, .inl (cC, 65536, .inl ko)), (gn, .inl (cI, 4096, .inl kn)), (gr, .inl (cI, 4096, .inl y.2.1))]) (lv := fun y => [(3, .int (nI y.1)), (2, .int (nI kt)), (0, .ref g), (1, .int (nI r))]) (μ := fun y => kt - y.1) ?_ (0, kr, 0) ⟨Nat.zero_le _, Nat.zero_le _, fun j hj => absurd hj (Nat.not_lt_zero _), rfl⟩ hP hD hS (lv_sub hl [0, 1, 2, 3] rfl)
        rintro ⟨i, F, S⟩ H locs ls ⟨hi, hSl, hdF, hv⟩ hP hD hS hl ih
        dsimp only at hi hSl hdF hv
        have hP : va_P D vwCl [(g, .inr (4, [.int (nI 0), .int (nI 0), .ref gi, .int (nI kw), .ref go, .int (nI kz), .ref gn, .int (nI S), .ref gr, .long kv])), (gi, .inl (cC, 65536, .inl ki)), (go, .inl (cC, 65536, .inl ko)), (gn, .inl (cI, 4096, .inl kn)), (gr, .inl (cI, 4096, .inl F))] H := hP
        have hD : va_D A [(g, .inr (4, [.int (nI 0), .int (nI 0), .ref gi, .int (nI kw), .ref go, .int (nI kz), .ref gn, .int (nI S), .ref gr, .long kv])), (gi, .inl (cC, 65536, .inl ki)), (go, .inl (cC, 65536, .inl ko)), (gn, .inl (cI, 4096, .inl kn)), (gr, .inl (cI, 4096, .inl F))] := hD
        have hl : lv_has ls 4 [(3, .int (nI i)), (2, .int (nI kt)), (0, .ref g), (1, .int (nI r))] := hl
        refine lv_iload_n hx hb dX4_read_66 rfl (lv_at hl 0 rfl) ?_
        refine lv_iload_n hx hb dX4_read_67 rfl (lv_at hl 1 rfl) ?_
        refine dm_icmp_ge (tgt := 97) hx hb (by omega) (by omega) dX4_read_68 (by decide) (fun he => ?_) (fun he => ?_)
        · rw [show i = kt by omega] at hv
          have hfit : hn r T 0 kt < 4294967296 ^ 2048 := by rw [← hv, ← pow_eq]; exact Nat.lt_of_lt_of_le (d16_lt hdF) (Nat.pow_le_pow_right (by decide) hSl)
          refine lv_aload_n hx hb dX4_read_97 rfl (lv_at hl 2 rfl) ?_
          refine dm_gov (wr := [(gi, .inl (cC, 65536, .inl ki)), (go, .inl (cC, 65536, .inl ko))]) (dm_rV (n := 0) (As := []) (rest := []) hC hl (c_X4_give l D cB cI cC g gi go gn gr 0 kw kz S (nI 0) kv kn F hSl H.size) kco_X4_give ki_X4 kim_X4_give kse_X4_give kml_X4_53 (by decide +kernel) ⟨Nat.le_of_ble_eq_true rfl, Nat.le_of_ble_eq_true rfl⟩ rfl rfl ⟨dm_blind, va_recv hK hP (ci := 4) (q0 := 0) rfl rfl, dm_preU hK hP hD hC.2.2.2.2.2.2.2 [0, 3, 4] (by decide) rfl⟩ rfl rfl (Nat.le_of_ble_eq_true rfl) dX4_read_98 ⟨Nat.le_of_ble_eq_true rfl, Nat.le_of_ble_eq_true rfl⟩) hP hD hS hA [0, 3, 4] [1, 2] rfl rfl (by decide) (by decide) (fun q H locs hg hP hD hS => ?_)
          obtain ⟨kn2, kz2⟩ := q
          have hP : va_P D vwCl [(gi, .inl (cC, 65536, .inl ki)), (go, .inl (cC, 65536, .inl ko)), (g, .inr (4, [.int (nI 0), .int (nI 0), .ref gi, .int (nI kw), .ref go, .int (nI kz2), .ref gn, .int (nI kz2), .ref gr, .long kv])), (gn, .inl (cI, 4096, .inl kn2)), (gr, .inl (cI, 4096, .inl F))] H := hP
          have hD : va_D A [(gi, .inl (cC, 65536, .inl ki)), (go, .inl (cC, 65536, .inl ko)), (g, .inr (4, [.int (nI 0), .int (nI 0), .ref gi, .int (nI kw), .ref go, .int (nI kz2), .ref gn, .int (nI kz2), .ref gr, .long kv])), (gn, .inl (cI, 4096, .inl kn2)), (gr, .inl (cI, 4096, .inl F))] := hD
          have hP := hP.sub (ws' := [(g, .inr (4, [.int (nI 0), .int (nI 0), .ref gi, .int (nI kw), .ref go, .int (nI kz2), .ref gn, .int (nI kz2), .ref gr, .long kv])), (gi, .inl (cC, 65536, .inl ki)), (go, .inl (cC, 65536, .inl ko)), (gn, .inl (cI, 4096, .inl kn2)), (gr, .inl (cI, 4096, .inl F))]) [2, 0, 1, 3, 4] rfl
          have hD := hD.sub (ws' := [(g, .inr (4, [.int (nI 0), .int (nI 0), .ref gi, .int (nI kw), .ref go, .int (nI kz2), .ref gn, .int (nI kz2), .ref gr, .long kv])), (gi, .inl (cC, 65536, .inl ki)), (go, .inl (cC, 65536, .inl ko)), (gn, .inl (cI, 4096, .inl kn2)), (gr, .inl (cI, 4096, .inl F))]) [2, 0, 1, 3, 4] (by decide) rfl
          obtain ⟨g1, g2, g3, g4⟩ := hg
          dsimp only at g1 g2 g3 g4
          refine lv_iconst (v := -1) hx hb dX4_read_101 (by decide) ?_
          exact dm_iret hC hK (kn2, kz2, F, kz2, 0) ⟨by show kz2 ≤ 4096; omega, d16_give g4 g1 hdF, g3, Or.inr ⟨r, hr2, hr36, rfl, by unfold rdA; rw [if_neg hz, if_neg (by omega), if_pos hfit], rfl, by show dvb _ kn2 kz2 = _; unfold rdV; rw [if_neg hz, if_neg (by omega), if_pos hfit, g2, hv]⟩⟩ hP hD hS dX4_read_102
        · have hdi := hall i (Nat.zero_le _) he
          refine lv_aload_n hx hb dX4_read_71 rfl (lv_at hl 2 rfl) ?_
          refine lv_iload_n hx hb dX4_read_72 rfl (lv_at hl 3 rfl) ?_
          refine lv_aload_n hx hb dX4_read_73 rfl (lv_at hl 2 rfl) ?_
          refine va_get (D := D) (ci := 4) (C := RX4) (T := TX4) (N := 10) (v := .ref gi) hx hb hts kin_X4_w hown hK hP 0 rfl rfl 2 (by decide) (hts _ kfl_X4_8) (fun _ h9 => h9) rfl dX4_read_74 ?_
          refine lv_iload_n hx hb dX4_read_77 rfl (lv_at hl 0 rfl) ?_
          refine dm_cald (j := i) hx hb hK hP 1 2 rfl rfl (by omega) (by decide) dX4_read_78 ?_
          refine dm_ti (y := nI (T i)) ((htx i (by omega)).1) ?_
          have hT9 := (htx i (by omega)).2
          have hdb := dgm_b (T i)
          refine dm_gori (dm_rS (n := 1) (As := [.int (nI (T i))]) (rest := [.int (nI r), .ref g]) hC hl (c_X4_digit l D cB cI cC (T i) (by omega) H.size) kco_X4_digit ki_X4 kst_X4_digit kml_X4_45 (by decide +kernel) ⟨Nat.le_of_ble_eq_true rfl, Nat.le_of_ble_eq_true rfl⟩ rfl rfl ⟨dm_blind, dm_preU hK hP hD hC.2.2.2.2.2.2.2 [] (by decide) rfl⟩ rfl rfl (Nat.le_of_ble_eq_true rfl) dX4_read_79 ⟨Nat.le_of_ble_eq_true rfl, Nat.le_of_ble_eq_true rfl⟩) (fun r9 e9 => ?_)
          subst e9
          refine dm_ti (y := nI (dgv (T i))) (by rw [dgm_eq hr36 hdi]) ?_
          refine dm_goi (wr := [(gi, .inl (cC, 65536, .inl ki)), (go, .inl (cC, 65536, .inl ko)), (gn, .inl (cI, 4096, .inl kn))]) (dm_rV (n := 2) (As := [.int (nI r), .int (nI (dgv (T i)))]) (rest := []) hC hl (c_X4_timesAdd l D cB cI cC g gi go gn gr 0 kw kz S (nI 0) kv F r (dgv (T i)) hSl hdF (by omega) (by omega) (by omega) H.size) kco_X4_timesAdd ki_X4 kim_X4_timesAdd kse_X4_timesAdd kml_X4_49 (by decide +kernel) ⟨Nat.le_of_ble_eq_true rfl, Nat.le_of_ble_eq_true rfl⟩ rfl rfl ⟨dm_blind, va_recv hK hP (ci := 4) (q0 := 0) rfl rfl, dm_preU hK hP hD hC.2.2.2.2.2.2.2 [0, 4] (by decide) rfl⟩ rfl rfl (Nat.le_of_ble_eq_true rfl) dX4_read_82 ⟨Nat.le_of_ble_eq_true rfl, Nat.le_of_ble_eq_true rfl⟩) hP hD hS hA [0, 4] [1, 2, 3] rfl rfl (by decide) (by decide) (fun rb q H locs hw hP hD hS => ?_)
          obtain ⟨F2, S2⟩ := q
          have hP : va_P D vwCl [(gi, .inl (cC, 65536, .inl ki)), (go, .inl (cC, 65536, .inl ko)), (gn, .inl (cI, 4096, .inl kn)), (g, .inr (4, [.int (nI 0), .int (nI 0), .ref gi, .int (nI kw), .ref go, .int (nI kz), .ref gn, .int (nI S2), .ref gr, .long kv])), (gr, .inl (cI, 4096, .inl F2))] H := hP
          have hD : va_D A [(gi, .inl (cC, 65536, .inl ki)), (go, .inl (cC, 65536, .inl ko)), (gn, .inl (cI, 4096, .inl kn)), (g, .inr (4, [.int (nI 0), .int (nI 0), .ref gi, .int (nI kw), .ref go, .int (nI kz), .ref gn, .int (nI S2), .ref gr, .long kv])), (gr, .inl (cI, 4096, .inl F2))] := hD
          have hP := hP.sub (ws' := [(g, .inr (4, [.int (nI 0), .int (nI 0), .ref gi, .int (nI kw), .ref go, .int (nI kz), .ref gn, .int (nI S2), .ref gr, .long kv])), (gi, .inl (cC, 65536, .inl ki)), (go, .inl (cC, 65536, .inl ko)), (gn, .inl (cI, 4096, .inl kn)), (gr, .inl (cI, 4096, .inl F2))]) [3, 0, 1, 2, 4] rfl
          have hD := hD.sub (ws' := [(g, .inr (4, [.int (nI 0), .int (nI 0), .ref gi, .int (nI kw), .ref go, .int (nI kz), .ref gn, .int (nI S2), .ref gr, .long kv])), (gi, .inl (cC, 65536, .inl ki)), (go, .inl (cC, 65536, .inl ko)), (gn, .inl (cI, 4096, .inl kn)), (gr, .inl (cI, 4096, .inl F2))]) [3, 0, 1, 2, 4] (by decide) rfl
          have hn1 : dvb 65536 F S * r + dgv (T i) = hn r T 0 (i + 1) := by show _ = hn r T 0 i * r + dgv (T (0 + i)); rw [hv, Nat.zero_add]
          rw [hn1] at hw
          dsimp only at hw
          refine lv_if_ne (tgt := 91) hx hb dX4_read_85 (by decide) (fun hb1 => ?_) (fun hb1 => ?_)
          · have hw1 := hw.resolve_right (fun h9 => hb1 h9.1)
            refine lv_iinc (v := nI (i + 1)) (lv' := [(3, .int (nI (i + 1))), (2, .int (nI kt)), (0, .ref g), (1, .int (nI r))]) hx hb dX4_read_91 hl (k := 0) rfl ((nI_succ i).symm) (by decide) rfl (fun ls hl => ?_)
            refine lv_goto (tgt := 66) hx hb dX4_read_94 (by decide) ?_
            exact ih (i + 1, F2, S2) H locs ls (by show kt - (i + 1) < kt - i; omega) ⟨by show i + 1 ≤ kt; omega, hw1.2.1, hw1.2.2.1, hw1.2.2.2.1⟩ hP hD hS (lv_sub hl [0, 1, 2, 3] rfl)
          · have hw1 := hw.resolve_left (fun h9 => absurd (hb1.symm.trans h9.1) (by decide))
            have hfit : ¬ hn r T 0 kt < 4294967296 ^ 2048 := by
              rw [← pow_eq]
              have h8 := hn_mono (r := r) (by omega) (T := T) (i := 0) (k := i + 1) (d := kt - (i + 1))
              rw [show i + 1 + (kt - (i + 1)) = kt by omega] at h8
              exact Nat.not_lt.mpr (Nat.le_trans hw1.2.2 h8)
            refine lv_bipush (v := -2) hx hb dX4_read_88 (by decide) ?_
            exact dm_iret hC hK (kn, kz, F2, S2, 0) ⟨hkz, hdn, hnn, Or.inr ⟨r, hr2, hr36, rfl, by unfold rdA; rw [if_neg hz, if_neg (by omega), if_neg hfit], rfl, by unfold rdV; rw [if_neg hz, if_neg (by omega), if_neg hfit]⟩⟩ hP hD hS dX4_read_90
      · refine lv_iconst (v := nI 0) hx hb dX4_read_62 (by decide) ?_
        exact dm_iret hC hK (kn, kz, kr, 0, 0) ⟨hkz, hdn, hnn, Or.inr ⟨r, hr2, hr36, rfl, by unfold rdA; rw [if_pos hz]; rfl, rfl, by unfold rdV; rw [if_pos hz]⟩⟩ hP hD hS dX4_read_63
    · rw [show kt - k = (kt - (k + 1)) + 1 by omega] at hfo
      rw [fo_succ] at hfo
      refine lv_aload_n hx hb dX4_read_37 rfl (lv_at hl 2 rfl) ?_
      refine va_get (D := D) (ci := 4) (C := RX4) (T := TX4) (N := 10) (v := .ref gi) hx hb hts kin_X4_w hown hK hP 0 rfl rfl 2 (by decide) (hts _ kfl_X4_8) (fun _ h9 => h9) rfl dX4_read_38 ?_
      refine lv_iload_n hx hb dX4_read_41 rfl (lv_at hl 0 rfl) ?_
      refine dm_cald (j := k) hx hb hK hP 1 2 rfl rfl (by omega) (by decide) dX4_read_42 ?_
      refine dm_ti (y := nI (T k)) ((htx k (by omega)).1) ?_
      have hT9 := (htx k (by omega)).2
      have hdb := dgm_b (T k)
      refine dm_gori (dm_rS (n := 1) (As := [.int (nI (T k))]) (rest := []) hC hl (c_X4_digit l D cB cI cC (T k) (by omega) H.size) kco_X4_digit ki_X4 kst_X4_digit kml_X4_45 (by decide +kernel) ⟨Nat.le_of_ble_eq_true rfl, Nat.le_of_ble_eq_true rfl⟩ rfl rfl ⟨dm_blind, dm_preU hK hP hD hC.2.2.2.2.2.2.2 [] (by decide) rfl⟩ rfl rfl (Nat.le_of_ble_eq_true rfl) dX4_read_43 ⟨Nat.le_of_ble_eq_true rfl, Nat.le_of_ble_eq_true rfl⟩) (fun r9 e9 => ?_)
      subst e9
      refine lv_iload_n hx hb dX4_read_46 rfl (lv_at hl 3 rfl) ?_
      refine dm_icmp_lt (tgt := 52) hx hb (by omega) (by omega) dX4_read_47 (by decide) (fun hg => ?_) (fun hg => ?_)
      · have hg := (dgm_lt hr36).mp hg
        rw [if_neg (by omega)] at hfo
        refine lv_iinc (v := nI (k + 1)) (lv' := [(3, .int (nI (k + 1))), (2, .int (nI kt)), (0, .ref g), (1, .int (nI r))]) hx hb dX4_read_52 hl (k := 0) rfl ((nI_succ k).symm) (by decide) rfl (fun ls hl => ?_)
        refine lv_goto (tgt := 32) hx hb dX4_read_55 (by decide) ?_
        exact ih (k + 1) ls (by omega) ⟨by omega, hfo⟩ (lv_sub hl [0, 1, 2, 3] rfl)
      · have hg : r ≤ dgv (T k) := Nat.le_of_not_lt (fun h9 => by have := (dgm_lt hr36).mpr h9; omega)
        rw [if_pos hg] at hfo
        refine lv_iload_n hx hb dX4_read_50 rfl (lv_at hl 0 rfl) ?_
        exact dm_iret hC hK (kn, kz, kr, 0, 0) ⟨hkz, hdn, hnn, Or.inr ⟨r, hr2, hr36, rfl, by unfold rdA; rw [if_neg (by omega), if_pos (by omega), ← hfo], rfl, by unfold rdV; rw [if_neg (by omega), if_pos (by omega)]⟩⟩ hP hD hS dX4_read_51
  · have e2 := e1.resolve_left (fun h9 => absurd (hc.symm.trans h9.2) (by decide))
    refine lv_bipush (v := -3) hx hb dX4_read_12 (by decide) ?_
    exact dm_iret hC hK (kn, kz, kr, ks, kt) ⟨hkz, hdn, hnn, Or.inl ⟨e2.1, rfl, rfl, rfl⟩⟩ hP hD hS dX4_read_14

set_option maxRecDepth 100000 in
set_option maxHeartbeats 4000000 in
theorem c_X4_turnOut (l : Launch) (D : va_G) (cB cI cC : ClassId) (g gi go gn gr kt kw kz ks : Nat) (th : Int32) (kv : Int64) (ko : Nat → Int32) (O : Nat → Nat) (hkw1 : 1 ≤ kw) (hkw : kw ≤ 65536) (htx : txt kw O ko) : MV l yX4_turnOut (Cond.code yX4_turnOut cX4_turnOut 4 none) 0 D (TY cB cI cC) [.ref g] [(g, .inr (4, [.int th, .int (nI kt), .ref gi, .int (nI kw), .ref go, .int (nI kz), .ref gn, .int (nI ks), .ref gr, .long kv])), (go, .inl (cC, 65536, .inl ko))] (S := Nat → Int32) (fun q => txt kw (fun j => O (kw - 1 - j)) q) (fun q => [(g, .inr (4, [.int th, .int (nI kt), .ref gi, .int (nI kw), .ref go, .int (nI kz), .ref gn, .int (nI ks), .ref gr, .long kv])), (go, .inl (cC, 65536, .inl q))]) := by
  refine MV.of (by decide) (Nat.le_of_ble_eq_true rfl) ?_
  intro p e s m below meth c ls A hC hA hP hK hD hS hl
  obtain ⟨hx, hb, hr, hml, hown, hts, hlocks, hN⟩ := id hC
  have hown : s.vm.findClass RX4 = some m.cls := hown
  have hl : lv_has ls 4 [(0, .ref g)] := hl
  refine lv_iconst (v := nI 0) hx hb dX4_turnOut_0 (by decide) ?_
  refine lv_istore_n (lv' := [(1, .int (nI 0)), (0, .ref g)]) hx hb dX4_turnOut_1 rfl hl (by decide) rfl (fun ls hl => ?_)
  refine lv_aload_n hx hb dX4_turnOut_2 rfl (lv_at hl 1 rfl) ?_
  refine va_get (D := D) (ci := 4) (C := RX4) (T := TX4) (N := 10) (v := .int (nI kw)) hx hb hts kin_X4_w hown hK hP 0 rfl rfl 3 (by decide) (hts _ kfl_X4_56) (fun _ h9 => h9) rfl dX4_turnOut_3 ?_
  refine lv_iconst (v := nI 1) hx hb dX4_turnOut_6 (by decide) ?_
  refine lv_isub hx hb dX4_turnOut_7 ?_
  refine dm_ti (y := nI (kw - 1 - 0)) (pk_sub hkw1) ?_
  refine lv_istore_n (lv' := [(2, .int (nI (kw - 1 - 0))), (1, .int (nI 0)), (0, .ref g)]) hx hb dX4_turnOut_8 rfl hl (by decide) rfl (fun ls hl => ?_)
  refine dm_loop (nL := 4) (head := 9) (P := fun (y : Nat × (Nat → Int32)) => 2 * y.1 ≤ kw ∧ ∀ j, j < kw → y.2 j = nI (if j < y.1 ∨ kw - 1 - y.1 < j then O (kw - 1 - j) else O j)) (w := fun y => [(g, .inr (4, [.int th, .int (nI kt), .ref gi, .int (nI kw), .ref go, .int (nI kz), .ref gn, .int (nI ks), .ref gr, .long kv])), (go, .inl (cC, 65536, .inl y.2))]) (lv := fun y => [(2, .int (nI (kw - 1 - y.1))), (1, .int (nI y.1)), (0, .ref g)]) (μ := fun y => kw - y.1) ?_ (0, ko) ⟨Nat.zero_le _, fun j hj => by dsimp only; rw [if_neg (by omega)]; exact (htx j hj).1⟩ hP hD hS hl
  rintro ⟨i, F⟩ H locs ls ⟨hi, hF⟩ hP hD hS hl ih
  dsimp only at hi hF
  have hP : va_P D vwCl [(g, .inr (4, [.int th, .int (nI kt), .ref gi, .int (nI kw), .ref go, .int (nI kz), .ref gn, .int (nI ks), .ref gr, .long kv])), (go, .inl (cC, 65536, .inl F))] H := hP
  have hD : va_D A [(g, .inr (4, [.int th, .int (nI kt), .ref gi, .int (nI kw), .ref go, .int (nI kz), .ref gn, .int (nI ks), .ref gr, .long kv])), (go, .inl (cC, 65536, .inl F))] := hD
  have hl : lv_has ls 4 [(2, .int (nI (kw - 1 - i))), (1, .int (nI i)), (0, .ref g)] := hl
  refine lv_iload_n hx hb dX4_turnOut_9 rfl (lv_at hl 1 rfl) ?_
  refine lv_iload_n hx hb dX4_turnOut_10 rfl (lv_at hl 0 rfl) ?_
  refine dm_icmp_ge (tgt := 49) hx hb (by omega) (by omega) dX4_turnOut_11 (by decide) (fun hc => ?_) (fun hc => ?_)
  · refine dm_vret hC hK F (fun j hj => ?_) hP hD hS dX4_turnOut_49
    refine ⟨?_, (htx _ (by omega)).2⟩
    rw [hF j hj]
    by_cases h6 : j < i ∨ kw - 1 - i < j
    · rw [if_pos h6]
    · rw [if_neg h6]; congr 2; omega
  · have e1 : F i = nI (O i) := by rw [hF i (by omega), if_neg (by omega)]
    have e2 : F (kw - 1 - i) = nI (O (kw - 1 - i)) := by rw [hF _ (by omega), if_neg (by omega)]
    have b1 := (htx i (by omega)).2
    have b2 := (htx (kw - 1 - i) (by omega)).2
    refine lv_aload_n hx hb dX4_turnOut_14 rfl (lv_at hl 2 rfl) ?_
    refine va_get (D := D) (ci := 4) (C := RX4) (T := TX4) (N := 10) (v := .ref go) hx hb hts kin_X4_w hown hK hP 0 rfl rfl 4 (by decide) (hts _ kfl_X4_14) (fun _ h9 => h9) rfl dX4_turnOut_15 ?_
    refine lv_iload_n hx hb dX4_turnOut_18 rfl (lv_at hl 1 rfl) ?_
    refine dm_cald (j := i) hx hb hK hP 1 2 rfl rfl (by omega) (by decide) dX4_turnOut_19 ?_
    refine dm_ti (y := nI (O i)) (e1) ?_
    refine lv_istore_n (lv' := [(3, .int (nI (O i))), (2, .int (nI (kw - 1 - i))), (1, .int (nI i)), (0, .ref g)]) hx hb dX4_turnOut_20 rfl hl (by decide) rfl (fun ls hl => ?_)
    refine lv_aload_n hx hb dX4_turnOut_21 rfl (lv_at hl 3 rfl) ?_
    refine va_get (D := D) (ci := 4) (C := RX4) (T := TX4) (N := 10) (v := .ref go) hx hb hts kin_X4_w hown hK hP 0 rfl rfl 4 (by decide) (hts _ kfl_X4_14) (fun _ h9 => h9) rfl dX4_turnOut_22 ?_
    refine lv_iload_n hx hb dX4_turnOut_25 rfl (lv_at hl 2 rfl) ?_
    refine lv_aload_n hx hb dX4_turnOut_26 rfl (lv_at hl 3 rfl) ?_
    refine va_get (D := D) (ci := 4) (C := RX4) (T := TX4) (N := 10) (v := .ref go) hx hb hts kin_X4_w hown hK hP 0 rfl rfl 4 (by decide) (hts _ kfl_X4_14) (fun _ h9 => h9) rfl dX4_turnOut_27 ?_
    refine lv_iload_n hx hb dX4_turnOut_30 rfl (lv_at hl 1 rfl) ?_
    refine dm_cald (j := (kw - 1 - i)) hx hb hK hP 1 2 rfl rfl (by omega) (by decide) dX4_turnOut_31 ?_
    refine dm_ti (y := nI (O (kw - 1 - i))) (e2) ?_
    refine dm_cast (j := i) (f' := upd F i (nI (O (kw - 1 - i)))) hx hb hK hP hD hS 1 2 rfl rfl (by omega) (by decide) (by rw [narC b2]) dX4_turnOut_32 (fun H locs hP hD hS => ?_)
    have hP : va_P D vwCl [(g, .inr (4, [.int th, .int (nI kt), .ref gi, .int (nI kw), .ref go, .int (nI kz), .ref gn, .int (nI ks), .ref gr, .long kv])), (go, .inl (cC, 65536, .inl (upd F i (nI (O (kw - 1 - i))))))] H := hP
    have hD : va_D A [(g, .inr (4, [.int th, .int (nI kt), .ref gi, .int (nI kw), .ref go, .int (nI kz), .ref gn, .int (nI ks), .ref gr, .long kv])), (go, .inl (cC, 65536, .inl (upd F i (nI (O (kw - 1 - i))))))] := hD
    refine lv_aload_n hx hb dX4_turnOut_33 rfl (lv_at hl 3 rfl) ?_
    refine va_get (D := D) (ci := 4) (C := RX4) (T := TX4) (N := 10) (v := .ref go) hx hb hts kin_X4_w hown hK hP 0 rfl rfl 4 (by decide) (hts _ kfl_X4_14) (fun _ h9 => h9) rfl dX4_turnOut_34 ?_
    refine lv_iload_n hx hb dX4_turnOut_37 rfl (lv_at hl 1 rfl) ?_
    refine lv_iload_n hx hb dX4_turnOut_38 rfl (lv_at hl 0 rfl) ?_
    refine dm_cast (j := (kw - 1 - i)) (f' := upd (upd F i (nI (O (kw - 1 - i)))) (kw - 1 - i) (nI (O i))) hx hb hK hP hD hS 1 2 rfl rfl (by omega) (by decide) (by rw [narC b1]) dX4_turnOut_39 (fun H locs hP hD hS => ?_)
    have hP : va_P D vwCl [(g, .inr (4, [.int th, .int (nI kt), .ref gi, .int (nI kw), .ref go, .int (nI kz), .ref gn, .int (nI ks), .ref gr, .long kv])), (go, .inl (cC, 65536, .inl (upd (upd F i (nI (O (kw - 1 - i)))) (kw - 1 - i) (nI (O i)))))] H := hP
    have hD : va_D A [(g, .inr (4, [.int th, .int (nI kt), .ref gi, .int (nI kw), .ref go, .int (nI kz), .ref gn, .int (nI ks), .ref gr, .long kv])), (go, .inl (cC, 65536, .inl (upd (upd F i (nI (O (kw - 1 - i)))) (kw - 1 - i) (nI (O i)))))] := hD
    refine lv_iinc (v := nI (i + 1)) (lv' := [(1, .int (nI (i + 1))), (3, .int (nI (O i))), (2, .int (nI (kw - 1 - i))), (0, .ref g)]) hx hb dX4_turnOut_40 hl (k := 2) rfl ((nI_succ i).symm) (by decide) rfl (fun ls hl => ?_)
    refine lv_iinc (v := nI (kw - 1 - (i + 1))) (lv' := [(2, .int (nI (kw - 1 - (i + 1)))), (1, .int (nI (i + 1))), (3, .int (nI (O i))), (0, .ref g)]) hx hb dX4_turnOut_43 hl (k := 2) rfl (by rw [i_dec, pk_sub (by omega)]; congr 1) (by decide) rfl (fun ls hl => ?_)
    refine lv_goto (tgt := 9) hx hb dX4_turnOut_46 (by decide) ?_
    refine ih (i + 1, upd (upd F i (nI (O (kw - 1 - i)))) (kw - 1 - i) (nI (O i))) H locs ls (by show kw - (i + 1) < kw - i; omega) ⟨by show 2 * (i + 1) ≤ kw; omega, fun j hj => ?_⟩ hP hD hS (lv_sub hl [0, 1, 3] rfl)
    show upd (upd F i _) (kw - 1 - i) _ j = nI (if j < i + 1 ∨ kw - 1 - (i + 1) < j then O (kw - 1 - j) else O j)
    by_cases h6 : j = kw - 1 - i
    · rw [h6, pk_us, if_pos (by omega)]; congr 2; omega
    · rw [pk_un h6]
      by_cases h7 : j = i
      · rw [h7, pk_us, if_pos (by omega)]
      · rw [pk_un h7, hF j hj]
        by_cases h8 : j < i ∨ kw - 1 - i < j
        · rw [if_pos h8, if_pos (by omega)]
        · rw [if_neg h8, if_neg (by omega)]
