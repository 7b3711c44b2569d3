theorem pw16 (m : Nat) : (2 : Nat) ^ (16 * m) = 65536 ^ m := by rw [Nat.pow_mul]
theorem pw15 (m : Nat) : (2 : Nat) ^ (16 * (m + 1) - 1) = 32768 * 65536 ^ m := by
  rw [show 16 * (m + 1) - 1 = 15 + 16 * m by omega, Nat.pow_add, pw16]
theorem pfit_big {m sg mi V : Nat} (h : 65536 ^ (m + 1) ≤ V) : ¬ pfit (16 * (m + 1)) sg mi V := by
  have h1 := pw16 (m + 1)
  have h2 := pw15 m
  have h3 : 65536 ^ (m + 1) = 65536 ^ m * 65536 := Nat.pow_succ ..
  have hp : 0 < 65536 ^ m := Nat.pow_pos (by decide)
  intro h9
  rcases h9 with h9 | h9
  · by_cases hs : sg = 1
    · rw [if_pos hs, h2] at h9; omega
    · rw [if_neg hs, h1] at h9; omega
  · have := h9.2; rw [h2] at this; omega
theorem dvb_all0 {f : Nat → Int32} : ∀ {n : Nat}, dvb 65536 f n = 0 → ∀ j, j < n → f j = 0
  | 0, _ => fun j hj => absurd hj (Nat.not_lt_zero _)
  | n + 1, h => by
    have h1 : dvb 65536 f n + un (f n) * 65536 ^ n = 0 := h
    have hp : 0 < 65536 ^ n := Nat.pow_pos (by decide)
    have h2 : un (f n) = 0 := by
      rcases Nat.eq_zero_or_pos (un (f n)) with h3 | h3
      · exact h3
      · have : 0 < un (f n) * 65536 ^ n := Nat.mul_pos h3 hp
        omega
    exact lt_s (dvb_all0 (by omega)) (un_eq0.mp h2)
theorem pfit_lt {F : Nat → Int32} {S m sg mi : Nat} (hd : d16 F S) (hS : S ≤ m) : pfit (16 * (m + 1)) sg mi (dvb 65536 F S) := by
  have h1 := pw16 (m + 1)
  have h2 := pw15 m
  have h3 : 65536 ^ (m + 1) = 65536 ^ m * 65536 := Nat.pow_succ ..
  have h4 : dvb 65536 F S < 65536 ^ m := Nat.lt_of_lt_of_le (d16_lt hd) (Nat.pow_le_pow_right (by decide) hS)
  refine Or.inl ?_
  split
  · rw [h2]; omega
  · rw [h1]; omega
theorem pfit_top {F : Nat → Int32} {m sg mi : Nat} (hsg : sg < 2) (hd : d16 F (m + 1)) : pfit (16 * (m + 1)) sg mi (dvb 65536 F (m + 1)) ↔ (sg = 0 ∨ un (F m) ≤ 32767 ∨ (mi = 1 ∧ un (F m) = 32768 ∧ ∀ j, j < m → F j = 0)) := by
  have h1 := pw16 (m + 1)
  have h2 := pw15 m
  have h3 : 65536 ^ (m + 1) = 65536 ^ m * 65536 := Nat.pow_succ ..
  have h4 : dvb 65536 F m < 65536 ^ m := dvb_lt (fun j hj => hd j (by omega))
  have h5 := hd m (by omega)
  have h6 : dvb 65536 F (m + 1) = dvb 65536 F m + un (F m) * 65536 ^ m := rfl
  have hp : 0 < 65536 ^ m := Nat.pow_pos (by decide)
  have hall := d16_lt hd
  unfold pfit
  rw [h2]
  constructor
  · intro h
    by_cases hs : sg = 1
    · rw [if_pos hs, h2, h6] at h
      refine Or.inr ?_
      rcases h with h | h
      · left
        apply Nat.le_of_not_lt
        intro h9
        have h8 : 32768 * 65536 ^ m ≤ un (F m) * 65536 ^ m := Nat.mul_le_mul_right _ h9
        omega
      · right
        have h7 : un (F m) = 32768 := by
          apply Nat.le_antisymm
          · apply Nat.le_of_not_lt
            intro h9
            have h8 : 32769 * 65536 ^ m ≤ un (F m) * 65536 ^ m := Nat.mul_le_mul_right _ h9
            omega
          · apply Nat.le_of_not_lt
            intro h9
            have h8 : un (F m) * 65536 ^ m ≤ 32767 * 65536 ^ m := Nat.mul_le_mul_right _ (by omega)
            omega
        have h10 := h.2
        rw [h7] at h10
        exact ⟨h.1, h7, dvb_all0 (by omega)⟩
    · exact Or.inl (by omega)
  · intro h
    rcases h with h | h | h
    · left; rw [if_neg (by omega), h1]; exact hall
    · left
      have h8 : un (F m) * 65536 ^ m ≤ 32767 * 65536 ^ m := Nat.mul_le_mul_right _ h
      split
      · rw [h2, h6]; omega
      · rw [h1]; exact hall
    · right
      exact ⟨h.1, by rw [h6, h.2.1, dvb_zero h.2.2]; omega⟩
theorem pmn_pos {sg n : Nat} {T : Nat → Nat} (h : pmn sg n T = 1) : 0 < n := by
  unfold pmn at h
  split at h
  · next h9 => exact h9.2.1
  · omega
theorem pfr_le {sg n : Nat} {T : Nat → Nat} : pfr sg n T ≤ n := by
  unfold pfr
  split
  · next h => exact h.elim pmn_pos (fun h8 => h8.1)
  · exact Nat.zero_le _
def lsf (F : Nat → Int32) (q k : Nat) : Nat := if q = 1 ∧ ∀ j, j < k → F j = 0 then 1 else 0
theorem lsf_2 {F : Nat → Int32} {q k : Nat} : lsf F q k < 2 := by unfold lsf; split <;> decide
theorem lsf_0 {F : Nat → Int32} {q : Nat} (hq : q < 2) : lsf F q 0 = q := by
  unfold lsf
  by_cases h : q = 1
  · rw [if_pos ⟨h, fun j hj => absurd hj (Nat.not_lt_zero _)⟩, h]
  · rw [if_neg (fun h9 => h h9.1)]; omega
theorem lsf_stop {F : Nat → Int32} {q k n : Nat} (h : lsf F q k = 0) (hk : k ≤ n) : lsf F q n = 0 := by
  unfold lsf at *
  split at h
  · omega
  · next h1 => exact if_neg (fun h9 => h1 ⟨h9.1, fun j hj => h9.2 j (by omega)⟩)
theorem lsf_s {F : Nat → Int32} {q k : Nat} (h : lsf F q k = 1) : lsf F q (k + 1) = if F k = 0 then 1 else 0 := by
  unfold lsf at *
  split at h
  · next h1 =>
    by_cases h2 : F k = 0
    · rw [if_pos h2, if_pos ⟨h1.1, lt_s h1.2 h2⟩]
    · rw [if_neg h2, if_neg (fun h9 => h2 (h9.2 k (by omega)))]
  · omega

set_option maxRecDepth 100000 in
set_option maxHeartbeats 4000000 in
theorem c_X4_parse (l : Launch) (D : va_G) (cB cI cC : ClassId) (g gi go gn gr kt kw kz ks : Nat) (th : Int32) (kv : Int64) (ki ko kn kr : Nat → Int32) (wd x : Int32) (sg : Nat) (T : Nat → Nat) (hsg : sg < 2) (hkt : kt ≤ 65536) (htx : txt kt T ki) : MI l yX4_parse (Cond.code yX4_parse cX4_parse 13 (some .int)) 1 D (TY cB cI cC) [.ref g, .int wd, .int x, .int (nI sg)] [(g, .inr (4, [.int th, .int (nI kt), .ref gi, .int (nI kw), .ref go, .int (nI kz), .ref gn, .int (nI ks), .ref gr, .long kv])), (gi, .inl (cC, 65536, .inl ki)), (go, .inl (cC, 65536, .inl ko)), (gn, .inl (cI, 4096, .inl kn)), (gr, .inl (cI, 4096, .inl kr))] (S := (Nat → Int32) × Nat × Int64 × Nat) (fun b q => (¬ (isWd wd ∧ isR x) ∧ b = nI 3 ∧ q.2.2.1 = kv ∧ q.2.2.2 = kt) ∨ (∃ wn r, (wn = 32 ∨ wn = 64) ∧ 2 ≤ r ∧ r ≤ 36 ∧ wd = nI wn ∧ x = nI r ∧ q.2.2.2 = 0 ∧ ((¬ pgood r sg kt T ∧ b = nI 1 ∧ q.2.2.1 = kv) ∨ (pgood r sg kt T ∧ ¬ pfit wn sg (pmn sg kt T) (pval r sg kt T) ∧ b = nI 2 ∧ q.2.2.1 = kv) ∨ (pgood r sg kt T ∧ pfit wn sg (pmn sg kt T) (pval r sg kt T) ∧ b = nI 0 ∧ q.2.2.1 = if pmn sg kt T = 1 then -(lN (pval r sg kt T)) else lN (pval r sg kt T))))) (fun q => [(g, .inr (4, [.int (nI 0), .int (nI q.2.2.2), .ref gi, .int (nI kw), .ref go, .int (nI kz), .ref gn, .int (nI q.2.1), .ref gr, .long q.2.2.1])), (gi, .inl (cC, 65536, .inl ki)), (go, .inl (cC, 65536, .inl ko)), (gn, .inl (cI, 4096, .inl kn)), (gr, .inl (cI, 4096, .inl q.1))]) := by
  refine MI.of (by decide) (Nat.le_of_ble_eq_true rfl) ?_
  intro p e s m below meth c ls A hC hA hP hK hD hS hl
  obtain ⟨hx, hb, hr, hml, hown, hts, hlocks, hN⟩ := id hC
  have hown : s.vm.findClass RX4 = some m.cls := hown
  have hl : lv_has ls 13 [(0, .ref g), (1, .int wd), (2, .int x), (3, .int (nI sg))] := hl
  refine lv_aload_n hx hb dX4_parse_0 rfl (lv_at hl 0 rfl) ?_
  refine lv_iconst (v := nI 0) hx hb dX4_parse_1 (by decide) ?_
  refine va_put (D := D) (ci := 4) (v := .int (nI 0)) (ty := .int) (C := RX4) (T := TX4) (N := 10) hx hb hts kin_X4_w tyX4 tyX4_ok nmX4 hown hK hP hD hS 0 rfl rfl 0 (by decide) (hts _ kfl_X4_24) (fun _ h9 => h9) rfl (by decide +kernel) rfl rfl (Nat.le_of_ble_eq_true rfl) dX4_parse_2 (fun H locs hP hD hS => ?_)
  have hP : va_P D vwCl [(g, .inr (4, [.int (nI 0), .int (nI kt), .ref gi, .int (nI kw), .ref go, .int (nI kz), .ref gn, .int (nI ks), .ref gr, .long kv])), (gi, .inl (cC, 65536, .inl ki)), (go, .inl (cC, 65536, .inl ko)), (gn, .inl (cI, 4096, .inl kn)), (gr, .inl (cI, 4096, .inl kr))] H := hP
  have hD : va_D A [(g, .inr (4, [.int (nI 0), .int (nI kt), .ref gi, .int (nI kw), .ref go, .int (nI kz), .ref gn, .int (nI ks), .ref gr, .long kv])), (gi, .inl (cC, 65536, .inl ki)), (go, .inl (cC, 65536, .inl ko)), (gn, .inl (cI, 4096, .inl kn)), (gr, .inl (cI, 4096, .inl kr))] := hD
  refine lv_iload_n hx hb dX4_parse_5 rfl (lv_at hl 1 rfl) ?_
  refine dm_gori (dm_rS (n := 1) (As := [.int wd]) (rest := []) hC hl (c_X4_isWidth l D cB cI cC wd H.size) kco_X4_isWidth ki_X4 kst_X4_isWidth kml_X4_75 (by decide +kernel) ⟨Nat.le_of_ble_eq_true rfl, Nat.le_of_ble_eq_true rfl⟩ rfl rfl ⟨dm_blind, dm_preU hK hP hD hC.2.2.2.2.2.2.2 [] (by decide) rfl⟩ rfl rfl (Nat.le_of_ble_eq_true rfl) dX4_parse_6 ⟨Nat.le_of_ble_eq_true rfl, Nat.le_of_ble_eq_true rfl⟩) (fun r1 e1 => ?_)
  refine lv_if_eq (tgt := 19) hx hb dX4_parse_9 (by decide) (fun hc => ?_) (fun hc => ?_)
  · refine lv_iconst (v := nI 3) hx hb dX4_parse_19 (by decide) ?_
    exact dm_iret hC hK (kr, ks, kv, kt) (Or.inl ⟨fun h9 => (e1.resolve_left (fun h8 => absurd (hc.symm.trans h8.2) (by decide))).1 h9.1, rfl, rfl, rfl⟩) hP hD hS dX4_parse_20
  · have hwd := (e1.resolve_right (fun h8 => hc h8.2)).1
    obtain ⟨wn, hwn, rfl⟩ : ∃ wn : Nat, (wn = 32 ∨ wn = 64) ∧ wd = nI wn := hwd.elim (fun h9 => ⟨32, Or.inl rfl, h9⟩) (fun h9 => ⟨64, Or.inr rfl, h9⟩)
    refine lv_iload_n hx hb dX4_parse_12 rfl (lv_at hl 2 rfl) ?_
    refine dm_gori (dm_rS (n := 1) (As := [.int x]) (rest := []) hC hl (c_X4_isRadix l D cB cI cC x H.size) kco_X4_isRadix ki_X4 kst_X4_isRadix kml_X4_41 (by decide +kernel) ⟨Nat.le_of_ble_eq_true rfl, Nat.le_of_ble_eq_true rfl⟩ rfl rfl ⟨dm_blind, dm_preU hK hP hD hC.2.2.2.2.2.2.2 [] (by decide) rfl⟩ rfl rfl (Nat.le_of_ble_eq_true rfl) dX4_parse_13 ⟨Nat.le_of_ble_eq_true rfl, Nat.le_of_ble_eq_true rfl⟩) (fun r2 e2 => ?_)
    refine lv_if_ne (tgt := 21) hx hb dX4_parse_16 (by decide) (fun hd => ?_) (fun hd => ?_)
    · obtain ⟨⟨r, hr2, hr36, rfl⟩, -⟩ := e2.resolve_right (fun h9 => hd h9.2)
      have hmi2 : pmn sg kt T < 2 := by unfold pmn; split <;> decide
      have hfr2 : pfr sg kt T < 2 := by unfold pfr; split <;> decide
      refine lv_aload_n hx hb dX4_parse_21 rfl (lv_at hl 0 rfl) ?_
      refine va_get (D := D) (ci := 4) (C := RX4) (T := TX4) (N := 10) (v := .int (nI kt)) hx hb hts kin_X4_w hown hK hP 0 rfl rfl 1 (by decide) (hts _ kfl_X4_38) (fun _ h9 => h9) rfl dX4_parse_22 ?_
      refine lv_istore (lv' := [(4, .int (nI kt)), (0, .ref g), (1, .int (nI wn)), (2, .int (nI r)), (3, .int (nI sg))]) hx hb dX4_parse_25 hl (by decide) rfl (fun ls hl => ?_)
      refine lv_aload_n hx hb dX4_parse_27 rfl (lv_at hl 1 rfl) ?_
      refine lv_iconst (v := nI 0) hx hb dX4_parse_28 (by decide) ?_
      refine va_put (D := D) (ci := 4) (v := .int (nI 0)) (ty := .int) (C := RX4) (T := TX4) (N := 10) hx hb hts kin_X4_w tyX4 tyX4_ok nmX4 hown hK hP hD hS 0 rfl rfl 1 (by decide) (hts _ kfl_X4_38) (fun _ h9 => h9) rfl (by decide +kernel) rfl rfl (Nat.le_of_ble_eq_true rfl) dX4_parse_29 (fun H locs hP hD hS => ?_)
      have hP : va_P D vwCl [(g, .inr (4, [.int (nI 0), .int (nI 0), .ref gi, .int (nI kw), .ref go, .int (nI kz), .ref gn, .int (nI ks), .ref gr, .long kv])), (gi, .inl (cC, 65536, .inl ki)), (go, .inl (cC, 65536, .inl ko)), (gn, .inl (cI, 4096, .inl kn)), (gr, .inl (cI, 4096, .inl kr))] H := hP
      have hD : va_D A [(g, .inr (4, [.int (nI 0), .int (nI 0), .ref gi, .int (nI kw), .ref go, .int (nI kz), .ref gn, .int (nI ks), .ref gr, .long kv])), (gi, .inl (cC, 65536, .inl ki)), (go, .inl (cC, 65536, .inl ko)), (gn, .inl (cI, 4096, .inl kn)), (gr, .inl (cI, 4096, .inl kr))] := hD
      refine dm_cutR (nL := 13) (σ := Unit) 59 (fun _ => True) (fun _ => [(5, .int (nI (pmn sg kt T))), (4, .int (nI kt)), (0, .ref g), (1, .int (nI wn)), (2, .int (nI r)), (3, .int (nI sg))]) (fun hJ => ?_) ?_
      · refine lv_iload hx hb dX4_parse_32 (lv_at hl 0 rfl) ?_
        refine dm_if_le (tgt := 56) hx hb (by omega) dX4_parse_34 (by decide) (fun h0 => ?_) (fun h0 => ?_)
        · refine lv_iconst (v := nI 0) hx hb dX4_parse_56 (by decide) ?_
          refine dm_ti (y := nI (pmn sg kt T)) (by unfold pmn; rw [if_neg (fun h9 => by omega)]) ?_
          refine lv_istore (lv' := [(5, .int (nI (pmn sg kt T))), (4, .int (nI kt)), (0, .ref g), (1, .int (nI wn)), (2, .int (nI r)), (3, .int (nI sg))]) hx hb dX4_parse_57 hl (by decide) rfl (fun ls hl => ?_)
          exact hJ () ls trivial (lv_sub hl [0, 1, 2, 3, 4, 5] rfl)
        · refine lv_iload_n hx hb dX4_parse_37 rfl (lv_at hl 4 rfl) ?_
          refine dm_if_eq (tgt := 56) hx hb (by omega) dX4_parse_38 (by decide) (fun hs => ?_) (fun hs => ?_)
          · refine lv_iconst (v := nI 0) hx hb dX4_parse_56 (by decide) ?_
            refine dm_ti (y := nI (pmn sg kt T)) (by unfold pmn; rw [if_neg (fun h9 => by omega)]) ?_
            refine lv_istore (lv' := [(5, .int (nI (pmn sg kt T))), (4, .int (nI kt)), (0, .ref g), (1, .int (nI wn)), (2, .int (nI r)), (3, .int (nI sg))]) hx hb dX4_parse_57 hl (by decide) rfl (fun ls hl => ?_)
            exact hJ () ls trivial (lv_sub hl [0, 1, 2, 3, 4, 5] rfl)
          · have hT0 := htx 0 h0
            refine lv_aload_n hx hb dX4_parse_41 rfl (lv_at hl 1 rfl) ?_
            refine va_get (D := D) (ci := 4) (C := RX4) (T := TX4) (N := 10) (v := .ref gi) hx hb hts kin_X4_w hown hK hP 0 rfl rfl 2 (by decide) (hts _ kfl_X4_8) (fun _ h9 => h9) rfl dX4_parse_42 ?_
            refine lv_iconst (v := nI 0) hx hb dX4_parse_45 (by decide) ?_
            refine dm_cald (j := 0) hx hb hK hP 1 2 rfl rfl (by omega) (by decide) dX4_parse_46 ?_
            refine dm_ti (y := nI (T 0)) (hT0.1) ?_
            refine lv_bipush (v := nI 45) hx hb dX4_parse_47 (by decide) ?_
            refine dm_icmp_ne (tgt := 56) hx hb (by omega) (by omega) dX4_parse_49 (by decide) (fun hq => ?_) (fun hq => ?_)
            · refine lv_iconst (v := nI 0) hx hb dX4_parse_56 (by decide) ?_
              refine dm_ti (y := nI (pmn sg kt T)) (by unfold pmn; rw [if_neg (fun h9 => hq h9.2.2)]) ?_
              refine lv_istore (lv' := [(5, .int (nI (pmn sg kt T))), (4, .int (nI kt)), (0, .ref g), (1, .int (nI wn)), (2, .int (nI r)), (3, .int (nI sg))]) hx hb dX4_parse_57 hl (by decide) rfl (fun ls hl => ?_)
              exact hJ () ls trivial (lv_sub hl [0, 1, 2, 3, 4, 5] rfl)
            · refine lv_iconst (v := nI 1) hx hb dX4_parse_52 (by decide) ?_
              refine dm_ti (y := nI (pmn sg kt T)) (by unfold pmn; rw [if_pos ⟨by omega, h0, hq⟩]) ?_
              refine lv_goto (tgt := 57) hx hb dX4_parse_53 (by decide) ?_
              refine lv_istore (lv' := [(5, .int (nI (pmn sg kt T))), (4, .int (nI kt)), (0, .ref g), (1, .int (nI wn)), (2, .int (nI r)), (3, .int (nI sg))]) hx hb dX4_parse_57 hl (by decide) rfl (fun ls hl => ?_)
              exact hJ () ls trivial (lv_sub hl [0, 1, 2, 3, 4, 5] rfl)
      · rintro - ls - hl
        refine dm_cutR (nL := 13) (σ := Unit) 87 (fun _ => True) (fun _ => [(6, .int (nI (pfr sg kt T))), (5, .int (nI (pmn sg kt T))), (4, .int (nI kt)), (0, .ref g), (1, .int (nI wn)), (2, .int (nI r)), (3, .int (nI sg))]) (fun hJ => ?_) ?_
        · refine lv_iload hx hb dX4_parse_59 (lv_at hl 0 rfl) ?_
          refine dm_if_ne (tgt := 80) hx hb (by omega) dX4_parse_61 (by decide) (fun hs => ?_) (fun hs => ?_)
          · refine lv_iconst (v := nI 1) hx hb dX4_parse_80 (by decide) ?_
            refine dm_ti (y := nI (pfr sg kt T)) (by unfold pfr; rw [if_pos (Or.inl (by omega))]) ?_
            refine lv_goto (tgt := 85) hx hb dX4_parse_81 (by decide) ?_
            refine lv_istore (lv' := [(6, .int (nI (pfr sg kt T))), (5, .int (nI (pmn sg kt T))), (4, .int (nI kt)), (0, .ref g), (1, .int (nI wn)), (2, .int (nI r)), (3, .int (nI sg))]) hx hb dX4_parse_85 hl (by decide) rfl (fun ls hl => ?_)
            exact hJ () ls trivial (lv_sub hl [0, 1, 2, 3, 4, 5, 6] rfl)
          · refine lv_iload hx hb dX4_parse_64 (lv_at hl 1 rfl) ?_
            refine dm_if_le (tgt := 84) hx hb (by omega) dX4_parse_66 (by decide) (fun h0 => ?_) (fun h0 => ?_)
            · refine lv_iconst (v := nI 0) hx hb dX4_parse_84 (by decide) ?_
              refine dm_ti (y := nI (pfr sg kt T)) (by unfold pfr; rw [if_neg (fun h9 => by omega)]) ?_
              refine lv_istore (lv' := [(6, .int (nI (pfr sg kt T))), (5, .int (nI (pmn sg kt T))), (4, .int (nI kt)), (0, .ref g), (1, .int (nI wn)), (2, .int (nI r)), (3, .int (nI sg))]) hx hb dX4_parse_85 hl (by decide) rfl (fun ls hl => ?_)
              exact hJ () ls trivial (lv_sub hl [0, 1, 2, 3, 4, 5, 6] rfl)
            · have hT0 := htx 0 h0
              refine lv_aload_n hx hb dX4_parse_69 rfl (lv_at hl 2 rfl) ?_
              refine va_get (D := D) (ci := 4) (C := RX4) (T := TX4) (N := 10) (v := .ref gi) hx hb hts kin_X4_w hown hK hP 0 rfl rfl 2 (by decide) (hts _ kfl_X4_8) (fun _ h9 => h9) rfl dX4_parse_70 ?_
              refine lv_iconst (v := nI 0) hx hb dX4_parse_73 (by decide) ?_
              refine dm_cald (j := 0) hx hb hK hP 1 2 rfl rfl (by omega) (by decide) dX4_parse_74 ?_
              refine dm_ti (y := nI (T 0)) (hT0.1) ?_
              refine lv_bipush (v := nI 43) hx hb dX4_parse_75 (by decide) ?_
              refine dm_icmp_ne (tgt := 84) hx hb (by omega) (by omega) dX4_parse_77 (by decide) (fun hq => ?_) (fun hq => ?_)
              · refine lv_iconst (v := nI 0) hx hb dX4_parse_84 (by decide) ?_
                refine dm_ti (y := nI (pfr sg kt T)) (by unfold pfr; rw [if_neg (fun h9 => h9.elim (fun h8 => by omega) (fun h8 => hq h8.2))]) ?_
                refine lv_istore (lv' := [(6, .int (nI (pfr sg kt T))), (5, .int (nI (pmn sg kt T))), (4, .int (nI kt)), (0, .ref g), (1, .int (nI wn)), (2, .int (nI r)), (3, .int (nI sg))]) hx hb dX4_parse_85 hl (by decide) rfl (fun ls hl => ?_)
                exact hJ () ls trivial (lv_sub hl [0, 1, 2, 3, 4, 5, 6] rfl)
              · refine lv_iconst (v := nI 1) hx hb dX4_parse_80 (by decide) ?_
                refine dm_ti (y := nI (pfr sg kt T)) (by unfold pfr; rw [if_pos (Or.inr ⟨h0, hq⟩)]) ?_
                refine lv_goto (tgt := 85) hx hb dX4_parse_81 (by decide) ?_
                refine lv_istore (lv' := [(6, .int (nI (pfr sg kt T))), (5, .int (nI (pmn sg kt T))), (4, .int (nI kt)), (0, .ref g), (1, .int (nI wn)), (2, .int (nI r)), (3, .int (nI sg))]) hx hb dX4_parse_85 hl (by decide) rfl (fun ls hl => ?_)
                exact hJ () ls trivial (lv_sub hl [0, 1, 2, 3, 4, 5, 6] rfl)
        · rintro - ls - hl
          have hfrn : pfr sg kt T ≤ kt := pfr_le
          obtain ⟨fr, hfr⟩ : ∃ z, z = pfr sg kt T := ⟨_, rfl⟩
          obtain ⟨mi, hmi⟩ : ∃ z, z = pmn sg kt T := ⟨_, rfl⟩
          unfold pgood pval
          rw [← hfr, ← hmi]
          rw [← hfr] at hl hfr2 hfrn
          rw [← hmi] at hl hmi2
          have hl : lv_has ls 13 [(6, .int (nI fr)), (5, .int (nI mi)), (4, .int (nI kt)), (0, .ref g), (1, .int (nI wn)), (2, .int (nI r)), (3, .int (nI sg))] := hl
          refine lv_iload hx hb dX4_parse_87 (lv_at hl 0 rfl) ?_
          refine lv_iload hx hb dX4_parse_89 (lv_at hl 2 rfl) ?_
          refine dm_icmp_ne (tgt := 96) hx hb (by omega) (by omega) dX4_parse_91 (by decide) (fun hd9 => ?_) (fun hd9 => ?_)
          · have hfl : fr < kt := by omega
            refine lv_iload hx hb dX4_parse_96 (lv_at hl 0 rfl) ?_
            refine lv_istore (lv' := [(7, .int (nI fr)), (6, .int (nI fr)), (5, .int (nI mi)), (4, .int (nI kt)), (0, .ref g), (1, .int (nI wn)), (2, .int (nI r)), (3, .int (nI sg))]) hx hb dX4_parse_98 hl (by decide) rfl (fun ls hl => ?_)
            refine dm_loopR (nL := 13) 100 (fun k => fr ≤ k ∧ k ≤ kt ∧ fo r T k (kt - k) = fo r T fr (kt - fr)) (fun k => [(7, .int (nI k)), (6, .int (nI fr)), (5, .int (nI mi)), (4, .int (nI kt)), (0, .ref g), (1, .int (nI wn)), (2, .int (nI r)), (3, .int (nI sg))]) (fun k => kt - k) ?_ fr ⟨Nat.le_refl _, hfrn, rfl⟩ (lv_sub hl [0, 1, 2, 3, 4, 5, 6, 7] rfl)
            rintro k ls ⟨hk1, hk2, hfo⟩ hl ih
            refine lv_iload hx hb dX4_parse_100 (lv_at hl 0 rfl) ?_
            refine lv_iload hx hb dX4_parse_102 (lv_at hl 3 rfl) ?_
            refine dm_icmp_ge (tgt := 129) hx hb (by omega) (by omega) dX4_parse_104 (by decide) (fun hg => ?_) (fun hg => ?_)
            · have hfe : fo r T fr (kt - fr) = kt := by rw [← hfo, show k = kt by omega, Nat.sub_self]; rfl
              have hall : ∀ j, fr ≤ j → j < kt → dgv (T j) < r := fun j h1 h2 => fo_all (r := r) (T := T) (k := kt - fr) (i := fr) (by omega) j h1 (by omega)
              clear ih
              obtain ⟨V, hV⟩ : ∃ z, z = hn r T fr (kt - fr) := ⟨_, rfl⟩
              obtain ⟨m, hwm, hm1, hm3⟩ : ∃ m : Nat, wn = 16 * (m + 1) ∧ 1 ≤ m ∧ m ≤ 3 := hwn.elim (fun h9 => ⟨1, h9, by decide, by decide⟩) (fun h9 => ⟨3, h9, by decide, by decide⟩)
              refine lv_aload_n hx hb dX4_parse_129 rfl (lv_at hl 4 rfl) ?_
              refine lv_iconst (v := nI 0) hx hb dX4_parse_130 (by decide) ?_
              refine va_put (D := D) (ci := 4) (v := .int (nI 0)) (ty := .int) (C := RX4) (T := TX4) (N := 10) hx hb hts kin_X4_w tyX4 tyX4_ok nmX4 hown hK hP hD hS 0 rfl rfl 7 (by decide) (hts _ kfl_X4_28) (fun _ h9 => h9) rfl (by decide +kernel) rfl rfl (Nat.le_of_ble_eq_true rfl) dX4_parse_131 (fun H locs hP hD hS => ?_)
              have hP : va_P D vwCl [(g, .inr (4, [.int (nI 0), .int (nI 0), .ref gi, .int (nI kw), .ref go, .int (nI kz), .ref gn, .int (nI 0), .ref gr, .long kv])), (gi, .inl (cC, 65536, .inl ki)), (go, .inl (cC, 65536, .inl ko)), (gn, .inl (cI, 4096, .inl kn)), (gr, .inl (cI, 4096, .inl kr))] H := hP
              have hD : va_D A [(g, .inr (4, [.int (nI 0), .int (nI 0), .ref gi, .int (nI kw), .ref go, .int (nI kz), .ref gn, .int (nI 0), .ref gr, .long kv])), (gi, .inl (cC, 65536, .inl ki)), (go, .inl (cC, 65536, .inl ko)), (gn, .inl (cI, 4096, .inl kn)), (gr, .inl (cI, 4096, .inl kr))] := hD
              refine lv_iload hx hb dX4_parse_134 (lv_at hl 1 rfl) ?_
              refine lv_istore (lv' := [(7, .int (nI fr)), (6, .int (nI fr)), (5, .int (nI mi)), (4, .int (nI kt)), (0, .ref g), (1, .int (nI wn)), (2, .int (nI r)), (3, .int (nI sg))]) hx hb dX4_parse_136 hl (by decide) rfl (fun ls hl => ?_)
              refine dm_loop (nL := 13) (head := 138) (P := fun (y : Nat × (Nat → Int32) × Nat) => fr ≤ y.1 ∧ y.1 ≤ kt ∧ y.2.2 ≤ 4096 ∧ d16 y.2.1 y.2.2 ∧ nrm y.2.1 y.2.2 ∧ ((y.2.2 < 6 ∧ dvb 65536 y.2.1 y.2.2 = hn r T fr (y.1 - fr)) ∨ (6 ≤ y.2.2 ∧ 65536 ^ 5 ≤ hn r T fr (y.1 - fr)))) (w := fun y => [(g, .inr (4, [.int (nI 0), .int (nI 0), .ref gi, .int (nI kw), .ref go, .int (nI kz), .ref gn, .int (nI y.2.2), .ref gr, .long kv])), (gi, .inl (cC, 65536, .inl ki)), (go, .inl (cC, 65536, .inl ko)), (gn, .inl (cI, 4096, .inl kn)), (gr, .inl (cI, 4096, .inl y.2.1))]) (lv := fun y => [(7, .int (nI y.1)), (6, .int (nI fr)), (5, .int (nI mi)), (4, .int (nI kt)), (0, .ref g), (1, .int (nI wn)), (2, .int (nI r)), (3, .int (nI sg))]) (μ := fun y => kt - y.1) ?_ (fr, kr, 0) ⟨Nat.le_refl _, hfrn, Nat.zero_le _, fun j hj => absurd hj (Nat.not_lt_zero _), nrm_0 kr, Or.inl ⟨by show 0 < 6; decide, by dsimp only; rw [Nat.sub_self]; rfl⟩⟩ hP hD hS (lv_sub hl [0, 1, 2, 3, 4, 5, 6, 7] rfl)
              rintro ⟨i, F, S⟩ H locs ls ⟨i1, i2, i3, i4, i5, i6⟩ hP hD hS hl ih
              dsimp only at i1 i2 i3 i4 i5 i6
              have hP : va_P D vwCl [(g, .inr (4, [.int (nI 0), .int (nI 0), .ref gi, .int (nI kw), .ref go, .int (nI kz), .ref gn, .int (nI S), .ref gr, .long kv])), (gi, .inl (cC, 65536, .inl ki)), (go, .inl (cC, 65536, .inl ko)), (gn, .inl (cI, 4096, .inl kn)), (gr, .inl (cI, 4096, .inl F))] H := hP
              have hD : va_D A [(g, .inr (4, [.int (nI 0), .int (nI 0), .ref gi, .int (nI kw), .ref go, .int (nI kz), .ref gn, .int (nI S), .ref gr, .long kv])), (gi, .inl (cC, 65536, .inl ki)), (go, .inl (cC, 65536, .inl ko)), (gn, .inl (cI, 4096, .inl kn)), (gr, .inl (cI, 4096, .inl F))] := hD
              have hl : lv_has ls 13 [(7, .int (nI i)), (6, .int (nI fr)), (5, .int (nI mi)), (4, .int (nI kt)), (0, .ref g), (1, .int (nI wn)), (2, .int (nI r)), (3, .int (nI sg))] := hl
              refine lv_iload hx hb dX4_parse_138 (lv_at hl 0 rfl) ?_
              refine lv_iload hx hb dX4_parse_140 (lv_at hl 3 rfl) ?_
              refine dm_icmp_ge (tgt := 180) hx hb (by omega) (by omega) dX4_parse_142 (by decide) (fun he => ?_) (fun he => ?_)
              · clear ih
                rw [show i = kt by omega, ← hV] at i6
                have hmol : m < 4 := by omega
                refine lv_iload_n hx hb dX4_parse_180 rfl (lv_at hl 5 rfl) ?_
                refine lv_bipush (v := nI 16) hx hb dX4_parse_181 (by decide) ?_
                refine lv_idiv hx hb dX4_parse_183 (by decide) ?_
                refine dm_ti (y := nI (m + 1)) (by rw [hwm, pk_div (by omega) (by decide) (by decide)]; exact congrArg nI (by omega)) ?_
                refine lv_istore (lv' := [(7, .int (nI (m + 1))), (6, .int (nI fr)), (5, .int (nI mi)), (4, .int (nI kt)), (0, .ref g), (1, .int (nI wn)), (2, .int (nI r)), (3, .int (nI sg))]) hx hb dX4_parse_184 hl (by decide) rfl (fun ls hl => ?_)
                obtain ⟨tp, htp⟩ : ∃ z, z = if S = m + 1 ∧ 32767 < un (F m) then 1 else 0 := ⟨_, rfl⟩
                have htp2 : tp < 2 := by rw [htp]; split <;> decide
                refine dm_cutR (nL := 13) (σ := Unit) 217 (fun _ => True) (fun _ => [(8, .int (nI tp)), (7, .int (nI (m + 1))), (6, .int (nI fr)), (5, .int (nI mi)), (4, .int (nI kt)), (0, .ref g), (1, .int (nI wn)), (2, .int (nI r)), (3, .int (nI sg))]) (fun hJ => ?_) ?_
                · refine lv_aload_n hx hb dX4_parse_186 rfl (lv_at hl 4 rfl) ?_
                  refine va_get (D := D) (ci := 4) (C := RX4) (T := TX4) (N := 10) (v := .int (nI S)) hx hb hts kin_X4_w hown hK hP 0 rfl rfl 7 (by decide) (hts _ kfl_X4_28) (fun _ h9 => h9) rfl dX4_parse_187 ?_
                  refine lv_iload hx hb dX4_parse_190 (lv_at hl 0 rfl) ?_
                  refine dm_icmp_ne (tgt := 214) hx hb (by omega) (by omega) dX4_parse_192 (by decide) (fun hq => ?_) (fun hq => ?_)
                  · refine lv_iconst (v := nI 0) hx hb dX4_parse_214 (by decide) ?_
                    refine dm_ti (y := nI tp) (by rw [htp, if_neg (fun h9 => hq h9.1)]) ?_
                    refine lv_istore (lv' := [(8, .int (nI tp)), (7, .int (nI (m + 1))), (6, .int (nI fr)), (5, .int (nI mi)), (4, .int (nI kt)), (0, .ref g), (1, .int (nI wn)), (2, .int (nI r)), (3, .int (nI sg))]) hx hb dX4_parse_215 hl (by decide) rfl (fun ls hl => ?_)
                    exact hJ () ls trivial (lv_sub hl [0, 1, 2, 3, 4, 5, 6, 7, 8] rfl)
                  · have hdm := i4 m (by omega)
                    refine lv_aload_n hx hb dX4_parse_195 rfl (lv_at hl 4 rfl) ?_
                    refine va_get (D := D) (ci := 4) (C := RX4) (T := TX4) (N := 10) (v := .ref gr) hx hb hts kin_X4_w hown hK hP 0 rfl rfl 8 (by decide) (hts _ kfl_X4_21) (fun _ h9 => h9) rfl dX4_parse_196 ?_
                    refine lv_iload hx hb dX4_parse_199 (lv_at hl 0 rfl) ?_
                    refine lv_iconst (v := nI 1) hx hb dX4_parse_201 (by decide) ?_
                    refine lv_isub hx hb dX4_parse_202 ?_
                    refine dm_ti (y := nI m) (nI_pred m) ?_
                    refine dm_iald (j := m) hx hb hK hP 4 1 rfl rfl (by omega) (by decide) dX4_parse_203 ?_
                    refine dm_ti (y := nI (un (F m))) ((nI_un _).symm) ?_
                    refine lv_sipush (v := nI 32767) hx hb dX4_parse_204 (by decide) ?_
                    refine dm_icmp_le (tgt := 214) hx hb (by omega) (by omega) dX4_parse_207 (by decide) (fun hq2 => ?_) (fun hq2 => ?_)
                    · refine lv_iconst (v := nI 0) hx hb dX4_parse_214 (by decide) ?_
                      refine dm_ti (y := nI tp) (by rw [htp, if_neg (fun h9 => by omega)]) ?_
                      refine lv_istore (lv' := [(8, .int (nI tp)), (7, .int (nI (m + 1))), (6, .int (nI fr)), (5, .int (nI mi)), (4, .int (nI kt)), (0, .ref g), (1, .int (nI wn)), (2, .int (nI r)), (3, .int (nI sg))]) hx hb dX4_parse_215 hl (by decide) rfl (fun ls hl => ?_)
                      exact hJ () ls trivial (lv_sub hl [0, 1, 2, 3, 4, 5, 6, 7, 8] rfl)
                    · refine lv_iconst (v := nI 1) hx hb dX4_parse_210 (by decide) ?_
                      refine dm_ti (y := nI tp) (by rw [htp, if_pos ⟨hq, hq2⟩]) ?_
                      refine lv_goto (tgt := 215) hx hb dX4_parse_211 (by decide) ?_
                      refine lv_istore (lv' := [(8, .int (nI tp)), (7, .int (nI (m + 1))), (6, .int (nI fr)), (5, .int (nI mi)), (4, .int (nI kt)), (0, .ref g), (1, .int (nI wn)), (2, .int (nI r)), (3, .int (nI sg))]) hx hb dX4_parse_215 hl (by decide) rfl (fun ls hl => ?_)
                      exact hJ () ls trivial (lv_sub hl [0, 1, 2, 3, 4, 5, 6, 7, 8] rfl)
                · rintro - ls - hl
                  obtain ⟨q0, hq0⟩ : ∃ z, z = if tp = 1 ∧ un (F m) = 32768 then 1 else 0 := ⟨_, rfl⟩
                  have hq02 : q0 < 2 := by rw [hq0]; split <;> decide
                  refine dm_cutR (nL := 13) (σ := Unit) 243 (fun _ => True) (fun _ => [(9, .int (nI q0)), (8, .int (nI tp)), (7, .int (nI (m + 1))), (6, .int (nI fr)), (5, .int (nI mi)), (4, .int (nI kt)), (0, .ref g), (1, .int (nI wn)), (2, .int (nI r)), (3, .int (nI sg))]) (fun hJ => ?_) ?_
                  · refine lv_iload hx hb dX4_parse_217 (lv_at hl 0 rfl) ?_
                    refine dm_if_eq (tgt := 240) hx hb (by omega) dX4_parse_219 (by decide) (fun hq => ?_) (fun hq => ?_)
                    · refine lv_iconst (v := nI 0) hx hb dX4_parse_240 (by decide) ?_
                      refine dm_ti (y := nI q0) (by rw [hq0, if_neg (fun h9 => by omega)]) ?_
                      refine lv_istore (lv' := [(9, .int (nI q0)), (8, .int (nI tp)), (7, .int (nI (m + 1))), (6, .int (nI fr)), (5, .int (nI mi)), (4, .int (nI kt)), (0, .ref g), (1, .int (nI wn)), (2, .int (nI r)), (3, .int (nI sg))]) hx hb dX4_parse_241 hl (by decide) rfl (fun ls hl => ?_)
                      exact hJ () ls trivial (lv_sub hl [0, 1, 2, 3, 4, 5, 6, 7, 8, 9] rfl)
                    · have htp1 : S = m + 1 := by
                        rw [htp] at hq
                        split at hq
                        · next h9 => exact h9.1
                        · omega
                      have hdm := i4 m (by omega)
                      refine lv_aload_n hx hb dX4_parse_222 rfl (lv_at hl 5 rfl) ?_
                      refine va_get (D := D) (ci := 4) (C := RX4) (T := TX4) (N := 10) (v := .ref gr) hx hb hts kin_X4_w hown hK hP 0 rfl rfl 8 (by decide) (hts _ kfl_X4_21) (fun _ h9 => h9) rfl dX4_parse_223 ?_
                      refine lv_iload hx hb dX4_parse_226 (lv_at hl 1 rfl) ?_
                      refine lv_iconst (v := nI 1) hx hb dX4_parse_228 (by decide) ?_
                      refine lv_isub hx hb dX4_parse_229 ?_
                      refine dm_ti (y := nI m) (nI_pred m) ?_
                      refine dm_iald (j := m) hx hb hK hP 4 1 rfl rfl (by omega) (by decide) dX4_parse_230 ?_
                      refine dm_ti (y := nI (un (F m))) ((nI_un _).symm) ?_
                      refine lv_ldc (v := nI 32768) hx hb hown (hts _ kct_X4_62) dX4_parse_231 ?_
                      refine dm_icmp_ne (tgt := 240) hx hb (by omega) (by omega) dX4_parse_233 (by decide) (fun hq2 => ?_) (fun hq2 => ?_)
                      · refine lv_iconst (v := nI 0) hx hb dX4_parse_240 (by decide) ?_
                        refine dm_ti (y := nI q0) (by rw [hq0, if_neg (fun h9 => hq2 h9.2)]) ?_
                        refine lv_istore (lv' := [(9, .int (nI q0)), (8, .int (nI tp)), (7, .int (nI (m + 1))), (6, .int (nI fr)), (5, .int (nI mi)), (4, .int (nI kt)), (0, .ref g), (1, .int (nI wn)), (2, .int (nI r)), (3, .int (nI sg))]) hx hb dX4_parse_241 hl (by decide) rfl (fun ls hl => ?_)
                        exact hJ () ls trivial (lv_sub hl [0, 1, 2, 3, 4, 5, 6, 7, 8, 9] rfl)
                      · refine lv_iconst (v := nI 1) hx hb dX4_parse_236 (by decide) ?_
                        refine dm_ti (y := nI q0) (by rw [hq0, if_pos ⟨by omega, hq2⟩]) ?_
                        refine lv_goto (tgt := 241) hx hb dX4_parse_237 (by decide) ?_
                        refine lv_istore (lv' := [(9, .int (nI q0)), (8, .int (nI tp)), (7, .int (nI (m + 1))), (6, .int (nI fr)), (5, .int (nI mi)), (4, .int (nI kt)), (0, .ref g), (1, .int (nI wn)), (2, .int (nI r)), (3, .int (nI sg))]) hx hb dX4_parse_241 hl (by decide) rfl (fun ls hl => ?_)
                        exact hJ () ls trivial (lv_sub hl [0, 1, 2, 3, 4, 5, 6, 7, 8, 9] rfl)
                  · rintro - ls - hl
                    have hl2m := lsf_2 (F := F) (q := q0) (k := m)
                    refine dm_cutR (nL := 13) (σ := Unit) 283 (fun _ => True) (fun _ => [(9, .int (nI (lsf F q0 m))), (8, .int (nI tp)), (7, .int (nI (m + 1))), (6, .int (nI fr)), (5, .int (nI mi)), (4, .int (nI kt)), (0, .ref g), (1, .int (nI wn)), (2, .int (nI r)), (3, .int (nI sg))]) (fun hJ => ?_) ?_
                    · refine lv_iconst (v := nI 0) hx hb dX4_parse_243 (by decide) ?_
                      refine lv_istore (lv' := [(10, .int (nI 0)), (9, .int (nI q0)), (8, .int (nI tp)), (7, .int (nI (m + 1))), (6, .int (nI fr)), (5, .int (nI mi)), (4, .int (nI kt)), (0, .ref g), (1, .int (nI wn)), (2, .int (nI r)), (3, .int (nI sg))]) hx hb dX4_parse_244 hl (by decide) rfl (fun ls hl => ?_)
                      have hl : lv_has ls 13 [(10, .int (nI 0)), (9, .int (nI (lsf F q0 0))), (8, .int (nI tp)), (7, .int (nI (m + 1))), (6, .int (nI fr)), (5, .int (nI mi)), (4, .int (nI kt)), (0, .ref g), (1, .int (nI wn)), (2, .int (nI r)), (3, .int (nI sg))] := by rw [lsf_0 hq02]; exact lv_sub hl [0, 1, 2, 3, 4, 5, 6, 7, 8, 9, 10] rfl
                      refine dm_loopR (nL := 13) 246 (fun k => k ≤ m) (fun k => [(10, .int (nI k)), (9, .int (nI (lsf F q0 k))), (8, .int (nI tp)), (7, .int (nI (m + 1))), (6, .int (nI fr)), (5, .int (nI mi)), (4, .int (nI kt)), (0, .ref g), (1, .int (nI wn)), (2, .int (nI r)), (3, .int (nI sg))]) (fun k => m - k) ?_ 0 (Nat.zero_le _) hl
                      intro k ls hk hl ih
                      have hl2 := lsf_2 (F := F) (q := q0) (k := k)
                      refine lv_iload hx hb dX4_parse_246 (lv_at hl 0 rfl) ?_
                      refine lv_iload hx hb dX4_parse_248 (lv_at hl 3 rfl) ?_
                      refine lv_iconst (v := nI 1) hx hb dX4_parse_250 (by decide) ?_
                      refine lv_isub hx hb dX4_parse_251 ?_
                      refine dm_ti (y := nI m) (nI_pred m) ?_
                      refine dm_icmp_ge (tgt := 283) hx hb (by omega) (by omega) dX4_parse_252 (by decide) (fun hq => ?_) (fun hq => ?_)
                      · rw [show k = m by omega] at hl
                        exact hJ () ls trivial (lv_sub hl [1, 2, 3, 4, 5, 6, 7, 8, 9, 10] rfl)
                      · refine lv_iload hx hb dX4_parse_255 (lv_at hl 1 rfl) ?_
                        refine dm_if_eq (tgt := 283) hx hb (by omega) dX4_parse_257 (by decide) (fun hq2 => ?_) (fun hq2 => ?_)
                        · rw [hq2.trans (lsf_stop hq2 (Nat.le_of_lt hq)).symm] at hl
                          exact hJ () ls trivial (lv_sub hl [1, 2, 3, 4, 5, 6, 7, 8, 9, 10] rfl)
                        · have hq1 : q0 = 1 := by
                            unfold lsf at hq2
                            split at hq2
                            · next h9 => exact h9.1
                            · omega
                          have hS1 : S = m + 1 := by
                            rw [hq0] at hq1
                            split at hq1
                            · next h9 =>
                              have h8 := h9.1
                              rw [htp] at h8
                              split at h8
                              · next h7 => exact h7.1
                              · omega
                            · omega
                          refine lv_aload_n hx hb dX4_parse_260 rfl (lv_at hl 7 rfl) ?_
                          refine va_get (D := D) (ci := 4) (C := RX4) (T := TX4) (N := 10) (v := .ref gr) hx hb hts kin_X4_w hown hK hP 0 rfl rfl 8 (by decide) (hts _ kfl_X4_21) (fun _ h9 => h9) rfl dX4_parse_261 ?_
                          refine lv_iload hx hb dX4_parse_264 (lv_at hl 0 rfl) ?_
                          refine dm_iald (j := k) hx hb hK hP 4 1 rfl rfl (by omega) (by decide) dX4_parse_266 ?_
                          have hls := lsf_s (F := F) (q := q0) (k := k) (by omega)
                          refine lv_if_ne (tgt := 274) hx hb dX4_parse_267 (by decide) (fun hq3 => ?_) (fun hq3 => ?_)
                          · refine lv_iconst (v := nI 0) hx hb dX4_parse_274 (by decide) ?_
                            refine dm_ti (y := nI (lsf F q0 (k + 1))) (by rw [hls, if_neg hq3]) ?_
                            refine lv_istore (lv' := [(9, .int (nI (lsf F q0 (k + 1)))), (10, .int (nI k)), (8, .int (nI tp)), (7, .int (nI (m + 1))), (6, .int (nI fr)), (5, .int (nI mi)), (4, .int (nI kt)), (0, .ref g), (1, .int (nI wn)), (2, .int (nI r)), (3, .int (nI sg))]) hx hb dX4_parse_275 hl (by decide) rfl (fun ls hl => ?_)
                            refine lv_iinc (v := nI (k + 1)) (lv' := [(10, .int (nI (k + 1))), (9, .int (nI (lsf F q0 (k + 1)))), (8, .int (nI tp)), (7, .int (nI (m + 1))), (6, .int (nI fr)), (5, .int (nI mi)), (4, .int (nI kt)), (0, .ref g), (1, .int (nI wn)), (2, .int (nI r)), (3, .int (nI sg))]) hx hb dX4_parse_277 hl (k := 1) rfl ((nI_succ k).symm) (by decide) rfl (fun ls hl => ?_)
                            refine lv_goto (tgt := 246) hx hb dX4_parse_280 (by decide) ?_
                            exact ih (k + 1) ls (by omega) (by omega) (lv_sub hl [0, 1, 2, 3, 4, 5, 6, 7, 8, 9, 10] rfl)
                          · refine lv_iconst (v := nI 1) hx hb dX4_parse_270 (by decide) ?_
                            refine dm_ti (y := nI (lsf F q0 (k + 1))) (by rw [hls, if_pos hq3]) ?_
                            refine lv_goto (tgt := 275) hx hb dX4_parse_271 (by decide) ?_
                            refine lv_istore (lv' := [(9, .int (nI (lsf F q0 (k + 1)))), (10, .int (nI k)), (8, .int (nI tp)), (7, .int (nI (m + 1))), (6, .int (nI fr)), (5, .int (nI mi)), (4, .int (nI kt)), (0, .ref g), (1, .int (nI wn)), (2, .int (nI r)), (3, .int (nI sg))]) hx hb dX4_parse_275 hl (by decide) rfl (fun ls hl => ?_)
                            refine lv_iinc (v := nI (k + 1)) (lv' := [(10, .int (nI (k + 1))), (9, .int (nI (lsf F q0 (k + 1)))), (8, .int (nI tp)), (7, .int (nI (m + 1))), (6, .int (nI fr)), (5, .int (nI mi)), (4, .int (nI kt)), (0, .ref g), (1, .int (nI wn)), (2, .int (nI r)), (3, .int (nI sg))]) hx hb dX4_parse_277 hl (k := 1) rfl ((nI_succ k).symm) (by decide) rfl (fun ls hl => ?_)
                            refine lv_goto (tgt := 246) hx hb dX4_parse_280 (by decide) ?_
                            exact ih (k + 1) ls (by omega) (by omega) (lv_sub hl [0, 1, 2, 3, 4, 5, 6, 7, 8, 9, 10] rfl)
                    · rintro - ls - hl
                      refine lv_aload_n hx hb dX4_parse_283 rfl (lv_at hl 6 rfl) ?_
                      refine va_get (D := D) (ci := 4) (C := RX4) (T := TX4) (N := 10) (v := .int (nI S)) hx hb hts kin_X4_w hown hK hP 0 rfl rfl 7 (by decide) (hts _ kfl_X4_28) (fun _ h9 => h9) rfl dX4_parse_284 ?_
                      refine lv_iload hx hb dX4_parse_287 (lv_at hl 2 rfl) ?_
                      refine dm_icmp_gt (tgt := 311) hx hb (by omega) (by omega) dX4_parse_289 (by decide) (fun hq => ?_) (fun hq => ?_)
                      · have hbg : 65536 ^ (m + 1) ≤ V := by
                          rcases i6 with h9 | h9
                          · obtain ⟨k9, rfl⟩ : ∃ k9, S = k9 + 1 := ⟨S - 1, by omega⟩
                            rw [← h9.2]
                            exact Nat.le_trans (Nat.pow_le_pow_right (by decide) (by omega)) (nrm16_ge i5)
                          · exact Nat.le_trans (Nat.pow_le_pow_right (by decide) (by omega)) h9.2
                        refine lv_iconst (v := nI 2) hx hb dX4_parse_311 (by decide) ?_
                        exact dm_iret hC hK (F, S, kv, 0) (Or.inr ⟨wn, r, hwn, hr2, hr36, rfl, rfl, rfl, Or.inr (Or.inl ⟨⟨hfl, hfe⟩, by rw [← hV]; exact (by rw [hwm]; exact pfit_big hbg), rfl, rfl⟩)⟩) hP hD hS dX4_parse_312
                      · have hVd : dvb 65536 F S = V := (i6.resolve_right (fun h9 => by omega)).2
                        refine dm_cutR (nL := 13) (σ := Unit) 313 (fun _ => pfit wn sg mi V) (fun _ => [(5, .int (nI mi)), (4, .int (nI kt)), (0, .ref g), (1, .int (nI wn)), (2, .int (nI r)), (3, .int (nI sg))]) (fun hJ => ?_) ?_
                        · refine lv_iload_n hx hb dX4_parse_292 rfl (lv_at hl 9 rfl) ?_
                          refine dm_if_eq (tgt := 313) hx hb (by omega) dX4_parse_293 (by decide) (fun hs => ?_) (fun hs => ?_)
                          · have hfit : pfit wn sg mi V := by
                              rw [hwm, ← hVd]
                              rcases (show S ≤ m ∨ S = m + 1 by omega) with h9 | h9
                              · exact pfit_lt i4 h9
                              · rw [h9] at i4 ⊢; exact (pfit_top hsg i4).mpr (Or.inl hs)
                            exact hJ () ls (hfit) (lv_sub hl [4, 5, 6, 7, 8, 9] rfl)
                          · refine lv_iload hx hb dX4_parse_296 (lv_at hl 1 rfl) ?_
                            refine dm_if_eq (tgt := 313) hx hb (by omega) dX4_parse_298 (by decide) (fun ht => ?_) (fun ht => ?_)
                            · have hfit : pfit wn sg mi V := by
                                rw [hwm, ← hVd]
                                rcases (show S ≤ m ∨ S = m + 1 by omega) with h9 | h9
                                · exact pfit_lt i4 h9
                                · have h8 : ¬ 32767 < un (F m) := fun h7 => by rw [if_pos ⟨h9, h7⟩] at htp; omega
                                  rw [h9] at i4 ⊢; exact (pfit_top hsg i4).mpr (Or.inr (Or.inl (by omega)))
                              exact hJ () ls (hfit) (lv_sub hl [4, 5, 6, 7, 8, 9] rfl)
                            · have hST : S = m + 1 ∧ 32767 < un (F m) := by
                                rw [htp] at ht
                                split at ht
                                · next h9 => exact h9
                                · omega
                              have hpt : pfit wn sg mi V ↔ (mi = 1 ∧ lsf F q0 m = 1) := by
                                rw [hwm, ← hVd]
                                have i4b : d16 F (m + 1) := by rw [← hST.1]; exact i4
                                rw [hST.1, pfit_top hsg i4b]
                                unfold lsf
                                constructor
                                · intro h9
                                  rcases h9 with h9 | h9 | h9
                                  · omega
                                  · omega
                                  · exact ⟨h9.1, if_pos ⟨by rw [hq0, if_pos ⟨by omega, h9.2.1⟩], h9.2.2⟩⟩
                                · intro h9
                                  refine Or.inr (Or.inr ?_)
                                  have h8 := h9.2
                                  split at h8
                                  · next h7 =>
                                    have h6 := h7.1
                                    rw [hq0] at h6
                                    split at h6
                                    · next h5 => exact ⟨h9.1, h5.2, h7.2⟩
                                    · omega
                                  · omega
                              refine lv_iload hx hb dX4_parse_301 (lv_at hl 4 rfl) ?_
                              refine dm_if_eq (tgt := 311) hx hb (by omega) dX4_parse_303 (by decide) (fun hm => ?_) (fun hm => ?_)
                              · refine lv_iconst (v := nI 2) hx hb dX4_parse_311 (by decide) ?_
                                exact dm_iret hC hK (F, S, kv, 0) (Or.inr ⟨wn, r, hwn, hr2, hr36, rfl, rfl, rfl, Or.inr (Or.inl ⟨⟨hfl, hfe⟩, by rw [← hV]; exact (fun h9 => by have := (hpt.mp h9).1; omega), rfl, rfl⟩)⟩) hP hD hS dX4_parse_312
                              · refine lv_iload hx hb dX4_parse_306 (lv_at hl 0 rfl) ?_
                                refine dm_if_ne (tgt := 313) hx hb (by omega) dX4_parse_308 (by decide) (fun hm2 => ?_) (fun hm2 => ?_)
                                · exact hJ () ls (hpt.mpr ⟨by omega, by omega⟩) (lv_sub hl [4, 5, 6, 7, 8, 9] rfl)
                                · refine lv_iconst (v := nI 2) hx hb dX4_parse_311 (by decide) ?_
                                  exact dm_iret hC hK (F, S, kv, 0) (Or.inr ⟨wn, r, hwn, hr2, hr36, rfl, rfl, rfl, Or.inr (Or.inl ⟨⟨hfl, hfe⟩, by rw [← hV]; exact (fun h9 => by have := (hpt.mp h9).2; omega), rfl, rfl⟩)⟩) hP hD hS dX4_parse_312
                        · rintro - ls hfit hl
                          have hfit : pfit wn sg mi V := hfit
                          have hVb : V < 18446744073709551616 := by rw [← hVd]; exact Nat.lt_of_lt_of_le (d16_lt i4) (show 65536 ^ S ≤ 65536 ^ 4 from Nat.pow_le_pow_right (by decide) (by omega))
                          refine lv_lconst (v := lN 0) hx hb dX4_parse_313 (by decide) ?_
                          refine lv_lstore (lv' := [(10, .long (lN 0)), (5, .int (nI mi)), (4, .int (nI kt)), (0, .ref g), (1, .int (nI wn)), (2, .int (nI r)), (3, .int (nI sg))]) hx hb dX4_parse_314 hl (by decide) rfl (fun ls hl => ?_)
                          refine lv_aload_n hx hb dX4_parse_316 rfl (lv_at hl 3 rfl) ?_
                          refine va_get (D := D) (ci := 4) (C := RX4) (T := TX4) (N := 10) (v := .int (nI S)) hx hb hts kin_X4_w hown hK hP 0 rfl rfl 7 (by decide) (hts _ kfl_X4_28) (fun _ h9 => h9) rfl dX4_parse_317 ?_
                          refine lv_iconst (v := nI 1) hx hb dX4_parse_320 (by decide) ?_
                          refine lv_isub hx hb dX4_parse_321 ?_
                          refine lv_istore (lv' := [(12, .int (nI S - nI 1)), (10, .long (lN 0)), (5, .int (nI mi)), (4, .int (nI kt)), (0, .ref g), (1, .int (nI wn)), (2, .int (nI r)), (3, .int (nI sg))]) hx hb dX4_parse_322 hl (by decide) rfl (fun ls hl => ?_)
                          have hl : lv_has ls 13 [(12, .int (nI S - nI 1)), (10, .long (lN (hib 65536 F S S))), (5, .int (nI mi)), (4, .int (nI kt)), (0, .ref g), (1, .int (nI wn)), (2, .int (nI r)), (3, .int (nI sg))] := by rw [hib_n]; exact lv_sub hl [0, 1, 2, 3, 4, 5, 6, 7] rfl
                          refine dm_loopR (nL := 13) 324 (fun k => k ≤ S) (fun k => [(12, .int (nI k - nI 1)), (10, .long (lN (hib 65536 F S k))), (5, .int (nI mi)), (4, .int (nI kt)), (0, .ref g), (1, .int (nI wn)), (2, .int (nI r)), (3, .int (nI sg))]) (fun k => k) ?_ S (Nat.le_refl _) hl
                          intro k ls hk hl ih
                          rcases Nat.eq_zero_or_pos k with hk0 | hk0
                          · rw [hk0, hib_0, hVd] at hl
                            refine lv_iload hx hb dX4_parse_324 (lv_at hl 0 rfl) ?_
                            refine lv_if_lt (tgt := 351) hx hb dX4_parse_326 (by decide) (fun hz => ?_) (fun hz => ?_)
                            · refine lv_aload_n hx hb dX4_parse_351 rfl (lv_at hl 4 rfl) ?_
                              refine lv_iload hx hb dX4_parse_352 (lv_at hl 2 rfl) ?_
                              refine dm_if_eq (tgt := 363) hx hb (by omega) dX4_parse_354 (by decide) (fun hm => ?_) (fun hm => ?_)
                              · refine lv_lload hx hb dX4_parse_363 (lv_at hl 1 rfl) ?_
                                refine va_put (D := D) (ci := 4) (v := .long (lN V)) (ty := .long) (C := RX4) (T := TX4) (N := 10) hx hb hts kin_X4_w tyX4 tyX4_ok nmX4 hown hK hP hD hS 0 rfl rfl 9 (by decide) (hts _ kfl_X4_84) (fun _ h9 => h9) rfl (by decide +kernel) rfl rfl (Nat.le_of_ble_eq_true rfl) dX4_parse_365 (fun H locs hP hD hS => ?_)
                                have hP : va_P D vwCl [(g, .inr (4, [.int (nI 0), .int (nI 0), .ref gi, .int (nI kw), .ref go, .int (nI kz), .ref gn, .int (nI S), .ref gr, .long (lN V)])), (gi, .inl (cC, 65536, .inl ki)), (go, .inl (cC, 65536, .inl ko)), (gn, .inl (cI, 4096, .inl kn)), (gr, .inl (cI, 4096, .inl F))] H := hP
                                have hD : va_D A [(g, .inr (4, [.int (nI 0), .int (nI 0), .ref gi, .int (nI kw), .ref go, .int (nI kz), .ref gn, .int (nI S), .ref gr, .long (lN V)])), (gi, .inl (cC, 65536, .inl ki)), (go, .inl (cC, 65536, .inl ko)), (gn, .inl (cI, 4096, .inl kn)), (gr, .inl (cI, 4096, .inl F))] := hD
                                refine lv_iconst (v := nI 0) hx hb dX4_parse_368 (by decide) ?_
                                exact dm_iret hC hK (F, S, lN V, 0) (Or.inr ⟨wn, r, hwn, hr2, hr36, rfl, rfl, rfl, Or.inr (Or.inr ⟨⟨hfl, hfe⟩, by rw [← hV]; exact hfit, rfl, by show lN V = _; rw [← hV, if_neg (by omega)]⟩)⟩) hP hD hS dX4_parse_369
                              · refine lv_lload hx hb dX4_parse_357 (lv_at hl 1 rfl) ?_
                                refine lv_lneg hx hb dX4_parse_359 ?_
                                refine lv_goto (tgt := 365) hx hb dX4_parse_360 (by decide) ?_
                                refine va_put (D := D) (ci := 4) (v := .long (-(lN V))) (ty := .long) (C := RX4) (T := TX4) (N := 10) hx hb hts kin_X4_w tyX4 tyX4_ok nmX4 hown hK hP hD hS 0 rfl rfl 9 (by decide) (hts _ kfl_X4_84) (fun _ h9 => h9) rfl (by decide +kernel) rfl rfl (Nat.le_of_ble_eq_true rfl) dX4_parse_365 (fun H locs hP hD hS => ?_)
                                have hP : va_P D vwCl [(g, .inr (4, [.int (nI 0), .int (nI 0), .ref gi, .int (nI kw), .ref go, .int (nI kz), .ref gn, .int (nI S), .ref gr, .long (-(lN V))])), (gi, .inl (cC, 65536, .inl ki)), (go, .inl (cC, 65536, .inl ko)), (gn, .inl (cI, 4096, .inl kn)), (gr, .inl (cI, 4096, .inl F))] H := hP
                                have hD : va_D A [(g, .inr (4, [.int (nI 0), .int (nI 0), .ref gi, .int (nI kw), .ref go, .int (nI kz), .ref gn, .int (nI S), .ref gr, .long (-(lN V))])), (gi, .inl (cC, 65536, .inl ki)), (go, .inl (cC, 65536, .inl ko)), (gn, .inl (cI, 4096, .inl kn)), (gr, .inl (cI, 4096, .inl F))] := hD
                                refine lv_iconst (v := nI 0) hx hb dX4_parse_368 (by decide) ?_
                                exact dm_iret hC hK (F, S, -(lN V), 0) (Or.inr ⟨wn, r, hwn, hr2, hr36, rfl, rfl, rfl, Or.inr (Or.inr ⟨⟨hfl, hfe⟩, by rw [← hV]; exact hfit, rfl, by show -(lN V) = _; rw [← hV, if_pos (by omega)]⟩)⟩) hP hD hS dX4_parse_369
                            · exact absurd (by decide) hz
                          · obtain ⟨j, hj⟩ : ∃ j, k = j + 1 := ⟨k - 1, by omega⟩
                            rw [hj] at hl
                            have hl : lv_has ls 13 [(12, .int (nI j)), (10, .long (lN (hib 65536 F S (j + 1)))), (5, .int (nI mi)), (4, .int (nI kt)), (0, .ref g), (1, .int (nI wn)), (2, .int (nI r)), (3, .int (nI sg))] := by rw [show nI j = nI (j + 1) - nI 1 from (nI_pred j).symm]; exact hl
                            have hdj := i4 j (by omega)
                            have hst := hib_step (b := 65536) (f := F) (n := S) (i := j) (by omega)
                            have hbd : hib 65536 F S j < 18446744073709551616 := by
                              refine Nat.lt_of_le_of_lt ?_ hVb
                              have h9 := dvb_split (b := 65536) (f := F) (i := j) (k := S - j)
                              rw [show j + (S - j) = S by omega, hVd] at h9
                              have h8 : 1 * hib 65536 F S j ≤ 65536 ^ j * hib 65536 F S j := Nat.mul_le_mul_right _ (Nat.pow_pos (by decide))
                              unfold hib at *
                              omega
                            refine lv_iload hx hb dX4_parse_324 (lv_at hl 0 rfl) ?_
                            refine dm_if_lt (tgt := 351) hx hb (by omega) dX4_parse_326 (by decide) (fun hz => ?_) (fun hz => ?_)
                            · exact hz.elim
                            · refine lv_lload hx hb dX4_parse_329 (lv_at hl 1 rfl) ?_
                              refine lv_bipush (v := nI 16) hx hb dX4_parse_331 (by decide) ?_
                              refine lv_lshl (v := lN (hib 65536 F S (j + 1) * 65536)) hx hb dX4_parse_333 (wb_shl _ (k := 16) (by decide)) ?_
                              refine lv_aload_n hx hb dX4_parse_334 rfl (lv_at hl 4 rfl) ?_
                              refine va_get (D := D) (ci := 4) (C := RX4) (T := TX4) (N := 10) (v := .ref gr) hx hb hts kin_X4_w hown hK hP 0 rfl rfl 8 (by decide) (hts _ kfl_X4_21) (fun _ h9 => h9) rfl dX4_parse_335 ?_
                              refine lv_iload hx hb dX4_parse_338 (lv_at hl 0 rfl) ?_
                              refine dm_iald (j := j) hx hb hK hP 4 1 rfl rfl (by omega) (by decide) dX4_parse_340 ?_
                              refine dm_ti (y := nI (un (F j))) ((nI_un _).symm) ?_
                              refine lv_i2l (v := lN (un (F j))) hx hb dX4_parse_341 (nI_l (by omega)) ?_
                              refine lv_lor hx hb dX4_parse_342 ?_
                              refine dm_tl (y := lN (hib 65536 F S j)) (by rw [hst]; exact g_or (k := 16) (by decide) hdj (by rw [← hst]; exact hbd)) ?_
                              refine lv_lstore (lv' := [(10, .long (lN (hib 65536 F S j))), (12, .int (nI j)), (5, .int (nI mi)), (4, .int (nI kt)), (0, .ref g), (1, .int (nI wn)), (2, .int (nI r)), (3, .int (nI sg))]) hx hb dX4_parse_343 hl (by decide) rfl (fun ls hl => ?_)
                              refine lv_iinc (v := (nI j - nI 1)) (lv' := [(12, .int (nI j - nI 1)), (10, .long (lN (hib 65536 F S j))), (5, .int (nI mi)), (4, .int (nI kt)), (0, .ref g), (1, .int (nI wn)), (2, .int (nI r)), (3, .int (nI sg))]) hx hb dX4_parse_345 hl (k := 1) rfl (i_dec _) (by decide) rfl (fun ls hl => ?_)
                              refine lv_goto (tgt := 324) hx hb dX4_parse_348 (by decide) ?_
                              exact ih j ls (by omega) (by omega) (lv_sub hl [0, 1, 2, 3, 4, 5, 6, 7] rfl)
              · have hdi := hall i i1 he
                have hn1 : hn r T fr (i + 1 - fr) = hn r T fr (i - fr) * r + dgv (T i) := by rw [show i + 1 - fr = (i - fr) + 1 by omega]; show hn r T fr (i - fr) * r + dgv (T (fr + (i - fr))) = _; rw [show fr + (i - fr) = i by omega]
                refine lv_aload_n hx hb dX4_parse_145 rfl (lv_at hl 4 rfl) ?_
                refine va_get (D := D) (ci := 4) (C := RX4) (T := TX4) (N := 10) (v := .int (nI S)) hx hb hts kin_X4_w hown hK hP 0 rfl rfl 7 (by decide) (hts _ kfl_X4_28) (fun _ h9 => h9) rfl dX4_parse_146 ?_
                refine lv_bipush (v := nI 6) hx hb dX4_parse_149 (by decide) ?_
                refine dm_icmp_ge (tgt := 174) hx hb (by omega) (by omega) dX4_parse_151 (by decide) (fun h6 => ?_) (fun h6 => ?_)
                · refine lv_iinc (v := nI (i + 1)) (lv' := [(7, .int (nI (i + 1))), (6, .int (nI fr)), (5, .int (nI mi)), (4, .int (nI kt)), (0, .ref g), (1, .int (nI wn)), (2, .int (nI r)), (3, .int (nI sg))]) hx hb dX4_parse_174 hl (k := 0) rfl ((nI_succ i).symm) (by decide) rfl (fun ls hl => ?_)
                  refine lv_goto (tgt := 138) hx hb dX4_parse_177 (by decide) ?_
                  have hmn := hn_mono (r := r) (by omega) (T := T) (i := fr) (k := i - fr) (d := 1)
                  rw [show i - fr + 1 = i + 1 - fr by omega] at hmn
                  exact ih (i + 1, F, S) H locs ls (by show kt - (i + 1) < kt - i; omega) ⟨by show fr ≤ i + 1; omega, by show i + 1 ≤ kt; omega, i3, i4, i5, Or.inr ⟨h6, Nat.le_trans (i6.resolve_left (fun h9 => by omega)).2 hmn⟩⟩ hP hD hS (lv_sub hl [0, 1, 2, 3, 4, 5, 6, 7] rfl)
                · have hvF := (i6.resolve_right (fun h9 => by omega)).2
                  refine lv_aload_n hx hb dX4_parse_154 rfl (lv_at hl 4 rfl) ?_
                  refine lv_iload_n hx hb dX4_parse_155 rfl (lv_at hl 6 rfl) ?_
                  refine lv_aload_n hx hb dX4_parse_156 rfl (lv_at hl 4 rfl) ?_
                  refine va_get (D := D) (ci := 4) (C := RX4) (T := TX4) (N := 10) (v := .ref gi) hx hb hts kin_X4_w hown hK hP 0 rfl rfl 2 (by decide) (hts _ kfl_X4_8) (fun _ h9 => h9) rfl dX4_parse_157 ?_
                  refine lv_iload hx hb dX4_parse_160 (lv_at hl 0 rfl) ?_
                  refine dm_cald (j := i) hx hb hK hP 1 2 rfl rfl (by omega) (by decide) dX4_parse_162 ?_
                  refine dm_ti (y := nI (T i)) ((htx i (by omega)).1) ?_
                  have hT9 := (htx i (by omega)).2
                  have hdb := dgm_b (T i)
                  refine dm_gori (dm_rS (n := 1) (As := [.int (nI (T i))]) (rest := [.int (nI r), .ref g]) hC hl (c_X4_digit l D cB cI cC (T i) (by omega) H.size) kco_X4_digit ki_X4 kst_X4_digit kml_X4_45 (by decide +kernel) ⟨Nat.le_of_ble_eq_true rfl, Nat.le_of_ble_eq_true rfl⟩ rfl rfl ⟨dm_blind, dm_preU hK hP hD hC.2.2.2.2.2.2.2 [] (by decide) rfl⟩ rfl rfl (Nat.le_of_ble_eq_true rfl) dX4_parse_163 ⟨Nat.le_of_ble_eq_true rfl, Nat.le_of_ble_eq_true rfl⟩) (fun r9 e9 => ?_)
                  subst e9
                  refine dm_ti (y := nI (dgv (T i))) (by rw [dgm_eq hr36 hdi]) ?_
                  refine dm_goi (wr := [(gi, .inl (cC, 65536, .inl ki)), (go, .inl (cC, 65536, .inl ko)), (gn, .inl (cI, 4096, .inl kn))]) (dm_rV (n := 2) (As := [.int (nI r), .int (nI (dgv (T i)))]) (rest := []) hC hl (c_X4_timesAdd l D cB cI cC g gi go gn gr 0 kw kz S (nI 0) kv F r (dgv (T i)) i3 i4 (by omega) (by omega) (by omega) H.size) kco_X4_timesAdd ki_X4 kim_X4_timesAdd kse_X4_timesAdd kml_X4_49 (by decide +kernel) ⟨Nat.le_of_ble_eq_true rfl, Nat.le_of_ble_eq_true rfl⟩ rfl rfl ⟨dm_blind, va_recv hK hP (ci := 4) (q0 := 0) rfl rfl, dm_preU hK hP hD hC.2.2.2.2.2.2.2 [0, 4] (by decide) rfl⟩ rfl rfl (Nat.le_of_ble_eq_true rfl) dX4_parse_166 ⟨Nat.le_of_ble_eq_true rfl, Nat.le_of_ble_eq_true rfl⟩) hP hD hS hA [0, 4] [1, 2, 3] rfl rfl (by decide) (by decide) (fun rb q H locs hw hP hD hS => ?_)
                  obtain ⟨F2, S2⟩ := q
                  have hP : va_P D vwCl [(gi, .inl (cC, 65536, .inl ki)), (go, .inl (cC, 65536, .inl ko)), (gn, .inl (cI, 4096, .inl kn)), (g, .inr (4, [.int (nI 0), .int (nI 0), .ref gi, .int (nI kw), .ref go, .int (nI kz), .ref gn, .int (nI S2), .ref gr, .long kv])), (gr, .inl (cI, 4096, .inl F2))] H := hP
                  have hD : va_D A [(gi, .inl (cC, 65536, .inl ki)), (go, .inl (cC, 65536, .inl ko)), (gn, .inl (cI, 4096, .inl kn)), (g, .inr (4, [.int (nI 0), .int (nI 0), .ref gi, .int (nI kw), .ref go, .int (nI kz), .ref gn, .int (nI S2), .ref gr, .long kv])), (gr, .inl (cI, 4096, .inl F2))] := hD
                  have hP := hP.sub (ws' := [(g, .inr (4, [.int (nI 0), .int (nI 0), .ref gi, .int (nI kw), .ref go, .int (nI kz), .ref gn, .int (nI S2), .ref gr, .long kv])), (gi, .inl (cC, 65536, .inl ki)), (go, .inl (cC, 65536, .inl ko)), (gn, .inl (cI, 4096, .inl kn)), (gr, .inl (cI, 4096, .inl F2))]) [3, 0, 1, 2, 4] rfl
                  have hD := hD.sub (ws' := [(g, .inr (4, [.int (nI 0), .int (nI 0), .ref gi, .int (nI kw), .ref go, .int (nI kz), .ref gn, .int (nI S2), .ref gr, .long kv])), (gi, .inl (cC, 65536, .inl ki)), (go, .inl (cC, 65536, .inl ko)), (gn, .inl (cI, 4096, .inl kn)), (gr, .inl (cI, 4096, .inl F2))]) [3, 0, 1, 2, 4] (by decide) rfl
                  rw [hvF, ← hn1] at hw
                  dsimp only at hw
                  refine lv_if_ne (tgt := 174) hx hb dX4_parse_169 (by decide) (fun hb1 => ?_) (fun hb1 => ?_)
                  · have hw1 := hw.resolve_right (fun h9 => hb1 h9.1)
                    have hnr2 := hw1.2.2.2.2 i5
                    refine lv_iinc (v := nI (i + 1)) (lv' := [(7, .int (nI (i + 1))), (6, .int (nI fr)), (5, .int (nI mi)), (4, .int (nI kt)), (0, .ref g), (1, .int (nI wn)), (2, .int (nI r)), (3, .int (nI sg))]) hx hb dX4_parse_174 hl (k := 0) rfl ((nI_succ i).symm) (by decide) rfl (fun ls hl => ?_)
                    refine lv_goto (tgt := 138) hx hb dX4_parse_177 (by decide) ?_
                    refine ih (i + 1, F2, S2) H locs ls (by show kt - (i + 1) < kt - i; omega) ⟨by show fr ≤ i + 1; omega, by show i + 1 ≤ kt; omega, hw1.2.1, hw1.2.2.1, hnr2, ?_⟩ hP hD hS (lv_sub hl [0, 1, 2, 3, 4, 5, 6, 7] rfl)
                    dsimp only
                    rcases (show S2 < 6 ∨ 6 ≤ S2 by omega) with h9 | h9
                    · exact Or.inl ⟨h9, hw1.2.2.2.1⟩
                    · refine Or.inr ⟨h9, ?_⟩
                      obtain ⟨k9, rfl⟩ : ∃ k9, S2 = k9 + 1 := ⟨S2 - 1, by omega⟩
                      rw [← hw1.2.2.2.1]
                      exact Nat.le_trans (Nat.pow_le_pow_right (by decide) (by omega)) (nrm16_ge hnr2)
                  · have hw1 := hw.resolve_left (fun h9 => absurd (hb1.symm.trans h9.1) (by decide))
                    have hmn := hn_mono (r := r) (by omega) (T := T) (i := fr) (k := i + 1 - fr) (d := kt - (i + 1))
                    rw [show i + 1 - fr + (kt - (i + 1)) = kt - fr by omega, ← hV] at hmn
                    refine lv_iconst (v := nI 2) hx hb dX4_parse_172 (by decide) ?_
                    exact dm_iret hC hK (F2, S2, kv, 0) (Or.inr ⟨wn, r, hwn, hr2, hr36, rfl, rfl, rfl, Or.inr (Or.inl ⟨⟨hfl, hfe⟩, by rw [← hV]; exact (by rw [hwm]; exact pfit_big (Nat.le_trans (Nat.pow_le_pow_right (by decide) (by omega)) (Nat.le_trans hw1.2.2 hmn))), rfl, rfl⟩)⟩) hP hD hS dX4_parse_173
            · rw [show kt - k = (kt - (k + 1)) + 1 by omega] at hfo
              rw [fo_succ] at hfo
              refine lv_aload_n hx hb dX4_parse_107 rfl (lv_at hl 4 rfl) ?_
              refine va_get (D := D) (ci := 4) (C := RX4) (T := TX4) (N := 10) (v := .ref gi) hx hb hts kin_X4_w hown hK hP 0 rfl rfl 2 (by decide) (hts _ kfl_X4_8) (fun _ h9 => h9) rfl dX4_parse_108 ?_
              refine lv_iload hx hb dX4_parse_111 (lv_at hl 0 rfl) ?_
              refine dm_cald (j := k) hx hb hK hP 1 2 rfl rfl (by omega) (by decide) dX4_parse_113 ?_
              refine dm_ti (y := nI (T k)) ((htx k (by omega)).1) ?_
              have hT9 := (htx k (by omega)).2
              have hdb := dgm_b (T k)
              refine dm_gori (dm_rS (n := 1) (As := [.int (nI (T k))]) (rest := []) hC hl (c_X4_digit l D cB cI cC (T k) (by omega) H.size) kco_X4_digit ki_X4 kst_X4_digit kml_X4_45 (by decide +kernel) ⟨Nat.le_of_ble_eq_true rfl, Nat.le_of_ble_eq_true rfl⟩ rfl rfl ⟨dm_blind, dm_preU hK hP hD hC.2.2.2.2.2.2.2 [] (by decide) rfl⟩ rfl rfl (Nat.le_of_ble_eq_true rfl) dX4_parse_114 ⟨Nat.le_of_ble_eq_true rfl, Nat.le_of_ble_eq_true rfl⟩) (fun r9 e9 => ?_)
              subst e9
              refine lv_iload_n hx hb dX4_parse_117 rfl (lv_at hl 6 rfl) ?_
              refine dm_icmp_lt (tgt := 123) hx hb (by omega) (by omega) dX4_parse_118 (by decide) (fun hg2 => ?_) (fun hg2 => ?_)
              · have hg2 := (dgm_lt hr36).mp hg2
                rw [if_neg (by omega)] at hfo
                refine lv_iinc (v := nI (k + 1)) (lv' := [(7, .int (nI (k + 1))), (6, .int (nI fr)), (5, .int (nI mi)), (4, .int (nI kt)), (0, .ref g), (1, .int (nI wn)), (2, .int (nI r)), (3, .int (nI sg))]) hx hb dX4_parse_123 hl (k := 0) rfl ((nI_succ k).symm) (by decide) rfl (fun ls hl => ?_)
                refine lv_goto (tgt := 100) hx hb dX4_parse_126 (by decide) ?_
                exact ih (k + 1) ls (by omega) ⟨by omega, by omega, hfo⟩ (lv_sub hl [0, 1, 2, 3, 4, 5, 6, 7] rfl)
              · have hg2 : r ≤ dgv (T k) := Nat.le_of_not_lt (fun h9 => by have := (dgm_lt hr36).mpr h9; omega)
                rw [if_pos hg2] at hfo
                refine lv_iconst (v := nI 1) hx hb dX4_parse_121 (by decide) ?_
                exact dm_iret hC hK (kr, ks, kv, 0) (Or.inr ⟨wn, r, hwn, hr2, hr36, rfl, rfl, rfl, Or.inl ⟨fun h9 => by have := h9.2; omega, rfl, rfl⟩⟩) hP hD hS dX4_parse_122
          · refine lv_iconst (v := nI 1) hx hb dX4_parse_94 (by decide) ?_
            exact dm_iret hC hK (kr, ks, kv, 0) (Or.inr ⟨wn, r, hwn, hr2, hr36, rfl, rfl, rfl, Or.inl ⟨fun h9 => by have := h9.1; omega, rfl, rfl⟩⟩) hP hD hS dX4_parse_95
    · refine lv_iconst (v := nI 3) hx hb dX4_parse_19 (by decide) ?_
      exact dm_iret hC hK (kr, ks, kv, kt) (Or.inl ⟨fun h9 => (e2.resolve_left (fun h8 => absurd (hd.symm.trans h8.2) (by decide))).1 h9.2, rfl, rfl, rfl⟩) hP hD hS dX4_parse_20
