/-! words and bits of a number -/
def wv (V : Nat) (k : Int32) : Int32 := if k < 0 then 0 else nI (V / 4294967296 ^ k.toNatClampNeg % 4294967296)
theorem wAt_wv {f : Nat → Int32} {u : Nat} {k : Int32} (hu : u ≤ 2048) : wAt f u k = wv (dvb 4294967296 f u) k := by
  unfold wv
  split
  · next h => exact wAt_neg h
  · next h =>
    obtain ⟨j, hj, rfl⟩ := nI_of h
    rw [nI_clamp hj]
    rcases Nat.lt_or_ge j u with h1 | h1
    · rw [wAt_in h1 (by omega), dvb_digit (by decide) (fun i _ => un_lt _) h1, nI_un]
    · rw [wAt_ge (by omega) (nI_le h1 hj), dvb_high (by decide) (fun i _ => un_lt _) h1, Nat.zero_mod]
      rfl
theorem w16 {f : Nat → Int32} {n j : Nat} (hd : d16 f n) : dvb 65536 f n / 4294967296 ^ j % 4294967296 = (if 2 * j < n then un (f (2 * j)) else 0) + 65536 * (if 2 * j + 1 < n then un (f (2 * j + 1)) else 0) := by
  have e : (4294967296 : Nat) ^ j = 65536 ^ (2 * j) := by rw [Nat.pow_mul]
  rw [e, show (4294967296 : Nat) = 65536 * 65536 from rfl, Nat.mod_mul, Nat.div_div_eq_div_mul, ← Nat.pow_succ]
  have dig : ∀ k, dvb 65536 f n / 65536 ^ k % 65536 = if k < n then un (f k) else 0 := by
    intro k
    by_cases h : k < n
    · rw [if_pos h, dvb_digit (by decide) hd h]
    · rw [if_neg h, dvb_high (by decide) hd (by omega), Nat.zero_mod]
  rw [dig, dig]
theorem bl_dv16 {f : Nat → Int32} {k : Nat} (hd : d16 f (k + 1)) (h : nrm f (k + 1)) : bl (dvb 65536 f (k + 1)) = 16 * k + bl (un (f k)) := by
  have e : (65536 : Nat) ^ k = 2 ^ (16 * k) := by rw [Nat.pow_mul]
  have h1 : 2 ^ (16 * k) ≤ dvb 65536 f (k + 1) := by rw [← e]; exact nrm16_ge h
  rw [bl_div h1, ← e]
  have h2 : dvb 65536 f (k + 1) / 65536 ^ k = un (f k) := by
    show (dvb 65536 f k + un (f k) * 65536 ^ k) / _ = _
    rw [Nat.add_mul_div_right _ _ (Nat.pow_pos (by decide)), Nat.div_eq_of_lt (dvb_lt (fun j hj => hd j (by omega))), Nat.zero_add]
  rw [h2]; omega

set_option maxRecDepth 100000 in
set_option maxHeartbeats 4000000 in
theorem c_X4_word (l : Launch) (D : va_G) (cB cI cC : ClassId) (g gi go gn gr kt kw kz ks : Nat) (th : Int32) (kv : Int64) (ki ko kn kr : Nat → Int32) (k : Int32) (hkz : kz ≤ 4096) (hdn : d16 kn kz) (hnn : nrm kn kz) : MI l yX4_word (Cond.code yX4_word cX4_word 2 (some .int)) 0 D (TY cB cI cC) [.ref g, .int k] [(g, .inr (4, [.int th, .int (nI kt), .ref gi, .int (nI kw), .ref go, .int (nI kz), .ref gn, .int (nI ks), .ref gr, .long kv])), (gi, .inl (cC, 65536, .inl ki)), (go, .inl (cC, 65536, .inl ko)), (gn, .inl (cI, 4096, .inl kn)), (gr, .inl (cI, 4096, .inl kr))] (S := Unit) (fun r _ => r = wv (dvb 65536 kn kz) k) (fun _ => [(g, .inr (4, [.int (nI 0), .int (nI kt), .ref gi, .int (nI kw), .ref go, .int (nI kz), .ref gn, .int (nI ks), .ref gr, .long kv])), (gi, .inl (cC, 65536, .inl ki)), (go, .inl (cC, 65536, .inl ko)), (gn, .inl (cI, 4096, .inl kn)), (gr, .inl (cI, 4096, .inl kr))]) := by
  refine MI.of (by decide) (Nat.le_of_ble_eq_true rfl) ?_
  intro p e s m below meth c ls A hC hA hP hK hD hS hl
  obtain ⟨hx, hb, hr, hml, hown, hts, hlocks, hN⟩ := id hC
  have hown : s.vm.findClass RX4 = some m.cls := hown
  have hl : lv_has ls 2 [(0, .ref g), (1, .int k)] := hl
  refine lv_aload_n hx hb dX4_word_0 rfl (lv_at hl 0 rfl) ?_
  refine lv_iconst (v := nI 0) hx hb dX4_word_1 (by decide) ?_
  refine va_put (D := D) (ci := 4) (v := .int (nI 0)) (ty := .int) (C := RX4) (T := TX4) (N := 10) hx hb hts kin_X4_w tyX4 tyX4_ok nmX4 hown hK hP hD hS 0 rfl rfl 0 (by decide) (hts _ kfl_X4_24) (fun _ h9 => h9) rfl (by decide +kernel) rfl rfl (Nat.le_of_ble_eq_true rfl) dX4_word_2 (fun H locs hP hD hS => ?_)
  have hP : va_P D vwCl [(g, .inr (4, [.int (nI 0), .int (nI kt), .ref gi, .int (nI kw), .ref go, .int (nI kz), .ref gn, .int (nI ks), .ref gr, .long kv])), (gi, .inl (cC, 65536, .inl ki)), (go, .inl (cC, 65536, .inl ko)), (gn, .inl (cI, 4096, .inl kn)), (gr, .inl (cI, 4096, .inl kr))] H := hP
  have hD : va_D A [(g, .inr (4, [.int (nI 0), .int (nI kt), .ref gi, .int (nI kw), .ref go, .int (nI kz), .ref gn, .int (nI ks), .ref gr, .long kv])), (gi, .inl (cC, 65536, .inl ki)), (go, .inl (cC, 65536, .inl ko)), (gn, .inl (cI, 4096, .inl kn)), (gr, .inl (cI, 4096, .inl kr))] := hD
  refine lv_iload_n hx hb dX4_word_5 rfl (lv_at hl 1 rfl) ?_
  refine lv_if_lt (tgt := 24) hx hb dX4_word_6 (by decide) (fun hc => ?_) (fun hc => ?_)
  · refine lv_iconst (v := nI 0) hx hb dX4_word_24 (by decide) ?_
    exact dm_iret hC hK () (by unfold wv; rw [if_pos hc]; rfl) hP hD hS dX4_word_25
  · obtain ⟨j, hj, rfl⟩ := nI_of hc
    have hwv : wv (dvb 65536 kn kz) (nI j) = nI ((if 2 * j < kz then un (kn (2 * j)) else 0) + 65536 * (if 2 * j + 1 < kz then un (kn (2 * j + 1)) else 0)) := by unfold wv; rw [if_neg hc, nI_clamp hj, w16 hdn]
    rw [hwv]
    refine lv_ldc2 (v := 2) hx hb hown (hts _ kct_X4_73) dX4_word_9 ?_
    refine dm_tl (y := lN 2) (rfl) ?_
    refine lv_iload_n hx hb dX4_word_12 rfl (lv_at hl 1 rfl) ?_
    refine lv_i2l (v := lN j) hx hb dX4_word_13 (nI_l hj) ?_
    refine lv_lmul hx hb dX4_word_14 ?_
    refine dm_tl (y := lN (2 * j)) (lN_mul _ _) ?_
    refine lv_aload_n hx hb dX4_word_15 rfl (lv_at hl 0 rfl) ?_
    refine va_get (D := D) (ci := 4) (C := RX4) (T := TX4) (N := 10) (v := .int (nI kz)) hx hb hts kin_X4_w hown hK hP 0 rfl rfl 5 (by decide) (hts _ kfl_X4_33) (fun _ h9 => h9) rfl dX4_word_16 ?_
    refine lv_i2l (v := lN kz) hx hb dX4_word_19 (nI_l (by omega)) ?_
    refine dm_lc_lt (tgt := 26) hx hb (by omega) (by omega) dX4_word_20 dX4_word_21 (by decide) (fun hd => ?_) (fun hd => ?_)
    · have hb0 := hdn (2 * j) hd
      refine lv_aload_n hx hb dX4_word_26 rfl (lv_at hl 0 rfl) ?_
      refine va_get (D := D) (ci := 4) (C := RX4) (T := TX4) (N := 10) (v := .ref gn) hx hb hts kin_X4_w hown hK hP 0 rfl rfl 6 (by decide) (hts _ kfl_X4_17) (fun _ h9 => h9) rfl dX4_word_27 ?_
      refine lv_iconst (v := nI 2) hx hb dX4_word_30 (by decide) ?_
      refine lv_iload_n hx hb dX4_word_31 rfl (lv_at hl 1 rfl) ?_
      refine lv_imul hx hb dX4_word_32 ?_
      refine dm_ti (y := nI (2 * j)) (pk_mul 2 j) ?_
      refine dm_iald (j := (2 * j)) hx hb hK hP 3 1 rfl rfl (by omega) (by decide) dX4_word_33 ?_
      refine dm_ti (y := nI (un (kn (2 * j)))) ((nI_un _).symm) ?_
      refine lv_iconst (v := nI 2) hx hb dX4_word_34 (by decide) ?_
      refine lv_iload_n hx hb dX4_word_35 rfl (lv_at hl 1 rfl) ?_
      refine lv_imul hx hb dX4_word_36 ?_
      refine dm_ti (y := nI (2 * j)) (pk_mul 2 j) ?_
      refine lv_iconst (v := nI 1) hx hb dX4_word_37 (by decide) ?_
      refine lv_iadd hx hb dX4_word_38 ?_
      refine dm_ti (y := nI (2 * j + 1)) (nI_1 _) ?_
      refine lv_aload_n hx hb dX4_word_39 rfl (lv_at hl 0 rfl) ?_
      refine va_get (D := D) (ci := 4) (C := RX4) (T := TX4) (N := 10) (v := .int (nI kz)) hx hb hts kin_X4_w hown hK hP 0 rfl rfl 5 (by decide) (hts _ kfl_X4_33) (fun _ h9 => h9) rfl dX4_word_40 ?_
      refine dm_icmp_ge (tgt := 62) hx hb (by omega) (by omega) dX4_word_43 (by decide) (fun he => ?_) (fun he => ?_)
      · refine lv_iconst (v := nI 0) hx hb dX4_word_62 (by decide) ?_
        refine lv_ior hx hb dX4_word_63 ?_
        refine dm_ti (y := nI (0 * 65536 + un (kn (2 * j)))) (nI_or16' (b := 0) hb0 (by decide)) ?_
        exact dm_iret hC hK () (by rw [if_pos hd, if_neg (by omega)]; exact congrArg nI (by omega)) hP hD hS dX4_word_64
      · have hb1 := hdn (2 * j + 1) he
        refine lv_aload_n hx hb dX4_word_46 rfl (lv_at hl 0 rfl) ?_
        refine va_get (D := D) (ci := 4) (C := RX4) (T := TX4) (N := 10) (v := .ref gn) hx hb hts kin_X4_w hown hK hP 0 rfl rfl 6 (by decide) (hts _ kfl_X4_17) (fun _ h9 => h9) rfl dX4_word_47 ?_
        refine lv_iconst (v := nI 2) hx hb dX4_word_50 (by decide) ?_
        refine lv_iload_n hx hb dX4_word_51 rfl (lv_at hl 1 rfl) ?_
        refine lv_imul hx hb dX4_word_52 ?_
        refine dm_ti (y := nI (2 * j)) (pk_mul 2 j) ?_
        refine lv_iconst (v := nI 1) hx hb dX4_word_53 (by decide) ?_
        refine lv_iadd hx hb dX4_word_54 ?_
        refine dm_ti (y := nI (2 * j + 1)) (nI_1 _) ?_
        refine dm_iald (j := (2 * j + 1)) hx hb hK hP 3 1 rfl rfl (by omega) (by decide) dX4_word_55 ?_
        refine dm_ti (y := nI (un (kn (2 * j + 1)))) ((nI_un _).symm) ?_
        refine lv_bipush (v := nI 16) hx hb dX4_word_56 (by decide) ?_
        refine lv_ishl hx hb dX4_word_58 ?_
        refine dm_ti (y := nI (un (kn (2 * j + 1)) * 65536)) (pk_shlN (nI 16 &&& 31) 16 (by decide) (by omega)) ?_
        refine lv_goto (tgt := 63) hx hb dX4_word_59 (by decide) ?_
        refine lv_ior hx hb dX4_word_63 ?_
        refine dm_ti (y := nI (un (kn (2 * j + 1)) * 65536 + un (kn (2 * j)))) (nI_or16' hb0 hb1) ?_
        exact dm_iret hC hK () (by rw [if_pos hd, if_pos he]; exact congrArg nI (by omega)) hP hD hS dX4_word_64
    · refine lv_iconst (v := nI 0) hx hb dX4_word_24 (by decide) ?_
      exact dm_iret hC hK () (by rw [if_neg (by omega), if_neg (by omega)]) hP hD hS dX4_word_25

theorem sl32 : ∀ j, j < 32 → ((nI j &&& 31).toBitVec.smod 32).toNat = j := by decide

set_option maxRecDepth 100000 in
set_option maxHeartbeats 4000000 in
theorem c_X4_bits (l : Launch) (D : va_G) (cB cI cC : ClassId) (g gi go gn gr kt kw kz ks : Nat) (th : Int32) (kv : Int64) (ki ko kn kr : Nat → Int32) (hkz : kz ≤ 4096) (hdn : d16 kn kz) (hnn : nrm kn kz) : MI l yX4_bits (Cond.code yX4_bits cX4_bits 2 (some .int)) 0 D (TY cB cI cC) [.ref g] [(g, .inr (4, [.int th, .int (nI kt), .ref gi, .int (nI kw), .ref go, .int (nI kz), .ref gn, .int (nI ks), .ref gr, .long kv])), (gi, .inl (cC, 65536, .inl ki)), (go, .inl (cC, 65536, .inl ko)), (gn, .inl (cI, 4096, .inl kn)), (gr, .inl (cI, 4096, .inl kr))] (S := Unit) (fun r _ => r = nI (bl (dvb 65536 kn kz))) (fun _ => [(g, .inr (4, [.int (nI 0), .int (nI kt), .ref gi, .int (nI kw), .ref go, .int (nI kz), .ref gn, .int (nI ks), .ref gr, .long kv])), (gi, .inl (cC, 65536, .inl ki)), (go, .inl (cC, 65536, .inl ko)), (gn, .inl (cI, 4096, .inl kn)), (gr, .inl (cI, 4096, .inl kr))]) := by
  refine MI.of (by decide) (Nat.le_of_ble_eq_true rfl) ?_
  intro p e s m below meth c ls A hC hA hP hK hD hS hl
  obtain ⟨hx, hb, hr, hml, hown, hts, hlocks, hN⟩ := id hC
  have hown : s.vm.findClass RX4 = some m.cls := hown
  have hl : lv_has ls 2 [(0, .ref g)] := hl
  refine lv_aload_n hx hb dX4_bits_0 rfl (lv_at hl 0 rfl) ?_
  refine lv_iconst (v := nI 0) hx hb dX4_bits_1 (by decide) ?_
  refine va_put (D := D) (ci := 4) (v := .int (nI 0)) (ty := .int) (C := RX4) (T := TX4) (N := 10) hx hb hts kin_X4_w tyX4 tyX4_ok nmX4 hown hK hP hD hS 0 rfl rfl 0 (by decide) (hts _ kfl_X4_24) (fun _ h9 => h9) rfl (by decide +kernel) rfl rfl (Nat.le_of_ble_eq_true rfl) dX4_bits_2 (fun H locs hP hD hS => ?_)
  have hP : va_P D vwCl [(g, .inr (4, [.int (nI 0), .int (nI kt), .ref gi, .int (nI kw), .ref go, .int (nI kz), .ref gn, .int (nI ks), .ref gr, .long kv])), (gi, .inl (cC, 65536, .inl ki)), (go, .inl (cC, 65536, .inl ko)), (gn, .inl (cI, 4096, .inl kn)), (gr, .inl (cI, 4096, .inl kr))] H := hP
  have hD : va_D A [(g, .inr (4, [.int (nI 0), .int (nI kt), .ref gi, .int (nI kw), .ref go, .int (nI kz), .ref gn, .int (nI ks), .ref gr, .long kv])), (gi, .inl (cC, 65536, .inl ki)), (go, .inl (cC, 65536, .inl ko)), (gn, .inl (cI, 4096, .inl kn)), (gr, .inl (cI, 4096, .inl kr))] := hD
  refine lv_iconst (v := nI 0) hx hb dX4_bits_5 (by decide) ?_
  refine lv_istore_n (lv' := [(1, .int (nI 0)), (0, .ref g)]) hx hb dX4_bits_6 rfl hl (by decide) rfl (fun ls hl => ?_)
  refine dm_loopR (nL := 2) 7 (fun n => n ≤ 16 ∧ ∀ k, kz = k + 1 → n = 0 ∨ 2 ^ (n - 1) ≤ un (kn k)) (fun n => [(1, .int (nI n)), (0, .ref g)]) (fun n => 17 - n) ?_ 0 ⟨by decide, fun _ _ => Or.inl rfl⟩ hl
  rintro n ls ⟨hn1, hn2⟩ hl ih
  refine lv_aload_n hx hb dX4_bits_7 rfl (lv_at hl 1 rfl) ?_
  refine va_get (D := D) (ci := 4) (C := RX4) (T := TX4) (N := 10) (v := .int (nI kz)) hx hb hts kin_X4_w hown hK hP 0 rfl rfl 5 (by decide) (hts _ kfl_X4_33) (fun _ h9 => h9) rfl dX4_bits_8 ?_
  refine dm_if_le (tgt := 36) hx hb (by omega) dX4_bits_11 (by decide) (fun hc => ?_) (fun hc => ?_)
  · refine lv_aload_n hx hb dX4_bits_36 rfl (lv_at hl 1 rfl) ?_
    refine va_get (D := D) (ci := 4) (C := RX4) (T := TX4) (N := 10) (v := .int (nI kz)) hx hb hts kin_X4_w hown hK hP 0 rfl rfl 5 (by decide) (hts _ kfl_X4_33) (fun _ h9 => h9) rfl dX4_bits_37 ?_
    refine dm_if_ne (tgt := 47) hx hb (by omega) dX4_bits_40 (by decide) (fun hd => ?_) (fun hd => ?_)
    · omega
    · refine lv_iconst (v := nI 0) hx hb dX4_bits_43 (by decide) ?_
      refine lv_goto (tgt := 59) hx hb dX4_bits_44 (by decide) ?_
      exact dm_iret hC hK () (by rw [hc]; rfl) hP hD hS dX4_bits_59
  · obtain ⟨k, hk⟩ : ∃ k, kz = k + 1 := ⟨kz - 1, by omega⟩
    have hb0 := hdn k (by omega)
    have hn3 := hn2 k hk
    refine lv_aload_n hx hb dX4_bits_14 rfl (lv_at hl 1 rfl) ?_
    refine va_get (D := D) (ci := 4) (C := RX4) (T := TX4) (N := 10) (v := .ref gn) hx hb hts kin_X4_w hown hK hP 0 rfl rfl 6 (by decide) (hts _ kfl_X4_17) (fun _ h9 => h9) rfl dX4_bits_15 ?_
    refine lv_aload_n hx hb dX4_bits_18 rfl (lv_at hl 1 rfl) ?_
    refine va_get (D := D) (ci := 4) (C := RX4) (T := TX4) (N := 10) (v := .int (nI kz)) hx hb hts kin_X4_w hown hK hP 0 rfl rfl 5 (by decide) (hts _ kfl_X4_33) (fun _ h9 => h9) rfl dX4_bits_19 ?_
    refine lv_iconst (v := nI 1) hx hb dX4_bits_22 (by decide) ?_
    refine lv_isub hx hb dX4_bits_23 ?_
    refine dm_ti (y := nI k) (by rw [hk]; exact nI_pred k) ?_
    refine dm_iald (j := k) hx hb hK hP 3 1 rfl rfl (by omega) (by decide) dX4_bits_24 ?_
    refine dm_ti (y := nI (un (kn k))) ((nI_un _).symm) ?_
    have hdl : un (kn k) / 2 ^ n ≤ un (kn k) := Nat.div_le_self _ _
    refine lv_iload_n hx hb dX4_bits_25 rfl (lv_at hl 0 rfl) ?_
    refine lv_ishr hx hb dX4_bits_26 ?_
    refine dm_ti (y := nI (un (kn k) / 2 ^ n)) (pk_shrN (by omega) (nI n &&& 31) n (sl32 n (by omega))) ?_
    refine dm_if_le (tgt := 36) hx hb (by omega) dX4_bits_27 (by decide) (fun he => ?_) (fun he => ?_)
    · have hlt : un (kn k) < 2 ^ n := (Nat.div_eq_zero_iff.mp he).resolve_left (Nat.ne_of_gt (Nat.pow_pos (by decide)))
      have hbn : bl (un (kn k)) = n := by
        have h5 := bl_le.mpr hlt
        rcases hn3 with h6 | h6
        · omega
        · have h7 : ¬ bl (un (kn k)) ≤ n - 1 := fun h8 => by have := bl_le.mp h8; omega
          omega
      have hbV : bl (dvb 65536 kn kz) = 16 * k + n := by rw [hk] at hdn hnn ⊢; rw [bl_dv16 hdn hnn, hbn]
      rw [hbV]
      refine lv_aload_n hx hb dX4_bits_36 rfl (lv_at hl 1 rfl) ?_
      refine va_get (D := D) (ci := 4) (C := RX4) (T := TX4) (N := 10) (v := .int (nI kz)) hx hb hts kin_X4_w hown hK hP 0 rfl rfl 5 (by decide) (hts _ kfl_X4_33) (fun _ h9 => h9) rfl dX4_bits_37 ?_
      refine dm_if_ne (tgt := 47) hx hb (by omega) dX4_bits_40 (by decide) (fun hf => ?_) (fun hf => ?_)
      · refine lv_bipush (v := nI 16) hx hb dX4_bits_47 (by decide) ?_
        refine lv_aload_n hx hb dX4_bits_49 rfl (lv_at hl 1 rfl) ?_
        refine va_get (D := D) (ci := 4) (C := RX4) (T := TX4) (N := 10) (v := .int (nI kz)) hx hb hts kin_X4_w hown hK hP 0 rfl rfl 5 (by decide) (hts _ kfl_X4_33) (fun _ h9 => h9) rfl dX4_bits_50 ?_
        refine lv_imul hx hb dX4_bits_53 ?_
        refine dm_ti (y := nI (16 * kz)) (pk_mul 16 kz) ?_
        refine lv_bipush (v := nI 16) hx hb dX4_bits_54 (by decide) ?_
        refine lv_isub hx hb dX4_bits_56 ?_
        refine dm_ti (y := nI (16 * kz - 16)) (pk_sub (by omega)) ?_
        refine lv_iload_n hx hb dX4_bits_57 rfl (lv_at hl 0 rfl) ?_
        refine lv_iadd hx hb dX4_bits_58 ?_
        refine dm_ti (y := nI (16 * kz - 16 + n)) (nI_add _ _) ?_
        exact dm_iret hC hK () (by rw [hk]; exact congrArg nI (by omega)) hP hD hS dX4_bits_59
      · omega
    · have hge : 2 ^ n ≤ un (kn k) := Nat.le_of_not_lt (fun h9 => by have := Nat.div_eq_of_lt h9; omega)
      have hn16 : n < 16 := (Nat.pow_lt_pow_iff_right (show 1 < 2 by decide)).mp (Nat.lt_of_le_of_lt hge hb0)
      refine lv_iinc (v := nI (n + 1)) (lv' := [(1, .int (nI (n + 1))), (0, .ref g)]) hx hb dX4_bits_30 hl (k := 0) rfl ((nI_succ n).symm) (by decide) rfl (fun ls hl => ?_)
      refine lv_goto (tgt := 7) hx hb dX4_bits_33 (by decide) ?_
      exact ih (n + 1) ls (by omega) ⟨by omega, fun k2 hk2 => Or.inr (by rw [Nat.add_sub_cancel, show k2 = k by omega]; exact hge)⟩ (lv_sub hl [0, 1] rfl)

/-! signed longs -/
def iL (z : Int) : Int64 := Int64.ofInt z
theorem iL_nat (n : Nat) : lN n = iL (n : Int) := by
  apply wb_inj
  rw [wb_tb]
  show _ = BitVec.ofInt 64 (n : Int)
  rw [BitVec.ofInt_natCast]
theorem iL_add (a b : Int) : iL a + iL b = iL (a + b) := (Int64.ofInt_add a b).symm
theorem iL_toInt {a : Int} (h1 : -9223372036854775808 ≤ a) (h2 : a < 9223372036854775808) : (iL a).toInt = a := Int64.toInt_ofInt_of_le h1 h2
theorem iL_i (v : Int32) : v.toInt64 = iL v.toInt := by
  apply Int64.toInt_inj.mp
  have h1 := Int32.le_toInt v
  have h2 := Int32.toInt_lt v
  rw [Int32.toInt_toInt64, iL_toInt (by omega) (by omega)]
theorem iL_shr {a : Int} (h1 : -4611686018427387904 ≤ a) (h2 : a < 4611686018427387904) : iL a >>> ((nI 16).toInt64 &&& 63) = iL (a / 65536) := by
  apply Int64.toInt_inj.mp
  have e : (iL a >>> ((nI 16).toInt64 &&& 63)).toInt = (iL a).toInt >>> 16 := BitVec.toInt_sshiftRight ..
  rw [e, Int.shiftRight_eq_div_pow, iL_toInt (by omega) (by omega), iL_toInt (by omega) (by omega)]
  rfl
theorem iL_mask (a : Int) : iL a &&& 65535 = lN (a % 65536).toNat := by
  obtain ⟨n, hn, he⟩ := wb_of (iL a)
  have h1 : (iL a).toBitVec.toNat = (a % 18446744073709551616).toNat := by
    show (BitVec.ofInt 64 a).toNat = _
    rw [BitVec.toNat_ofInt]
    rfl
  rw [he, wb_tn hn] at h1
  rw [he, m16 hn]
  congr 1
  omega
theorem iL_eq0 {a : Int} (h1 : -9223372036854775808 ≤ a) (h2 : a < 9223372036854775808) : iL a = lN 0 ↔ a = 0 := by
  rw [iL_nat]
  constructor
  · intro h
    have h3 := congrArg Int64.toInt h
    rw [iL_toInt h1 h2, iL_toInt (by decide) (by decide)] at h3
    exact h3
  · intro h; rw [h]; rfl
/-- a row with zeros above n -/
def rz (f : Nat → Int32) (n : Nat) : Nat → Int32 := fun j => if j < n then f j else 0
theorem rz_dv {f : Nat → Int32} {n : Nat} : ∀ {k : Nat}, n ≤ k → dvb 65536 (rz f n) k = dvb 65536 f n
  | 0, h => by rw [show n = 0 by omega]; rfl
  | k + 1, h => by
    rcases (show n = k + 1 ∨ n ≤ k by omega) with h1 | h1
    · rw [h1]; exact dvb_congr (fun j hj => if_pos hj)
    · show dvb 65536 (rz f n) k + un (rz f n k) * 65536 ^ k = _
      rw [rz_dv h1, show rz f n k = 0 from if_neg (by omega), un_0]
      omega
theorem add_step {F R : Nat → Int32} {k d : Nat} {c c2 v : Int} (h : (dvb 65536 F k : Int) + c * (65536 ^ k : Nat) = dvb 65536 R k + v) (hd : (d : Int) + c2 * 65536 = c + un (R k)) :
    ((dvb 65536 F k + d * 65536 ^ k : Nat) : Int) + c2 * (65536 ^ (k + 1) : Nat) = (dvb 65536 R (k + 1) : Nat) + v := by
  have e1 : dvb 65536 R (k + 1) = dvb 65536 R k + un (R k) * 65536 ^ k := rfl
  rw [e1, Nat.pow_succ]
  generalize 65536 ^ k = P at *
  have h2 : ((d : Int) + c2 * 65536) * P = (c + un (R k)) * P := by rw [hd]
  simp only [Int.natCast_add, Int.natCast_mul] at *
  have e2 : ((d : Int) + c2 * 65536) * P = d * P + c2 * (P * 65536) := by rw [Int.add_mul, Int.mul_assoc, Int.mul_comm 65536 (P : Int)]
  have e3 : (c + un (R k)) * (P : Int) = c * P + un (R k) * P := Int.add_mul ..
  rw [e2, e3] at h2
  show (dvb 65536 F k : Int) + d * P + c2 * (P * 65536) = _
  omega

set_option maxRecDepth 100000 in
set_option maxHeartbeats 4000000 in
theorem c_X4_add (l : Launch) (D : va_G) (cB cI cC : ClassId) (g gi go gn gr kt kw kz ks : Nat) (th : Int32) (kv : Int64) (ki ko kn kr : Nat → Int32) (v : Int32) (hkz : kz ≤ 4096) (hdn : d16 kn kz) (hnn : nrm kn kz) : MI l yX4_add (Cond.code yX4_add cX4_add 5 (some .boolean)) 1 D (TY cB cI cC) [.ref g, .int v] [(g, .inr (4, [.int th, .int (nI kt), .ref gi, .int (nI kw), .ref go, .int (nI kz), .ref gn, .int (nI ks), .ref gr, .long kv])), (gi, .inl (cC, 65536, .inl ki)), (go, .inl (cC, 65536, .inl ko)), (gn, .inl (cI, 4096, .inl kn)), (gr, .inl (cI, 4096, .inl kr))] (S := (Nat → Int32) × Nat × (Nat → Int32) × Nat) (fun r q => q.2.1 ≤ 4096 ∧ d16 q.1 q.2.1 ∧ nrm q.1 q.2.1 ∧ ((0 ≤ (dvb 65536 kn kz : Int) + v.toInt ∧ (dvb 65536 kn kz : Int) + v.toInt < (65536 ^ 4096 : Nat) ∧ r = 1 ∧ (dvb 65536 q.1 q.2.1 : Int) = (dvb 65536 kn kz : Int) + v.toInt) ∨ (¬ (0 ≤ (dvb 65536 kn kz : Int) + v.toInt ∧ (dvb 65536 kn kz : Int) + v.toInt < (65536 ^ 4096 : Nat)) ∧ r = 0 ∧ dvb 65536 q.1 q.2.1 = dvb 65536 kn kz))) (fun q => [(g, .inr (4, [.int (nI 0), .int (nI kt), .ref gi, .int (nI kw), .ref go, .int (nI q.2.1), .ref gn, .int (nI q.2.2.2), .ref gr, .long kv])), (gi, .inl (cC, 65536, .inl ki)), (go, .inl (cC, 65536, .inl ko)), (gn, .inl (cI, 4096, .inl q.1)), (gr, .inl (cI, 4096, .inl q.2.2.1))]) := by
  refine MI.of (by decide) (Nat.le_of_ble_eq_true rfl) ?_
  intro p e s m below meth c ls A hC hA hP hK hD hS hl
  obtain ⟨hx, hb, hr, hml, hown, hts, hlocks, hN⟩ := id hC
  have hown : s.vm.findClass RX4 = some m.cls := hown
  have hl : lv_has ls 5 [(0, .ref g), (1, .int v)] := hl
  refine lv_aload_n hx hb dX4_add_0 rfl (lv_at hl 0 rfl) ?_
  refine lv_iconst (v := nI 0) hx hb dX4_add_1 (by decide) ?_
  refine va_put (D := D) (ci := 4) (v := .int (nI 0)) (ty := .int) (C := RX4) (T := TX4) (N := 10) hx hb hts kin_X4_w tyX4 tyX4_ok nmX4 hown hK hP hD hS 0 rfl rfl 0 (by decide) (hts _ kfl_X4_24) (fun _ h9 => h9) rfl (by decide +kernel) rfl rfl (Nat.le_of_ble_eq_true rfl) dX4_add_2 (fun H locs hP hD hS => ?_)
  have hP : va_P D vwCl [(g, .inr (4, [.int (nI 0), .int (nI kt), .ref gi, .int (nI kw), .ref go, .int (nI kz), .ref gn, .int (nI ks), .ref gr, .long kv])), (gi, .inl (cC, 65536, .inl ki)), (go, .inl (cC, 65536, .inl ko)), (gn, .inl (cI, 4096, .inl kn)), (gr, .inl (cI, 4096, .inl kr))] H := hP
  have hD : va_D A [(g, .inr (4, [.int (nI 0), .int (nI kt), .ref gi, .int (nI kw), .ref go, .int (nI kz), .ref gn, .int (nI ks), .ref gr, .long kv])), (gi, .inl (cC, 65536, .inl ki)), (go, .inl (cC, 65536, .inl ko)), (gn, .inl (cI, 4096, .inl kn)), (gr, .inl (cI, 4096, .inl kr))] := hD
  refine lv_aload_n hx hb dX4_add_5 rfl (lv_at hl 0 rfl) ?_
  refine dm_gov (wr := [(gi, .inl (cC, 65536, .inl ki)), (go, .inl (cC, 65536, .inl ko))]) (dm_rV (n := 0) (As := []) (rest := []) hC hl (c_X4_take l D cB cI cC g gi go gn gr kt kw kz ks (nI 0) kv kn kr hkz H.size) kco_X4_take ki_X4 kim_X4_take kse_X4_take kml_X4_59 (by decide +kernel) ⟨Nat.le_of_ble_eq_true rfl, Nat.le_of_ble_eq_true rfl⟩ rfl rfl ⟨dm_blind, va_recv hK hP (ci := 4) (q0 := 0) rfl rfl, dm_preU hK hP hD hC.2.2.2.2.2.2.2 [0, 3, 4] (by decide) rfl⟩ rfl rfl (Nat.le_of_ble_eq_true rfl) dX4_add_6 ⟨Nat.le_of_ble_eq_true rfl, Nat.le_of_ble_eq_true rfl⟩) hP hD hS hA [0, 3, 4] [1, 2] rfl rfl (by decide) (by decide) (fun R0 H locs hR0 hP hD hS => ?_)
  have hP : va_P D vwCl [(gi, .inl (cC, 65536, .inl ki)), (go, .inl (cC, 65536, .inl ko)), (g, .inr (4, [.int (nI 0), .int (nI kt), .ref gi, .int (nI kw), .ref go, .int (nI kz), .ref gn, .int (nI kz), .ref gr, .long kv])), (gn, .inl (cI, 4096, .inl kn)), (gr, .inl (cI, 4096, .inl R0))] H := hP
  have hD : va_D A [(gi, .inl (cC, 65536, .inl ki)), (go, .inl (cC, 65536, .inl ko)), (g, .inr (4, [.int (nI 0), .int (nI kt), .ref gi, .int (nI kw), .ref go, .int (nI kz), .ref gn, .int (nI kz), .ref gr, .long kv])), (gn, .inl (cI, 4096, .inl kn)), (gr, .inl (cI, 4096, .inl R0))] := hD
  have hP := hP.sub (ws' := [(g, .inr (4, [.int (nI 0), .int (nI kt), .ref gi, .int (nI kw), .ref go, .int (nI kz), .ref gn, .int (nI kz), .ref gr, .long kv])), (gi, .inl (cC, 65536, .inl ki)), (go, .inl (cC, 65536, .inl ko)), (gn, .inl (cI, 4096, .inl kn)), (gr, .inl (cI, 4096, .inl R0))]) [2, 0, 1, 3, 4] rfl
  have hD := hD.sub (ws' := [(g, .inr (4, [.int (nI 0), .int (nI kt), .ref gi, .int (nI kw), .ref go, .int (nI kz), .ref gn, .int (nI kz), .ref gr, .long kv])), (gi, .inl (cC, 65536, .inl ki)), (go, .inl (cC, 65536, .inl ko)), (gn, .inl (cI, 4096, .inl kn)), (gr, .inl (cI, 4096, .inl R0))]) [2, 0, 1, 3, 4] (by decide) rfl
  have hdR := d16_congr hR0 hdn
  have hvR : dvb 65536 R0 kz = dvb 65536 kn kz := dvb_congr hR0
  have hv1 := Int32.le_toInt v
  have hv2 := Int32.toInt_lt v
  refine lv_iload_n hx hb dX4_add_9 rfl (lv_at hl 1 rfl) ?_
  refine lv_i2l (v := iL v.toInt) hx hb dX4_add_10 (iL_i v) ?_
  refine lv_lstore_n (lv' := [(2, .long (iL v.toInt)), (0, .ref g), (1, .int v)]) hx hb dX4_add_11 rfl hl (by decide) rfl (fun ls hl => ?_)
  refine lv_iconst (v := nI 0) hx hb dX4_add_12 (by decide) ?_
  refine lv_istore (lv' := [(4, .int (nI 0)), (2, .long (iL v.toInt)), (0, .ref g), (1, .int v)]) hx hb dX4_add_13 hl (by decide) rfl (fun ls hl => ?_)
  refine dm_loop (nL := 5) (head := 15) (P := fun (y : Nat × Int × (Nat → Int32)) => y.1 ≤ 4096 ∧ -2147483648 ≤ y.2.1 ∧ y.2.1 ≤ 2147483647 ∧ d16 y.2.2 y.1 ∧ ((dvb 65536 y.2.2 y.1 : Int) + y.2.1 * (65536 ^ y.1 : Nat) = dvb 65536 (rz R0 kz) y.1 + v.toInt) ∧ ∀ j, y.1 ≤ j → y.2.2 j = R0 j) (w := fun y => [(g, .inr (4, [.int (nI 0), .int (nI kt), .ref gi, .int (nI kw), .ref go, .int (nI kz), .ref gn, .int (nI kz), .ref gr, .long kv])), (gi, .inl (cC, 65536, .inl ki)), (go, .inl (cC, 65536, .inl ko)), (gn, .inl (cI, 4096, .inl kn)), (gr, .inl (cI, 4096, .inl y.2.2))]) (lv := fun y => [(4, .int (nI y.1)), (2, .long (iL y.2.1)), (0, .ref g), (1, .int v)]) (μ := fun y => 4096 - y.1) ?_ (0, v.toInt, R0) ⟨Nat.zero_le _, by dsimp only; omega, by dsimp only; omega, fun j hj => absurd hj (Nat.not_lt_zero _), by show ((0 : Nat) : Int) + v.toInt * ((65536 ^ 0 : Nat) : Int) = ((0 : Nat) : Int) + v.toInt; simp, fun _ _ => rfl⟩ hP hD hS (lv_sub hl [0, 1, 2, 3] rfl)
  rintro ⟨k, ci, F⟩ H locs ls ⟨k1, k2, k3, k4, k5, k6⟩ hP hD hS hl ih
  dsimp only at k1 k2 k3 k4 k5 k6
  have hP : va_P D vwCl [(g, .inr (4, [.int (nI 0), .int (nI kt), .ref gi, .int (nI kw), .ref go, .int (nI kz), .ref gn, .int (nI kz), .ref gr, .long kv])), (gi, .inl (cC, 65536, .inl ki)), (go, .inl (cC, 65536, .inl ko)), (gn, .inl (cI, 4096, .inl kn)), (gr, .inl (cI, 4096, .inl F))] H := hP
  have hD : va_D A [(g, .inr (4, [.int (nI 0), .int (nI kt), .ref gi, .int (nI kw), .ref go, .int (nI kz), .ref gn, .int (nI kz), .ref gr, .long kv])), (gi, .inl (cC, 65536, .inl ki)), (go, .inl (cC, 65536, .inl ko)), (gn, .inl (cI, 4096, .inl kn)), (gr, .inl (cI, 4096, .inl F))] := hD
  have hl : lv_has ls 5 [(4, .int (nI k)), (2, .long (iL ci)), (0, .ref g), (1, .int v)] := hl
  refine lv_iload hx hb dX4_add_15 (lv_at hl 0 rfl) ?_
  refine lv_sipush (v := nI 4096) hx hb dX4_add_17 (by decide) ?_
  refine dm_icmp_ge (tgt := 71) hx hb (by omega) (by omega) dX4_add_20 (by decide) (fun hc => ?_) (fun hc => ?_)
  · rw [show k = 4096 by omega] at k4 k5
    rw [rz_dv (by omega), hvR] at k5
    have hFl := d16_lt k4
    have hPp : 0 < 65536 ^ 4096 := Nat.pow_pos (by decide)
    generalize hPe : 65536 ^ 4096 = PP at k5 hFl hPp ⊢
    refine lv_lload_n hx hb dX4_add_71 rfl (lv_at hl 1 rfl) ?_
    refine lv_lconst (v := lN 0) hx hb dX4_add_72 (by decide) ?_
    refine W.lcmp hx hb dX4_add_73 ?_
    refine dm_ti (y := lg_cmp (iL ci) (lN 0)) (rfl) ?_
    refine lv_if_eq (tgt := 79) hx hb dX4_add_74 (by decide) (fun hd => ?_) (fun hd => ?_)
    · have hci := (iL_eq0 (by omega) (by omega)).mp ((lg_cmp_eq _ _).mp hd)
      rw [hci, Int.zero_mul, Int.add_zero] at k5
      refine lv_aload_n hx hb dX4_add_79 rfl (lv_at hl 2 rfl) ?_
      refine lv_sipush (v := nI 4096) hx hb dX4_add_80 (by decide) ?_
      refine va_put (D := D) (ci := 4) (v := .int (nI 4096)) (ty := .int) (C := RX4) (T := TX4) (N := 10) hx hb hts kin_X4_w tyX4 tyX4_ok nmX4 hown hK hP hD hS 0 rfl rfl 7 (by decide) (hts _ kfl_X4_28) (fun _ h9 => h9) rfl (by decide +kernel) rfl rfl (Nat.le_of_ble_eq_true rfl) dX4_add_83 (fun H locs hP hD hS => ?_)
      have hP : va_P D vwCl [(g, .inr (4, [.int (nI 0), .int (nI kt), .ref gi, .int (nI kw), .ref go, .int (nI kz), .ref gn, .int (nI 4096), .ref gr, .long kv])), (gi, .inl (cC, 65536, .inl ki)), (go, .inl (cC, 65536, .inl ko)), (gn, .inl (cI, 4096, .inl kn)), (gr, .inl (cI, 4096, .inl F))] H := hP
      have hD : va_D A [(g, .inr (4, [.int (nI 0), .int (nI kt), .ref gi, .int (nI kw), .ref go, .int (nI kz), .ref gn, .int (nI 4096), .ref gr, .long kv])), (gi, .inl (cC, 65536, .inl ki)), (go, .inl (cC, 65536, .inl ko)), (gn, .inl (cI, 4096, .inl kn)), (gr, .inl (cI, 4096, .inl F))] := hD
      refine lv_aload_n hx hb dX4_add_86 rfl (lv_at hl 2 rfl) ?_
      refine dm_gov (wr := [(gi, .inl (cC, 65536, .inl ki)), (go, .inl (cC, 65536, .inl ko))]) (dm_rV (n := 0) (As := []) (rest := []) hC hl (c_X4_give l D cB cI cC g gi go gn gr kt kw kz 4096 (nI 0) kv kn F (by decide) H.size) kco_X4_give ki_X4 kim_X4_give kse_X4_give kml_X4_53 (by decide +kernel) ⟨Nat.le_of_ble_eq_true rfl, Nat.le_of_ble_eq_true rfl⟩ rfl rfl ⟨dm_blind, va_recv hK hP (ci := 4) (q0 := 0) rfl rfl, dm_preU hK hP hD hC.2.2.2.2.2.2.2 [0, 3, 4] (by decide) rfl⟩ rfl rfl (Nat.le_of_ble_eq_true rfl) dX4_add_87 ⟨Nat.le_of_ble_eq_true rfl, Nat.le_of_ble_eq_true rfl⟩) hP hD hS hA [0, 3, 4] [1, 2] rfl rfl (by decide) (by decide) (fun q H locs hg hP hD hS => ?_)
      obtain ⟨kn2, kz2⟩ := q
      have hP : va_P D vwCl [(gi, .inl (cC, 65536, .inl ki)), (go, .inl (cC, 65536, .inl ko)), (g, .inr (4, [.int (nI 0), .int (nI kt), .ref gi, .int (nI kw), .ref go, .int (nI kz2), .ref gn, .int (nI kz2), .ref gr, .long kv])), (gn, .inl (cI, 4096, .inl kn2)), (gr, .inl (cI, 4096, .inl F))] H := hP
      have hD : va_D A [(gi, .inl (cC, 65536, .inl ki)), (go, .inl (cC, 65536, .inl ko)), (g, .inr (4, [.int (nI 0), .int (nI kt), .ref gi, .int (nI kw), .ref go, .int (nI kz2), .ref gn, .int (nI kz2), .ref gr, .long kv])), (gn, .inl (cI, 4096, .inl kn2)), (gr, .inl (cI, 4096, .inl F))] := hD
      have hP := hP.sub (ws' := [(g, .inr (4, [.int (nI 0), .int (nI kt), .ref gi, .int (nI kw), .ref go, .int (nI kz2), .ref gn, .int (nI kz2), .ref gr, .long kv])), (gi, .inl (cC, 65536, .inl ki)), (go, .inl (cC, 65536, .inl ko)), (gn, .inl (cI, 4096, .inl kn2)), (gr, .inl (cI, 4096, .inl F))]) [2, 0, 1, 3, 4] rfl
      have hD := hD.sub (ws' := [(g, .inr (4, [.int (nI 0), .int (nI kt), .ref gi, .int (nI kw), .ref go, .int (nI kz2), .ref gn, .int (nI kz2), .ref gr, .long kv])), (gi, .inl (cC, 65536, .inl ki)), (go, .inl (cC, 65536, .inl ko)), (gn, .inl (cI, 4096, .inl kn2)), (gr, .inl (cI, 4096, .inl F))]) [2, 0, 1, 3, 4] (by decide) rfl
      obtain ⟨g1, g2, g3, g4⟩ := hg
      dsimp only at g1 g2 g3 g4
      refine lv_iconst (v := nI 1) hx hb dX4_add_90 (by decide) ?_
      exact dm_zret (v := nI 1) hC (Or.inr rfl) hK (kn2, kz2, F, kz2) ⟨g1, d16_give g4 g1 k4, g3, Or.inl ⟨by omega, by omega, rfl, by show (dvb 65536 kn2 kz2 : Int) = _; rw [g2, k5]⟩⟩ hP hD hS dX4_add_91
    · have hci : ci ≠ 0 := fun h9 => hd ((lg_cmp_eq _ _).mpr ((iL_eq0 (by omega) (by omega)).mpr h9))
      have hout : ¬ (0 ≤ (dvb 65536 kn kz : Int) + v.toInt ∧ (dvb 65536 kn kz : Int) + v.toInt < (PP : Nat)) := by
        intro h9
        rw [← k5] at h9
        rcases (show ci ≤ -1 ∨ 1 ≤ ci by omega) with h8 | h8
        · have h7 : ci * (PP : Int) ≤ -1 * (PP : Int) := Int.mul_le_mul_of_nonneg_right h8 (by omega)
          omega
        · have h7 : 1 * (PP : Int) ≤ ci * (PP : Int) := Int.mul_le_mul_of_nonneg_right h8 (by omega)
          omega
      refine lv_iconst (v := nI 0) hx hb dX4_add_77 (by decide) ?_
      exact dm_zret (v := nI 0) hC (Or.inl rfl) hK (kn, kz, F, kz) ⟨hkz, hdn, hnn, Or.inr ⟨hout, rfl, rfl⟩⟩ hP hD hS dX4_add_78
  · obtain ⟨wd, hwd⟩ : ∃ z, z = un (rz R0 kz k) := ⟨_, rfl⟩
    have hwb : wd < 65536 := by rw [hwd]; unfold rz; split; (next h9 => exact hdR k h9); (rw [un_0]; decide)
    refine lv_lload_n hx hb dX4_add_23 rfl (lv_at hl 1 rfl) ?_
    refine dm_joinl (P := fun z => z = lN wd) 45 [.long (iL ci)] (fun hJ => ?_) ?_
    · refine lv_iload hx hb dX4_add_24 (lv_at hl 0 rfl) ?_
      refine lv_aload_n hx hb dX4_add_26 rfl (lv_at hl 2 rfl) ?_
      refine va_get (D := D) (ci := 4) (C := RX4) (T := TX4) (N := 10) (v := .int (nI kz)) hx hb hts kin_X4_w hown hK hP 0 rfl rfl 7 (by decide) (hts _ kfl_X4_28) (fun _ h9 => h9) rfl dX4_add_27 ?_
      refine dm_icmp_ge (tgt := 44) hx hb (by omega) (by omega) dX4_add_30 (by decide) (fun hd => ?_) (fun hd => ?_)
      · refine lv_lconst (v := lN 0) hx hb dX4_add_44 (by decide) ?_
        refine dm_tl (y := lN wd) (by rw [hwd]; unfold rz; rw [if_neg (by omega), un_0]) ?_
        exact hJ _ rfl
      · refine lv_aload_n hx hb dX4_add_33 rfl (lv_at hl 2 rfl) ?_
        refine va_get (D := D) (ci := 4) (C := RX4) (T := TX4) (N := 10) (v := .ref gr) hx hb hts kin_X4_w hown hK hP 0 rfl rfl 8 (by decide) (hts _ kfl_X4_21) (fun _ h9 => h9) rfl dX4_add_34 ?_
        refine lv_iload hx hb dX4_add_37 (lv_at hl 0 rfl) ?_
        refine dm_iald (j := k) hx hb hK hP 4 1 rfl rfl (by omega) (by decide) dX4_add_39 ?_
        refine dm_ti (y := nI wd) (by rw [hwd]; unfold rz; rw [if_pos hd, nI_un]; exact k6 k (Nat.le_refl _)) ?_
        refine lv_i2l (v := lN wd) hx hb dX4_add_40 (nI_l (by omega)) ?_
        refine lv_goto (tgt := 45) hx hb dX4_add_41 (by decide) ?_
        exact hJ _ rfl
    · rintro z rfl
      obtain ⟨sm, hsm⟩ : ∃ z : Int, z = ci + wd := ⟨_, rfl⟩
      obtain ⟨dg, hdg⟩ : ∃ z : Nat, z = (sm % 65536).toNat := ⟨_, rfl⟩
      have hdgl : dg < 65536 := by omega
      have hde : (dg : Int) + (sm / 65536) * 65536 = sm := by omega
      refine lv_ladd hx hb dX4_add_45 ?_
      refine dm_tl (y := iL sm) (by rw [iL_nat, iL_add, hsm]) ?_
      refine lv_lstore_n (lv' := [(2, .long (iL sm)), (4, .int (nI k)), (0, .ref g), (1, .int v)]) hx hb dX4_add_46 rfl hl (by decide) rfl (fun ls hl => ?_)
      refine lv_aload_n hx hb dX4_add_47 rfl (lv_at hl 2 rfl) ?_
      refine va_get (D := D) (ci := 4) (C := RX4) (T := TX4) (N := 10) (v := .ref gr) hx hb hts kin_X4_w hown hK hP 0 rfl rfl 8 (by decide) (hts _ kfl_X4_21) (fun _ h9 => h9) rfl dX4_add_48 ?_
      refine lv_iload hx hb dX4_add_51 (lv_at hl 1 rfl) ?_
      refine lv_lload_n hx hb dX4_add_53 rfl (lv_at hl 0 rfl) ?_
      refine lv_ldc2 (v := 65535) hx hb hown (hts _ kct_X4_31) dX4_add_54 ?_
      refine lv_land hx hb dX4_add_57 ?_
      refine dm_tl (y := lN dg) (by rw [hdg]; exact iL_mask _) ?_
      refine lv_l2i (v := nI dg) hx hb dX4_add_58 (lN_low) ?_
      refine dm_iast (j := k) (f' := upd F k (nI dg)) hx hb hK hP hD hS 4 1 rfl rfl (by omega) (by decide) (rfl) dX4_add_59 (fun H locs hP hD hS => ?_)
      have hP : va_P D vwCl [(g, .inr (4, [.int (nI 0), .int (nI kt), .ref gi, .int (nI kw), .ref go, .int (nI kz), .ref gn, .int (nI kz), .ref gr, .long kv])), (gi, .inl (cC, 65536, .inl ki)), (go, .inl (cC, 65536, .inl ko)), (gn, .inl (cI, 4096, .inl kn)), (gr, .inl (cI, 4096, .inl (upd F k (nI dg))))] H := hP
      have hD : va_D A [(g, .inr (4, [.int (nI 0), .int (nI kt), .ref gi, .int (nI kw), .ref go, .int (nI kz), .ref gn, .int (nI kz), .ref gr, .long kv])), (gi, .inl (cC, 65536, .inl ki)), (go, .inl (cC, 65536, .inl ko)), (gn, .inl (cI, 4096, .inl kn)), (gr, .inl (cI, 4096, .inl (upd F k (nI dg))))] := hD
      refine lv_lload_n hx hb dX4_add_60 rfl (lv_at hl 0 rfl) ?_
      refine lv_bipush (v := nI 16) hx hb dX4_add_61 (by decide) ?_
      refine lv_lshr (v := iL (sm / 65536)) hx hb dX4_add_63 (iL_shr (by omega) (by omega)) ?_
      refine lv_lstore_n (lv' := [(2, .long (iL (sm / 65536))), (4, .int (nI k)), (0, .ref g), (1, .int v)]) hx hb dX4_add_64 rfl hl (by decide) rfl (fun ls hl => ?_)
      refine lv_iinc (v := nI (k + 1)) (lv' := [(4, .int (nI (k + 1))), (2, .long (iL (sm / 65536))), (0, .ref g), (1, .int v)]) hx hb dX4_add_65 hl (k := 1) rfl ((nI_succ k).symm) (by decide) rfl (fun ls hl => ?_)
      refine lv_goto (tgt := 15) hx hb dX4_add_68 (by decide) ?_
      refine ih (k + 1, sm / 65536, upd F k (nI dg)) H locs ls (by show 4096 - (k + 1) < 4096 - k; omega) ⟨by show k + 1 ≤ 4096; omega, by dsimp only; omega, by dsimp only; omega, d16_upd k4 hdgl, ?_, fun j hj => ?_⟩ hP hD hS (lv_sub hl [0, 1, 2, 3] rfl)
      · show ((dvb 65536 (upd F k (nI dg)) k + un (upd F k (nI dg) k) * 65536 ^ k : Nat) : Int) + sm / 65536 * (65536 ^ (k + 1) : Nat) = (dvb 65536 (rz R0 kz) (k + 1) : Nat) + v.toInt
        rw [dvb_upd (Nat.le_refl _), pk_us, un_nI (by omega)]
        exact add_step k5 (by rw [hde, hsm, hwd])
      · show upd F k _ j = R0 j
        have hj : k + 1 ≤ j := hj
        rw [pk_un (by omega)]
        exact k6 j (by omega)
