theorem sar_mask {x s k : Nat} (hx : x < 18446744073709551616) (hs : s + k ≤ 64) (hs2 : s < 64) {c : Int64} (hc : c.toBitVec = BitVec.ofNat 64 (2 ^ k - 1)) : (lN x >>> ((nI s).toInt64 &&& 63)) &&& c = lN (x / 2 ^ s % 2 ^ k) := by
  have hsm : (((nI s).toInt64 &&& 63).toBitVec.smod 64).toNat = s := by
    rw [wb_c s hs2]
    have : (lN s).toBitVec.smod 64 = BitVec.ofNat 64 s := wb_sm s hs2
    rw [this, BitVec.toNat_ofNat]
    omega
  apply wb_inj
  have e1 : ((lN x >>> ((nI s).toInt64 &&& 63)) &&& c).toBitVec = ((lN x).toBitVec.sshiftRight s) &&& BitVec.ofNat 64 (2 ^ k - 1) := by
    show ((lN x).toBitVec.sshiftRight _) &&& c.toBitVec = _
    rw [hc, hsm]
  rw [e1, wb_tb, wb_tb]
  apply BitVec.eq_of_getLsbD_eq
  intro i hi
  rw [BitVec.getLsbD_and, BitVec.getLsbD_sshiftRight, BitVec.getLsbD_ofNat, BitVec.getLsbD_ofNat, BitVec.getLsbD_ofNat, Nat.testBit_mod_two_pow, Nat.testBit_div_two_pow, Nat.testBit_two_pow_sub_one]
  by_cases h1 : i < k
  · simp [h1, hi, show i + s < 64 by omega, Nat.add_comm, show ¬ 64 ≤ i by omega, show s + i < 64 by omega]
  · simp [h1]
theorem sar8 {x k : Nat} (hx : x < 18446744073709551616) (hk : k < 8) : (lN x >>> ((nI (8 * k)).toInt64 &&& 63)) &&& 255 = lN (tb x (7 - k)) := by
  rw [sar_mask (k := 8) hx (by omega) (by omega) (c := 255) (by decide)]
  unfold tb
  rw [show 56 - 8 * (7 - k) = 8 * k by omega]
def b01 (x d : Nat) : Nat := if tb x d = 0 then 0 else 1
def cntL (x : Nat) : Nat → Nat
  | 0 => 0
  | k + 1 => cntL x k + b01 x (7 - k)
def gdL (x : Nat) : Nat → Nat
  | 0 => 1
  | k + 1 => if gdL x k = 0 then 0 else if 127 ≤ tb x (7 - k) then 0 else 1
theorem gdL_2 (x k : Nat) : gdL x k < 2 := by
  cases k with
  | zero => show 1 < 2; decide
  | succ k => unfold gdL; (repeat' split) <;> decide
theorem gdL_iff (x : Nat) : ∀ k, gdL x k = 1 ↔ ∀ j, j < k → tb x (7 - j) ≤ 126
  | 0 => ⟨fun _ j hj => absurd hj (Nat.not_lt_zero _), fun _ => rfl⟩
  | k + 1 => by
    have ih := gdL_iff x k
    have h2 := gdL_2 x k
    unfold gdL
    constructor
    · intro h
      split at h
      · omega
      · split at h
        · omega
        · exact lt_s (p := fun j => tb x (7 - j) ≤ 126) (ih.mp (by omega)) (by omega)
    · intro h
      rw [if_neg (by have := ih.mpr (fun j hj => h j (by omega)); omega), if_neg (by have := h k (by omega); omega)]
theorem tyl_succ (x d : Nat) : (tyl x (d + 1)).length = (tyl x d).length + b01 x d := by
  show (tyl x d ++ _).length = _
  rw [List.length_append]
  unfold b01
  split <;> rfl
theorem cnt_len (x : Nat) : cntL x 8 = (tyl x 8).length := by
  have h0 : (tyl x 0).length = 0 := rfl
  have h1 : (tyl x 1).length = (tyl x 0).length + b01 x 0 := tyl_succ x 0
  have h2 : (tyl x 2).length = (tyl x 1).length + b01 x 1 := tyl_succ x 1
  have h3 : (tyl x 3).length = (tyl x 2).length + b01 x 2 := tyl_succ x 2
  have h4 : (tyl x 4).length = (tyl x 3).length + b01 x 3 := tyl_succ x 3
  have h5 : (tyl x 5).length = (tyl x 4).length + b01 x 4 := tyl_succ x 4
  have h6 : (tyl x 6).length = (tyl x 5).length + b01 x 5 := tyl_succ x 5
  have h7 : (tyl x 7).length = (tyl x 6).length + b01 x 6 := tyl_succ x 6
  have h8 : (tyl x 8).length = (tyl x 7).length + b01 x 7 := tyl_succ x 7
  show 0 + b01 x 7 + b01 x 6 + b01 x 5 + b01 x 4 + b01 x 3 + b01 x 2 + b01 x 1 + b01 x 0 = _
  omega
theorem cntL_le (x : Nat) : ∀ k, cntL x k ≤ k
  | 0 => Nat.le_refl _
  | k + 1 => by
    have h := cntL_le x k
    have h2 : b01 x (7 - k) ≤ 1 := by unfold b01; split <;> decide
    show cntL x k + b01 x (7 - k) ≤ k + 1
    omega
theorem tyOK_iff {x n : Nat} : tyOK x n ↔ gdL x 8 = 1 ∧ n + cntL x 8 ≤ 65536 := by
  rw [gdL_iff, cnt_len]
  unfold tyOK
  constructor
  · exact fun h => ⟨fun j hj => h.1 (7 - j) (by omega), h.2⟩
  · exact fun h => ⟨fun j hj => by have := h.1 (7 - j) (by omega); rwa [show 7 - (7 - j) = j by omega] at this, h.2⟩
theorem dn_dec : ∀ d, d < 8 → nI (7 - d) + Int32.ofInt (-1) = nI 7 - nI (d + 1) := by decide
theorem tyl_mono (x : Nat) {d : Nat} : ∀ c, (tyl x d).length ≤ (tyl x (d + c)).length
  | 0 => Nat.le_refl _
  | c + 1 => by
    have h := tyl_mono x (d := d) c
    have h2 := tyl_succ x (d + c)
    show _ ≤ (tyl x (d + c + 1)).length
    omega

set_option maxRecDepth 100000 in
set_option maxHeartbeats 4000000 in
theorem c_X4_type (l : Launch) (D : va_G) (cB cI cC : ClassId) (g gi go gn gr kt kw kz ks : Nat) (th : Int32) (kv : Int64) (ki ko kn kr : Nat → Int32) (x : Nat) (T : Nat → Nat) (hkt : kt ≤ 65536) (hx8 : x < 18446744073709551616) (htx : txt kt T ki) : MI l yX4_type (Cond.code yX4_type cX4_type 7 (some .boolean)) 0 D (TY cB cI cC) [.ref g, .long (lN x)] [(g, .inr (4, [.int th, .int (nI kt), .ref gi, .int (nI kw), .ref go, .int (nI kz), .ref gn, .int (nI ks), .ref gr, .long kv])), (gi, .inl (cC, 65536, .inl ki)), (go, .inl (cC, 65536, .inl ko)), (gn, .inl (cI, 4096, .inl kn)), (gr, .inl (cI, 4096, .inl kr))] (S := (Nat → Int32) × Nat) (fun r q => (tyOK x kt ∧ r = 1 ∧ q.2 = kt + (tyl x 8).length ∧ txt q.2 (T2 kt T (tyl x 8)) q.1) ∨ (¬ tyOK x kt ∧ r = 0 ∧ q = (ki, kt))) (fun q => [(g, .inr (4, [.int (nI 0), .int (nI q.2), .ref gi, .int (nI kw), .ref go, .int (nI kz), .ref gn, .int (nI ks), .ref gr, .long kv])), (gi, .inl (cC, 65536, .inl q.1)), (go, .inl (cC, 65536, .inl ko)), (gn, .inl (cI, 4096, .inl kn)), (gr, .inl (cI, 4096, .inl kr))]) := by
  refine MI.of (by decide) (Nat.le_of_ble_eq_true rfl) ?_
  intro p e s m below meth c ls A hC hA hP hK hD hS hl
  obtain ⟨hx, hb, hr, hml, hown, hts, hlocks, hN⟩ := id hC
  have hown : s.vm.findClass RX4 = some m.cls := hown
  have hl : lv_has ls 7 [(0, .ref g), (1, .long (lN x))] := hl
  refine lv_aload_n hx hb dX4_type_0 rfl (lv_at hl 0 rfl) ?_
  refine lv_iconst (v := nI 0) hx hb dX4_type_1 (by decide) ?_
  refine va_put (D := D) (ci := 4) (v := .int (nI 0)) (ty := .int) (C := RX4) (T := TX4) (N := 10) hx hb hts kin_X4_w tyX4 tyX4_ok nmX4 hown hK hP hD hS 0 rfl rfl 0 (by decide) (hts _ kfl_X4_24) (fun _ h9 => h9) rfl (by decide +kernel) rfl rfl (Nat.le_of_ble_eq_true rfl) dX4_type_2 (fun H locs hP hD hS => ?_)
  have hP : va_P D vwCl [(g, .inr (4, [.int (nI 0), .int (nI kt), .ref gi, .int (nI kw), .ref go, .int (nI kz), .ref gn, .int (nI ks), .ref gr, .long kv])), (gi, .inl (cC, 65536, .inl ki)), (go, .inl (cC, 65536, .inl ko)), (gn, .inl (cI, 4096, .inl kn)), (gr, .inl (cI, 4096, .inl kr))] H := hP
  have hD : va_D A [(g, .inr (4, [.int (nI 0), .int (nI kt), .ref gi, .int (nI kw), .ref go, .int (nI kz), .ref gn, .int (nI ks), .ref gr, .long kv])), (gi, .inl (cC, 65536, .inl ki)), (go, .inl (cC, 65536, .inl ko)), (gn, .inl (cI, 4096, .inl kn)), (gr, .inl (cI, 4096, .inl kr))] := hD
  refine lv_iconst (v := nI 0) hx hb dX4_type_5 (by decide) ?_
  refine lv_istore_n (lv' := [(3, .int (nI 0)), (0, .ref g), (1, .long (lN x))]) hx hb dX4_type_6 rfl hl (by decide) rfl (fun ls hl => ?_)
  refine lv_iconst (v := nI 1) hx hb dX4_type_7 (by decide) ?_
  refine lv_istore (lv' := [(4, .int (nI 1)), (3, .int (nI 0)), (0, .ref g), (1, .long (lN x))]) hx hb dX4_type_8 hl (by decide) rfl (fun ls hl => ?_)
  refine lv_iconst (v := nI 0) hx hb dX4_type_10 (by decide) ?_
  refine lv_istore (lv' := [(5, .int (nI 0)), (4, .int (nI 1)), (3, .int (nI 0)), (0, .ref g), (1, .long (lN x))]) hx hb dX4_type_11 hl (by decide) rfl (fun ls hl => ?_)
  refine dm_loopR (nL := 7) 13 (fun k => k ≤ 8) (fun k => [(5, .int (nI k)), (4, .int (nI (gdL x k))), (3, .int (nI (cntL x k))), (0, .ref g), (1, .long (lN x))]) (fun k => 8 - k) ?_ 0 (Nat.zero_le _) hl
  intro k ls hk hl ih
  have hg2 := gdL_2 x k
  have hcl := cntL_le x k
  refine lv_iload hx hb dX4_type_13 (lv_at hl 0 rfl) ?_
  refine lv_bipush (v := nI 8) hx hb dX4_type_15 (by decide) ?_
  refine dm_icmp_ge (tgt := 72) hx hb (by omega) (by omega) dX4_type_17 (by decide) (fun hc => ?_) (fun hc => ?_)
  · have hk8 : k = 8 := by omega
    rw [hk8] at hl hg2 hcl
    refine lv_iload hx hb dX4_type_72 (lv_at hl 1 rfl) ?_
    refine dm_if_eq (tgt := 88) hx hb (by omega) dX4_type_74 (by decide) (fun hd => ?_) (fun hd => ?_)
    · refine lv_iconst (v := nI 0) hx hb dX4_type_88 (by decide) ?_
      exact dm_zret (v := nI 0) hC (Or.inl rfl) hK (ki, kt) (Or.inr ⟨fun h9 => by have := (tyOK_iff.mp h9).1; omega, rfl, rfl⟩) hP hD hS dX4_type_89
    · refine lv_aload_n hx hb dX4_type_77 rfl (lv_at hl 3 rfl) ?_
      refine va_get (D := D) (ci := 4) (C := RX4) (T := TX4) (N := 10) (v := .int (nI kt)) hx hb hts kin_X4_w hown hK hP 0 rfl rfl 1 (by decide) (hts _ kfl_X4_38) (fun _ h9 => h9) rfl dX4_type_78 ?_
      refine lv_iload_n hx hb dX4_type_81 rfl (lv_at hl 2 rfl) ?_
      refine lv_iadd hx hb dX4_type_82 ?_
      refine dm_ti (y := nI (kt + cntL x 8)) (nI_add _ _) ?_
      refine lv_ldc (v := nI 65536) hx hb hown (hts _ kct_X4_7) dX4_type_83 ?_
      refine dm_icmp_le (tgt := 90) hx hb (by omega) (by omega) dX4_type_85 (by decide) (fun he => ?_) (fun he => ?_)
      · have hok : tyOK x kt := tyOK_iff.mpr ⟨by omega, he⟩
        have hlen8 := hok.2
        refine lv_bipush (v := nI 7) hx hb dX4_type_90 (by decide) ?_
        refine lv_istore (lv' := [(5, .int (nI 7)), (4, .int (nI (gdL x 8))), (3, .int (nI (cntL x 8))), (0, .ref g), (1, .long (lN x))]) hx hb dX4_type_92 hl (by decide) rfl (fun ls hl => ?_)
        have hl : lv_has ls 7 [(5, .int (nI 7 - nI 0)), (0, .ref g), (1, .long (lN x))] := by rw [show nI 7 - nI 0 = nI 7 by decide]; exact lv_sub hl [0, 3, 4] rfl
        refine dm_loop (nL := 7) (head := 94) (P := fun (y : Nat × (Nat → Int32)) => y.1 ≤ 8 ∧ txt (kt + (tyl x y.1).length) (T2 kt T (tyl x y.1)) y.2) (w := fun y => [(g, .inr (4, [.int (nI 0), .int (nI (kt + (tyl x y.1).length)), .ref gi, .int (nI kw), .ref go, .int (nI kz), .ref gn, .int (nI ks), .ref gr, .long kv])), (gi, .inl (cC, 65536, .inl y.2)), (go, .inl (cC, 65536, .inl ko)), (gn, .inl (cI, 4096, .inl kn)), (gr, .inl (cI, 4096, .inl kr))]) (lv := fun y => [(5, .int (nI 7 - nI y.1)), (0, .ref g), (1, .long (lN x))]) (μ := fun y => 8 - y.1) ?_ (0, ki) ⟨Nat.zero_le _, T2_nil htx⟩ hP hD hS hl
        clear ih
        rintro ⟨d, F⟩ H locs ls ⟨hd8, hF⟩ hP hD hS hl ih
        dsimp only at hd8 hF
        have hP : va_P D vwCl [(g, .inr (4, [.int (nI 0), .int (nI (kt + (tyl x d).length)), .ref gi, .int (nI kw), .ref go, .int (nI kz), .ref gn, .int (nI ks), .ref gr, .long kv])), (gi, .inl (cC, 65536, .inl F)), (go, .inl (cC, 65536, .inl ko)), (gn, .inl (cI, 4096, .inl kn)), (gr, .inl (cI, 4096, .inl kr))] H := hP
        have hD : va_D A [(g, .inr (4, [.int (nI 0), .int (nI (kt + (tyl x d).length)), .ref gi, .int (nI kw), .ref go, .int (nI kz), .ref gn, .int (nI ks), .ref gr, .long kv])), (gi, .inl (cC, 65536, .inl F)), (go, .inl (cC, 65536, .inl ko)), (gn, .inl (cI, 4096, .inl kn)), (gr, .inl (cI, 4096, .inl kr))] := hD
        have hl : lv_has ls 7 [(5, .int (nI 7 - nI d)), (0, .ref g), (1, .long (lN x))] := hl
        rcases (show d = 8 ∨ d < 8 by omega) with hd9 | hd9
        · rw [hd9] at hP hD hF hl
          refine lv_iload hx hb dX4_type_94 (lv_at hl 0 rfl) ?_
          refine lv_if_lt (tgt := 149) hx hb dX4_type_96 (by decide) (fun hc1 => ?_) (fun hc1 => ?_)
          · refine lv_iconst (v := nI 1) hx hb dX4_type_149 (by decide) ?_
            exact dm_zret (v := nI 1) hC (Or.inr rfl) hK (F, kt + (tyl x 8).length) (Or.inl ⟨hok, rfl, rfl, hF⟩) hP hD hS dX4_type_150
          · exact absurd (by decide) hc1
        · have hl : lv_has ls 7 [(5, .int (nI (7 - d))), (0, .ref g), (1, .long (lN x))] := by rw [show nI (7 - d) = nI 7 - nI d from (pk_sub (by omega)).symm]; exact hl
          have hb8 := tb_lt x d
          have hok1 := hok.1 d hd9
          have hlm := tyl_mono x (d := d + 1) (7 - d)
          rw [show d + 1 + (7 - d) = 8 by omega] at hlm
          refine lv_iload hx hb dX4_type_94 (lv_at hl 0 rfl) ?_
          refine dm_if_lt (tgt := 149) hx hb (by omega) dX4_type_96 (by decide) (fun hc1 => ?_) (fun hc1 => ?_)
          · exact hc1.elim
          · refine lv_lload_n hx hb dX4_type_99 rfl (lv_at hl 2 rfl) ?_
            refine lv_bipush (v := nI 8) hx hb dX4_type_100 (by decide) ?_
            refine lv_iload hx hb dX4_type_102 (lv_at hl 0 rfl) ?_
            refine lv_imul hx hb dX4_type_104 ?_
            refine dm_ti (y := nI (8 * (7 - d))) (pk_mul 8 (7 - d)) ?_
            refine lv_lshr (v := (lN x >>> ((nI (8 * (7 - d)) : Int32).toInt64 &&& 63))) hx hb dX4_type_105 (rfl) ?_
            refine lv_ldc2 (v := 255) hx hb hown (hts _ kct_X4_36) dX4_type_106 ?_
            refine lv_land hx hb dX4_type_109 ?_
            refine dm_tl (y := lN (tb x d)) (by rw [sar8 hx8 (by omega), show 7 - (7 - d) = d by omega]) ?_
            refine lv_l2i (v := nI (tb x d)) hx hb dX4_type_110 (lN_low) ?_
            refine lv_istore (lv' := [(6, .int (nI (tb x d))), (5, .int (nI (7 - d))), (0, .ref g), (1, .long (lN x))]) hx hb dX4_type_111 hl (by decide) rfl (fun ls hl => ?_)
            refine lv_iload hx hb dX4_type_113 (lv_at hl 0 rfl) ?_
            refine dm_if_ne (tgt := 121) hx hb (by omega) dX4_type_115 (by decide) (fun hz => ?_) (fun hz => ?_)
            · have e1 : tyl x (d + 1) = tyl x d ++ [tb x d] := by show tyl x d ++ _ = _; rw [if_neg hz]
              have e2 : kt + (tyl x d).length + 1 = kt + (tyl x (d + 1)).length := by rw [e1, List.length_append, List.length_singleton]; omega
              refine lv_aload_n hx hb dX4_type_121 rfl (lv_at hl 2 rfl) ?_
              refine va_get (D := D) (ci := 4) (C := RX4) (T := TX4) (N := 10) (v := .ref gi) hx hb hts kin_X4_w hown hK hP 0 rfl rfl 2 (by decide) (hts _ kfl_X4_8) (fun _ h9 => h9) rfl dX4_type_122 ?_
              refine lv_aload_n hx hb dX4_type_125 rfl (lv_at hl 2 rfl) ?_
              refine va_get (D := D) (ci := 4) (C := RX4) (T := TX4) (N := 10) (v := .int (nI (kt + (tyl x d).length))) hx hb hts kin_X4_w hown hK hP 0 rfl rfl 1 (by decide) (hts _ kfl_X4_38) (fun _ h9 => h9) rfl dX4_type_126 ?_
              refine lv_iload hx hb dX4_type_129 (lv_at hl 0 rfl) ?_
              refine lv_i2c (v := nI (tb x d)) hx hb dX4_type_131 (c16 _ (by omega)) ?_
              refine dm_cast (j := (kt + (tyl x d).length)) (f' := upd F (kt + (tyl x d).length) (nI (tb x d))) hx hb hK hP hD hS 1 2 rfl rfl (by omega) (by decide) (by rw [narC (by omega)]) dX4_type_132 (fun H locs hP hD hS => ?_)
              have hP : va_P D vwCl [(g, .inr (4, [.int (nI 0), .int (nI (kt + (tyl x d).length)), .ref gi, .int (nI kw), .ref go, .int (nI kz), .ref gn, .int (nI ks), .ref gr, .long kv])), (gi, .inl (cC, 65536, .inl (upd F (kt + (tyl x d).length) (nI (tb x d))))), (go, .inl (cC, 65536, .inl ko)), (gn, .inl (cI, 4096, .inl kn)), (gr, .inl (cI, 4096, .inl kr))] H := hP
              have hD : va_D A [(g, .inr (4, [.int (nI 0), .int (nI (kt + (tyl x d).length)), .ref gi, .int (nI kw), .ref go, .int (nI kz), .ref gn, .int (nI ks), .ref gr, .long kv])), (gi, .inl (cC, 65536, .inl (upd F (kt + (tyl x d).length) (nI (tb x d))))), (go, .inl (cC, 65536, .inl ko)), (gn, .inl (cI, 4096, .inl kn)), (gr, .inl (cI, 4096, .inl kr))] := hD
              refine lv_aload_n hx hb dX4_type_133 rfl (lv_at hl 2 rfl) ?_
              refine lv_dup hx hb dX4_type_134 rfl ?_
              refine va_get (D := D) (ci := 4) (C := RX4) (T := TX4) (N := 10) (v := .int (nI (kt + (tyl x d).length))) hx hb hts kin_X4_w hown hK hP 0 rfl rfl 1 (by decide) (hts _ kfl_X4_38) (fun _ h9 => h9) rfl dX4_type_135 ?_
              refine lv_iconst (v := nI 1) hx hb dX4_type_138 (by decide) ?_
              refine lv_iadd hx hb dX4_type_139 ?_
              refine dm_ti (y := nI (kt + (tyl x (d + 1)).length)) (by rw [← e2]; exact nI_1 _) ?_
              refine va_put (D := D) (ci := 4) (v := .int (nI (kt + (tyl x (d + 1)).length))) (ty := .int) (C := RX4) (T := TX4) (N := 10) hx hb hts kin_X4_w tyX4 tyX4_ok nmX4 hown hK hP hD hS 0 rfl rfl 1 (by decide) (hts _ kfl_X4_38) (fun _ h9 => h9) rfl (by decide +kernel) rfl rfl (Nat.le_of_ble_eq_true rfl) dX4_type_140 (fun H locs hP hD hS => ?_)
              have hP : va_P D vwCl [(g, .inr (4, [.int (nI 0), .int (nI (kt + (tyl x (d + 1)).length)), .ref gi, .int (nI kw), .ref go, .int (nI kz), .ref gn, .int (nI ks), .ref gr, .long kv])), (gi, .inl (cC, 65536, .inl (upd F (kt + (tyl x d).length) (nI (tb x d))))), (go, .inl (cC, 65536, .inl ko)), (gn, .inl (cI, 4096, .inl kn)), (gr, .inl (cI, 4096, .inl kr))] H := hP
              have hD : va_D A [(g, .inr (4, [.int (nI 0), .int (nI (kt + (tyl x (d + 1)).length)), .ref gi, .int (nI kw), .ref go, .int (nI kz), .ref gn, .int (nI ks), .ref gr, .long kv])), (gi, .inl (cC, 65536, .inl (upd F (kt + (tyl x d).length) (nI (tb x d))))), (go, .inl (cC, 65536, .inl ko)), (gn, .inl (cI, 4096, .inl kn)), (gr, .inl (cI, 4096, .inl kr))] := hD
              refine lv_iinc (v := (nI 7 - nI (d + 1))) (lv' := [(5, .int (nI 7 - nI (d + 1))), (6, .int (nI (tb x d))), (0, .ref g), (1, .long (lN x))]) hx hb dX4_type_143 hl (k := 1) rfl (dn_dec d hd9) (by decide) rfl (fun ls hl => ?_)
              refine lv_goto (tgt := 94) hx hb dX4_type_146 (by decide) ?_
              exact ih (d + 1, upd F (kt + (tyl x d).length) (nI (tb x d))) H locs ls (by show 8 - (d + 1) < 8 - d; omega) ⟨by show d + 1 ≤ 8; omega, by show txt (kt + (tyl x (d + 1)).length) (T2 kt T (tyl x (d + 1))) _; rw [e1]; exact T2_push hF (by omega)⟩ hP hD hS (lv_sub hl [0, 2, 3] rfl)
            · refine lv_goto (tgt := 143) hx hb dX4_type_118 (by decide) ?_
              refine lv_iinc (v := (nI 7 - nI (d + 1))) (lv' := [(5, .int (nI 7 - nI (d + 1))), (6, .int (nI (tb x d))), (0, .ref g), (1, .long (lN x))]) hx hb dX4_type_143 hl (k := 1) rfl (dn_dec d hd9) (by decide) rfl (fun ls hl => ?_)
              refine lv_goto (tgt := 94) hx hb dX4_type_146 (by decide) ?_
              have e1 : tyl x (d + 1) = tyl x d := by show tyl x d ++ _ = _; rw [if_pos hz, List.append_nil]
              exact ih (d + 1, F) H locs ls (by show 8 - (d + 1) < 8 - d; omega) ⟨by show d + 1 ≤ 8; omega, by show txt (kt + (tyl x (d + 1)).length) (T2 kt T (tyl x (d + 1))) F; rw [e1]; exact hF⟩ (by show va_P D vwCl [(g, .inr (4, [.int (nI 0), .int (nI (kt + (tyl x (d + 1)).length)), .ref gi, .int (nI kw), .ref go, .int (nI kz), .ref gn, .int (nI ks), .ref gr, .long kv])), (gi, .inl (cC, 65536, .inl F)), (go, .inl (cC, 65536, .inl ko)), (gn, .inl (cI, 4096, .inl kn)), (gr, .inl (cI, 4096, .inl kr))] H; rw [e1]; exact hP) (by show va_D A [(g, .inr (4, [.int (nI 0), .int (nI (kt + (tyl x (d + 1)).length)), .ref gi, .int (nI kw), .ref go, .int (nI kz), .ref gn, .int (nI ks), .ref gr, .long kv])), (gi, .inl (cC, 65536, .inl F)), (go, .inl (cC, 65536, .inl ko)), (gn, .inl (cI, 4096, .inl kn)), (gr, .inl (cI, 4096, .inl kr))]; rw [e1]; exact hD) hS (lv_sub hl [0, 2, 3] rfl)
      · refine lv_iconst (v := nI 0) hx hb dX4_type_88 (by decide) ?_
        exact dm_zret (v := nI 0) hC (Or.inl rfl) hK (ki, kt) (Or.inr ⟨fun h9 => by have := (tyOK_iff.mp h9).2; omega, rfl, rfl⟩) hP hD hS dX4_type_89
  · have hb8 := tb_lt x (7 - k)
    refine lv_lload_n hx hb dX4_type_20 rfl (lv_at hl 4 rfl) ?_
    refine lv_bipush (v := nI 8) hx hb dX4_type_21 (by decide) ?_
    refine lv_iload hx hb dX4_type_23 (lv_at hl 0 rfl) ?_
    refine lv_imul hx hb dX4_type_25 ?_
    refine dm_ti (y := nI (8 * k)) (pk_mul 8 k) ?_
    refine lv_lshr (v := (lN x >>> ((nI (8 * k) : Int32).toInt64 &&& 63))) hx hb dX4_type_26 (rfl) ?_
    refine lv_ldc2 (v := 255) hx hb hown (hts _ kct_X4_36) dX4_type_27 ?_
    refine lv_land hx hb dX4_type_30 ?_
    refine dm_tl (y := lN (tb x (7 - k))) (sar8 hx8 hc) ?_
    refine lv_l2i (v := nI (tb x (7 - k))) hx hb dX4_type_31 (lN_low) ?_
    refine lv_istore (lv' := [(6, .int (nI (tb x (7 - k)))), (5, .int (nI k)), (4, .int (nI (gdL x k))), (3, .int (nI (cntL x k))), (0, .ref g), (1, .long (lN x))]) hx hb dX4_type_32 hl (by decide) rfl (fun ls hl => ?_)
    refine dm_cutR (nL := 7) (σ := Unit) 47 (fun _ => True) (fun _ => [(3, .int (nI (cntL x (k + 1)))), (6, .int (nI (tb x (7 - k)))), (5, .int (nI k)), (4, .int (nI (gdL x k))), (0, .ref g), (1, .long (lN x))]) (fun hJ => ?_) ?_
    · refine lv_iload_n hx hb dX4_type_34 rfl (lv_at hl 3 rfl) ?_
      refine lv_iload hx hb dX4_type_35 (lv_at hl 0 rfl) ?_
      refine dm_if_le (tgt := 44) hx hb (by omega) dX4_type_37 (by decide) (fun hz => ?_) (fun hz => ?_)
      · refine lv_iconst (v := nI 0) hx hb dX4_type_44 (by decide) ?_
        refine lv_iadd hx hb dX4_type_45 ?_
        refine dm_ti (y := nI (cntL x (k + 1))) (by rw [nI_add]; congr 1; show _ = cntL x k + b01 x (7 - k); unfold b01; rw [if_pos hz]) ?_
        refine lv_istore_n (lv' := [(3, .int (nI (cntL x (k + 1)))), (6, .int (nI (tb x (7 - k)))), (5, .int (nI k)), (4, .int (nI (gdL x k))), (0, .ref g), (1, .long (lN x))]) hx hb dX4_type_46 rfl hl (by decide) rfl (fun ls hl => ?_)
        exact hJ () ls trivial (lv_sub hl [0, 1, 2, 3, 4, 5] rfl)
      · refine lv_iconst (v := nI 1) hx hb dX4_type_40 (by decide) ?_
        refine lv_goto (tgt := 45) hx hb dX4_type_41 (by decide) ?_
        refine lv_iadd hx hb dX4_type_45 ?_
        refine dm_ti (y := nI (cntL x (k + 1))) (by rw [nI_add]; congr 1; show _ = cntL x k + b01 x (7 - k); unfold b01; rw [if_neg (by omega)]) ?_
        refine lv_istore_n (lv' := [(3, .int (nI (cntL x (k + 1)))), (6, .int (nI (tb x (7 - k)))), (5, .int (nI k)), (4, .int (nI (gdL x k))), (0, .ref g), (1, .long (lN x))]) hx hb dX4_type_46 rfl hl (by decide) rfl (fun ls hl => ?_)
        exact hJ () ls trivial (lv_sub hl [0, 1, 2, 3, 4, 5] rfl)
    · rintro - ls - hl
      refine lv_iload hx hb dX4_type_47 (lv_at hl 3 rfl) ?_
      refine dm_if_eq (tgt := 63) hx hb (by omega) dX4_type_49 (by decide) (fun hg => ?_) (fun hg => ?_)
      · refine lv_iconst (v := nI 0) hx hb dX4_type_63 (by decide) ?_
        refine dm_ti (y := nI (gdL x (k + 1))) (by show _ = nI (if _ then _ else _); rw [if_pos hg]) ?_
        refine lv_istore (lv' := [(4, .int (nI (gdL x (k + 1)))), (3, .int (nI (cntL x (k + 1)))), (6, .int (nI (tb x (7 - k)))), (5, .int (nI k)), (0, .ref g), (1, .long (lN x))]) hx hb dX4_type_64 hl (by decide) rfl (fun ls hl => ?_)
        refine lv_iinc (v := nI (k + 1)) (lv' := [(5, .int (nI (k + 1))), (4, .int (nI (gdL x (k + 1)))), (3, .int (nI (cntL x (k + 1)))), (6, .int (nI (tb x (7 - k)))), (0, .ref g), (1, .long (lN x))]) hx hb dX4_type_66 hl (k := 3) rfl ((nI_succ k).symm) (by decide) rfl (fun ls hl => ?_)
        refine lv_goto (tgt := 13) hx hb dX4_type_69 (by decide) ?_
        exact ih (k + 1) ls (by omega) (by omega) (lv_sub hl [0, 1, 2, 4, 5] rfl)
      · refine lv_iload hx hb dX4_type_52 (lv_at hl 1 rfl) ?_
        refine lv_bipush (v := nI 127) hx hb dX4_type_54 (by decide) ?_
        refine dm_icmp_ge (tgt := 63) hx hb (by omega) (by omega) dX4_type_56 (by decide) (fun hh => ?_) (fun hh => ?_)
        · refine lv_iconst (v := nI 0) hx hb dX4_type_63 (by decide) ?_
          refine dm_ti (y := nI (gdL x (k + 1))) (by show _ = nI (if _ then _ else _); rw [if_neg hg, if_pos hh]) ?_
          refine lv_istore (lv' := [(4, .int (nI (gdL x (k + 1)))), (3, .int (nI (cntL x (k + 1)))), (6, .int (nI (tb x (7 - k)))), (5, .int (nI k)), (0, .ref g), (1, .long (lN x))]) hx hb dX4_type_64 hl (by decide) rfl (fun ls hl => ?_)
          refine lv_iinc (v := nI (k + 1)) (lv' := [(5, .int (nI (k + 1))), (4, .int (nI (gdL x (k + 1)))), (3, .int (nI (cntL x (k + 1)))), (6, .int (nI (tb x (7 - k)))), (0, .ref g), (1, .long (lN x))]) hx hb dX4_type_66 hl (k := 3) rfl ((nI_succ k).symm) (by decide) rfl (fun ls hl => ?_)
          refine lv_goto (tgt := 13) hx hb dX4_type_69 (by decide) ?_
          exact ih (k + 1) ls (by omega) (by omega) (lv_sub hl [0, 1, 2, 4, 5] rfl)
        · refine lv_iconst (v := nI 1) hx hb dX4_type_59 (by decide) ?_
          refine dm_ti (y := nI (gdL x (k + 1))) (by show _ = nI (if _ then _ else _); rw [if_neg hg, if_neg (by omega)]) ?_
          refine lv_goto (tgt := 64) hx hb dX4_type_60 (by decide) ?_
          refine lv_istore (lv' := [(4, .int (nI (gdL x (k + 1)))), (3, .int (nI (cntL x (k + 1)))), (6, .int (nI (tb x (7 - k)))), (5, .int (nI k)), (0, .ref g), (1, .long (lN x))]) hx hb dX4_type_64 hl (by decide) rfl (fun ls hl => ?_)
          refine lv_iinc (v := nI (k + 1)) (lv' := [(5, .int (nI (k + 1))), (4, .int (nI (gdL x (k + 1)))), (3, .int (nI (cntL x (k + 1)))), (6, .int (nI (tb x (7 - k)))), (0, .ref g), (1, .long (lN x))]) hx hb dX4_type_66 hl (k := 3) rfl ((nI_succ k).symm) (by decide) rfl (fun ls hl => ?_)
          refine lv_goto (tgt := 13) hx hb dX4_type_69 (by decide) ?_
          exact ih (k + 1) ls (by omega) (by omega) (lv_sub hl [0, 1, 2, 4, 5] rfl)

set_option maxRecDepth 100000 in
set_option maxHeartbeats 4000000 in
theorem c_X4_repeat (l : Launch) (D : va_G) (cB cI cC : ClassId) (g gi go gn gr kt kw kz ks : Nat) (th : Int32) (kv : Int64) (ki ko kn kr : Nat → Int32) (mm kk : Int32) (T : Nat → Nat) (hkt : kt ≤ 65536) (htx : txt kt T ki) : MI l yX4_repeat (Cond.code yX4_repeat cX4_repeat 4 (some .boolean)) 0 D (TY cB cI cC) [.ref g, .int mm, .int kk] [(g, .inr (4, [.int th, .int (nI kt), .ref gi, .int (nI kw), .ref go, .int (nI kz), .ref gn, .int (nI ks), .ref gr, .long kv])), (gi, .inl (cC, 65536, .inl ki)), (go, .inl (cC, 65536, .inl ko)), (gn, .inl (cI, 4096, .inl kn)), (gr, .inl (cI, 4096, .inl kr))] (S := (Nat → Int32) × Nat) (fun r q => (∃ m k, rpOK mm kk kt m k ∧ r = 1 ∧ q.2 = kt + m * k ∧ txt q.2 (T3 kt m T) q.1) ∨ ((∀ m k, ¬ rpOK mm kk kt m k) ∧ r = 0 ∧ q = (ki, kt))) (fun q => [(g, .inr (4, [.int (nI 0), .int (nI q.2), .ref gi, .int (nI kw), .ref go, .int (nI kz), .ref gn, .int (nI ks), .ref gr, .long kv])), (gi, .inl (cC, 65536, .inl q.1)), (go, .inl (cC, 65536, .inl ko)), (gn, .inl (cI, 4096, .inl kn)), (gr, .inl (cI, 4096, .inl kr))]) := by
  refine MI.of (by decide) (Nat.le_of_ble_eq_true rfl) ?_
  intro p e s m below meth c ls A hC hA hP hK hD hS hl
  obtain ⟨hx, hb, hr, hml, hown, hts, hlocks, hN⟩ := id hC
  have hown : s.vm.findClass RX4 = some m.cls := hown
  have hl : lv_has ls 4 [(0, .ref g), (1, .int mm), (2, .int kk)] := hl
  refine lv_aload_n hx hb dX4_repeat_0 rfl (lv_at hl 0 rfl) ?_
  refine lv_iconst (v := nI 0) hx hb dX4_repeat_1 (by decide) ?_
  refine va_put (D := D) (ci := 4) (v := .int (nI 0)) (ty := .int) (C := RX4) (T := TX4) (N := 10) hx hb hts kin_X4_w tyX4 tyX4_ok nmX4 hown hK hP hD hS 0 rfl rfl 0 (by decide) (hts _ kfl_X4_24) (fun _ h9 => h9) rfl (by decide +kernel) rfl rfl (Nat.le_of_ble_eq_true rfl) dX4_repeat_2 (fun H locs hP hD hS => ?_)
  have hP : va_P D vwCl [(g, .inr (4, [.int (nI 0), .int (nI kt), .ref gi, .int (nI kw), .ref go, .int (nI kz), .ref gn, .int (nI ks), .ref gr, .long kv])), (gi, .inl (cC, 65536, .inl ki)), (go, .inl (cC, 65536, .inl ko)), (gn, .inl (cI, 4096, .inl kn)), (gr, .inl (cI, 4096, .inl kr))] H := hP
  have hD : va_D A [(g, .inr (4, [.int (nI 0), .int (nI kt), .ref gi, .int (nI kw), .ref go, .int (nI kz), .ref gn, .int (nI ks), .ref gr, .long kv])), (gi, .inl (cC, 65536, .inl ki)), (go, .inl (cC, 65536, .inl ko)), (gn, .inl (cI, 4096, .inl kn)), (gr, .inl (cI, 4096, .inl kr))] := hD
  refine lv_iload_n hx hb dX4_repeat_5 rfl (lv_at hl 1 rfl) ?_
  refine lv_iconst (v := nI 1) hx hb dX4_repeat_6 (by decide) ?_
  refine lv_icmp_lt (tgt := 39) hx hb dX4_repeat_7 (by decide) (fun h1 => ?_) (fun h1 => ?_)
  · refine lv_iconst (v := nI 0) hx hb dX4_repeat_39 (by decide) ?_
    exact dm_zret (v := nI 0) hC (Or.inl rfl) hK (ki, kt) (Or.inr ⟨fun m k h9 => by rw [h9.1] at h1; exact nI_nlt h9.2.2.1 (by have := h9.2.2.2.1; omega) h1, rfl, rfl⟩) hP hD hS dX4_repeat_40
  · refine lv_iload_n hx hb dX4_repeat_10 rfl (lv_at hl 1 rfl) ?_
    refine lv_aload_n hx hb dX4_repeat_11 rfl (lv_at hl 0 rfl) ?_
    refine va_get (D := D) (ci := 4) (C := RX4) (T := TX4) (N := 10) (v := .int (nI kt)) hx hb hts kin_X4_w hown hK hP 0 rfl rfl 1 (by decide) (hts _ kfl_X4_38) (fun _ h9 => h9) rfl dX4_repeat_12 ?_
    refine lv_icmp_gt (tgt := 39) hx hb dX4_repeat_15 (by decide) (fun h2 => ?_) (fun h2 => ?_)
    · refine lv_iconst (v := nI 0) hx hb dX4_repeat_39 (by decide) ?_
      exact dm_zret (v := nI 0) hC (Or.inl rfl) hK (ki, kt) (Or.inr ⟨fun m k h9 => by rw [h9.1] at h2; exact nI_nlt h9.2.2.2.1 (by omega) h2, rfl, rfl⟩) hP hD hS dX4_repeat_40
    · obtain ⟨m, hm1, hmn, rfl⟩ := rng1 (by omega) h1 h2
      refine lv_iload_n hx hb dX4_repeat_18 rfl (lv_at hl 2 rfl) ?_
      refine lv_if_lt (tgt := 39) hx hb dX4_repeat_19 (by decide) (fun h3 => ?_) (fun h3 => ?_)
      · refine lv_iconst (v := nI 0) hx hb dX4_repeat_39 (by decide) ?_
        exact dm_zret (v := nI 0) hC (Or.inl rfl) hK (ki, kt) (Or.inr ⟨fun m k h9 => by rw [h9.2.1] at h3; exact nI_pos h9.2.2.2.2.1 h3, rfl, rfl⟩) hP hD hS dX4_repeat_40
      · obtain ⟨k, hk, rfl⟩ := nI_of h3
        have hmk : m * k < 2 ^ 63 := by
          have h8 : m * k ≤ 65536 * 2147483648 := Nat.mul_le_mul (by omega) (by omega)
          omega
        refine lv_iload_n hx hb dX4_repeat_22 rfl (lv_at hl 1 rfl) ?_
        refine lv_i2l (v := lN m) hx hb dX4_repeat_23 (nI_l (by omega)) ?_
        refine lv_iload_n hx hb dX4_repeat_24 rfl (lv_at hl 2 rfl) ?_
        refine lv_i2l (v := lN k) hx hb dX4_repeat_25 (nI_l hk) ?_
        refine lv_lmul hx hb dX4_repeat_26 ?_
        refine dm_tl (y := lN (m * k)) (lN_mul _ _) ?_
        refine lv_ldc (v := nI 65536) hx hb hown (hts _ kct_X4_7) dX4_repeat_27 ?_
        refine lv_aload_n hx hb dX4_repeat_29 rfl (lv_at hl 0 rfl) ?_
        refine va_get (D := D) (ci := 4) (C := RX4) (T := TX4) (N := 10) (v := .int (nI kt)) hx hb hts kin_X4_w hown hK hP 0 rfl rfl 1 (by decide) (hts _ kfl_X4_38) (fun _ h9 => h9) rfl dX4_repeat_30 ?_
        refine lv_isub hx hb dX4_repeat_33 ?_
        refine dm_ti (y := nI (65536 - kt)) (pk_sub hkt) ?_
        refine lv_i2l (v := lN (65536 - kt)) hx hb dX4_repeat_34 (nI_l (by omega)) ?_
        refine dm_lc_le (tgt := 41) hx hb (by omega) (by omega) dX4_repeat_35 dX4_repeat_36 (by decide) (fun h4 => ?_) (fun h4 => ?_)
        · refine lv_iconst (v := nI 0) hx hb dX4_repeat_41 (by decide) ?_
          refine lv_istore_n (lv' := [(3, .int (nI 0)), (0, .ref g), (1, .int (nI m)), (2, .int (nI k))]) hx hb dX4_repeat_42 rfl hl (by decide) rfl (fun ls hl => ?_)
          refine dm_loop (nL := 4) (head := 43) (P := fun (q : Nat × (Nat → Int32)) => q.1 ≤ m * k ∧ txt (kt + q.1) (T3 kt m T) q.2) (w := fun q => [(g, .inr (4, [.int (nI 0), .int (nI (kt + q.1)), .ref gi, .int (nI kw), .ref go, .int (nI kz), .ref gn, .int (nI ks), .ref gr, .long kv])), (gi, .inl (cC, 65536, .inl q.2)), (go, .inl (cC, 65536, .inl ko)), (gn, .inl (cI, 4096, .inl kn)), (gr, .inl (cI, 4096, .inl kr))]) (lv := fun q => [(3, .int (nI q.1)), (0, .ref g), (1, .int (nI m)), (2, .int (nI k))]) (μ := fun q => m * k - q.1) ?_ (0, ki) ⟨Nat.zero_le _, fun j hj => by have hj : j < kt := hj; unfold T3; rw [if_pos hj]; exact htx j hj⟩ hP hD hS (lv_sub hl [0, 1, 2, 3] rfl)
          rintro ⟨i, F⟩ H locs ls ⟨hi2, hF⟩ hP hD hS hl ih
          dsimp only at hi2 hF
          have hP : va_P D vwCl [(g, .inr (4, [.int (nI 0), .int (nI (kt + i)), .ref gi, .int (nI kw), .ref go, .int (nI kz), .ref gn, .int (nI ks), .ref gr, .long kv])), (gi, .inl (cC, 65536, .inl F)), (go, .inl (cC, 65536, .inl ko)), (gn, .inl (cI, 4096, .inl kn)), (gr, .inl (cI, 4096, .inl kr))] H := hP
          have hD : va_D A [(g, .inr (4, [.int (nI 0), .int (nI (kt + i)), .ref gi, .int (nI kw), .ref go, .int (nI kz), .ref gn, .int (nI ks), .ref gr, .long kv])), (gi, .inl (cC, 65536, .inl F)), (go, .inl (cC, 65536, .inl ko)), (gn, .inl (cI, 4096, .inl kn)), (gr, .inl (cI, 4096, .inl kr))] := hD
          have hl : lv_has ls 4 [(3, .int (nI i)), (0, .ref g), (1, .int (nI m)), (2, .int (nI k))] := hl
          refine lv_iload_n hx hb dX4_repeat_43 rfl (lv_at hl 0 rfl) ?_
          refine lv_iload_n hx hb dX4_repeat_44 rfl (lv_at hl 2 rfl) ?_
          refine lv_iload_n hx hb dX4_repeat_45 rfl (lv_at hl 3 rfl) ?_
          refine lv_imul hx hb dX4_repeat_46 ?_
          refine dm_ti (y := nI (m * k)) (pk_mul m k) ?_
          refine dm_icmp_ge (tgt := 86) hx hb (by omega) (by omega) dX4_repeat_47 (by decide) (fun h5 => ?_) (fun h5 => ?_)
          · have hin : i = m * k := by omega
            rw [hin] at hP hD hF
            refine lv_iconst (v := nI 1) hx hb dX4_repeat_86 (by decide) ?_
            exact dm_zret (v := nI 1) hC (Or.inr rfl) hK (F, kt + m * k) (Or.inl ⟨m, k, ⟨rfl, rfl, hm1, hmn, hk, by omega⟩, rfl, rfl, hF⟩) hP hD hS dX4_repeat_87
          · have hbT := hF (kt + i - m) (by omega)
            refine lv_aload_n hx hb dX4_repeat_50 rfl (lv_at hl 1 rfl) ?_
            refine va_get (D := D) (ci := 4) (C := RX4) (T := TX4) (N := 10) (v := .ref gi) hx hb hts kin_X4_w hown hK hP 0 rfl rfl 2 (by decide) (hts _ kfl_X4_8) (fun _ h9 => h9) rfl dX4_repeat_51 ?_
            refine lv_aload_n hx hb dX4_repeat_54 rfl (lv_at hl 1 rfl) ?_
            refine va_get (D := D) (ci := 4) (C := RX4) (T := TX4) (N := 10) (v := .int (nI (kt + i))) hx hb hts kin_X4_w hown hK hP 0 rfl rfl 1 (by decide) (hts _ kfl_X4_38) (fun _ h9 => h9) rfl dX4_repeat_55 ?_
            refine lv_aload_n hx hb dX4_repeat_58 rfl (lv_at hl 1 rfl) ?_
            refine va_get (D := D) (ci := 4) (C := RX4) (T := TX4) (N := 10) (v := .ref gi) hx hb hts kin_X4_w hown hK hP 0 rfl rfl 2 (by decide) (hts _ kfl_X4_8) (fun _ h9 => h9) rfl dX4_repeat_59 ?_
            refine lv_aload_n hx hb dX4_repeat_62 rfl (lv_at hl 1 rfl) ?_
            refine va_get (D := D) (ci := 4) (C := RX4) (T := TX4) (N := 10) (v := .int (nI (kt + i))) hx hb hts kin_X4_w hown hK hP 0 rfl rfl 1 (by decide) (hts _ kfl_X4_38) (fun _ h9 => h9) rfl dX4_repeat_63 ?_
            refine lv_iload_n hx hb dX4_repeat_66 rfl (lv_at hl 2 rfl) ?_
            refine lv_isub hx hb dX4_repeat_67 ?_
            refine dm_ti (y := nI (kt + i - m)) (pk_sub (by omega)) ?_
            refine dm_cald (j := (kt + i - m)) hx hb hK hP 1 2 rfl rfl (by omega) (by decide) dX4_repeat_68 ?_
            refine dm_ti (y := nI (T3 kt m T (kt + i - m))) (hbT.1) ?_
            refine dm_cast (j := (kt + i)) (f' := upd F (kt + i) (nI (T3 kt m T (kt + i - m)))) hx hb hK hP hD hS 1 2 rfl rfl (by omega) (by decide) (by rw [narC hbT.2]) dX4_repeat_69 (fun H locs hP hD hS => ?_)
            have hP : va_P D vwCl [(g, .inr (4, [.int (nI 0), .int (nI (kt + i)), .ref gi, .int (nI kw), .ref go, .int (nI kz), .ref gn, .int (nI ks), .ref gr, .long kv])), (gi, .inl (cC, 65536, .inl (upd F (kt + i) (nI (T3 kt m T (kt + i - m)))))), (go, .inl (cC, 65536, .inl ko)), (gn, .inl (cI, 4096, .inl kn)), (gr, .inl (cI, 4096, .inl kr))] H := hP
            have hD : va_D A [(g, .inr (4, [.int (nI 0), .int (nI (kt + i)), .ref gi, .int (nI kw), .ref go, .int (nI kz), .ref gn, .int (nI ks), .ref gr, .long kv])), (gi, .inl (cC, 65536, .inl (upd F (kt + i) (nI (T3 kt m T (kt + i - m)))))), (go, .inl (cC, 65536, .inl ko)), (gn, .inl (cI, 4096, .inl kn)), (gr, .inl (cI, 4096, .inl kr))] := hD
            refine lv_aload_n hx hb dX4_repeat_70 rfl (lv_at hl 1 rfl) ?_
            refine lv_dup hx hb dX4_repeat_71 rfl ?_
            refine va_get (D := D) (ci := 4) (C := RX4) (T := TX4) (N := 10) (v := .int (nI (kt + i))) hx hb hts kin_X4_w hown hK hP 0 rfl rfl 1 (by decide) (hts _ kfl_X4_38) (fun _ h9 => h9) rfl dX4_repeat_72 ?_
            refine lv_iconst (v := nI 1) hx hb dX4_repeat_75 (by decide) ?_
            refine lv_iadd hx hb dX4_repeat_76 ?_
            refine dm_ti (y := nI (kt + (i + 1))) (nI_1 _) ?_
            refine va_put (D := D) (ci := 4) (v := .int (nI (kt + (i + 1)))) (ty := .int) (C := RX4) (T := TX4) (N := 10) hx hb hts kin_X4_w tyX4 tyX4_ok nmX4 hown hK hP hD hS 0 rfl rfl 1 (by decide) (hts _ kfl_X4_38) (fun _ h9 => h9) rfl (by decide +kernel) rfl rfl (Nat.le_of_ble_eq_true rfl) dX4_repeat_77 (fun H locs hP hD hS => ?_)
            have hP : va_P D vwCl [(g, .inr (4, [.int (nI 0), .int (nI (kt + (i + 1))), .ref gi, .int (nI kw), .ref go, .int (nI kz), .ref gn, .int (nI ks), .ref gr, .long kv])), (gi, .inl (cC, 65536, .inl (upd F (kt + i) (nI (T3 kt m T (kt + i - m)))))), (go, .inl (cC, 65536, .inl ko)), (gn, .inl (cI, 4096, .inl kn)), (gr, .inl (cI, 4096, .inl kr))] H := hP
            have hD : va_D A [(g, .inr (4, [.int (nI 0), .int (nI (kt + (i + 1))), .ref gi, .int (nI kw), .ref go, .int (nI kz), .ref gn, .int (nI ks), .ref gr, .long kv])), (gi, .inl (cC, 65536, .inl (upd F (kt + i) (nI (T3 kt m T (kt + i - m)))))), (go, .inl (cC, 65536, .inl ko)), (gn, .inl (cI, 4096, .inl kn)), (gr, .inl (cI, 4096, .inl kr))] := hD
            refine lv_iinc (v := nI (i + 1)) (lv' := [(3, .int (nI (i + 1))), (0, .ref g), (1, .int (nI m)), (2, .int (nI k))]) hx hb dX4_repeat_80 hl (k := 0) rfl ((nI_succ i).symm) (by decide) rfl (fun ls hl => ?_)
            refine lv_goto (tgt := 43) hx hb dX4_repeat_83 (by decide) ?_
            refine ih (i + 1, upd F (kt + i) (nI (T3 kt m T (kt + i - m)))) H locs ls (by show m * k - (i + 1) < m * k - i; omega) ⟨by show i + 1 ≤ m * k; omega, fun j hj => ?_⟩ hP hD hS (lv_sub hl [0, 1, 2, 3] rfl)
            have hj : j < kt + (i + 1) := hj
            show upd F (kt + i) _ j = _ ∧ _
            rcases (show j < kt + i ∨ j = kt + i by omega) with h6 | h6
            · rw [pk_un (by omega)]; exact hF j h6
            · rw [h6, pk_us, T3_back (i := kt + i) hm1 hmn (by omega)]; exact ⟨rfl, hbT.2⟩
        · refine lv_iconst (v := nI 0) hx hb dX4_repeat_39 (by decide) ?_
          exact dm_zret (v := nI 0) hC (Or.inl rfl) hK (ki, kt) (Or.inr ⟨fun m2 k2 h9 => by have e1 := (nI_eq (by omega) (by have := h9.2.2.2.1; omega)).mp h9.1; have e2 := (nI_eq hk h9.2.2.2.2.1).mp h9.2.1; have := h9.2.2.2.2.2; rw [← e1, ← e2] at this; omega, rfl, rfl⟩) hP hD hS dX4_repeat_40
