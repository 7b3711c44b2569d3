theorem dvb_max {f : Nat → Int32} : ∀ {n : Nat}, (∀ j, j < n → f j = -1) → dvb 4294967296 f n + 1 = 4294967296 ^ n
  | 0, _ => rfl
  | n + 1, h => by
    have h1 := dvb_max (n := n) (fun j hj => h j (by omega))
    show dvb 4294967296 f n + un (f n) * 4294967296 ^ n + 1 = 4294967296 ^ (n + 1)
    rw [h n (by omega), un_m1, Nat.pow_succ]
    omega
theorem dvb_notmax {f : Nat → Int32} : ∀ {n : Nat}, (∃ j, j < n ∧ f j ≠ -1) → dvb 4294967296 f n + 2 ≤ 4294967296 ^ n
  | 0, ⟨j, hj, _⟩ => absurd hj (Nat.not_lt_zero _)
  | n + 1, ⟨j, hj, hne⟩ => by
    have h1 := dv32_lt f n
    have hp : 0 < 4294967296 ^ n := Nat.pow_pos (by decide)
    show dvb 4294967296 f n + un (f n) * 4294967296 ^ n + 2 ≤ 4294967296 ^ (n + 1)
    rw [Nat.pow_succ]
    by_cases hn : f n = -1
    · have h2 := dvb_notmax (f := f) (n := n) ⟨j, by have : j ≠ n := fun e0 => hne (e0 ▸ hn)
                                                     omega, hne⟩
      rw [hn, un_m1]
      omega
    · have h3 : un (f n) ≤ 4294967294 := by
        have h4 := un_lt (f n)
        have h5 : un (f n) ≠ 4294967295 := fun e0 => hn (un_inj (e0.trans un_m1.symm))
        omega
      have h6 : un (f n) * 4294967296 ^ n ≤ 4294967294 * 4294967296 ^ n := Nat.mul_le_mul_right _ h3
      omega
/-- room while a word is free -/
theorem room_lt {f : Nat → Int32} {u N y : Nat} (h : u < N) (hy : y < 4294967296) : dvb 4294967296 f u + y < 4294967296 ^ N := by
  have h1 := dv32_lt f u
  have hm : 4294967296 ^ u ≤ 4294967296 ^ (N - 1) := Nat.pow_le_pow_right (by decide) (by omega)
  have e : 4294967296 ^ N = 4294967296 ^ (N - 1) * 4294967296 := by rw [← Nat.pow_succ]; congr 1; omega
  have hp : 0 < 4294967296 ^ (N - 1) := Nat.pow_pos (by decide)
  rw [e]
  rcases Nat.eq_zero_or_pos u with h0 | h0
  · subst h0
    show 0 + y < _
    omega
  · have h2 : 4294967296 ^ 1 ≤ 4294967296 ^ (N - 1) := Nat.pow_le_pow_right (by decide) (by omega)
    omega
theorem dv_tail {f g : Nat → Int32} {i u : Nat} (hi : i ≤ u) (h : ∀ j, i ≤ j → g j = f j) : dvb 4294967296 g u + dvb 4294967296 f i = dvb 4294967296 f u + dvb 4294967296 g i := by
  obtain ⟨k, rfl⟩ : ∃ k, u = i + k := ⟨u - i, by omega⟩
  rw [dvb_split, dvb_split, dvb_congr (f := fun j => g (i + j)) (g := fun j => f (i + j)) (fun j _ => h (i + j) (by omega))]
  omega
theorem lN_neg {a : Nat} (h : 9223372036854775808 ≤ a) (h2 : a < 18446744073709551616) : lN a < 0 := by
  rw [Int64.lt_iff_toInt_lt]
  show (lN a).toBitVec.toInt < _
  rw [BitVec.toInt_eq_toNat_cond, wb_tn h2, if_neg (by omega)]
  show (a : Int) - _ < 0
  omega

set_option maxRecDepth 100000 in
set_option maxHeartbeats 4000000 in
theorem c_X2_hasRoomFor (l : Launch) (D : va_G) (cB cI cC : ClassId) (h a N u y : Nat) (f : Nat → Int32) (hu : u ≤ N) (hN1 : 1 ≤ N) (hNb : N < 2 ^ 31) (hy : y < 4294967296) : ROi l yX2_hasRoomFor (Cond.code yX2_hasRoomFor cX2_hasRoomFor 4 (some .boolean)) 0 D (TY cB cI cC) [.ref h, .long (lN y)] [(h, .inr (2, [.ref a, .int (nI u)])), (a, .inl (cI, N, .inl f))] (fun r => r = if dvb 4294967296 f u + y < 4294967296 ^ N then 1 else 0) := by
  refine ROi.of (by decide) (Nat.le_of_ble_eq_true rfl) ?_
  intro p e s m below meth c ls A hC hA hP hK hD hS hl
  obtain ⟨hx, hb, hr, hml, hown, hts, hlocks, hN⟩ := id hC
  have hown : s.vm.findClass RX2 = some m.cls := hown
  have hl : lv_has ls 4 [(0, .ref h), (1, .long (lN y))] := hl
  refine lv_aload_n hx hb dX2_hasRoomFor_0 rfl (lv_at hl 0 rfl) ?_
  refine va_get (D := D) (ci := 2) (C := RX2) (T := TX2) (N := 2) (v := .int (nI u)) hx hb hts kin_X2_w hown hK hP 0 rfl rfl 1 (by decide) (hts _ kfl_X2_21) (fun _ h9 => h9) rfl dX2_hasRoomFor_1 ?_
  refine lv_aload_n hx hb dX2_hasRoomFor_4 rfl (lv_at hl 0 rfl) ?_
  refine va_get (D := D) (ci := 2) (C := RX2) (T := TX2) (N := 2) (v := .ref a) hx hb hts kin_X2_w hown hK hP 0 rfl rfl 0 (by decide) (hts _ kfl_X2_15) (fun _ h9 => h9) rfl dX2_hasRoomFor_5 ?_
  refine va_alen (v := nI N) hx hb hK hP 1 1 rfl rfl rfl dX2_hasRoomFor_8 ?_
  refine dm_icmp_lt (tgt := 32) hx hb (by omega) (by omega) dX2_hasRoomFor_9 (by decide) (fun hc => ?_) (fun hc => ?_)
  · refine lv_iconst (v := nI 1) hx hb dX2_hasRoomFor_32 (by decide) ?_
    exact ri_zret hC (Or.inr rfl) ((if_pos (room_lt hc hy)).symm) dX2_hasRoomFor_33
  · obtain ⟨M, rfl⟩ : ∃ M, u = M + 1 := ⟨u - 1, by omega⟩
    have hNM : N = M + 1 := by omega
    subst hNM
    have hb0 := un_lt (f 0)
    refine lv_aload_n hx hb dX2_hasRoomFor_12 rfl (lv_at hl 0 rfl) ?_
    refine va_get (D := D) (ci := 2) (C := RX2) (T := TX2) (N := 2) (v := .ref a) hx hb hts kin_X2_w hown hK hP 0 rfl rfl 0 (by decide) (hts _ kfl_X2_15) (fun _ h9 => h9) rfl dX2_hasRoomFor_13 ?_
    refine lv_iconst (v := nI 0) hx hb dX2_hasRoomFor_16 (by decide) ?_
    refine dm_iald (j := 0) hx hb hK hP 1 1 rfl rfl (by omega) hNb dX2_hasRoomFor_17 ?_
    refine lv_i2l (v := ((f 0) : Int32).toInt64) hx hb dX2_hasRoomFor_18 (rfl) ?_
    refine lv_ldc2 (v := 4294967295) hx hb hown (hts _ kct_X2_34) dX2_hasRoomFor_19 ?_
    refine lv_land hx hb dX2_hasRoomFor_22 ?_
    refine dm_tl (y := lN (un (f 0))) (wl_un _) ?_
    refine lv_lload_n hx hb dX2_hasRoomFor_23 rfl (lv_at hl 1 rfl) ?_
    refine lv_ladd hx hb dX2_hasRoomFor_24 ?_
    refine dm_tl (y := lN (un (f 0) + y)) (lN_add _ _) ?_
    refine lv_ldc2 (v := 4294967295) hx hb hown (hts _ kct_X2_34) dX2_hasRoomFor_25 ?_
    refine dm_tl (y := lN 4294967295) (rfl) ?_
    refine dm_lc_gt (tgt := 34) hx hb (by omega) (by omega) dX2_hasRoomFor_28 dX2_hasRoomFor_29 (by decide) (fun hd => ?_) (fun hd => ?_)
    · refine lv_iconst (v := nI 1) hx hb dX2_hasRoomFor_34 (by decide) ?_
      refine lv_istore_n (lv' := [(3, .int (nI 1)), (0, .ref h), (1, .long (lN y))]) hx hb dX2_hasRoomFor_35 rfl hl (by decide) rfl (fun ls hl => ?_)
      rw [dvb_low, Nat.pow_succ]
      refine dm_loopR (nL := 4) 36 (fun i => 1 ≤ i ∧ i ≤ M + 1 ∧ ∀ j, 1 ≤ j → j < i → f j = -1) (fun i => [(3, .int (nI i)), (0, .ref h), (1, .long (lN y))]) (fun i => M + 1 - i) ?_ 1 ⟨Nat.le_refl _, by omega, fun j h1 h2 => absurd h1 (by omega)⟩ hl
      intro i ls hp hl ih
      obtain ⟨hi1, hi2, hall⟩ := hp
      refine lv_iload_n hx hb dX2_hasRoomFor_36 rfl (lv_at hl 0 rfl) ?_
      refine lv_aload_n hx hb dX2_hasRoomFor_37 rfl (lv_at hl 1 rfl) ?_
      refine va_get (D := D) (ci := 2) (C := RX2) (T := TX2) (N := 2) (v := .int (nI (M + 1))) hx hb hts kin_X2_w hown hK hP 0 rfl rfl 1 (by decide) (hts _ kfl_X2_21) (fun _ h9 => h9) rfl dX2_hasRoomFor_38 ?_
      refine dm_icmp_ge (tgt := 62) hx hb (by omega) (by omega) dX2_hasRoomFor_41 (by decide) (fun he => ?_) (fun he => ?_)
      · refine lv_iconst (v := nI 0) hx hb dX2_hasRoomFor_62 (by decide) ?_
        exact ri_zret hC (Or.inl rfl) ((if_neg (by have h5 := dvb_max (f := fun j => f (j + 1)) (n := M) (fun j hj => hall (j + 1) (by omega) (by omega)); omega)).symm) dX2_hasRoomFor_63
      · refine lv_aload_n hx hb dX2_hasRoomFor_44 rfl (lv_at hl 1 rfl) ?_
        refine va_get (D := D) (ci := 2) (C := RX2) (T := TX2) (N := 2) (v := .ref a) hx hb hts kin_X2_w hown hK hP 0 rfl rfl 0 (by decide) (hts _ kfl_X2_15) (fun _ h9 => h9) rfl dX2_hasRoomFor_45 ?_
        refine lv_iload_n hx hb dX2_hasRoomFor_48 rfl (lv_at hl 0 rfl) ?_
        refine dm_iald (j := i) hx hb hK hP 1 1 rfl rfl (by omega) hNb dX2_hasRoomFor_49 ?_
        refine lv_iconst (v := -1) hx hb dX2_hasRoomFor_50 (by decide) ?_
        refine lv_icmp_eq (tgt := 56) hx hb dX2_hasRoomFor_51 (by decide) (fun hm => ?_) (fun hm => ?_)
        · refine lv_iinc (v := nI (i + 1)) (lv' := [(3, .int (nI (i + 1))), (0, .ref h), (1, .long (lN y))]) hx hb dX2_hasRoomFor_56 hl (k := 0) rfl ((nI_succ i).symm) (by decide) rfl (fun ls hl => ?_)
          refine lv_goto (tgt := 36) hx hb dX2_hasRoomFor_59 (by decide) ?_
          exact ih (i + 1) ls (by omega) ⟨by omega, by omega, fun j h1 h2 => (Nat.lt_or_eq_of_le (Nat.le_of_lt_succ h2)).elim (fun h3 => hall j h1 h3) (fun h3 => by rw [h3]; exact hm)⟩ (lv_sub hl [0, 1, 2] rfl)
        · refine lv_iconst (v := nI 1) hx hb dX2_hasRoomFor_54 (by decide) ?_
          exact ri_zret hC (Or.inr rfl) ((if_pos (by have h5 := dvb_notmax (f := fun j => f (j + 1)) (n := M) ⟨i - 1, by omega, by show f (i - 1 + 1) ≠ -1; rw [show i - 1 + 1 = i by omega]; exact hm⟩; omega)).symm) dX2_hasRoomFor_55
    · refine lv_iconst (v := nI 1) hx hb dX2_hasRoomFor_32 (by decide) ?_
      exact ri_zret hC (Or.inr rfl) ((if_pos (by rw [dvb_low, Nat.pow_succ]; have h5 := dv32_lt (fun j => f (j + 1)) M; omega)).symm) dX2_hasRoomFor_33

set_option maxRecDepth 100000 in
set_option maxHeartbeats 4000000 in
theorem c_X2_increase (l : Launch) (D : va_G) (cB cI cC : ClassId) (h a N u y : Nat) (f : Nat → Int32) (hu : u ≤ N) (hN1 : 1 ≤ N) (hNb : N < 2 ^ 31) (hy : y < 4294967296) (hn : nrm f u) : MI l yX2_increase (Cond.code yX2_increase cX2_increase 8 (some .boolean)) 1 D (TY cB cI cC) [.ref h, .long (lN y)] [(h, .inr (2, [.ref a, .int (nI u)])), (a, .inl (cI, N, .inl f))] (S := (Nat → Int32) × Nat) (fun r q => (dvb 4294967296 f u + y < 4294967296 ^ N → r = 1 ∧ q.2 ≤ N ∧ dvb 4294967296 q.1 q.2 = dvb 4294967296 f u + y ∧ nrm q.1 q.2) ∧ (4294967296 ^ N ≤ dvb 4294967296 f u + y → r = 0 ∧ q = (f, u))) (fun q => [(h, .inr (2, [.ref a, .int (nI q.2)])), (a, .inl (cI, N, .inl q.1))]) := by
  refine MI.of (by decide) (Nat.le_of_ble_eq_true rfl) ?_
  intro p e s m below meth c ls A hC hA hP hK hD hS hl
  obtain ⟨hx, hb, hr, hml, hown, hts, hlocks, hN⟩ := id hC
  have hown : s.vm.findClass RX2 = some m.cls := hown
  have hl : lv_has ls 8 [(0, .ref h), (1, .long (lN y))] := hl
  refine lv_aload_n hx hb dX2_increase_0 rfl (lv_at hl 0 rfl) ?_
  refine lv_lload_n hx hb dX2_increase_1 rfl (lv_at hl 1 rfl) ?_
  refine dm_gori (dm_rV (n := 1) (As := [.long (lN y)]) (rest := []) hC hl (c_X2_hasRoomFor l D cB cI cC h a N u y f hu hN1 hNb hy s.heap.size) kco_X2_hasRoomFor ki_X2 kim_X2_hasRoomFor kse_X2_hasRoomFor kml_X2_71 (by decide +kernel) ⟨Nat.le_of_ble_eq_true rfl, Nat.le_of_ble_eq_true rfl⟩ rfl rfl ⟨dm_blind, va_recv hK hP (ci := 2) (q0 := 0) rfl rfl, dm_preU hK hP hD hC.2.2.2.2.2.2.2 [0, 1] (by decide) rfl⟩ rfl rfl (Nat.le_of_ble_eq_true rfl) dX2_increase_2 ⟨Nat.le_of_ble_eq_true rfl, Nat.le_of_ble_eq_true rfl⟩) (fun r1 h1 => ?_)
  refine lv_if_ne (tgt := 10) hx hb dX2_increase_5 (by decide) (fun hc => ?_) (fun hc => ?_)
  · have hfit : dvb 4294967296 f u + y < 4294967296 ^ N := by
      by_cases h2 : dvb 4294967296 f u + y < 4294967296 ^ N
      · exact h2
      · rw [if_neg h2] at h1; exact absurd h1 hc
    refine lv_lload_n hx hb dX2_increase_10 rfl (lv_at hl 1 rfl) ?_
    refine lv_lstore_n (lv' := [(3, .long (lN y)), (0, .ref h), (1, .long (lN y))]) hx hb dX2_increase_11 rfl hl (by decide) rfl (fun ls hl => ?_)
    refine lv_iconst (v := nI 0) hx hb dX2_increase_12 (by decide) ?_
    refine lv_istore (lv' := [(5, .int (nI 0)), (3, .long (lN y)), (0, .ref h), (1, .long (lN y))]) hx hb dX2_increase_13 hl (by decide) rfl (fun ls hl => ?_)
    refine dm_loop (nL := 8) (head := 15) (P := fun (x : Nat × Nat × (Nat → Int32)) => x.1 ≤ u ∧ x.2.1 < 4294967296 ∧ dvb 4294967296 x.2.2 x.1 + x.2.1 * 4294967296 ^ x.1 = dvb 4294967296 f x.1 + y ∧ ∀ j, x.1 ≤ j → x.2.2 j = f j) (w := fun x => [(h, .inr (2, [.ref a, .int (nI u)])), (a, .inl (cI, N, .inl x.2.2))]) (lv := fun x => [(5, .int (nI x.1)), (3, .long (lN x.2.1)), (0, .ref h), (1, .long (lN y))]) (μ := fun x => u - x.1) ?_ (0, y, f) ⟨Nat.zero_le _, hy, by simp [dvb], fun _ _ => rfl⟩ hP hD hS hl
    rintro ⟨i, car, g⟩ H locs ls ⟨hi, hcar, hinv, hge⟩ hP hD hS hl ih
    dsimp only at hi hcar hinv hge
    have hP : va_P D vwCl [(h, .inr (2, [.ref a, .int (nI u)])), (a, .inl (cI, N, .inl g))] H := hP
    have hl : lv_has ls 8 [(5, .int (nI i)), (3, .long (lN car)), (0, .ref h), (1, .long (lN y))] := hl
    refine dm_cutR (nL := 8) (σ := Unit) 68 (fun _ => dvb 4294967296 g u + car * 4294967296 ^ u = dvb 4294967296 f u + y) (fun _ => [(5, .int (nI i)), (3, .long (lN car)), (0, .ref h), (1, .long (lN y))]) (fun hJ => ?_) ?_
    · refine lv_iload hx hb dX2_increase_15 (lv_at hl 0 rfl) ?_
      refine lv_aload_n hx hb dX2_increase_17 rfl (lv_at hl 2 rfl) ?_
      refine va_get (D := D) (ci := 2) (C := RX2) (T := TX2) (N := 2) (v := .int (nI u)) hx hb hts kin_X2_w hown hK hP 0 rfl rfl 1 (by decide) (hts _ kfl_X2_21) (fun _ h9 => h9) rfl dX2_increase_18 ?_
      refine dm_icmp_ge (tgt := 68) hx hb (by omega) (by omega) dX2_increase_21 (by decide) (fun hd => ?_) (fun hd => ?_)
      · have hiu : i = u := by omega
        exact hJ () ls (by rw [← hiu]; exact hinv) hl
      · refine lv_lload_n hx hb dX2_increase_24 rfl (lv_at hl 1 rfl) ?_
        refine lv_lconst (v := lN 0) hx hb dX2_increase_25 (by decide) ?_
        refine dm_lc_eq (tgt := 68) hx hb (by omega) (by omega) dX2_increase_26 dX2_increase_27 (by decide) (fun he => ?_) (fun he => ?_)
        · refine hJ () ls ?_ hl
          have h5 := dv_tail hi hge
          rw [he] at hinv ⊢
          omega
        · refine lv_aload_n hx hb dX2_increase_30 rfl (lv_at hl 2 rfl) ?_
          refine va_get (D := D) (ci := 2) (C := RX2) (T := TX2) (N := 2) (v := .ref a) hx hb hts kin_X2_w hown hK hP 0 rfl rfl 0 (by decide) (hts _ kfl_X2_15) (fun _ h9 => h9) rfl dX2_increase_31 ?_
          refine lv_iload hx hb dX2_increase_34 (lv_at hl 0 rfl) ?_
          refine dm_iald (j := i) hx hb hK hP 1 1 rfl rfl (by omega) hNb dX2_increase_36 ?_
          refine dm_ti (y := f i) (hge i (Nat.le_refl i)) ?_
          have hb1 := un_lt (f i)
          refine lv_i2l (v := (f i : Int32).toInt64) hx hb dX2_increase_37 (rfl) ?_
          refine lv_ldc2 (v := 4294967295) hx hb hown (hts _ kct_X2_34) dX2_increase_38 ?_
          refine lv_land hx hb dX2_increase_41 ?_
          refine dm_tl (y := lN (un (f i))) (wl_un (f i)) ?_
          refine lv_lload_n hx hb dX2_increase_42 rfl (lv_at hl 1 rfl) ?_
          refine lv_ladd hx hb dX2_increase_43 ?_
          refine dm_tl (y := lN (un (f i) + car)) (lN_add _ _) ?_
          refine lv_lstore (lv' := [(6, .long (lN (un (f i) + car))), (5, .int (nI i)), (3, .long (lN car)), (0, .ref h), (1, .long (lN y))]) hx hb dX2_increase_44 hl (by decide) rfl (fun ls hl => ?_)
          refine lv_aload_n hx hb dX2_increase_46 rfl (lv_at hl 3 rfl) ?_
          refine va_get (D := D) (ci := 2) (C := RX2) (T := TX2) (N := 2) (v := .ref a) hx hb hts kin_X2_w hown hK hP 0 rfl rfl 0 (by decide) (hts _ kfl_X2_15) (fun _ h9 => h9) rfl dX2_increase_47 ?_
          refine lv_iload hx hb dX2_increase_50 (lv_at hl 1 rfl) ?_
          refine lv_lload hx hb dX2_increase_52 (lv_at hl 0 rfl) ?_
          refine lv_l2i (v := nI (un (f i) + car)) hx hb dX2_increase_54 (lN_low) ?_
          refine dm_iast (j := i) (f' := upd g i (nI (un (f i) + car))) hx hb hK hP hD hS 1 1 rfl rfl (by omega) hNb (rfl) dX2_increase_55 (fun H locs hP hD hS => ?_)
          have hP : va_P D vwCl [(h, .inr (2, [.ref a, .int (nI u)])), (a, .inl (cI, N, .inl (upd g i (nI (un (f i) + car)))))] H := hP
          have hD : va_D A [(h, .inr (2, [.ref a, .int (nI u)])), (a, .inl (cI, N, .inl (upd g i (nI (un (f i) + car)))))] := hD
          refine lv_lload hx hb dX2_increase_56 (lv_at hl 0 rfl) ?_
          refine lv_bipush (v := nI 32) hx hb dX2_increase_58 (by decide) ?_
          refine lv_lushr (v := lN ((un (f i) + car) / 4294967296)) hx hb dX2_increase_60 (wl_hi (by omega)) ?_
          refine lv_lstore_n (lv' := [(3, .long (lN ((un (f i) + car) / 4294967296))), (6, .long (lN (un (f i) + car))), (5, .int (nI i)), (0, .ref h), (1, .long (lN y))]) hx hb dX2_increase_61 rfl hl (by decide) rfl (fun ls hl => ?_)
          refine lv_iinc (v := nI (i + 1)) (lv' := [(5, .int (nI (i + 1))), (3, .long (lN ((un (f i) + car) / 4294967296))), (6, .long (lN (un (f i) + car))), (0, .ref h), (1, .long (lN y))]) hx hb dX2_increase_62 hl (k := 2) rfl ((nI_succ i).symm) (by decide) rfl (fun ls hl => ?_)
          refine lv_goto (tgt := 15) hx hb dX2_increase_65 (by decide) ?_
          refine ih (i + 1, (un (f i) + car) / 4294967296, upd g i (nI (un (f i) + car))) H locs ls (by show u - (i + 1) < u - i; omega) ⟨by show i + 1 ≤ u; omega, by show _ / _ < _; omega, ?_, fun j hj => ?_⟩ hP hD hS (lv_sub hl [0, 1, 3, 4] rfl)
          · show dvb 4294967296 (upd g i _) i + un (upd g i _ i) * 4294967296 ^ i + _ * 4294967296 ^ (i + 1) = _
            rw [dvb_upd (Nat.le_refl i), pk_us, un_mod]
            have h6 := dvb_mul_step (b := 4294967296) (by decide) (fac := 1) (more := y) (car := car) (f := f) (f' := g) (i := i) (by rw [Nat.mul_one]; exact hinv)
            rw [Nat.mul_one, Nat.mul_one] at h6
            exact h6
          · show upd g i _ j = f j
            have hj : i + 1 ≤ j := hj
            rw [pk_un (by omega)]
            exact hge j (by omega)
    · rintro - ls hv hl
      refine lv_aload_n hx hb dX2_increase_68 rfl (lv_at hl 2 rfl) ?_
      refine lv_lload_n hx hb dX2_increase_69 rfl (lv_at hl 1 rfl) ?_
      refine dm_goi (wr := []) (dm_rV (n := 1) (As := [.long (lN car)]) (rest := []) hC hl (c_X2_appendCarry l D cB cI cC h a N u car g hu hNb hcar H.size) kco_X2_appendCarry ki_X2 kim_X2_appendCarry kse_X2_appendCarry kml_X2_65 (by decide +kernel) ⟨Nat.le_of_ble_eq_true rfl, Nat.le_of_ble_eq_true rfl⟩ rfl rfl ⟨dm_blind, va_recv hK hP (ci := 2) (q0 := 0) rfl rfl, dm_preU hK hP hD hC.2.2.2.2.2.2.2 [0, 1] (by decide) rfl⟩ rfl rfl (Nat.le_of_ble_eq_true rfl) dX2_increase_70 ⟨Nat.le_of_ble_eq_true rfl, Nat.le_of_ble_eq_true rfl⟩) hP hD hS hA [0, 1] [] rfl rfl (by decide) (by decide) (fun r q H locs hw hP hD hS => ?_)
      obtain ⟨g2, u2⟩ := q
      have hP : va_P D vwCl [(h, .inr (2, [.ref a, .int (nI u2)])), (a, .inl (cI, N, .inl g2))] H := hP
      have hD : va_D A [(h, .inr (2, [.ref a, .int (nI u2)])), (a, .inl (cI, N, .inl g2))] := hD
      rw [hv] at hw
      have hw1 := hw.resolve_right (fun h9 => absurd hfit (by omega))
      refine dm_zret hC (Or.inr hw1.1) hK (g2, u2) ⟨fun _ => ⟨hw1.1, hw1.2.1, hw1.2.2.1, hw1.2.2.2 ?_⟩, fun h9 => absurd hfit (by omega)⟩ hP hD hS dX2_increase_73
      by_cases hz : car = 0
      · refine Or.inr ?_
        cases u with
        | zero => exact nrm_0 g
        | succ k =>
          refine nrm_of_ge ?_
          have h5 := nrm_ge hn
          rw [hz] at hv
          omega
      · exact Or.inl hz
  · refine lv_iconst (v := nI 0) hx hb dX2_increase_8 (by decide) ?_
    refine dm_zret (v := nI 0) hC (Or.inl rfl) hK (f, u) ⟨fun h9 => ?_, fun _ => ⟨rfl, rfl⟩⟩ hP hD hS dX2_increase_9
    rw [if_pos h9, hc] at h1
    exact absurd h1 (by decide)
