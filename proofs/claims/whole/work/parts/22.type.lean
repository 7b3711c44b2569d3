/-! what type and repeat append -/
def tb (x d : Nat) : Nat := x / 2 ^ (56 - 8 * d) % 256
theorem tb_lt (x d : Nat) : tb x d < 256 := Nat.mod_lt _ (by decide)
def tyl (x : Nat) : Nat → List Nat
  | 0 => []
  | d + 1 => tyl x d ++ (if tb x d = 0 then [] else [tb x d])
def tyOK (x n : Nat) : Prop := (∀ d, d < 8 → tb x d ≤ 126) ∧ n + (tyl x 8).length ≤ 65536
def T2 (n : Nat) (T : Nat → Nat) (L : List Nat) : Nat → Nat := fun j => if j < n then T j else L.getD (j - n) 0
def T3 (n m : Nat) (T : Nat → Nat) : Nat → Nat := fun j => if j < n then T j else T (n - m + (j - n) % m)
theorem tyl_len (x : Nat) : ∀ d, (tyl x d).length ≤ d
  | 0 => Nat.le_refl _
  | d + 1 => by
    have h := tyl_len x d
    unfold tyl
    rw [List.length_append]
    split <;> simp <;> omega
theorem sh_dec : ∀ d, d < 8 → nI (56 - 8 * d) + Int32.ofInt (-8) = nI 56 - nI (8 * (d + 1)) := by decide
theorem and255 (M : Nat) : nI M &&& nI 255 = nI (M % 256) := by
  rw [pk_and (nI M) (m := nI 255) 8 (by decide)]
  show nI (un (nI M) % 2 ^ 8) = _
  rw [un_mod]
  congr 1
  omega
theorem b7 : ∀ c, c < 128 → (nI c).toInt8.toInt32 = nI c := by decide
theorem nar7 {c : Nat} (h : c < 128) : vp_nar .byte (nI c) = nI c := by rw [vp_nar_byte, b7 c h]
theorem T2_nil {n : Nat} {T : Nat → Nat} {f : Nat → Int32} (h : txt n T f) : txt (n + 0) (T2 n T []) f := fun j hj => by
  unfold T2
  rw [if_pos (by omega)]
  exact h j (by omega)
theorem T2_push {n : Nat} {T : Nat → Nat} {L : List Nat} {f : Nat → Int32} {c : Nat} (h : txt (n + L.length) (T2 n T L) f) (hc : c < 128) : txt (n + (L ++ [c]).length) (T2 n T (L ++ [c])) (upd f (n + L.length) (nI c)) := by
  intro j hj
  rw [List.length_append, List.length_singleton] at hj
  unfold T2
  rcases (show j < n + L.length ∨ j = n + L.length by omega) with h1 | h1
  · have h2 := h j h1
    unfold T2 at h2
    rw [pk_un (by omega)]
    by_cases h3 : j < n
    · rw [if_pos h3] at h2 ⊢; exact h2
    · rw [if_neg h3] at h2 ⊢
      rw [List.getD_eq_getElem?_getD, List.getElem?_append_left (by omega), ← List.getD_eq_getElem?_getD]
      exact h2
  · rw [h1, pk_us, if_neg (by omega), show n + L.length - n = L.length by omega, List.getD_eq_getElem?_getD, List.getElem?_append_right (Nat.le_refl _), Nat.sub_self]
    exact ⟨rfl, hc⟩
theorem T3_back {n m : Nat} {T : Nat → Nat} {i : Nat} (hm : 1 ≤ m) (hmn : m ≤ n) (hi : n ≤ i) : T3 n m T i = T3 n m T (i - m) := by
  unfold T3
  rw [if_neg (by omega)]
  by_cases h : i - m < n
  · rw [if_pos h, Nat.mod_eq_of_lt (by omega)]
    congr 1
    omega
  · rw [if_neg h]
    congr 2
    rw [show i - n = (i - m - n) + m by omega, Nat.add_mod_right]
def rpOK (mm kk : Int32) (n m k : Nat) : Prop := mm = nI m ∧ kk = nI k ∧ 1 ≤ m ∧ m ≤ n ∧ k < 2 ^ 31 ∧ n + m * k ≤ 65536
theorem rng1 {x : Int32} {n : Nat} (hn : n < 2 ^ 31) (h1 : ¬ x < nI 1) (h2 : ¬ nI n < x) : ∃ m : Nat, 1 ≤ m ∧ m ≤ n ∧ x = nI m := by
  have h3 : ¬ x.toInt < (nI 1).toInt := fun q => h1 (Int32.lt_iff_toInt_lt.mpr q)
  have h4 : ¬ (nI n).toInt < x.toInt := fun q => h2 (Int32.lt_iff_toInt_lt.mpr q)
  rw [nI_toInt (by decide)] at h3
  rw [nI_toInt hn] at h4
  obtain ⟨m, hm, rfl⟩ := nI_of (x := x) (fun q => by have := Int32.lt_iff_toInt_lt.mp q; rw [show (0 : Int32).toInt = 0 from rfl] at this; omega)
  rw [nI_toInt hm] at h3 h4
  exact ⟨m, by omega, by omega, rfl⟩
theorem nI_nn {x : Int32} (h : 0 ≤ x) : ∃ k : Nat, k < 2 ^ 31 ∧ x = nI k := nI_of (fun q => by have h1 := Int32.lt_iff_toInt_lt.mp q; have h2 := Int32.le_iff_toInt_le.mp h; omega)

set_option maxRecDepth 100000 in
set_option maxHeartbeats 4000000 in
theorem c_X0_appendBytes (l : Launch) (D : va_G) (cB cI cC : ClassId) (h a n x : Nat) (T : Nat → Nat) (f : Nat → Int32) (hn : n ≤ 65536) (hx8 : x < 18446744073709551616) (htx : txt n T f) : MI l yX0_appendBytes (Cond.code yX0_appendBytes cX0_appendBytes 6 (some .boolean)) 0 D (TY cB cI cC) [.ref h, .long (lN x)] [(h, .inr (0, [.ref a, .int (nI n)])), (a, .inl (cB, 65536, .inl f))] (S := (Nat → Int32) × Nat) (fun r q => (tyOK x n ∧ r = 1 ∧ q.2 = n + (tyl x 8).length ∧ txt q.2 (T2 n T (tyl x 8)) q.1) ∨ (¬ tyOK x n ∧ r = 0 ∧ q = (f, n))) (fun q => [(h, .inr (0, [.ref a, .int (nI q.2)])), (a, .inl (cB, 65536, .inl q.1))]) := by
  refine MI.of (by decide) (Nat.le_of_ble_eq_true rfl) ?_
  intro p e s m below meth c ls A hC hA hP hK hD hS hl
  obtain ⟨hx, hb, hr, hml, hown, hts, hlocks, hN⟩ := id hC
  have hown : s.vm.findClass RX0 = some m.cls := hown
  have hl : lv_has ls 6 [(0, .ref h), (1, .long (lN x))] := hl
  refine lv_iconst (v := nI 0) hx hb dX0_appendBytes_0 (by decide) ?_
  refine lv_istore_n (lv' := [(3, .int (nI 0)), (0, .ref h), (1, .long (lN x))]) hx hb dX0_appendBytes_1 rfl hl (by decide) rfl (fun ls hl => ?_)
  refine lv_bipush (v := nI 56) hx hb dX0_appendBytes_2 (by decide) ?_
  refine lv_istore (lv' := [(4, .int (nI 56)), (3, .int (nI 0)), (0, .ref h), (1, .long (lN x))]) hx hb dX0_appendBytes_4 hl (by decide) rfl (fun ls hl => ?_)
  have hl : lv_has ls 6 [(4, .int (nI 56 - nI (8 * 0))), (3, .int (nI (tyl x 0).length)), (0, .ref h), (1, .long (lN x))] := by rw [show nI 56 - nI (8 * 0) = nI 56 by decide]; exact hl
  refine dm_loopR (nL := 6) 6 (fun d => d ≤ 8 ∧ ∀ j, j < d → tb x j ≤ 126) (fun d => [(4, .int (nI 56 - nI (8 * d))), (3, .int (nI (tyl x d).length)), (0, .ref h), (1, .long (lN x))]) (fun d => 8 - d) ?_ 0 ⟨Nat.zero_le _, fun j hj => absurd hj (Nat.not_lt_zero _)⟩ hl
  rintro d ls ⟨hd8, hok⟩ hl ih
  rcases (show d = 8 ∨ d < 8 by omega) with hd | hd
  · subst hd
    refine lv_iload hx hb dX0_appendBytes_6 (lv_at hl 0 rfl) ?_
    refine lv_if_lt (tgt := 50) hx hb dX0_appendBytes_8 (by decide) (fun hc => ?_) (fun hc => ?_)
    · have hlen := tyl_len x 8
      refine lv_iload_n hx hb dX0_appendBytes_50 rfl (lv_at hl 1 rfl) ?_
      refine lv_aload_n hx hb dX0_appendBytes_51 rfl (lv_at hl 2 rfl) ?_
      refine va_get (D := D) (ci := 0) (C := RX0) (T := TX0) (N := 2) (v := .ref a) hx hb hts kin_X0_w hown hK hP 0 rfl rfl 0 (by decide) (hts _ kfl_X0_10) (fun _ h9 => h9) rfl dX0_appendBytes_52 ?_
      refine va_alen (v := nI 65536) hx hb hK hP 1 0 rfl rfl rfl dX0_appendBytes_55 ?_
      refine lv_aload_n hx hb dX0_appendBytes_56 rfl (lv_at hl 2 rfl) ?_
      refine va_get (D := D) (ci := 0) (C := RX0) (T := TX0) (N := 2) (v := .int (nI n)) hx hb hts kin_X0_w hown hK hP 0 rfl rfl 1 (by decide) (hts _ kfl_X0_16) (fun _ h9 => h9) rfl dX0_appendBytes_57 ?_
      refine lv_isub hx hb dX0_appendBytes_60 ?_
      refine dm_ti (y := nI (65536 - n)) (pk_sub hn) ?_
      refine dm_icmp_le (tgt := 66) hx hb (by omega) (by omega) dX0_appendBytes_61 (by decide) (fun he => ?_) (fun he => ?_)
      · refine lv_bipush (v := nI 56) hx hb dX0_appendBytes_66 (by decide) ?_
        refine lv_istore (lv' := [(4, .int (nI 56)), (3, .int (nI (tyl x 8).length)), (0, .ref h), (1, .long (lN x))]) hx hb dX0_appendBytes_68 hl (by decide) rfl (fun ls hl => ?_)
        have hl : lv_has ls 6 [(4, .int (nI 56 - nI (8 * 0))), (0, .ref h), (1, .long (lN x))] := by rw [show nI 56 - nI (8 * 0) = nI 56 by decide]; exact lv_sub hl [0, 2, 3] rfl
        refine dm_loop (nL := 6) (head := 70) (P := fun (x8 : Nat × (Nat → Int32)) => x8.1 ≤ 8 ∧ txt (n + (tyl x x8.1).length) (T2 n T (tyl x x8.1)) x8.2) (w := fun x8 => [(h, .inr (0, [.ref a, .int (nI (n + (tyl x x8.1).length))])), (a, .inl (cB, 65536, .inl x8.2))]) (lv := fun x8 => [(4, .int (nI 56 - nI (8 * x8.1))), (0, .ref h), (1, .long (lN x))]) (μ := fun x8 => 8 - x8.1) ?_ (0, f) ⟨Nat.zero_le _, T2_nil htx⟩ hP hD hS hl
        clear ih
        rintro ⟨d, F⟩ H locs ls ⟨hd8, hF⟩ hP hD hS hl ih
        dsimp only at hd8 hF
        have hP : va_P D vwCl [(h, .inr (0, [.ref a, .int (nI (n + (tyl x d).length))])), (a, .inl (cB, 65536, .inl F))] H := hP
        have hD : va_D A [(h, .inr (0, [.ref a, .int (nI (n + (tyl x d).length))])), (a, .inl (cB, 65536, .inl F))] := hD
        have hl : lv_has ls 6 [(4, .int (nI 56 - nI (8 * d))), (0, .ref h), (1, .long (lN x))] := hl
        rcases (show d = 8 ∨ d < 8 by omega) with hd | hd
        · subst hd
          refine lv_iload hx hb dX0_appendBytes_70 (lv_at hl 0 rfl) ?_
          refine lv_if_lt (tgt := 119) hx hb dX0_appendBytes_72 (by decide) (fun hc1 => ?_) (fun hc1 => ?_)
          · refine lv_iconst (v := nI 1) hx hb dX0_appendBytes_119 (by decide) ?_
            exact dm_zret (v := nI 1) hC (Or.inr rfl) hK (F, n + (tyl x 8).length) (Or.inl ⟨⟨hok, by omega⟩, rfl, rfl, hF⟩) hP hD hS dX0_appendBytes_120
          · exact absurd (by decide) hc1
        · have hl : lv_has ls 6 [(4, .int (nI (56 - 8 * d))), (0, .ref h), (1, .long (lN x))] := by rw [show nI (56 - 8 * d) = nI 56 - nI (8 * d) from (pk_sub (by omega)).symm]; exact hl
          have hb8 := tb_lt x d
          have hok1 := hok d hd
          have hlen2 := tyl_len x d
          refine lv_iload hx hb dX0_appendBytes_70 (lv_at hl 0 rfl) ?_
          refine dm_if_lt (tgt := 119) hx hb (by omega) dX0_appendBytes_72 (by decide) (fun hc1 => ?_) (fun hc1 => ?_)
          · exact hc1.elim
          · refine lv_lload_n hx hb dX0_appendBytes_75 rfl (lv_at hl 2 rfl) ?_
            refine lv_iload hx hb dX0_appendBytes_76 (lv_at hl 0 rfl) ?_
            refine lv_lushr (v := lN (x / 2 ^ (56 - 8 * d))) hx hb dX0_appendBytes_78 (wb_shr hx8 (by omega)) ?_
            refine lv_l2i (v := nI (x / 2 ^ (56 - 8 * d))) hx hb dX0_appendBytes_79 (lN_low) ?_
            refine lv_sipush (v := nI 255) hx hb dX0_appendBytes_80 (by decide) ?_
            refine lv_iand hx hb dX0_appendBytes_83 ?_
            refine dm_ti (y := nI (tb x d)) (and255 _) ?_
            refine lv_istore (lv' := [(5, .int (nI (tb x d))), (4, .int (nI (56 - 8 * d))), (0, .ref h), (1, .long (lN x))]) hx hb dX0_appendBytes_84 hl (by decide) rfl (fun ls hl => ?_)
            refine lv_iload hx hb dX0_appendBytes_86 (lv_at hl 0 rfl) ?_
            refine dm_if_eq (tgt := 113) hx hb (by omega) dX0_appendBytes_88 (by decide) (fun hz => ?_) (fun hz => ?_)
            · refine lv_iinc (v := (nI 56 - nI (8 * (d + 1)))) (lv' := [(4, .int (nI 56 - nI (8 * (d + 1)))), (5, .int (nI (tb x d))), (0, .ref h), (1, .long (lN x))]) hx hb dX0_appendBytes_113 hl (k := 1) rfl (sh_dec d hd) (by decide) rfl (fun ls hl => ?_)
              refine lv_goto (tgt := 70) hx hb dX0_appendBytes_116 (by decide) ?_
              have e1 : tyl x (d + 1) = tyl x d := by show tyl x d ++ _ = _; rw [if_pos hz, List.append_nil]
              exact ih (d + 1, F) H locs ls (by show 8 - (d + 1) < 8 - d; omega) ⟨by show d + 1 ≤ 8; omega, by show txt (n + (tyl x (d + 1)).length) (T2 n T (tyl x (d + 1))) F; rw [e1]; exact hF⟩ (by show va_P D vwCl [(h, .inr (0, [.ref a, .int (nI (n + (tyl x (d + 1)).length))])), (a, .inl (cB, 65536, .inl F))] H; rw [e1]; exact hP) (by show va_D A [(h, .inr (0, [.ref a, .int (nI (n + (tyl x (d + 1)).length))])), (a, .inl (cB, 65536, .inl F))]; rw [e1]; exact hD) hS (lv_sub hl [0, 2, 3] rfl)
            · have e1 : tyl x (d + 1) = tyl x d ++ [tb x d] := by show tyl x d ++ _ = _; rw [if_neg hz]
              have hroom : n + (tyl x d).length < 65536 := by
                have h9 : ∀ c, d + c ≤ 8 → (tyl x d).length ≤ (tyl x (d + c)).length := by
                  intro c
                  induction c with
                  | zero => intro _; exact Nat.le_refl _
                  | succ c ihc =>
                    intro hc2
                    have := ihc (by omega)
                    show _ ≤ (tyl x (d + c) ++ _).length
                    rw [List.length_append]; omega
                have h10 : (tyl x d).length + 1 ≤ (tyl x 8).length := by
                  have h11 : ∀ c, d + 1 + c ≤ 8 → (tyl x (d + 1)).length ≤ (tyl x (d + 1 + c)).length := by
                    intro c
                    induction c with
                    | zero => intro _; exact Nat.le_refl _
                    | succ c ihc =>
                      intro hc2
                      have := ihc (by omega)
                      show _ ≤ (tyl x (d + 1 + c) ++ _).length
                      rw [List.length_append]; omega
                  have h12 := h11 (7 - d) (by omega)
                  rw [show d + 1 + (7 - d) = 8 by omega, e1, List.length_append, List.length_singleton] at h12
                  exact h12
                omega
              refine lv_aload_n hx hb dX0_appendBytes_91 rfl (lv_at hl 2 rfl) ?_
              refine va_get (D := D) (ci := 0) (C := RX0) (T := TX0) (N := 2) (v := .ref a) hx hb hts kin_X0_w hown hK hP 0 rfl rfl 0 (by decide) (hts _ kfl_X0_10) (fun _ h9 => h9) rfl dX0_appendBytes_92 ?_
              refine lv_aload_n hx hb dX0_appendBytes_95 rfl (lv_at hl 2 rfl) ?_
              refine va_get (D := D) (ci := 0) (C := RX0) (T := TX0) (N := 2) (v := .int (nI (n + (tyl x d).length))) hx hb hts kin_X0_w hown hK hP 0 rfl rfl 1 (by decide) (hts _ kfl_X0_16) (fun _ h9 => h9) rfl dX0_appendBytes_96 ?_
              refine lv_iload hx hb dX0_appendBytes_99 (lv_at hl 0 rfl) ?_
              refine lv_i2b (v := nI (tb x d)) hx hb dX0_appendBytes_101 (b7 _ (by omega)) ?_
              refine dm_bast (j := (n + (tyl x d).length)) (f' := upd F (n + (tyl x d).length) (nI (tb x d))) hx hb hK hP hD hS 1 0 rfl rfl (hroom) (by decide) (by rw [nar7 (by omega)]) dX0_appendBytes_102 (fun H locs hP hD hS => ?_)
              have hP : va_P D vwCl [(h, .inr (0, [.ref a, .int (nI (n + (tyl x d).length))])), (a, .inl (cB, 65536, .inl (upd F (n + (tyl x d).length) (nI (tb x d)))))] H := hP
              have hD : va_D A [(h, .inr (0, [.ref a, .int (nI (n + (tyl x d).length))])), (a, .inl (cB, 65536, .inl (upd F (n + (tyl x d).length) (nI (tb x d)))))] := hD
              refine lv_aload_n hx hb dX0_appendBytes_103 rfl (lv_at hl 2 rfl) ?_
              refine lv_dup hx hb dX0_appendBytes_104 rfl ?_
              refine va_get (D := D) (ci := 0) (C := RX0) (T := TX0) (N := 2) (v := .int (nI (n + (tyl x d).length))) hx hb hts kin_X0_w hown hK hP 0 rfl rfl 1 (by decide) (hts _ kfl_X0_16) (fun _ h9 => h9) rfl dX0_appendBytes_105 ?_
              refine lv_iconst (v := nI 1) hx hb dX0_appendBytes_108 (by decide) ?_
              refine lv_iadd hx hb dX0_appendBytes_109 ?_
              refine dm_ti (y := nI (n + (tyl x d).length + 1)) (nI_1 _) ?_
              refine va_put (D := D) (ci := 0) (v := .int (nI (n + (tyl x d).length + 1))) (ty := .int) (C := RX0) (T := TX0) (N := 2) hx hb hts kin_X0_w tyX0 tyX0_ok nmX0 hown hK hP hD hS 0 rfl rfl 1 (by decide) (hts _ kfl_X0_16) (fun _ h9 => h9) rfl (by decide +kernel) rfl rfl (Nat.le_of_ble_eq_true rfl) dX0_appendBytes_110 (fun H locs hP hD hS => ?_)
              have hP : va_P D vwCl [(h, .inr (0, [.ref a, .int (nI (n + (tyl x d).length + 1))])), (a, .inl (cB, 65536, .inl (upd F (n + (tyl x d).length) (nI (tb x d)))))] H := hP
              have hD : va_D A [(h, .inr (0, [.ref a, .int (nI (n + (tyl x d).length + 1))])), (a, .inl (cB, 65536, .inl (upd F (n + (tyl x d).length) (nI (tb x d)))))] := hD
              refine lv_iinc (v := (nI 56 - nI (8 * (d + 1)))) (lv' := [(4, .int (nI 56 - nI (8 * (d + 1)))), (5, .int (nI (tb x d))), (0, .ref h), (1, .long (lN x))]) hx hb dX0_appendBytes_113 hl (k := 1) rfl (sh_dec d hd) (by decide) rfl (fun ls hl => ?_)
              refine lv_goto (tgt := 70) hx hb dX0_appendBytes_116 (by decide) ?_
              have e2 : n + (tyl x d).length + 1 = n + (tyl x (d + 1)).length := by rw [e1, List.length_append, List.length_singleton]; omega
              rw [e2] at hP hD
              exact ih (d + 1, upd F (n + (tyl x d).length) (nI (tb x d))) H locs ls (by show 8 - (d + 1) < 8 - d; omega) ⟨by show d + 1 ≤ 8; omega, by show txt (n + (tyl x (d + 1)).length) (T2 n T (tyl x (d + 1))) _; rw [e1]; exact T2_push hF (by omega)⟩ hP hD hS (lv_sub hl [0, 2, 3] rfl)
      · refine lv_iconst (v := nI 0) hx hb dX0_appendBytes_64 (by decide) ?_
        exact dm_zret (v := nI 0) hC (Or.inl rfl) hK (f, n) (Or.inr ⟨fun h9 => by have := h9.2; omega, rfl, rfl⟩) hP hD hS dX0_appendBytes_65
    · exact absurd (by decide) hc
  · have hl : lv_has ls 6 [(4, .int (nI (56 - 8 * d))), (3, .int (nI (tyl x d).length)), (0, .ref h), (1, .long (lN x))] := by rw [show nI (56 - 8 * d) = nI 56 - nI (8 * d) from (pk_sub (by omega)).symm]; exact hl
    have hb8 := tb_lt x d
    refine lv_iload hx hb dX0_appendBytes_6 (lv_at hl 0 rfl) ?_
    refine dm_if_lt (tgt := 50) hx hb (by omega) dX0_appendBytes_8 (by decide) (fun hc => ?_) (fun hc => ?_)
    · exact hc.elim
    · refine lv_lload_n hx hb dX0_appendBytes_11 rfl (lv_at hl 3 rfl) ?_
      refine lv_iload hx hb dX0_appendBytes_12 (lv_at hl 0 rfl) ?_
      refine lv_lushr (v := lN (x / 2 ^ (56 - 8 * d))) hx hb dX0_appendBytes_14 (wb_shr hx8 (by omega)) ?_
      refine lv_l2i (v := nI (x / 2 ^ (56 - 8 * d))) hx hb dX0_appendBytes_15 (lN_low) ?_
      refine lv_sipush (v := nI 255) hx hb dX0_appendBytes_16 (by decide) ?_
      refine lv_iand hx hb dX0_appendBytes_19 ?_
      refine dm_ti (y := nI (tb x d)) (and255 _) ?_
      refine lv_istore (lv' := [(5, .int (nI (tb x d))), (4, .int (nI (56 - 8 * d))), (3, .int (nI (tyl x d).length)), (0, .ref h), (1, .long (lN x))]) hx hb dX0_appendBytes_20 hl (by decide) rfl (fun ls hl => ?_)
      refine lv_iload hx hb dX0_appendBytes_22 (lv_at hl 0 rfl) ?_
      refine lv_bipush (v := nI 126) hx hb dX0_appendBytes_24 (by decide) ?_
      refine dm_icmp_le (tgt := 31) hx hb (by omega) (by omega) dX0_appendBytes_26 (by decide) (fun he => ?_) (fun he => ?_)
      · have hok2 : ∀ j, j < d + 1 → tb x j ≤ 126 := lt_s hok he
        refine lv_iload_n hx hb dX0_appendBytes_31 rfl (lv_at hl 2 rfl) ?_
        refine lv_iload hx hb dX0_appendBytes_32 (lv_at hl 0 rfl) ?_
        refine dm_if_ne (tgt := 41) hx hb (by omega) dX0_appendBytes_34 (by decide) (fun hz => ?_) (fun hz => ?_)
        · refine lv_iconst (v := nI 1) hx hb dX0_appendBytes_41 (by decide) ?_
          refine lv_iadd hx hb dX0_appendBytes_42 ?_
          refine dm_ti (y := nI (tyl x (d + 1)).length) (by rw [nI_add]; congr 1; show _ = (tyl x d ++ _).length; rw [if_neg hz, List.length_append]; rfl) ?_
          refine lv_istore_n (lv' := [(3, .int (nI (tyl x (d + 1)).length)), (5, .int (nI (tb x d))), (4, .int (nI (56 - 8 * d))), (0, .ref h), (1, .long (lN x))]) hx hb dX0_appendBytes_43 rfl hl (by decide) rfl (fun ls hl => ?_)
          refine lv_iinc (v := (nI 56 - nI (8 * (d + 1)))) (lv' := [(4, .int (nI 56 - nI (8 * (d + 1)))), (3, .int (nI (tyl x (d + 1)).length)), (5, .int (nI (tb x d))), (0, .ref h), (1, .long (lN x))]) hx hb dX0_appendBytes_44 hl (k := 2) rfl (sh_dec d hd) (by decide) rfl (fun ls hl => ?_)
          refine lv_goto (tgt := 6) hx hb dX0_appendBytes_47 (by decide) ?_
          exact ih (d + 1) ls (by omega) ⟨by omega, hok2⟩ (lv_sub hl [0, 1, 3, 4] rfl)
        · refine lv_iconst (v := nI 0) hx hb dX0_appendBytes_37 (by decide) ?_
          refine lv_goto (tgt := 42) hx hb dX0_appendBytes_38 (by decide) ?_
          refine lv_iadd hx hb dX0_appendBytes_42 ?_
          refine dm_ti (y := nI (tyl x (d + 1)).length) (by rw [nI_add]; congr 1; show _ = (tyl x d ++ _).length; rw [if_pos hz, List.append_nil]; rfl) ?_
          refine lv_istore_n (lv' := [(3, .int (nI (tyl x (d + 1)).length)), (5, .int (nI (tb x d))), (4, .int (nI (56 - 8 * d))), (0, .ref h), (1, .long (lN x))]) hx hb dX0_appendBytes_43 rfl hl (by decide) rfl (fun ls hl => ?_)
          refine lv_iinc (v := (nI 56 - nI (8 * (d + 1)))) (lv' := [(4, .int (nI 56 - nI (8 * (d + 1)))), (3, .int (nI (tyl x (d + 1)).length)), (5, .int (nI (tb x d))), (0, .ref h), (1, .long (lN x))]) hx hb dX0_appendBytes_44 hl (k := 2) rfl (sh_dec d hd) (by decide) rfl (fun ls hl => ?_)
          refine lv_goto (tgt := 6) hx hb dX0_appendBytes_47 (by decide) ?_
          exact ih (d + 1) ls (by omega) ⟨by omega, hok2⟩ (lv_sub hl [0, 1, 3, 4] rfl)
      · refine lv_iconst (v := nI 0) hx hb dX0_appendBytes_29 (by decide) ?_
        exact dm_zret (v := nI 0) hC (Or.inl rfl) hK (f, n) (Or.inr ⟨fun h9 => by have := h9.1 d hd; omega, rfl, rfl⟩) hP hD hS dX0_appendBytes_30

set_option maxRecDepth 100000 in
set_option maxHeartbeats 4000000 in
theorem c_X0_appendEnd (l : Launch) (D : va_G) (cB cI cC : ClassId) (h a n : Nat) (mm kk : Int32) (T : Nat → Nat) (f : Nat → Int32) (hn : n ≤ 65536) (htx : txt n T f) : MI l yX0_appendEnd (Cond.code yX0_appendEnd cX0_appendEnd 7 (some .boolean)) 0 D (TY cB cI cC) [.ref h, .int mm, .int kk] [(h, .inr (0, [.ref a, .int (nI n)])), (a, .inl (cB, 65536, .inl f))] (S := (Nat → Int32) × Nat) (fun r q => (∃ m k, rpOK mm kk n m k ∧ r = 1 ∧ q.2 = n + m * k ∧ txt q.2 (T3 n m T) q.1) ∨ ((∀ m k, ¬ rpOK mm kk n m k) ∧ r = 0 ∧ q = (f, n))) (fun q => [(h, .inr (0, [.ref a, .int (nI q.2)])), (a, .inl (cB, 65536, .inl q.1))]) := by
  refine MI.of (by decide) (Nat.le_of_ble_eq_true rfl) ?_
  intro p e s m below meth c ls A hC hA hP hK hD hS hl
  obtain ⟨hx, hb, hr, hml, hown, hts, hlocks, hN⟩ := id hC
  have hown : s.vm.findClass RX0 = some m.cls := hown
  have hl : lv_has ls 7 [(0, .ref h), (1, .int mm), (2, .int kk)] := hl
  refine lv_iload_n hx hb dX0_appendEnd_0 rfl (lv_at hl 1 rfl) ?_
  refine lv_iconst (v := nI 1) hx hb dX0_appendEnd_1 (by decide) ?_
  refine lv_icmp_lt (tgt := 17) hx hb dX0_appendEnd_2 (by decide) (fun h1 => ?_) (fun h1 => ?_)
  · refine lv_iconst (v := nI 0) hx hb dX0_appendEnd_17 (by decide) ?_
    exact dm_zret (v := nI 0) hC (Or.inl rfl) hK (f, n) (Or.inr ⟨fun m k h9 => by rw [h9.1] at h1; exact nI_nlt h9.2.2.1 (by have := h9.2.2.2.1; omega) h1, rfl, rfl⟩) hP hD hS dX0_appendEnd_18
  · refine lv_iload_n hx hb dX0_appendEnd_5 rfl (lv_at hl 1 rfl) ?_
    refine lv_aload_n hx hb dX0_appendEnd_6 rfl (lv_at hl 0 rfl) ?_
    refine va_get (D := D) (ci := 0) (C := RX0) (T := TX0) (N := 2) (v := .int (nI n)) hx hb hts kin_X0_w hown hK hP 0 rfl rfl 1 (by decide) (hts _ kfl_X0_16) (fun _ h9 => h9) rfl dX0_appendEnd_7 ?_
    refine lv_icmp_gt (tgt := 17) hx hb dX0_appendEnd_10 (by decide) (fun h2 => ?_) (fun h2 => ?_)
    · refine lv_iconst (v := nI 0) hx hb dX0_appendEnd_17 (by decide) ?_
      exact dm_zret (v := nI 0) hC (Or.inl rfl) hK (f, n) (Or.inr ⟨fun m k h9 => by rw [h9.1] at h2; exact nI_nlt h9.2.2.2.1 (by omega) h2, rfl, rfl⟩) hP hD hS dX0_appendEnd_18
    · obtain ⟨m, hm1, hmn, rfl⟩ := rng1 (by omega) h1 h2
      refine lv_iload_n hx hb dX0_appendEnd_13 rfl (lv_at hl 2 rfl) ?_
      refine lv_if_ge (tgt := 19) hx hb dX0_appendEnd_14 (by decide) (fun h3 => ?_) (fun h3 => ?_)
      · obtain ⟨k, hk, rfl⟩ := nI_nn h3
        have hmk : m * k < 2 ^ 63 := by
          have h8 : m * k ≤ 65536 * 2147483648 := Nat.mul_le_mul (by omega) (by omega)
          omega
        refine lv_iload_n hx hb dX0_appendEnd_19 rfl (lv_at hl 1 rfl) ?_
        refine lv_i2l (v := lN m) hx hb dX0_appendEnd_20 (nI_l (by omega)) ?_
        refine lv_iload_n hx hb dX0_appendEnd_21 rfl (lv_at hl 2 rfl) ?_
        refine lv_i2l (v := lN k) hx hb dX0_appendEnd_22 (nI_l hk) ?_
        refine lv_lmul hx hb dX0_appendEnd_23 ?_
        refine dm_tl (y := lN (m * k)) (lN_mul _ _) ?_
        refine lv_lstore_n (lv' := [(3, .long (lN (m * k))), (0, .ref h), (1, .int (nI m)), (2, .int (nI k))]) hx hb dX0_appendEnd_24 rfl hl (by decide) rfl (fun ls hl => ?_)
        refine lv_lload_n hx hb dX0_appendEnd_25 rfl (lv_at hl 0 rfl) ?_
        refine lv_aload_n hx hb dX0_appendEnd_26 rfl (lv_at hl 1 rfl) ?_
        refine va_get (D := D) (ci := 0) (C := RX0) (T := TX0) (N := 2) (v := .ref a) hx hb hts kin_X0_w hown hK hP 0 rfl rfl 0 (by decide) (hts _ kfl_X0_10) (fun _ h9 => h9) rfl dX0_appendEnd_27 ?_
        refine va_alen (v := nI 65536) hx hb hK hP 1 0 rfl rfl rfl dX0_appendEnd_30 ?_
        refine lv_aload_n hx hb dX0_appendEnd_31 rfl (lv_at hl 1 rfl) ?_
        refine va_get (D := D) (ci := 0) (C := RX0) (T := TX0) (N := 2) (v := .int (nI n)) hx hb hts kin_X0_w hown hK hP 0 rfl rfl 1 (by decide) (hts _ kfl_X0_16) (fun _ h9 => h9) rfl dX0_appendEnd_32 ?_
        refine lv_isub hx hb dX0_appendEnd_35 ?_
        refine dm_ti (y := nI (65536 - n)) (pk_sub hn) ?_
        refine lv_i2l (v := lN (65536 - n)) hx hb dX0_appendEnd_36 (nI_l (by omega)) ?_
        refine dm_lc_le (tgt := 43) hx hb (by omega) (by omega) dX0_appendEnd_37 dX0_appendEnd_38 (by decide) (fun h4 => ?_) (fun h4 => ?_)
        · refine lv_aload_n hx hb dX0_appendEnd_43 rfl (lv_at hl 1 rfl) ?_
          refine va_get (D := D) (ci := 0) (C := RX0) (T := TX0) (N := 2) (v := .int (nI n)) hx hb hts kin_X0_w hown hK hP 0 rfl rfl 1 (by decide) (hts _ kfl_X0_16) (fun _ h9 => h9) rfl dX0_appendEnd_44 ?_
          refine lv_lload_n hx hb dX0_appendEnd_47 rfl (lv_at hl 0 rfl) ?_
          refine lv_l2i (v := nI (m * k)) hx hb dX0_appendEnd_48 (lN_low) ?_
          refine lv_iadd hx hb dX0_appendEnd_49 ?_
          refine dm_ti (y := nI (n + m * k)) (nI_add _ _) ?_
          refine lv_istore (lv' := [(5, .int (nI (n + m * k))), (3, .long (lN (m * k))), (0, .ref h), (1, .int (nI m)), (2, .int (nI k))]) hx hb dX0_appendEnd_50 hl (by decide) rfl (fun ls hl => ?_)
          refine lv_aload_n hx hb dX0_appendEnd_52 rfl (lv_at hl 2 rfl) ?_
          refine va_get (D := D) (ci := 0) (C := RX0) (T := TX0) (N := 2) (v := .int (nI n)) hx hb hts kin_X0_w hown hK hP 0 rfl rfl 1 (by decide) (hts _ kfl_X0_16) (fun _ h9 => h9) rfl dX0_appendEnd_53 ?_
          refine lv_istore (lv' := [(6, .int (nI n)), (5, .int (nI (n + m * k))), (3, .long (lN (m * k))), (0, .ref h), (1, .int (nI m)), (2, .int (nI k))]) hx hb dX0_appendEnd_56 hl (by decide) rfl (fun ls hl => ?_)
          refine dm_loop (nL := 7) (head := 58) (P := fun (q : Nat × (Nat → Int32)) => n ≤ q.1 ∧ q.1 ≤ n + m * k ∧ txt q.1 (T3 n m T) q.2) (w := fun q => [(h, .inr (0, [.ref a, .int (nI n)])), (a, .inl (cB, 65536, .inl q.2))]) (lv := fun q => [(6, .int (nI q.1)), (5, .int (nI (n + m * k))), (0, .ref h), (1, .int (nI m)), (2, .int (nI k))]) (μ := fun q => n + m * k - q.1) ?_ (n, f) ⟨Nat.le_refl _, Nat.le_add_right _ _, fun j hj => by unfold T3; rw [if_pos hj]; exact htx j hj⟩ hP hD hS (lv_sub hl [0, 1, 3, 4, 5] rfl)
          rintro ⟨i, F⟩ H locs ls ⟨hi1, hi2, hF⟩ hP hD hS hl ih
          dsimp only at hi1 hi2 hF
          have hP : va_P D vwCl [(h, .inr (0, [.ref a, .int (nI n)])), (a, .inl (cB, 65536, .inl F))] H := hP
          have hD : va_D A [(h, .inr (0, [.ref a, .int (nI n)])), (a, .inl (cB, 65536, .inl F))] := hD
          have hl : lv_has ls 7 [(6, .int (nI i)), (5, .int (nI (n + m * k))), (0, .ref h), (1, .int (nI m)), (2, .int (nI k))] := hl
          refine lv_iload hx hb dX0_appendEnd_58 (lv_at hl 0 rfl) ?_
          refine lv_iload hx hb dX0_appendEnd_60 (lv_at hl 1 rfl) ?_
          refine dm_icmp_ge (tgt := 87) hx hb (by omega) (by omega) dX0_appendEnd_62 (by decide) (fun h5 => ?_) (fun h5 => ?_)
          · have hin : i = n + m * k := by omega
            subst hin
            refine lv_aload_n hx hb dX0_appendEnd_87 rfl (lv_at hl 2 rfl) ?_
            refine lv_iload hx hb dX0_appendEnd_88 (lv_at hl 1 rfl) ?_
            refine va_put (D := D) (ci := 0) (v := .int (nI (n + m * k))) (ty := .int) (C := RX0) (T := TX0) (N := 2) hx hb hts kin_X0_w tyX0 tyX0_ok nmX0 hown hK hP hD hS 0 rfl rfl 1 (by decide) (hts _ kfl_X0_16) (fun _ h9 => h9) rfl (by decide +kernel) rfl rfl (Nat.le_of_ble_eq_true rfl) dX0_appendEnd_90 (fun H locs hP hD hS => ?_)
            have hP : va_P D vwCl [(h, .inr (0, [.ref a, .int (nI (n + m * k))])), (a, .inl (cB, 65536, .inl F))] H := hP
            have hD : va_D A [(h, .inr (0, [.ref a, .int (nI (n + m * k))])), (a, .inl (cB, 65536, .inl F))] := hD
            refine lv_iconst (v := nI 1) hx hb dX0_appendEnd_93 (by decide) ?_
            exact dm_zret (v := nI 1) hC (Or.inr rfl) hK (F, n + m * k) (Or.inl ⟨m, k, ⟨rfl, rfl, hm1, hmn, hk, by omega⟩, rfl, rfl, hF⟩) hP hD hS dX0_appendEnd_94
          · have hbT := hF (i - m) (by omega)
            refine lv_aload_n hx hb dX0_appendEnd_65 rfl (lv_at hl 2 rfl) ?_
            refine va_get (D := D) (ci := 0) (C := RX0) (T := TX0) (N := 2) (v := .ref a) hx hb hts kin_X0_w hown hK hP 0 rfl rfl 0 (by decide) (hts _ kfl_X0_10) (fun _ h9 => h9) rfl dX0_appendEnd_66 ?_
            refine lv_iload hx hb dX0_appendEnd_69 (lv_at hl 0 rfl) ?_
            refine lv_aload_n hx hb dX0_appendEnd_71 rfl (lv_at hl 2 rfl) ?_
            refine va_get (D := D) (ci := 0) (C := RX0) (T := TX0) (N := 2) (v := .ref a) hx hb hts kin_X0_w hown hK hP 0 rfl rfl 0 (by decide) (hts _ kfl_X0_10) (fun _ h9 => h9) rfl dX0_appendEnd_72 ?_
            refine lv_iload hx hb dX0_appendEnd_75 (lv_at hl 0 rfl) ?_
            refine lv_iload_n hx hb dX0_appendEnd_77 rfl (lv_at hl 3 rfl) ?_
            refine lv_isub hx hb dX0_appendEnd_78 ?_
            refine dm_ti (y := nI (i - m)) (pk_sub (by omega)) ?_
            refine dm_bald (j := (i - m)) hx hb hK hP 1 0 rfl rfl (by omega) (by decide) dX0_appendEnd_79 ?_
            refine dm_ti (y := nI (T3 n m T (i - m))) (hbT.1) ?_
            refine dm_bast (j := i) (f' := upd F i (nI (T3 n m T (i - m)))) hx hb hK hP hD hS 1 0 rfl rfl (by omega) (by decide) (by rw [nar7 hbT.2]) dX0_appendEnd_80 (fun H locs hP hD hS => ?_)
            have hP : va_P D vwCl [(h, .inr (0, [.ref a, .int (nI n)])), (a, .inl (cB, 65536, .inl (upd F i (nI (T3 n m T (i - m))))))] H := hP
            have hD : va_D A [(h, .inr (0, [.ref a, .int (nI n)])), (a, .inl (cB, 65536, .inl (upd F i (nI (T3 n m T (i - m))))))] := hD
            refine lv_iinc (v := nI (i + 1)) (lv' := [(6, .int (nI (i + 1))), (5, .int (nI (n + m * k))), (0, .ref h), (1, .int (nI m)), (2, .int (nI k))]) hx hb dX0_appendEnd_81 hl (k := 0) rfl ((nI_succ i).symm) (by decide) rfl (fun ls hl => ?_)
            refine lv_goto (tgt := 58) hx hb dX0_appendEnd_84 (by decide) ?_
            exact ih (i + 1, upd F i (nI (T3 n m T (i - m)))) H locs ls (by show n + m * k - (i + 1) < n + m * k - i; omega) ⟨by show n ≤ i + 1; omega, by show i + 1 ≤ n + m * k; omega, fun j hj => (Nat.lt_or_eq_of_le (Nat.le_of_lt_succ hj)).elim (fun h6 => by show upd F i _ j = _ ∧ _; rw [pk_un (by omega)]; exact hF j h6) (fun h6 => by show upd F i _ j = _ ∧ _; rw [h6, pk_us, T3_back hm1 hmn hi1]; exact ⟨rfl, hbT.2⟩)⟩ hP hD hS (lv_sub hl [0, 1, 2, 3, 4] rfl)
        · refine lv_iconst (v := nI 0) hx hb dX0_appendEnd_41 (by decide) ?_
          exact dm_zret (v := nI 0) hC (Or.inl rfl) hK (f, n) (Or.inr ⟨fun m2 k2 h9 => by have e1 := (nI_eq (by omega) (by have := h9.2.2.2.1; omega)).mp h9.1; have e2 := (nI_eq hk h9.2.2.2.2.1).mp h9.2.1; have := h9.2.2.2.2.2; rw [← e1, ← e2] at this; omega, rfl, rfl⟩) hP hD hS dX0_appendEnd_42
      · refine lv_iconst (v := nI 0) hx hb dX0_appendEnd_17 (by decide) ?_
        exact dm_zret (v := nI 0) hC (Or.inl rfl) hK (f, n) (Or.inr ⟨fun m k h9 => by rw [h9.2.1] at h3; exact h3 (nI_pos' h9.2.2.2.2.1), rfl, rfl⟩) hP hD hS dX0_appendEnd_18
