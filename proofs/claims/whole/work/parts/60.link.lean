/-! ===== the class's numbers and the model's: the same text, the same answer ===== -/
def RT (n : Nat) (ft : Nat → Int32) (kt : Nat) (ki : Nat → Int32) : Prop := n ≤ 65536 ∧ kt = n ∧ ∃ T, txt n T ft ∧ txt kt T ki
def RO (st : Nat) (fx : Nat → Int32) (kw : Nat) (ko : Nat → Int32) : Prop := st ≤ 65536 ∧ kw = 65536 - st ∧ ∀ j, j < kw → fx (st + j) = ko j
def RN (uN : Nat) (fN : Nat → Int32) (kz : Nat) (kn : Nat → Int32) : Prop := uN ≤ 2048 ∧ nrm fN uN ∧ kz ≤ 4096 ∧ d16 kn kz ∧ nrm kn kz ∧ dvb 65536 kn kz = dvb 4294967296 fN uN
theorem RT_0 (ft ki : Nat → Int32) : RT 0 ft 0 ki := ⟨by omega, rfl, fun _ => 0, fun j hj => absurd hj (by omega), fun j hj => absurd hj (by omega)⟩
theorem RO_kw {st kw : Nat} {fx ko : Nat → Int32} (h : RO st fx kw ko) : kw ≤ 65536 := by obtain ⟨h1, h2, h3⟩ := h; omega
theorem pow_2 : (4294967296 : Nat) ^ 2048 = 2 ^ 65536 := by rw [show (4294967296 : Nat) = 2 ^ 32 from rfl, ← Nat.pow_mul]
theorem dv_r {f : Nat → Int32} {u : Nat} (hu : u ≤ 2048) : ∀ r, 2 ≤ r → dvb 4294967296 f u < r ^ 65536 := by
  intro r hr
  have h1 := dv32_lt f u
  have h2 : (4294967296 : Nat) ^ u ≤ 4294967296 ^ 2048 := Nat.pow_le_pow_right (by decide) hu
  rw [pow_2] at h2
  have h3 : (2 : Nat) ^ 65536 ≤ r ^ 65536 := Nat.pow_le_pow_left hr 65536
  exact Nat.lt_of_lt_of_le h1 (Nat.le_trans h2 h3)
theorem RN_r {uN kz : Nat} {fN kn : Nat → Int32} (h : RN uN fN kz kn) : ∀ r, 2 ≤ r → dvb 65536 kn kz < r ^ 65536 := by
  obtain ⟨h1, h2, h3, h4, h5, h6⟩ := h
  rw [h6]
  exact dv_r h1
theorem nr_eq {r r' : Nat} {x : Int32} (h : r ≤ 36) (h' : r' ≤ 36) (e0 : x = nI r) (e1 : x = nI r') : r = r' := (nI_eq (by omega) (by omega)).mp (e0.symm.trans e1)
theorem lk_type {x n kt : Nat} {T : Nat → Nat} {ft ki : Nat → Int32} {r1 r2 : Int32} {q q' : (Nat → Int32) × Nat} (hn : n ≤ 65536) (ek : kt = n) (ht1 : txt n T ft) (ht2 : txt kt T ki)
    (h1 : (tyOK x n ∧ r1 = 1 ∧ q.2 = n + (tyl x 8).length ∧ txt q.2 (T2 n T (tyl x 8)) q.1) ∨ (¬ tyOK x n ∧ r1 = 0 ∧ q = (ft, n)))
    (h2 : (tyOK x kt ∧ r2 = 1 ∧ q'.2 = kt + (tyl x 8).length ∧ txt q'.2 (T2 kt T (tyl x 8)) q'.1) ∨ (¬ tyOK x kt ∧ r2 = 0 ∧ q' = (ki, kt))) : r1 = r2 ∧ RT q.2 q.1 q'.2 q'.1 := by
  subst ek
  rcases h1 with ⟨a1, a2, a3, a4⟩ | ⟨a1, a2, a3⟩ <;> rcases h2 with ⟨b1, b2, b3, b4⟩ | ⟨b1, b2, b3⟩
  · exact ⟨a2.trans b2.symm, by rw [a3]; exact a1.2, b3.trans a3.symm, _, a4, b4⟩
  · exact absurd a1 b1
  · exact absurd b1 a1
  · subst a3; subst b3
    exact ⟨a2.trans b2.symm, hn, rfl, T, ht1, ht2⟩
theorem lk_repeat {mm kk : Int32} {n kt : Nat} {T : Nat → Nat} {ft ki : Nat → Int32} {r1 r2 : Int32} {q q' : (Nat → Int32) × Nat} (hn : n ≤ 65536) (ek : kt = n) (ht1 : txt n T ft) (ht2 : txt kt T ki)
    (h1 : (∃ m k, rpOK mm kk n m k ∧ r1 = 1 ∧ q.2 = n + m * k ∧ txt q.2 (T3 n m T) q.1) ∨ ((∀ m k, ¬ rpOK mm kk n m k) ∧ r1 = 0 ∧ q = (ft, n)))
    (h2 : (∃ m k, rpOK mm kk kt m k ∧ r2 = 1 ∧ q'.2 = kt + m * k ∧ txt q'.2 (T3 kt m T) q'.1) ∨ ((∀ m k, ¬ rpOK mm kk kt m k) ∧ r2 = 0 ∧ q' = (ki, kt))) : r1 = r2 ∧ RT q.2 q.1 q'.2 q'.1 := by
  subst ek
  rcases h1 with ⟨m, k, a1, a2, a3, a4⟩ | ⟨a1, a2, a3⟩ <;> rcases h2 with ⟨m', k', b1, b2, b3, b4⟩ | ⟨b1, b2, b3⟩
  · have e1 : m = m' := (nI_eq (by have := a1.2.2.2.1; omega) (by have := b1.2.2.2.1; omega)).mp (a1.1.symm.trans b1.1)
    have e2 : k = k' := (nI_eq a1.2.2.2.2.1 b1.2.2.2.2.1).mp (a1.2.1.symm.trans b1.2.1)
    subst e1; subst e2
    exact ⟨a2.trans b2.symm, by rw [a3]; exact a1.2.2.2.2.2, b3.trans a3.symm, _, a4, b4⟩
  · exact absurd a1 (b1 m k)
  · exact absurd b1 (a1 m' k')
  · subst a3; subst b3
    exact ⟨a2.trans b2.symm, hn, rfl, T, ht1, ht2⟩
theorem lk_read {x : Int32} {n kt uN kz u1 n1 k1 m1 : Nat} {T : Nat → Nat} {ft ki fN kn f1 g1 : Nat → Int32} {r1 r2 : Int32} (hn : n ≤ 65536) (ek : kt = n) (ht1 : txt n T ft) (ht2 : txt kt T ki) (hR : RN uN fN kz kn)
    (h1 : u1 ≤ 2048 ∧ nrm f1 u1 ∧ ((¬ isR x ∧ r1 = -3 ∧ n1 = n ∧ dvb 4294967296 f1 u1 = dvb 4294967296 fN uN) ∨ (∃ r, 2 ≤ r ∧ r ≤ 36 ∧ x = nI r ∧ r1 = rdA r n T ∧ n1 = 0 ∧ dvb 4294967296 f1 u1 = rdV r n T (dvb 4294967296 fN uN))))
    (h2 : k1 ≤ 4096 ∧ d16 g1 k1 ∧ nrm g1 k1 ∧ ((¬ isR x ∧ r2 = -3 ∧ m1 = kt ∧ dvb 65536 g1 k1 = dvb 65536 kn kz) ∨ (∃ r, 2 ≤ r ∧ r ≤ 36 ∧ x = nI r ∧ r2 = rdA r kt T ∧ m1 = 0 ∧ dvb 65536 g1 k1 = rdV r kt T (dvb 65536 kn kz)))) : r1 = r2 ∧ RT n1 ft m1 ki ∧ RN u1 f1 k1 g1 := by
  subst ek
  obtain ⟨a1, a2, a3⟩ := h1
  obtain ⟨b1, b2, b3, b4⟩ := h2
  have hV := hR.2.2.2.2.2
  rcases a3 with ⟨c1, c2, c3, c4⟩ | ⟨r, c1, c2, c3, c4, c5, c6⟩ <;> rcases b4 with ⟨d1, d2, d3, d4⟩ | ⟨r', d1, d2, d3, d4, d5, d6⟩
  · exact ⟨c2.trans d2.symm, by rw [c3, d3]; exact ⟨hn, rfl, T, ht1, ht2⟩, a1, a2, b1, b2, b3, by rw [d4, c4, hV]⟩
  · exact absurd ⟨r', d1, d2, d3⟩ c1
  · exact absurd ⟨r, c1, c2, c3⟩ d1
  · have e1 := nr_eq c2 d2 c3 d3
    subst e1
    exact ⟨c4.trans d4.symm, by rw [c5, d5]; exact RT_0 _ _, a1, a2, b1, b2, b3, by rw [d6, c6, hV]⟩
theorem lk_write {x : Int32} {V st kw s1 k1 : Nat} {fx ko f1 g1 : Nat → Int32} {r1 r2 : Int32} (hR : RO st fx kw ko)
    (h1 : s1 ≤ 65536 ∧ ((¬ isR x ∧ r1 = -1 ∧ f1 = fx ∧ s1 = st) ∨ (∃ r, 2 ≤ r ∧ r ≤ 36 ∧ x = nI r ∧ r1 = nI (65536 - s1) ∧ isND r V (65536 - s1) ∧ ∀ i, i < 65536 - s1 → f1 (65535 - i) = nI (cdv (V / r ^ i % r)))))
    (h2 : k1 ≤ 65536 ∧ ((¬ isR x ∧ r2 = -1 ∧ g1 = ko ∧ k1 = kw) ∨ (∃ r, 2 ≤ r ∧ r ≤ 36 ∧ x = nI r ∧ r2 = nI k1 ∧ isND r V k1 ∧ txt k1 (fun j => cdv (V / r ^ (k1 - 1 - j) % r)) g1))) : r1 = r2 ∧ RO s1 f1 k1 g1 := by
  obtain ⟨a1, a2⟩ := h1
  obtain ⟨b1, b2⟩ := h2
  rcases a2 with ⟨c1, c2, c3, c4⟩ | ⟨r, c1, c2, c3, c4, c5, c6⟩ <;> rcases b2 with ⟨d1, d2, d3, d4⟩ | ⟨r', d1, d2, d3, d4, d5, d6⟩
  · subst c3; subst c4; subst d3; subst d4
    exact ⟨c2.trans d2.symm, hR⟩
  · exact absurd ⟨r', d1, d2, d3⟩ c1
  · exact absurd ⟨r, c1, c2, c3⟩ d1
  · have e1 := nr_eq c2 d2 c3 d3
    subst e1
    have e2 := isND_uniq c1 c5 d5
    subst e2
    refine ⟨c4.trans d4.symm, a1, rfl, fun j hj => ?_⟩
    have h3 := c6 (65536 - s1 - 1 - j) (by omega)
    rw [show 65535 - (65536 - s1 - 1 - j) = s1 + j by omega] at h3
    rw [h3, (d6 j hj).1]
theorem lk_show {wd x : Int32} {V sn st kw s1 k1 : Nat} {fx ko f1 g1 : Nat → Int32} {r1 r2 : Int32} (hR : RO st fx kw ko)
    (h1 : s1 ≤ 65536 ∧ ((¬ (isWd wd ∧ isR x) ∧ r1 = -1 ∧ f1 = fx ∧ s1 = st) ∨ (isWd wd ∧ ∃ r c, 2 ≤ r ∧ r ≤ 36 ∧ x = nI r ∧ isND r V c ∧ 65536 - s1 = c + sn ∧ r1 = nI (65536 - s1) ∧ ∀ i, i < 65536 - s1 → f1 (65535 - i) = nI (outG r V c i))))
    (h2 : k1 ≤ 65536 ∧ ((¬ (isWd wd ∧ isR x) ∧ r2 = -1 ∧ g1 = ko ∧ k1 = kw) ∨ (isWd wd ∧ ∃ r c, 2 ≤ r ∧ r ≤ 36 ∧ x = nI r ∧ isND r V c ∧ k1 = c + sn ∧ r2 = nI k1 ∧ txt k1 (fun j => outG r V c (k1 - 1 - j)) g1))) : r1 = r2 ∧ RO s1 f1 k1 g1 := by
  obtain ⟨a1, a2⟩ := h1
  obtain ⟨b1, b2⟩ := h2
  rcases a2 with ⟨c1, c2, c3, c4⟩ | ⟨cw, r, cc, c1, c2, c3, c4, c5, c6, c7⟩ <;> rcases b2 with ⟨d1, d2, d3, d4⟩ | ⟨dw, r', cd, d1, d2, d3, d4, d5, d6, d7⟩
  · subst c3; subst c4; subst d3; subst d4
    exact ⟨c2.trans d2.symm, hR⟩
  · exact absurd ⟨dw, r', d1, d2, d3⟩ c1
  · exact absurd ⟨cw, r, c1, c2, c3⟩ d1
  · have e1 := nr_eq c2 d2 c3 d3
    subst e1
    have e2 := isND_uniq c1 c4 d4
    subst e2
    have e3 : k1 = 65536 - s1 := d5.trans c5.symm
    subst e3
    refine ⟨c6.trans d6.symm, a1, rfl, fun j hj => ?_⟩
    have h3 := c7 (65536 - s1 - 1 - j) (by omega)
    rw [show 65535 - (65536 - s1 - 1 - j) = s1 + j by omega] at h3
    rw [h3, (d7 j hj).1]
theorem pu_lt {V B M x : Nat} (h : V < B) (p : B * 18446744073709551616 ≤ M) (hx : x < 18446744073709551616) : V * 18446744073709551616 + x < M := by omega
theorem pu_ge {V B M x : Nat} (h : B ≤ V) (p : M ≤ B * 18446744073709551616) : M ≤ V * 18446744073709551616 + x := Nat.le_trans p (Nat.le_trans (Nat.mul_le_mul_right _ h) (Nat.le_add_right _ _))
theorem lk_push {x uN kz u1 k1 : Nat} {fN kn f1 g1 : Nat → Int32} {r1 r2 : Int32} (hx : x < 18446744073709551616) (hR : RN uN fN kz kn)
    (h1 : (uN + 2 ≤ 2048 → r1 = 1 ∧ u1 ≤ 2048 ∧ dvb 4294967296 f1 u1 = dvb 4294967296 fN uN * 18446744073709551616 + x ∧ nrm f1 u1) ∧ (2048 < uN + 2 → r1 = 0 ∧ (f1, u1) = (fN, uN)))
    (h2 : k1 ≤ 4096 ∧ d16 g1 k1 ∧ nrm g1 k1 ∧ ((dvb 65536 kn kz * 18446744073709551616 + x < 65536 ^ 4096 ∧ r2 = 1 ∧ dvb 65536 g1 k1 = dvb 65536 kn kz * 18446744073709551616 + x) ∨ (65536 ^ 4096 ≤ dvb 65536 kn kz * 18446744073709551616 + x ∧ r2 = 0 ∧ dvb 65536 g1 k1 = dvb 65536 kn kz))) : r1 = r2 ∧ RN u1 f1 k1 g1 := by
  obtain ⟨n1, n2, n3, n4, n5, hV⟩ := hR
  obtain ⟨b1, b2, b3, b4⟩ := h2
  rw [hV, pow_eq] at b4
  have hlt := dv32_lt fN uN
  by_cases hu : uN + 2 ≤ 2048
  · obtain ⟨a1, a2, a3, a4⟩ := h1.1 hu
    have p1 : (4294967296 : Nat) ^ (uN + 2) ≤ 4294967296 ^ 2048 := Nat.pow_le_pow_right (by decide) hu
    have p2 : (4294967296 : Nat) ^ (uN + 2) = 4294967296 ^ uN * 18446744073709551616 := by rw [Nat.pow_add]
    have p3 : dvb 4294967296 fN uN * 18446744073709551616 + x < 4294967296 ^ 2048 := pu_lt hlt (by rw [← p2]; exact p1) hx
    rcases b4 with ⟨c1, c2, c3⟩ | ⟨c1, c2, c3⟩
    · exact ⟨a1.trans c2.symm, a2, a4, b1, b2, b3, by rw [c3, a3]⟩
    · exact absurd p3 (Nat.not_lt.mpr c1)
  · obtain ⟨a1, a2⟩ := h1.2 (by omega)
    cases a2
    obtain ⟨k, rfl⟩ : ∃ k, uN = k + 1 := ⟨uN - 1, by omega⟩
    have q1 := dvb_ge (b := 4294967296) (n2 k rfl)
    have q2 : (4294967296 : Nat) ^ 2048 ≤ 4294967296 ^ (k + 2) := Nat.pow_le_pow_right (by decide) (by omega)
    have q3 : (4294967296 : Nat) ^ (k + 2) = 4294967296 ^ k * 18446744073709551616 := by rw [Nat.pow_add]
    have q4 : 4294967296 ^ 2048 ≤ dvb 4294967296 fN (k + 1) * 18446744073709551616 + x := pu_ge q1 (by rw [← q3]; exact q2)
    rcases b4 with ⟨c1, c2, c3⟩ | ⟨c1, c2, c3⟩
    · exact absurd c1 (Nat.not_lt.mpr q4)
    · exact ⟨a1.trans c2.symm, n1, n2, b1, b2, b3, c3⟩
theorem lk_power {b e0 : Int32} {uN kz u1 k1 : Nat} {fN kn f1 g1 : Nat → Int32} {r1 r2 : Int32} (hR : RN uN fN kz kn)
    (h1 : u1 ≤ 2048 ∧ nrm f1 u1 ∧ ((∃ bb ee, pwOK b e0 bb ee ∧ r1 = 1 ∧ dvb 4294967296 f1 u1 = bb ^ ee) ∨ ((∀ bb ee, ¬ pwOK b e0 bb ee) ∧ r1 = 0 ∧ dvb 4294967296 f1 u1 = dvb 4294967296 fN uN)))
    (h2 : k1 ≤ 4096 ∧ d16 g1 k1 ∧ nrm g1 k1 ∧ ((∃ bb ee, pwOK b e0 bb ee ∧ r2 = 1 ∧ dvb 65536 g1 k1 = bb ^ ee) ∨ ((∀ bb ee, ¬ pwOK b e0 bb ee) ∧ r2 = 0 ∧ dvb 65536 g1 k1 = dvb 65536 kn kz))) : r1 = r2 ∧ RN u1 f1 k1 g1 := by
  obtain ⟨a1, a2, a3⟩ := h1
  obtain ⟨b1, b2, b3, b4⟩ := h2
  have hV := hR.2.2.2.2.2
  rcases a3 with ⟨bb, ee, c1, c2, c3⟩ | ⟨c1, c2, c3⟩ <;> rcases b4 with ⟨bb', ee', d1, d2, d3⟩ | ⟨d1, d2, d3⟩
  · have e1 : bb = bb' := (nI_eq c1.2.2.1 d1.2.2.1).mp (c1.1.symm.trans d1.1)
    have e2 : ee = ee' := (nI_eq c1.2.2.2.1 d1.2.2.2.1).mp (c1.2.1.symm.trans d1.2.1)
    subst e1; subst e2
    exact ⟨c2.trans d2.symm, a1, a2, b1, b2, b3, d3.trans c3.symm⟩
  · exact absurd c1 (d1 bb ee)
  · exact absurd d1 (c1 bb' ee')
  · exact ⟨c2.trans d2.symm, a1, a2, b1, b2, b3, by rw [d3, c3, hV]⟩
theorem un_toI (v : Int32) : v.toInt = if un v < 2147483648 then (un v : Int) else (un v : Int) - 4294967296 := by
  have h : v.toInt = v.toBitVec.toInt := rfl
  rw [h, BitVec.toInt_eq_toNat_cond]
  show (if 2 * un v < 2 ^ 32 then (un v : Int) else (un v : Int) - ((2 ^ 32 : Nat) : Int)) = _
  by_cases hc : un v < 2147483648
  · rw [if_pos (by omega), if_pos hc]
  · rw [if_neg (by omega), if_neg hc]; rfl
theorem lk_add {v : Int32} {uN kz u1 k1 : Nat} {fN kn f1 g1 : Nat → Int32} {r1 r2 : Int32} (hR : RN uN fN kz kn)
    (h1 : (0 ≤ v → (dvb 4294967296 fN uN + un v < 4294967296 ^ 2048 → r1 = 1 ∧ u1 ≤ 2048 ∧ dvb 4294967296 f1 u1 = dvb 4294967296 fN uN + un v ∧ nrm f1 u1) ∧ (4294967296 ^ 2048 ≤ dvb 4294967296 fN uN + un v → r1 = 0 ∧ (f1, u1) = (fN, uN))) ∧ (¬ 0 ≤ v → (4294967296 - un v ≤ dvb 4294967296 fN uN → r1 = 1 ∧ u1 ≤ 2048 ∧ dvb 4294967296 f1 u1 = dvb 4294967296 fN uN - (4294967296 - un v) ∧ nrm f1 u1) ∧ (dvb 4294967296 fN uN < 4294967296 - un v → r1 = 0 ∧ (f1, u1) = (fN, uN))))
    (h2 : k1 ≤ 4096 ∧ d16 g1 k1 ∧ nrm g1 k1 ∧ ((0 ≤ (dvb 65536 kn kz : Int) + v.toInt ∧ (dvb 65536 kn kz : Int) + v.toInt < (65536 ^ 4096 : Nat) ∧ r2 = 1 ∧ (dvb 65536 g1 k1 : Int) = (dvb 65536 kn kz : Int) + v.toInt) ∨ (¬ (0 ≤ (dvb 65536 kn kz : Int) + v.toInt ∧ (dvb 65536 kn kz : Int) + v.toInt < (65536 ^ 4096 : Nat)) ∧ r2 = 0 ∧ dvb 65536 g1 k1 = dvb 65536 kn kz))) : r1 = r2 ∧ RN u1 f1 k1 g1 := by
  obtain ⟨n1, n2, n3, n4, n5, hV⟩ := hR
  obtain ⟨b1, b2, b3, b4⟩ := h2
  rw [hV, pow_eq] at b4
  have hlt : dvb 4294967296 fN uN < 4294967296 ^ 2048 := Nat.lt_of_lt_of_le (dv32_lt fN uN) (Nat.pow_le_pow_right (by decide) n1)
  have hun := un_lt v
  generalize (4294967296 : Nat) ^ 2048 = M at h1 b4 hlt
  have key : (r1 = r2 ∧ u1 ≤ 2048 ∧ nrm f1 u1) ∧ dvb 65536 g1 k1 = dvb 4294967296 f1 u1 := by
    by_cases hv : 0 ≤ v
    · have hu := (un_nneg hv).1
      rw [un_toI, if_pos hu] at b4
      by_cases hc : dvb 4294967296 fN uN + un v < M
      · obtain ⟨a1, a2, a3, a4⟩ := (h1.1 hv).1 hc
        rcases b4 with ⟨c1, c2, c3, c4⟩ | ⟨c1, c2, c3⟩
        · exact ⟨⟨a1.trans c3.symm, a2, a4⟩, by omega⟩
        · exact absurd ⟨by omega, by omega⟩ c1
      · obtain ⟨a1, a2⟩ := (h1.1 hv).2 (by omega)
        cases a2
        rcases b4 with ⟨c1, c2, c3, c4⟩ | ⟨c1, c2, c3⟩
        · omega
        · exact ⟨⟨a1.trans c2.symm, n1, n2⟩, c3⟩
    · have hu := (un_isneg hv).1
      rw [un_toI, if_neg (by omega)] at b4
      by_cases hc : 4294967296 - un v ≤ dvb 4294967296 fN uN
      · obtain ⟨a1, a2, a3, a4⟩ := (h1.2 hv).1 hc
        rcases b4 with ⟨c1, c2, c3, c4⟩ | ⟨c1, c2, c3⟩
        · exact ⟨⟨a1.trans c3.symm, a2, a4⟩, by omega⟩
        · exact absurd ⟨by omega, by omega⟩ c1
      · obtain ⟨a1, a2⟩ := (h1.2 hv).2 (by omega)
        cases a2
        rcases b4 with ⟨c1, c2, c3, c4⟩ | ⟨c1, c2, c3⟩
        · omega
        · exact ⟨⟨a1.trans c2.symm, n1, n2⟩, c3⟩
  exact ⟨key.1.1, key.1.2.1, key.1.2.2, b1, b2, b3, key.2⟩
theorem lk_parse {wd x : Int32} {sg n kt n1 m1 : Nat} {T : Nat → Nat} {ft ki : Nat → Int32} {lv kv l1 v1 : Int64} {r1 r2 : Int32} (hn : n ≤ 65536) (ek : kt = n) (ht1 : txt n T ft) (ht2 : txt kt T ki) (hv : kv = lv)
    (h1 : (¬ (isWd wd ∧ isR x) ∧ r1 = nI 3 ∧ l1 = lv ∧ n1 = n) ∨ (∃ wn r, (wn = 32 ∨ wn = 64) ∧ 2 ≤ r ∧ r ≤ 36 ∧ wd = nI wn ∧ x = nI r ∧ n1 = 0 ∧ ((¬ pgood r sg n T ∧ r1 = nI 1 ∧ l1 = lv) ∨ (pgood r sg n T ∧ ¬ pfit wn sg (pmn sg n T) (pval r sg n T) ∧ r1 = nI 2 ∧ l1 = lv) ∨ (pgood r sg n T ∧ pfit wn sg (pmn sg n T) (pval r sg n T) ∧ r1 = nI 0 ∧ l1 = if pmn sg n T = 1 then -(lN (pval r sg n T)) else lN (pval r sg n T)))))
    (h2 : (¬ (isWd wd ∧ isR x) ∧ r2 = nI 3 ∧ v1 = kv ∧ m1 = kt) ∨ (∃ wn r, (wn = 32 ∨ wn = 64) ∧ 2 ≤ r ∧ r ≤ 36 ∧ wd = nI wn ∧ x = nI r ∧ m1 = 0 ∧ ((¬ pgood r sg kt T ∧ r2 = nI 1 ∧ v1 = kv) ∨ (pgood r sg kt T ∧ ¬ pfit wn sg (pmn sg kt T) (pval r sg kt T) ∧ r2 = nI 2 ∧ v1 = kv) ∨ (pgood r sg kt T ∧ pfit wn sg (pmn sg kt T) (pval r sg kt T) ∧ r2 = nI 0 ∧ v1 = if pmn sg kt T = 1 then -(lN (pval r sg kt T)) else lN (pval r sg kt T))))) : r1 = r2 ∧ RT n1 ft m1 ki ∧ v1 = l1 := by
  subst ek
  subst hv
  rcases h1 with ⟨a1, a2, a3, a4⟩ | ⟨wn, r, a1, a2, a3, a4, a5, a6, a7⟩ <;> rcases h2 with ⟨b1, b2, b3, b4⟩ | ⟨wn', r', b1, b2, b3, b4, b5, b6, b7⟩
  · exact ⟨a2.trans b2.symm, by rw [a4, b4]; exact ⟨hn, rfl, T, ht1, ht2⟩, b3.trans a3.symm⟩
  · exact absurd ⟨b1.elim (fun h => Or.inl (by rw [b4, h])) (fun h => Or.inr (by rw [b4, h])), r', b2, b3, b5⟩ a1
  · exact absurd ⟨a1.elim (fun h => Or.inl (by rw [a4, h])) (fun h => Or.inr (by rw [a4, h])), r, a2, a3, a5⟩ b1
  · have e1 := nr_eq a3 b3 a5 b5
    subst e1
    have e2 : wn = wn' := (nI_eq (by omega) (by omega)).mp (a4.symm.trans b4)
    subst e2
    have e3 : RT n1 ft m1 ki := by rw [a6, b6]; exact RT_0 _ _
    rcases a7 with ⟨c1, c2, c3⟩ | ⟨c1, c2, c3, c4⟩ | ⟨c1, c2, c3, c4⟩ <;> rcases b7 with ⟨d1, d2, d3⟩ | ⟨d1, d2, d3, d4⟩ | ⟨d1, d2, d3, d4⟩
    · exact ⟨c2.trans d2.symm, e3, d3.trans c3.symm⟩
    · exact absurd d1 c1
    · exact absurd d1 c1
    · exact absurd c1 d1
    · exact ⟨c3.trans d3.symm, e3, d4.trans c4.symm⟩
    · exact absurd d2 c2
    · exact absurd c1 d1
    · exact absurd c2 d2
    · exact ⟨c3.trans d3.symm, e3, d4.trans c4.symm⟩
theorem lk_char {k : Int32} {st kw : Nat} {fx ko : Nat → Int32} {r1 r2 : Int32} (hR : RO st fx kw ko)
    (h1 : (∀ j, j < 65536 - st → k = nI j → r1 = fx (st + j)) ∧ ((∀ j, j < 65536 - st → k ≠ nI j) → r1 = -1))
    (h2 : (∀ j, j < kw → k = nI j → r2 = ko j) ∧ ((∀ j, j < kw → k ≠ nI j) → r2 = -1)) : r1 = r2 := by
  obtain ⟨a1, a2, a3⟩ := hR
  subst a2
  by_cases h : ∃ j, j < 65536 - st ∧ k = nI j
  · obtain ⟨j, hj, ej⟩ := h
    rw [h1.1 j hj ej, h2.1 j hj ej, a3 j hj]
  · have h' : ∀ j, j < 65536 - st → k ≠ nI j := fun j hj ej => h ⟨j, hj, ej⟩
    rw [h1.2 h', h2.2 h']
/-- two ints of the script as a long -/
theorem lk_long (x y : Int32) : lN (un x * 4294967296) ||| lN (un y) = lN (un x * 4294967296 + un y) := g_or (k := 32) (by decide) (un_lt y) (by have := un_lt x; have := un_lt y; omega)
theorem lk_long_lt (x y : Int32) : un x * 4294967296 + un y < 18446744073709551616 := by have := un_lt x; have := un_lt y; omega
theorem lk_15 (x : Int32) : ∃ k, k < 16 ∧ x &&& nI 15 = nI k := by
  refine ⟨un x % 16, Nat.mod_lt _ (by decide), ?_⟩
  rw [← nI_un (x &&& nI 15)]
  congr 1
  show (x &&& nI 15).toBitVec.toNat = _
  rw [Int32.toBitVec_and, BitVec.toNat_and]
  exact Nat.and_two_pow_sub_one_eq_mod (un x) 4
