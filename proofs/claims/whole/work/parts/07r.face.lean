-- PURE: the face of the class
theorem in_of {x : Int32} {a b : Nat} (ha : a < 2 ^ 31) (hb : b < 2 ^ 31) (h1 : ¬ x < nI a) (h2 : x ≤ nI b) : inZ x.toInt64 (lN a) (lN b) := by
  unfold inZ
  rw [Int64.lt_iff_toInt_lt, Int64.lt_iff_toInt_lt, i64_of, lN_toInt ha, lN_toInt hb]
  rw [Int32.lt_iff_toInt_lt, nI_toInt ha] at h1
  rw [Int32.le_iff_toInt_le, nI_toInt hb] at h2
  omega
theorem in_ge {x : Int32} {a b : Nat} (ha : a < 2 ^ 31) (h : inZ x.toInt64 (lN a) (lN b)) : ¬ x < nI a := by
  unfold inZ at h
  rw [Int64.lt_iff_toInt_lt, Int64.lt_iff_toInt_lt, i64_of, lN_toInt ha] at h
  rw [Int32.lt_iff_toInt_lt, nI_toInt ha]
  exact h.1
theorem in_le {x : Int32} {a b : Nat} (hb : b < 2 ^ 31) (h : inZ x.toInt64 (lN a) (lN b)) : x ≤ nI b := by
  unfold inZ at h
  rw [Int64.lt_iff_toInt_lt, Int64.lt_iff_toInt_lt, i64_of, lN_toInt hb] at h
  rw [Int32.le_iff_toInt_le, nI_toInt hb]
  omega
theorem in_lt {x : Int32} {b : Nat} (hb : b + 1 < 2 ^ 31) : inZ x.toInt64 (lN 0) (lN b) ↔ ¬ x < 0 ∧ x < nI (b + 1) := by
  unfold inZ
  rw [Int64.lt_iff_toInt_lt, Int64.lt_iff_toInt_lt, i64_of, lN_toInt (by omega), lN_toInt (by omega), Int32.lt_iff_toInt_lt, Int32.lt_iff_toInt_lt, nI_toInt hb]
  have h1 : (0 : Int32).toInt = 0 := by decide
  rw [h1]
  omega
theorem in_le0 {x : Int32} {b : Nat} (hb : b < 2 ^ 31) : inZ x.toInt64 (lN 0) (lN b) ↔ ¬ x < 0 ∧ x ≤ nI b := by
  unfold inZ
  rw [Int64.lt_iff_toInt_lt, Int64.lt_iff_toInt_lt, i64_of, lN_toInt (by omega), lN_toInt hb, Int32.lt_iff_toInt_lt, Int32.le_iff_toInt_le, nI_toInt hb]
  have h1 : (0 : Int32).toInt = 0 := by decide
  rw [h1]
  omega
theorem ev_or {v : Int32} {k : Nat} (hk : k < 2 ^ 30) : inZ v.toInt64 (mL 0) (mI k).toInt64 ↔ v = mI 0 ∨ knP v k := by
  constructor
  · intro h
    obtain ⟨q, hq, rfl⟩ := ev_nat hk h
    rcases Nat.eq_zero_or_pos q with z | z
    · exact Or.inl (by rw [z])
    · right
      rw [mI_p (by omega)]
      exact ⟨nI_pos (by omega), fun h2 => by rw [nI_leI (by omega) (by omega)] at h2; omega⟩
  · intro h
    rcases h with rfl | h
    · unfold inZ
      rw [Int64.lt_iff_toInt_lt, Int64.lt_iff_toInt_lt, i64_of, i64_of, mI_toInt hk, mI_toInt (by decide)]
      have : (mL 0).toInt = -1 := by decide
      rw [this]
      omega
    · have h3 := (in_kn hk).mpr h
      refine ⟨fun z => h3.1 ?_, h3.2⟩
      rw [Int64.lt_iff_toInt_lt] at z ⊢
      have e1 : (mL 0).toInt = -1 := by decide
      have e2 : (lN 0).toInt = 0 := by decide
      rw [e1] at z
      rw [e2]
      omega
theorem ka_st {x : Int32} {n : Nat} (hn : n ≤ 12) : kaP x n ↔ stP x n := by
  have h4 : 2 ^ n ≤ 4096 := Nat.pow_le_pow_right (by decide) hn
  unfold kaP stP
  constructor
  · rintro ⟨h1, h2⟩
    refine ⟨h1, ?_⟩
    obtain ⟨k, hk, rfl⟩ := nI_of h1
    rw [zb_shr hk (by omega), ← nI_0, nI_eq (Nat.lt_of_le_of_lt (Nat.shiftRight_le _ _) hk) (by decide), Nat.shiftRight_eq_div_pow] at h2
    rw [nI_leI (by omega) hk]
    intro h3
    have := Nat.div_pos h3 (Nat.pow_pos (by decide) : 0 < 2 ^ n)
    omega
  · rintro ⟨h1, h2⟩
    refine ⟨h1, ?_⟩
    obtain ⟨k, hk, rfl⟩ := nI_of h1
    rw [nI_leI (by omega) hk] at h2
    rw [zb_shr hk (by omega), ← nI_0, nI_eq (Nat.lt_of_le_of_lt (Nat.shiftRight_le _ _) hk) (by decide), Nat.shiftRight_eq_div_pow]
    exact Nat.div_eq_of_lt (by omega)
theorem tb_out {x : Int32} (lo hi : Nat) (h : hi < 2 ^ 31) : ((x.toInt < (lo : Int) ∨ (hi : Int) < x.toInt)) ∨ ∃ q, lo ≤ q ∧ q ≤ hi ∧ x = nI q := by
  by_cases c : x.toInt < (lo : Int) ∨ (hi : Int) < x.toInt
  · exact Or.inl c
  · right
    have h0 : ¬ x < 0 := by
      rw [Int32.lt_iff_toInt_lt]
      have : (0 : Int32).toInt = 0 := by decide
      rw [this]
      omega
    obtain ⟨q, hq, rfl⟩ := nI_of h0
    rw [nI_toInt hq] at c
    exact ⟨q, by omega, by omega, rfl⟩
theorem tb_ne {x : Int32} {lo hi q : Nat} (h : x.toInt < (lo : Int) ∨ (hi : Int) < x.toInt) (h1 : lo ≤ q) (h2 : q ≤ hi) (hq : q < 2 ^ 31) : ¬ x = nI q := fun e => by
  rw [e, nI_toInt hq] at h
  omega
/-- what an order tells: kind, width, fill, cells, most cells -/
noncomputable def toC (t : sqT) (x : Int32) : Int32 := zif (x = nI 5) (nI t.1) (zif (x = nI 6) (mI t.2.1) (zif (x = nI 7) (nI t.2.2.1) (zif (x = nI 8) (nI t.2.2.2.1) (zif (x = nI 9) (nI t.2.2.2.2.1) (-2)))))
theorem toC_out {t : sqT} {x : Int32} (h : x.toInt < (5 : Nat) ∨ ((9 : Nat) : Int) < x.toInt) : toC t x = -2 := by
  unfold toC
  rw [zif_f (tb_ne h (by decide) (by decide) (by decide)), zif_f (tb_ne h (by decide) (by decide) (by decide)), zif_f (tb_ne h (by decide) (by decide) (by decide)), zif_f (tb_ne h (by decide) (by decide) (by decide)), zif_f (tb_ne h (by decide) (by decide) (by decide))]
noncomputable def tdC (n nf ca stt : Nat) (Nb : Nat → Nat) (t : sqT) (x : Int32) : Int32 := zif (x = nI 0) (nI n) (zif (x = nI 1) (nI nf) (zif (x = nI 2) (nI ca) (zif (x = nI 3) (nI stt) (zif (x = nI 4) (nI (popS Nb n / 2)) (toC t x)))))
theorem tdC_out {n nf ca stt : Nat} {Nb : Nat → Nat} {t : sqT} {x : Int32} (h : x.toInt < (0 : Nat) ∨ ((4 : Nat) : Int) < x.toInt) : tdC n nf ca stt Nb t x = toC t x := by
  unfold tdC
  rw [zif_f (tb_ne h (by decide) (by decide) (by decide)), zif_f (tb_ne h (by decide) (by decide) (by decide)), zif_f (tb_ne h (by decide) (by decide) (by decide)), zif_f (tb_ne h (by decide) (by decide) (by decide)), zif_f (tb_ne h (by decide) (by decide) (by decide))]
noncomputable def tkC (n : Nat) (V : Nat → Nat) (t : sqT) (j : Nat) (y : Int32) : Int32 := zif (y = nI 0) (nI (t.2.2.2.2.2.1 j)) (zif (y = nI 1) (nI (t.2.2.2.2.2.2 j)) (zif (y = nI 2) (mI (parF (t.2.2.2.2.2.2 j) t.2.2.2.2.2.1 (n - (j + 1)) (j + 1))) (zif (y = nI 3) (nI (cellsF V (t.2.2.2.2.2.2 j) n)) (-2))))
theorem tkC_out {n : Nat} {V : Nat → Nat} {t : sqT} {j : Nat} {x : Int32} (h : x.toInt < (0 : Nat) ∨ ((3 : Nat) : Int) < x.toInt) : tkC n V t j x = -2 := by
  unfold tkC
  rw [zif_f (tb_ne h (by decide) (by decide) (by decide)), zif_f (tb_ne h (by decide) (by decide) (by decide)), zif_f (tb_ne h (by decide) (by decide) (by decide)), zif_f (tb_ne h (by decide) (by decide) (by decide))]
theorem mcF_le {V Bg : Nat → Nat} {n : Nat} (hn : n ≤ 12) (hV : ∀ j, V j ≤ 4) : ∀ i, mcF V Bg n i ≤ 16777216
  | 0 => Nat.zero_le _
  | i + 1 => by
    have h1 := mcF_le (Bg := Bg) hn hV i
    have h2 := cellsF_b hV (Bg i) hn
    show max (mcF V Bg n i) (cellsF V (Bg i) n) ≤ _
    omega
theorem srZ_mx {Nb V : Nat → Nat} {n kn : Nat} {t : sqT} (hn : n ≤ 12) (hV : ∀ j, V j ≤ 4) (h : t.2.2.2.2.1 ≤ 16777216) : (srZ Nb V n kn t).2.2.2.2.1 ≤ 16777216 := by
  unfold srZ
  split
  · exact mcF_le hn hV n
  · exact h
theorem srZ_od {Nb V : Nat → Nat} {n kn : Nat} {t : sqT} (hn : n ≤ 12) (h : ∀ i, t.2.2.2.2.2.1 i < 12) : ∀ i, (srZ Nb V n kn t).2.2.2.2.2.1 i < 12 := fun i => by
  unfold srZ
  split
  · show rowF t.2.2.2.2.2.1 (fun j => j) n i < 12
    unfold rowF
    split
    · rename_i q
      exact Nat.lt_of_lt_of_le q hn
    · exact h i
  · exact h i
theorem srZ_bg {Nb V : Nat → Nat} {n kn : Nat} {t : sqT} (hn : n ≤ 12) (hN : ∀ i, Nb i < 4096) (h : ∀ i, t.2.2.2.2.2.2 i < 4096) : ∀ i, (srZ Nb V n kn t).2.2.2.2.2.2 i < 4096 := fun i => by
  unfold srZ
  split
  · show rowF t.2.2.2.2.2.2 (bgC Nb n (rowF t.2.2.2.2.2.1 (fun j => j) n)) n i < 4096
    unfold rowF
    split
    · rename_i q
      exact bagF_lt hN (by show (if i < n then i else _) < 12; rw [if_pos q]; omega)
    · exact h i
  · exact h i
/-- a factor with another entry, with other copies -/
def ptF (x : fR) (y v : Nat) : fR := (x.1, x.2.1, yN x, yS x, va_up (yE x) y v, va_up (yP x) y (v ^ xT x))
def cpF (x : fR) (k : Nat) : fR := (x.1, (xX x, k, xK x, xC x), yN x, yS x, yE x, rowF (yP x) (fun y => yE x y ^ k) (xC x))
-- Euclid's steps
theorem gd_step {g l s : Nat} (hl : 0 < l) (h : s = 0 ∧ g < 2 ^ 62 ∧ l < 2 ^ 62 ∨ l < g ∧ g * l * 2 ^ s < 2 ^ 125) : g % l < l ∧ l * (g % l) * 2 ^ (s + 1) < 2 ^ 125 := by
  have h1 : g % l < l := Nat.mod_lt _ hl
  refine ⟨h1, ?_⟩
  rcases h with ⟨rfl, hg, hl2⟩ | ⟨h2, h3⟩
  · have a1 : l * (g % l) ≤ l * l := Nat.mul_le_mul_left _ (by omega)
    have a2 : l * l ≤ (2 ^ 62 - 1) * (2 ^ 62 - 1) := Nat.mul_le_mul (by omega) (by omega)
    have : (2 ^ 62 - 1) * (2 ^ 62 - 1) * 2 < 2 ^ 125 := by decide
    rw [Nat.zero_add, Nat.pow_one]
    omega
  · have e : g % l * 2 ≤ g := by
      have := Nat.mod_add_div g l
      have h4 : 1 ≤ g / l := Nat.div_pos (by omega) hl
      have h5 : l ≤ l * (g / l) := Nat.le_mul_of_pos_right l h4
      omega
    have e2 : l * (g % l) * 2 ^ (s + 1) = l * (g % l * 2) * 2 ^ s := by
      rw [Nat.pow_succ, Nat.mul_assoc, Nat.mul_comm (2 ^ s) 2, ← Nat.mul_assoc, ← Nat.mul_assoc, ← Nat.mul_assoc]
    rw [e2]
    refine Nat.lt_of_le_of_lt (Nat.mul_le_mul_right _ (Nat.mul_le_mul_left _ e)) ?_
    rw [Nat.mul_comm l g]
    exact h3
theorem gd_end {g l s : Nat} (hs : 128 ≤ s) (h : l < g ∧ g * l * 2 ^ s < 2 ^ 125) : l = 0 := by
  rcases Nat.eq_zero_or_pos l with q | q
  · exact q
  · have h1 : 1 ≤ g * l := Nat.mul_pos (by omega) q
    have h2 : 2 ^ 128 ≤ 2 ^ s := Nat.pow_le_pow_right (by decide) hs
    have h3 : 1 * 2 ^ 128 ≤ g * l * 2 ^ s := Nat.mul_le_mul h1 h2
    have h4 : (2 : Nat) ^ 125 < 1 * 2 ^ 128 := by decide
    omega
def faC (n ca : Nat) (x : Int32) : Prop := stP x n ∧ popc (tn x) ≤ 4 ∧ ca < 16
def puC (X : Nat → fR) (nf : Nat) (f y v : Int32) : Prop := knP f nf ∧ knP y (xC (X (tn f))) ∧ inZ v.toInt64 (lN 0) (lN 7)
def coC2 (X : Nat → fR) (nf ca : Nat) (f y : Int32) : Prop := knP f nf ∧ inZ y.toInt64 (lN 1) (lN 3) ∧ ca - xT (X (tn f)) + tn y ≤ 16
/-- the search: known, counted, cells, least, found -/
abbrev srT : Type := Nat × Nat × (Nat → Nat) × (Nat → Nat) × (Nat → Nat)
def ocP (n : Nat) (V Nb Pl : Nat → Nat) (kd wd fi ci mx kn : Nat) (Od Bg : Nat → Nat) (kn2 cn : Nat) (Lc Le Fo : Nat → Nat) (x : Int32) (u : (sqT × Nat) × srT) : Prop :=
  (¬ (inZ x.toInt64 (lN 0) (lN 5) ∧ (x = nI 1 → poF Pl n = 2 ^ n - 1)) ∧ u = (((kd, wd, fi, ci, mx, Od, Bg), kn), (kn2, cn, Lc, Le, Fo))) ∨
  ((inZ x.toInt64 (lN 0) (lN 5) ∧ (x = nI 1 → poF Pl n = 2 ^ n - 1) ∧ ¬ x = nI 5) ∧ u = ((tkZ Nb V n (tn x) (arC (ctC Nb V Pl Fo n (tn x)) Od n) Bg, 1), (kn2, cn, Lc, Le, Fo))) ∨
  (x = nI 5 ∧ ((kn2 = 1 ∧ u = ((tkZ Nb V n 5 (arC (ctC Nb V Pl Fo n 5) Od n) Bg, 1), (kn2, cn, Lc, Le, Fo))) ∨
    (kn2 = 0 ∧ u = ((tkZ Nb V n 5 (arC (ctC Nb V Pl (fdR V Nb Lc Le Fo n) n 5) Od n) Bg, 1), (1, 2 ^ n, clR V Lc n, ccR Nb (clR V Lc n) (lwR Nb Le n (2 ^ n - 1)) n (lwR Nb Le n (2 ^ n - 1) 0) (2 ^ n - 1), fdR V Nb Lc Le Fo n)))))
