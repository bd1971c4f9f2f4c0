-- ranks
abbrev rkT : Type := (Nat → Nat) × (Nat → Nat) × Nat
def rkAt (T : Nat → Nat) (w : Nat) : Nat → Nat
  | 0 => 0
  | p + 1 => if T p < w then rkAt T w p else p + 1
theorem rkAt_y {T : Nat → Nat} {w p : Nat} (h : T p < w) : rkAt T w (p + 1) = rkAt T w p := by simp [rkAt, h]
theorem rkAt_n {T : Nat → Nat} {w p : Nat} (h : w ≤ T p) : rkAt T w (p + 1) = p + 1 := by
  unfold rkAt
  rw [if_neg (by omega)]
def shP (f : Nat → Nat) (tp p : Nat) : Nat → Nat := fun j => if p < j ∧ j ≤ tp then f (j - 1) else f j
def rkSh (f : Nat → Nat) (tp p v : Nat) : Nat → Nat := va_up (shP f tp p) p v
theorem shP_tp (f : Nat → Nat) (tp : Nat) : shP f tp tp = f := by
  funext j
  unfold shP
  rw [if_neg (by omega)]
theorem shP_at {f : Nat → Nat} {tp p j : Nat} (h : j ≤ p) : shP f tp p j = f j := by
  unfold shP
  rw [if_neg (by omega)]
theorem shP_s {f : Nat → Nat} {tp q : Nat} (h : q + 1 ≤ tp) : va_up (shP f tp (q + 1)) (q + 1) (f q) = shP f tp q := by
  funext j
  unfold va_up shP
  by_cases h1 : j = q + 1
  · rw [if_pos h1, if_pos (by omega), h1, Nat.add_sub_cancel]
  · rw [if_neg h1]
    by_cases h2 : q + 1 < j ∧ j ≤ tp
    · rw [if_pos h2, if_pos (by omega)]
    · rw [if_neg h2, if_neg (by omega)]
def rkN (w k : Nat) (s : rkT) : rkT := (rkSh s.1 s.2.2 (rkAt s.1 w s.2.2) w, rkSh s.2.1 s.2.2 (rkAt s.1 w s.2.2) k, if s.2.2 < 24 then s.2.2 + 1 else 24)
def rkF (wt : Nat → Nat) (s0 : rkT) : Nat → rkT
  | 0 => s0
  | k + 1 => if wt k = 0 then rkF wt s0 k else rkN (wt k) k (rkF wt s0 k)
theorem rkF_0 {wt : Nat → Nat} {s0 : rkT} {k : Nat} (h : wt k = 0) : rkF wt s0 (k + 1) = rkF wt s0 k := by simp [rkF, h]
theorem rkF_1 {wt : Nat → Nat} {s0 : rkT} {k : Nat} (h : wt k ≠ 0) : rkF wt s0 (k + 1) = rkN (wt k) k (rkF wt s0 k) := by simp [rkF, h]
theorem pk_m1i (q : Nat) : nI (q + 1) + Int32.ofInt (-1) = nI q := by
  rw [show Int32.ofInt (-1) = -1 by decide]
  exact pk_m1 q
-- the order as it stands when it is asked for
abbrev rfT : Type := (Nat → Nat) × (Nat → Nat) × (Nat → Nat) × Nat × Nat
def rfZ (n nf sl kd fi : Nat) (V Pl Se Li Od Bg : Nat → Nat) : rfT :=
  if sl = 0 then (Li, Od, Bg, kd, fi) else ((wkZ 0 V Pl Se Li Od Bg n nf).1, (wkZ 0 V Pl Se Li Od Bg n nf).2.2.1, (wkZ 0 V Pl Se Li Od Bg n nf).2.2.2.1, 0, (wkZ 0 V Pl Se Li Od Bg n nf).2.2.2.2)
theorem rfZ_0 {n nf sl kd fi : Nat} {V Pl Se Li Od Bg : Nat → Nat} (h : sl = 0) : rfZ n nf sl kd fi V Pl Se Li Od Bg = (Li, Od, Bg, kd, fi) := by unfold rfZ; rw [if_pos h]
theorem rfZ_1 {n nf sl kd fi : Nat} {V Pl Se Li Od Bg : Nat → Nat} (h : sl ≠ 0) : rfZ n nf sl kd fi V Pl Se Li Od Bg = ((wkZ 0 V Pl Se Li Od Bg n nf).1, (wkZ 0 V Pl Se Li Od Bg n nf).2.2.1, (wkZ 0 V Pl Se Li Od Bg n nf).2.2.2.1, 0, (wkZ 0 V Pl Se Li Od Bg n nf).2.2.2.2) := by unfold rfZ; rw [if_neg h]
/-- bounds that the steps keep -/
def wkB (n : Nat) (s : wkT) : Prop := (∀ i, s.1 i < 4096) ∧ (∀ i, s.2.2.1 i < 12) ∧ (∀ i, s.2.2.2.1 i < 4096)
theorem wkN_B {n i a : Nat} {s : wkT} (ha : a < 12) (h : wkB n s) : wkB n (wkN n i a s) := by
  obtain ⟨h1, h2, h3⟩ := h
  refine ⟨toF_lt h1, fun j => ?_, fun j => ?_⟩
  · show va_up s.2.2.1 i a j < 12
    unfold va_up
    split
    · exact ha
    · exact h2 j
  · show va_up s.2.2.2.1 i (s.1 a ||| 2 ^ a) j < 4096
    unfold va_up
    split
    · exact or_lt (h1 a) (pw_lt ha)
    · exact h3 j
theorem wkF_B0 {V Pl : Nat → Nat} {n : Nat} {s0 : wkT} (hn : n ≤ 12) (h : wkB n s0) : ∀ i, i ≤ n → wkB n (wkF 0 V Pl n s0 i)
  | 0, _ => h
  | i + 1, hi => by
    refine wkN_B ?_ (wkF_B0 hn h i (by omega))
    unfold wkC
    rw [if_neg (by decide), if_neg (by decide)]
    omega
theorem rfZ_B {n nf sl kd fi : Nat} {V Pl Se Li Od Bg : Nat → Nat} (hn : n ≤ 12) (hS : ∀ i, Se i < 4096) (h1 : ∀ i, Li i < 4096) (h2 : ∀ i, Od i < 12) (h3 : ∀ i, Bg i < 4096) :
    (∀ i, (rfZ n nf sl kd fi V Pl Se Li Od Bg).1 i < 4096) ∧ (∀ i, (rfZ n nf sl kd fi V Pl Se Li Od Bg).2.1 i < 12) ∧ (∀ i, (rfZ n nf sl kd fi V Pl Se Li Od Bg).2.2.1 i < 4096) := by
  by_cases h : sl = 0
  · rw [rfZ_0 h]; exact ⟨h1, h2, h3⟩
  · rw [rfZ_1 h]
    obtain ⟨a, b, c⟩ := wkF_B0 (V := V) (Pl := Pl) (s0 := (rowF Li (drF Se nf) n, 0, Od, Bg, 0)) hn ⟨drw_lt h1 hS, h2, h3⟩ n (Nat.le_refl n)
    exact ⟨a, b, c⟩
