-- the face: what is read off the weights
abbrev osT : Type := (Nat → Nat) × (Nat → Nat) × (Nat → Nat) × Nat × Nat × Nat
def oZ (n nf : Nat) (V Pl Se : Nat → Nat) (o : osT) : rfT := rfZ n nf o.2.2.2.2.2 o.2.2.2.1 o.2.2.2.2.1 V Pl Se o.1 o.2.1 o.2.2.1
def oB (o : osT) : Prop := (∀ i, o.1 i < 4096) ∧ (∀ i, o.2.1 i < 12) ∧ (∀ i, o.2.2.1 i < 4096) ∧ o.2.2.2.2.2 ≤ 1
def oS (n nf : Nat) (V Pl Se : Nat → Nat) (o u : osT) : Prop := (oZ n nf V Pl Se u).2 = (oZ n nf V Pl Se o).2 ∧ oB u
abbrev fcT : Type := osT × (Nat → Nat) × (Nat → Nat) × (Nat → Nat) × Nat
def fcP (n nf : Nat) (V Pl Se : Nat → Nat) (o : osT) (u : fcT) : Prop := oS n nf V Pl Se o u.1 ∧ (∀ i, u.2.2.1 i ≤ 33232930569601) ∧ (∀ i, u.2.2.2.1 i ≤ 65536) ∧ u.2.2.2.2 ≤ 24
theorem oS_a {n nf kd fi sl : Nat} {V Pl Se Li Od Bg : Nat → Nat} (h1 : ∀ i, Li i < 4096) (h2 : ∀ i, Od i < 12) (h3 : ∀ i, Bg i < 4096) (h4 : sl ≤ 1) : oS n nf V Pl Se (Li, Od, Bg, kd, fi, sl) (Li, Od, Bg, kd, fi, sl) := ⟨rfl, h1, h2, h3, h4⟩
theorem oS_b {n nf kd fi sl : Nat} {V Pl Se Li Od Bg : Nat → Nat} (hn : n ≤ 12) (hS : ∀ i, Se i < 4096) (h1 : ∀ i, Li i < 4096) (h2 : ∀ i, Od i < 12) (h3 : ∀ i, Bg i < 4096) : oS n nf V Pl Se (Li, Od, Bg, kd, fi, sl) ((rfZ n nf sl kd fi V Pl Se Li Od Bg).1, (rfZ n nf sl kd fi V Pl Se Li Od Bg).2.1, (rfZ n nf sl kd fi V Pl Se Li Od Bg).2.2.1, (rfZ n nf sl kd fi V Pl Se Li Od Bg).2.2.2.1, (rfZ n nf sl kd fi V Pl Se Li Od Bg).2.2.2.2, 0) := by
  obtain ⟨b1, b2, b3⟩ := rfZ_B (nf := nf) (sl := sl) (kd := kd) (fi := fi) (V := V) (Pl := Pl) hn hS h1 h2 h3
  exact ⟨by unfold oZ; rw [rfZ_0 rfl], b1, b2, b3, Nat.zero_le 1⟩
theorem rkF_B {wt : Nat → Nat} {B N : Nat} (hw : ∀ x, wt x ≤ B) {T S : Nat → Nat} (hT : ∀ i, T i ≤ B) (hS : ∀ i, S i ≤ N) : ∀ k, k ≤ N + 1 → (∀ i, (rkF wt (T, S, 0) k).1 i ≤ B) ∧ (∀ i, (rkF wt (T, S, 0) k).2.1 i ≤ N) ∧ (rkF wt (T, S, 0) k).2.2 ≤ 24
  | 0, _ => ⟨hT, hS, Nat.zero_le _⟩
  | k + 1, hk => by
    obtain ⟨h1, h2, h3⟩ := rkF_B hw hT hS k (by omega)
    by_cases h : wt k = 0
    · rw [rkF_0 h]; exact ⟨h1, h2, h3⟩
    · rw [rkF_1 h]
      refine ⟨fun i => ?_, fun i => ?_, ?_⟩
      · show rkSh _ _ _ _ i ≤ B
        unfold rkSh va_up
        split
        · exact hw k
        · unfold shP
          split
          · exact h1 _
          · exact h1 _
      · show rkSh _ _ _ _ i ≤ N
        unfold rkSh va_up
        split
        · omega
        · unfold shP
          split
          · exact h2 _
          · exact h2 _
      · show (if _ then _ else _) ≤ 24
        split
        · rename_i hq
          exact hq
        · exact Nat.le_refl 24
def cnF (wt : Nat → Nat) : Nat → Nat
  | 0 => 0
  | k + 1 => if wt k = 0 then cnF wt k else cnF wt k + 1
theorem cnF_0 {wt : Nat → Nat} {k : Nat} (h : wt k = 0) : cnF wt (k + 1) = cnF wt k := by simp [cnF, h]
theorem cnF_1 {wt : Nat → Nat} {k : Nat} (h : wt k ≠ 0) : cnF wt (k + 1) = cnF wt k + 1 := by simp [cnF, h]
/-- the weights where g has the value q -/
def whF (wt g : Nat → Nat) (q : Nat) : Nat → Nat := fun k => if g k = q then wt k else 0
theorem whF_t {wt g : Nat → Nat} {q k : Nat} (h : g k = q) : whF wt g q k = wt k := by unfold whF; rw [if_pos h]
theorem whF_f {wt g : Nat → Nat} {q k : Nat} (h : g k ≠ q) : whF wt g q k = 0 := by unfold whF; rw [if_neg h]
def dwF (wt : Nat → Nat) (U : Nat) : Nat → Nat → Nat
  | 0, k => k
  | f + 1, k => if U < smF wt k then k else dwF wt U f (k + 1)
theorem dwF_y {wt : Nat → Nat} {U f k : Nat} (h : U < smF wt k) : dwF wt U (f + 1) k = k := by simp [dwF, h]
theorem dwF_n {wt : Nat → Nat} {U f k : Nat} (h : smF wt k ≤ U) : dwF wt U (f + 1) k = dwF wt U f (k + 1) := by
  show (if U < smF wt k then k else dwF wt U f (k + 1)) = _
  rw [if_neg (by omega)]
theorem smF_mono {wt : Nat → Nat} {a b : Nat} (h : a ≤ b) : smF wt a ≤ smF wt b := by
  induction b with
  | zero => rw [show a = 0 by omega]; exact Nat.le_refl _
  | succ b ih =>
    rcases Nat.lt_or_ge a (b + 1) with q | q
    · exact Nat.le_trans (ih (by omega)) (Nat.le_add_right _ _)
    · rw [show a = b + 1 by omega]; exact Nat.le_refl _
/-- too much for the memory -/
def tmP (n nf mem : Nat) (V Pl Se : Nat → Nat) (o : osT) : Prop := mem < mcF V (oZ n nf V Pl Se o).2.2.1 n n
theorem sm_b {wt : Nat → Nat} (h : ∀ x, wt x ≤ 33232930569601) {k : Nat} (hk : k ≤ 65536) : smF wt k ≤ 2177953337809371136 := Nat.le_trans (smF_le h k) (by
  have := Nat.mul_le_mul_right 33232930569601 hk
  exact Nat.le_trans this (by decide))
theorem wh_b {wt g : Nat → Nat} {q : Nat} (h : ∀ x, wt x ≤ 33232930569601) : ∀ x, whF wt g q x ≤ 33232930569601 := fun x => by
  unfold whF
  split
  · exact h x
  · omega
