-- apart: what is reached outside of a set, by passes
def apN (L : Nat → Nat) (S sn : Nat) : Nat → Nat
  | 0 => sn
  | c + 1 => if sn.testBit c = true then apN L S sn c ||| sdf (L c) S else apN L S sn c
theorem apN_t {L : Nat → Nat} {S sn c : Nat} (h : sn.testBit c = true) : apN L S sn (c + 1) = apN L S sn c ||| sdf (L c) S := by simp only [apN, if_pos h]
theorem apN_f {L : Nat → Nat} {S sn c : Nat} (h : sn.testBit c = false) : apN L S sn (c + 1) = apN L S sn c := by
  simp only [apN, h]
  rfl
theorem apN_lt {L : Nat → Nat} (hL : ∀ i, L i < 4096) {S sn : Nat} (h : sn < 4096) : ∀ b, apN L S sn b < 4096
  | 0 => h
  | b + 1 => by
    cases hc : sn.testBit b
    · rw [apN_f hc]; exact apN_lt hL h b
    · rw [apN_t hc]; exact or_lt (apN_lt hL h b) (Nat.lt_of_le_of_lt (sdf_le _ _) (hL b))
theorem apN_ge {L : Nat → Nat} {S sn : Nat} : ∀ b, sn ≤ apN L S sn b
  | 0 => Nat.le_refl sn
  | b + 1 => by
    cases hc : sn.testBit b
    · rw [apN_f hc]; exact apN_ge b
    · rw [apN_t hc]; exact Nat.le_trans (apN_ge b) (or_ge _ _)
def apX (L : Nat → Nat) (n S : Nat) : Nat → Nat → Nat
  | 0, sn => sn
  | k + 1, sn => if apN L S sn n = sn then sn else apX L n S k (apN L S sn n)
theorem apX_e {L : Nat → Nat} {n S k sn : Nat} (h : apN L S sn n = sn) : apX L n S (k + 1) sn = sn := by simp only [apX, if_pos h]
theorem apX_n {L : Nat → Nat} {n S k sn : Nat} (h : ¬ apN L S sn n = sn) : apX L n S (k + 1) sn = apX L n S k (apN L S sn n) := by simp only [apX, if_neg h]
def apOk (n : Nat) (x y z : Int32) : Prop := knP x n ∧ knP y n ∧ stP z n
noncomputable def apA (n nf : Nat) (Se Li : Nat → Nat) (x y z : Int32) : Int32 :=
  zif (apOk n x y z) (zif ((tn z).testBit (tn x) = true ∨ (tn z).testBit (tn y) = true) (nI 1) (zif ((apX (rowF Li (drF Se nf) n) n (tn z) 4096 (2 ^ tn x)).testBit (tn y) = true) (nI 0) (nI 1))) (-1)
-- taken, told
def paF (Od Bg : Nat → Nat) (i : Nat) : Nat → Nat → Nat
  | 0, _ => 0
  | f + 1, j => if (Bg i).testBit (Od j) then j + 1 else paF Od Bg i f (j + 1)
theorem paF_y {Od Bg : Nat → Nat} {i f j : Nat} (h : (Bg i).testBit (Od j) = true) : paF Od Bg i (f + 1) j = j + 1 := by simp [paF, h]
theorem paF_n {Od Bg : Nat → Nat} {i f j : Nat} (h : (Bg i).testBit (Od j) = false) : paF Od Bg i (f + 1) j = paF Od Bg i f (j + 1) := by simp [paF, h]
noncomputable def tkR (n : Nat) (V : Nat → Nat) (r : rfT) (j q : Nat) : Int32 := zif (q = 0) (nI (r.2.1 j)) (zif (q = 1) (nI (r.2.2.1 j)) (zif (q = 3) (nI (cellsF V (r.2.2.1 j) n)) (mI (paF r.2.1 r.2.2.1 j (n - (j + 1)) (j + 1)))))
def csF (V Bg : Nat → Nat) (n : Nat) : Nat → Nat
  | 0 => 0
  | i + 1 => csF V Bg n i + cellsF V (Bg i) n
def tdR (n stt nf : Nat) (V Se Co : Nat → Nat) (r : rfT) : Nat → Int32
  | 0 => nI n
  | 1 => nI nf
  | 2 => nI (sumF Co nf)
  | 3 => nI stt
  | 4 => nI (popS (drF Se nf) n / 2)
  | 5 => nI r.2.2.2.1
  | 6 => mI (wdF r.2.2.1 n)
  | 7 => nI r.2.2.2.2
  | 8 => nI (csF V r.2.2.1 n n)
  | _ => nI (mcF V r.2.2.1 n n)
theorem oS_c {n nf kd fi sl : Nat} {V Pl Se Li Od Bg L2 : Nat → Nat} (hn : n ≤ 12) (hS : ∀ i, Se i < 4096) (h1 : ∀ i, Li i < 4096) (h2 : ∀ i, Od i < 12) (h3 : ∀ i, Bg i < 4096) (h4 : ∀ i, L2 i < 4096) : oS n nf V Pl Se (Li, Od, Bg, kd, fi, sl) (L2, (rfZ n nf sl kd fi V Pl Se Li Od Bg).2.1, (rfZ n nf sl kd fi V Pl Se Li Od Bg).2.2.1, (rfZ n nf sl kd fi V Pl Se Li Od Bg).2.2.2.1, (rfZ n nf sl kd fi V Pl Se Li Od Bg).2.2.2.2, 0) := by
  obtain ⟨b1, b2, b3⟩ := rfZ_B (nf := nf) (sl := sl) (kd := kd) (fi := fi) (V := V) (Pl := Pl) hn hS h1 h2 h3
  exact ⟨by unfold oZ; rw [rfZ_0 rfl], h4, b2, b3, Nat.zero_le 1⟩
