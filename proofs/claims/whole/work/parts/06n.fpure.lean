-- the face: small things
def tn (x : Int32) : Nat := x.toNatClampNeg
theorem tn_nI {k : Nat} (h : k < 2 ^ 31) : tn (nI k) = k := nI_clamp h
theorem in_nat {x : Int32} {a b : Nat} (ha : a < 2 ^ 31) (hb : b < 2 ^ 31) (h : inZ x.toInt64 (lN a) (lN b)) : ∃ k, a ≤ k ∧ k ≤ b ∧ x = nI k := by
  unfold inZ at h
  rw [Int64.lt_iff_toInt_lt, Int64.lt_iff_toInt_lt, i64_of, lN_toInt ha, lN_toInt hb] at h
  have h0 : ¬ x < 0 := by
    rw [Int32.lt_iff_toInt_lt]
    have : (0 : Int32).toInt = 0 := by decide
    rw [this]
    omega
  obtain ⟨k, hk, rfl⟩ := nI_of h0
  rw [nI_toInt hk] at h
  exact ⟨k, by omega, by omega, rfl⟩
theorem kn_nat {x : Int32} {n : Nat} (hn : n < 2 ^ 31) (h : knP x n) : ∃ k, k < n ∧ x = nI k := by
  obtain ⟨k, hk, rfl⟩ := nI_of h.1
  have h2 := h.2
  rw [nI_leI hn hk] at h2
  exact ⟨k, by omega, rfl⟩
theorem st_nat {x : Int32} {n : Nat} (hn : n ≤ 12) (h : stP x n) : ∃ S, S < 2 ^ n ∧ x = nI S := by
  have h4 : 2 ^ n ≤ 4096 := Nat.pow_le_pow_right (by decide) hn
  exact kn_nat (n := 2 ^ n) (by omega) h
theorem in_nat1 {x : Int32} {k : Nat} (hk : k < 2 ^ 30) (h : inZ x.toInt64 (lN 0) (mI k).toInt64) : ∃ e, e < k ∧ x = nI e := kn_nat (by omega) ((in_kn hk).mp h)
/-- name -/
def nmOk (n stt : Nat) (x : Int32) : Prop := inZ x.toInt64 (lN 2) (lN 4) ∧ n ≠ 12 ∧ stt * tn x ≤ 65536
noncomputable def nmA (n stt : Nat) (x : Int32) : Int32 := zif (inZ x.toInt64 (lN 2) (lN 4)) (zif (nmOk n stt x) (nI n) (-4)) (-2)
/-- factor -/
def faOk (n nf : Nat) (Co : Nat → Nat) (x : Int32) : Prop := stP x n ∧ popc (tn x) ≤ 4 ∧ nf ≠ 16 ∧ sumF Co nf ≠ 16
noncomputable def faA (n nf : Nat) (Co : Nat → Nat) (x : Int32) : Int32 := zif (stP x n) (zif (popc (tn x) ≤ 4) (zif (faOk n nf Co x) (nI nf) (-4)) (-2)) (-1)
/-- put -/
def puOk (n nf : Nat) (V Se : Nat → Nat) (f e v : Int32) : Prop := knP f nf ∧ knP e (cellsF V (Se (tn f)) n) ∧ inZ v.toInt64 (lN 0) (lN 7)
noncomputable def puA (n nf : Nat) (V Se En : Nat → Nat) (f e v : Int32) : Int32 := zif (knP f nf) (zif (puOk n nf V Se f e v) (nI (En (256 * tn f + tn e))) (-2)) (-1)
/-- copies -/
def coOk (nf : Nat) (Co : Nat → Nat) (f k : Int32) : Prop := knP f nf ∧ inZ k.toInt64 (lN 1) (lN 3) ∧ sumF Co nf - Co (tn f) + tn k ≤ 16
noncomputable def coA (nf : Nat) (Co : Nat → Nat) (f k : Int32) : Int32 := zif (knP f nf) (zif (inZ k.toInt64 (lN 1) (lN 3)) (zif (coOk nf Co f k) (nI (Co (tn f))) (-4)) (-2)) (-1)
/-- evidence -/
def evOk (n : Nat) (V : Nat → Nat) (x v : Int32) : Prop := knP x n ∧ inZ v.toInt64 (mL 0) (mI (V (tn x))).toInt64
noncomputable def evA (n : Nat) (V Bd : Nat → Nat) (x v : Int32) : Int32 := zif (knP x n) (zif (evOk n V x v) (mI (Bd (tn x))) (-2)) (-1)
def tm (v : Int32) : Nat := (v.toInt + 1).toNat
theorem ev_nat {v : Int32} {k : Nat} (hk : k < 2 ^ 30) (h : inZ v.toInt64 (mL 0) (mI k).toInt64) : ∃ e, e ≤ k ∧ v = mI e := by
  unfold inZ at h
  rw [Int64.lt_iff_toInt_lt, Int64.lt_iff_toInt_lt, i64_of, i64_of, mI_toInt hk, mL_toInt (by decide)] at h
  refine ⟨(v.toInt + 1).toNat, by omega, ?_⟩
  apply Int32.toInt_inj.mp
  rw [mI_toInt (by omega)]
  omega
theorem tm_mI {e : Nat} (h : e < 2 ^ 30) : tm (mI e) = e := by
  unfold tm
  rw [mI_toInt h]
  omega
/-- memory, place -/
noncomputable def meA (mem : Nat) (x : Int32) : Int32 := zif (inZ x.toInt64 (lN 1) (lN 65536)) (nI mem) (-2)
def plOk (n : Nat) (i x : Int32) : Prop := inZ i.toInt64 (lN 0) (lN 11) ∧ knP x n
noncomputable def plA (n : Nat) (Pl : Nat → Nat) (i x : Int32) : Int32 := zif (inZ i.toInt64 (lN 0) (lN 11)) (zif (plOk n i x) (mI (Pl (tn i))) (-1)) (-2)
/-- the entries with ones from b on, c of them -/
def onF (En : Nat → Nat) (b c : Nat) : Nat → Nat := fun j => if b ≤ j ∧ j < b + c then 1 else En j
theorem onF_0 (En : Nat → Nat) (b : Nat) : onF En b 0 = En := by
  funext j
  unfold onF
  rw [if_neg (by omega)]
theorem onF_s (En : Nat → Nat) (b c : Nat) : va_up (onF En b c) (b + c) 1 = onF En b (c + 1) := by
  funext j
  unfold va_up onF
  by_cases h : j = b + c
  · rw [if_pos h, if_pos (by omega)]
  · rw [if_neg h]
    by_cases h2 : b ≤ j ∧ j < b + c
    · rw [if_pos h2, if_pos (by omega)]
    · rw [if_neg h2, if_neg (by omega)]
theorem mI_0 : mI 0 = -1 := by decide
theorem sumF_in {Co : Nat → Nat} {f nf : Nat} (h : f < nf) : Co f ≤ sumF Co nf := Nat.le_trans (Nat.le_add_left _ _) (sumF_at (Co := Co) h)
