-- LEVEL 2, the graph: what is filled
theorem sumF_cg {f g : Nat → Nat} : ∀ n, (∀ i, i < n → f i = g i) → sumF f n = sumF g n
  | 0, _ => rfl
  | n + 1, h => by
    simp only [sumF]
    rw [sumF_cg n (fun i hi => h i (by omega)), h n (by omega)]
theorem sumF_add {f g : Nat → Nat} : ∀ n, sumF (fun i => f i + g i) n = sumF f n + sumF g n
  | 0 => rfl
  | n + 1 => by
    simp only [sumF]
    rw [sumF_add n]
    omega
theorem sum_tri {g : Nat → Nat → Nat} (hs : ∀ i c, g i c = g c i) (h0 : ∀ i, g i i = 0) : ∀ n, sumF (fun i => sumF (g i) n) n = 2 * sumF (fun i => sumF (g i) i) n
  | 0 => rfl
  | n + 1 => by
    have ih := sum_tri hs h0 n
    have e1 : sumF (fun i => sumF (g i) (n + 1)) (n + 1) = sumF (fun i => sumF (g i) n + g i n) n + (sumF (g n) n + g n n) := rfl
    have e2 : sumF (fun i => sumF (g i) i) (n + 1) = sumF (fun i => sumF (g i) i) n + sumF (g n) n := rfl
    have e3 : sumF (fun i => g i n) n = sumF (g n) n := sumF_cg n (fun i _ => hs i n)
    rw [e1, e2, sumF_add, ih, e3, h0]
    omega
theorem popP_sum {S : Nat} : ∀ n, popP S n = sumF (bitN S) n
  | 0 => rfl
  | n + 1 => by
    simp only [popP, sumF]
    rw [popP_sum n]
theorem popP_hi {S n : Nat} (h : S < 2 ^ n) : ∀ k, popP S (n + k) = popP S n
  | 0 => rfl
  | k + 1 => by
    show popP S (n + k) + bitN S (n + k) = _
    rw [popP_hi h k, bitN_f (Nat.testBit_lt_two_pow (Nat.lt_of_lt_of_le h (Nat.pow_le_pow_right (by decide) (by omega))))]
    rfl
theorem popc_sum {S n : Nat} (hn : n ≤ 12) (h : S < 2 ^ n) : popc S = sumF (bitN S) n := by
  have := popP_hi h (12 - n)
  rw [show n + (12 - n) = 12 by omega, popP_12, popP_sum n] at this
  exact this
theorem fillS_sum {Nb : Nat → Nat} {n bag gone : Nat} : ∀ i, fillS Nb n bag gone i = sumF (fun j => if bag.testBit j then popc (sdf bag (rchF Nb n j gone)) else 0) i
  | 0 => rfl
  | i + 1 => by
    simp only [fillS, sumF]
    rw [fillS_sum i]
    split <;> rfl
theorem filI_sum {Li : Nat → Nat} {a b : Nat} : ∀ c, filI Li a b c = sumF (fun c => if (Li a).testBit b = true ∧ (Li a).testBit c = true ∧ (Li b).testBit c = false then 1 else 0) c
  | 0 => rfl
  | c + 1 => by
    simp only [filI, sumF]
    rw [filI_sum c]
    split <;> rfl
theorem filF_sum {Li : Nat → Nat} {a : Nat} : ∀ n, filF Li a n = sumF (fun b => filI Li a b b) n
  | 0 => rfl
  | n + 1 => by
    simp only [filF, sumF]
    rw [filF_sum n]
def fgB (Li : Nat → Nat) (x i c : Nat) : Bool := (Li x).testBit i && (Li x).testBit c && !(Li i).testBit c && !(i == c)
theorem fgB_iff {Li : Nat → Nat} {x i c : Nat} : fgB Li x i c = true ↔ (Li x).testBit i = true ∧ (Li x).testBit c = true ∧ (Li i).testBit c = false ∧ i ≠ c := by
  unfold fgB
  rw [Bool.and_eq_true, Bool.and_eq_true, Bool.and_eq_true, Bool.not_eq_true', Bool.not_eq_true', beq_eq_false_iff_ne]
  exact ⟨fun h => ⟨h.1.1.1, h.1.1.2, h.1.2, h.2⟩, fun h => ⟨⟨⟨h.1, h.2.1⟩, h.2.2.1⟩, h.2.2.2⟩⟩
theorem bitN_toNat {S i : Nat} : bitN S i = (S.testBit i).toNat := rfl
theorem boolN {a b : Bool} (h : a = true ↔ b = true) : a.toNat = b.toNat := by
  cases a <;> cases b <;> simp_all
theorem fil_tri {Li : Nat → Nat} {x n : Nat} : filF Li x n = sumF (fun i => sumF (fun c => (fgB Li x i c).toNat) i) n := by
  rw [filF_sum]
  refine sumF_cg n (fun i _ => ?_)
  rw [filI_sum]
  refine sumF_cg i (fun c hc => ?_)
  by_cases h : (Li x).testBit i = true ∧ (Li x).testBit c = true ∧ (Li i).testBit c = false
  · rw [if_pos h, fgB_iff.mpr ⟨h.1, h.2.1, h.2.2, by omega⟩]
    rfl
  · rw [if_neg h]
    cases hb : fgB Li x i c
    · rfl
    · exact absurd (fgB_iff.mp hb) (fun q => h ⟨q.1, q.2.1, q.2.2.1⟩)
/-- what the reference counts as filled is what the class counts -/
theorem el_fill {Nb Li : Nat → Nat} {n gone x : Nat} (hG : grOk Nb n) (hx : x < n) (hxg : gone.testBit x = false) (h : elOk Nb n gone Li) (hL : ∀ a, Li a < 2 ^ n) : fillS Nb n (bagF Nb n x gone) gone n / 2 = filF Li x n := by
  have hn := hG.1
  have hE := hG.2.2.1
  have hbag : ∀ c, (bagF Nb n x gone).testBit c = true ↔ Rp (nbP Nb) (btP gone) x c ∧ gone.testBit c = false := fun c => bagF_iff hG.1 hG.2.1 hx
  have hxc : ∀ c, (Li x).testBit c = true ↔ c ≠ x ∧ Rp (nbP Nb) (btP gone) x c ∧ gone.testBit c = false := fun c => h x hx hxg c
  have hb2 : bagF Nb n x gone < 2 ^ n := by
    rw [← el_bag hG hx hxg h]; exact or_lt2 (hL x) (pw_lt2 hx)
  have key : ∀ i, i < n → (if (bagF Nb n x gone).testBit i then popc (sdf (bagF Nb n x gone) (rchF Nb n i gone)) else 0) = sumF (fun c => (fgB Li x i c).toNat) n := fun i hi => by
    have hz : (bagF Nb n x gone).testBit i = false → sumF (fun c => (fgB Li x i c).toNat) n = 0 := fun hf => by
      have : sumF (fun c => (fgB Li x i c).toNat) n = sumF (fun _ => 0) n := sumF_cg n (fun c _ => by
        cases hb : fgB Li x i c
        · rfl
        · have h1 := (hxc i).mp (fgB_iff.mp hb).1
          have h2 := (hbag i).mpr h1.2
          rw [hf] at h2
          exact absurd h2 (by decide))
      rw [this]
      exact Nat.le_antisymm (Nat.le_trans (sumF_le (B := 0) (fun _ => Nat.le_refl 0) n) (by omega)) (Nat.zero_le _)
    cases hbi : (bagF Nb n x gone).testBit i
    · rw [if_neg (by decide), hz hbi]
    · rw [if_pos rfl, popc_sum hn (Nat.lt_of_le_of_lt (sdf_le _ _) hb2)]
      refine sumF_cg n (fun c hc => ?_)
      rw [bitN_toNat]
      apply boolN
      obtain ⟨hi1, hi2⟩ := (hbag i).mp hbi
      rw [tb_sdf, fgB_iff, hbag, hxc, hxc]
      have hrc : (rchF Nb n i gone).testBit c = false ↔ ¬ Rp (nbP Nb) (btP gone) i c := by
        rw [← rchF_iff hG.1 hG.2.1 hi]
        cases (rchF Nb n i gone).testBit c <;> simp
      have hic : (Li i).testBit c = false ↔ ¬ (c ≠ i ∧ Rp (nbP Nb) (btP gone) i c ∧ gone.testBit c = false) := by
        rw [← h i hi hi2 c]
        cases (Li i).testBit c <;> simp
      rw [hrc, hic]
      constructor
      · rintro ⟨⟨h1, h2⟩, h3⟩
        refine ⟨⟨fun e => h3 (e ▸ h1), hi1, hi2⟩, ⟨fun e => h3 (e ▸ Rp_sym hE hi1), h1, h2⟩, fun q => h3 q.2.1, fun e => h3 (e ▸ Rp_self)⟩
      · rintro ⟨-, ⟨-, h2, h3⟩, h4, h5⟩
        exact ⟨⟨h2, h3⟩, fun q => h4 ⟨fun e => h5 e.symm, q, h3⟩⟩
  have hsy : ∀ i c, (fgB Li x i c).toNat = (fgB Li x c i).toNat := fun i c => by
    apply boolN
    rw [fgB_iff, fgB_iff]
    have tr : ∀ i c, ((Li x).testBit i = true ∧ (Li x).testBit c = true ∧ (Li i).testBit c = false ∧ i ≠ c) → ((Li x).testBit c = true ∧ (Li x).testBit i = true ∧ (Li c).testBit i = false ∧ c ≠ i) := fun i c ⟨h1, h2, h3, h4⟩ => by
      refine ⟨h2, h1, ?_, fun e => h4 e.symm⟩
      have g1 := (hxc i).mp h1
      have g2 := (hxc c).mp h2
      have hi := tb_lt (hL x) h1
      have hc := tb_lt (hL x) h2
      cases q : (Li c).testBit i
      · rfl
      · have q2 := (h c hc g2.2.2 i).mp q
        have q3 := (h i hi g1.2.2 c).mpr ⟨fun e => h4 e.symm, Rp_sym hE q2.2.1, g2.2.2⟩
        rw [h3] at q3
        exact absurd q3 (by decide)
    exact ⟨tr i c, tr c i⟩
  rw [fillS_sum, sumF_cg n key, sum_tri (g := fun i c => (fgB Li x i c).toNat) hsy (fun i => by
    cases hb : fgB Li x i i
    · rfl
    · exact absurd rfl (fgB_iff.mp hb).2.2.2) n, fil_tri]
  omega
