theorem nmF_congr {Sx Sy V : Nat → Nat} {S : Nat} : ∀ n, (∀ i, i < n → Sx i = Sy i) → nmF Sx V S n = nmF Sy V S n
  | 0, _ => rfl
  | n + 1, h => by
    cases hb : S.testBit n
    · rw [nmF_f hb, nmF_f hb, nmF_congr n (fun i hi => h i (by omega))]
    · rw [nmF_t hb, nmF_t hb, nmF_congr n (fun i hi => h i (by omega)), h n (by omega)]
theorem nmF_lt {Sx V : Nat → Nat} {S : Nat} : ∀ n, (∀ i, i < n → Sx i < V i) → nmF Sx V S n < cellsF V S n
  | 0, _ => Nat.zero_lt_one
  | n + 1, h => by
    have h1 := nmF_lt (S := S) n (fun i hi => h i (by omega))
    cases hb : S.testBit n
    · rw [nmF_f hb, cellsF_f hb]; exact h1
    · rw [nmF_t hb, cellsF_t hb]
      have h2 := h n (by omega)
      have h3 : cellsF V S n * Sx n + cellsF V S n ≤ cellsF V S n * V n := by
        rw [← Nat.mul_succ]
        exact Nat.mul_le_mul_left _ h2
      omega
theorem valF_lt {V : Nat → Nat} {n x i : Nat} (h : 0 < V i) : valF V n x i < V i := Nat.mod_lt _ h
theorem evP_congr {Bd Sx Sy : Nat → Nat} {n : Nat} (h : ∀ i, i < n → Sx i = Sy i) : evP Bd Sx n ↔ evP Bd Sy n :=
  ⟨fun q k hk => by rw [← h k hk]; exact q k hk, fun q k hk => by rw [h k hk]; exact q k hk⟩
theorem prF_congr {V Sx Sy Se Co En : Nat → Nat} {n : Nat} (h : ∀ i, i < n → Sx i = Sy i) : ∀ f, prF V Sx Se Co En n f = prF V Sy Se Co En n f
  | 0 => rfl
  | f + 1 => by
    simp only [prF]
    rw [prF_congr h f, nmF_congr n h]
noncomputable def wtM (V Bd Se Co En : Nat → Nat) (n nf x : Nat) : Nat := wgF V Bd (valF V n x) Se Co En n nf
theorem wtM_0 {V Bd Se Co En Sx : Nat → Nat} {n nf x k : Nat} (hk : k < n) (h1 : Bd k ≠ 0) (h2 : Bd k ≠ rowF Sx (valF V n x) n k + 1) : wtM V Bd Se Co En n nf x = 0 := by
  unfold wtM wgF
  refine zif_f (fun h => ?_)
  rcases h k hk with q | q
  · exact h1 q
  · rw [rowF_lt hk] at h2
    exact h2 q
theorem wtM_p {V Bd Se Co En Sx : Nat → Nat} {n nf x : Nat} (h : evP Bd (rowF Sx (valF V n x) n) n) : wtM V Bd Se Co En n nf x = prF V (rowF Sx (valF V n x) n) Se Co En n nf := by
  have hc : ∀ i, i < n → rowF Sx (valF V n x) n i = valF V n x i := fun i hi => rowF_lt hi
  unfold wtM wgF
  rw [zif_t ((evP_congr hc).mp h), prF_congr hc]
theorem sumF_at {Co : Nat → Nat} {f nf : Nat} (h : f < nf) : sumF Co f + Co f ≤ sumF Co nf := sumF_mono (Co := Co) (show f + 1 ≤ nf from h)
theorem wtM_le {V Bd Se Co En : Nat → Nat} {n nf x : Nat} (hE : ∀ i, En i ≤ 7) (hC : sumF Co nf ≤ 16) : wtM V Bd Se Co En n nf x ≤ 33232930569601 := by
  unfold wtM wgF
  by_cases h : evP Bd (valF V n x) n
  · rw [zif_t h]; exact Nat.le_trans (prF_le hE nf) (pw7 hC)
  · rw [zif_f h]; omega
def smF (wt : Nat → Nat) : Nat → Nat
  | 0 => 0
  | k + 1 => smF wt k + wt k
theorem smF_le {wt : Nat → Nat} {B : Nat} (h : ∀ x, wt x ≤ B) : ∀ k, smF wt k ≤ k * B
  | 0 => Nat.zero_le _
  | k + 1 => by
    simp only [smF]
    rw [Nat.add_mul, Nat.one_mul]
    exact Nat.add_le_add (smF_le h k) (h k)
