-- LEVEL 2, the factors by their last names: the product of all chains is the product of all factors
/-- the factors whose last name is c, the newest first -/
def chL (Se : Nat → Nat) : Nat → Nat → List Nat
  | 0, _ => []
  | k + 1, c => if alF (Se k) 12 = c then k :: chL Se k c else chL Se k c
theorem chL_mem {Se : Nat → Nat} {i c : Nat} : ∀ k, i ∈ chL Se k c ↔ i < k ∧ alF (Se i) 12 = c
  | 0 => by simp [chL]
  | k + 1 => by
    have ih := chL_mem (Se := Se) (i := i) (c := c) k
    simp only [chL]
    by_cases h : alF (Se k) 12 = c
    · rw [if_pos h, List.mem_cons, ih]
      constructor
      · rintro (rfl | ⟨h1, h2⟩)
        · exact ⟨Nat.lt_succ_self _, h⟩
        · exact ⟨by omega, h2⟩
      · rintro ⟨h1, h2⟩
        by_cases q : i = k
        · exact Or.inl q
        · exact Or.inr ⟨by omega, h2⟩
    · rw [if_neg h, ih]
      constructor
      · rintro ⟨h1, h2⟩
        exact ⟨by omega, h2⟩
      · rintro ⟨h1, h2⟩
        by_cases q : i = k
        · subst q; exact absurd h2 h
        · exact ⟨by omega, h2⟩
/-- what the pool's factor i has to do with the reference's -/
abbrev fcOk (V Se Co En : Nat → Nat) (n : Nat) (X : Nat → fR) (i : Nat) : Prop := (Se i < 2 ^ n) ∧ (popc (Se i) ≤ 4) ∧ ((xK (X i), yN (X i), yS (X i)) = fiR V (Se i) n) ∧ (xC (X i) = cellsF V (Se i) n) ∧ (cellsF V (Se i) n ≤ 256) ∧ (0 < cellsF V (Se i) n) ∧ (xT (X i) = Co i) ∧ (1 ≤ Co i ∧ Co i ≤ 3) ∧ (∀ y, y < xC (X i) → yE (X i) y = En (256 * i + y)) ∧ (∀ y, y < xC (X i) → yP (X i) y = yE (X i) y ^ xT (X i)) ∧ (∀ y, yP (X i) y ≤ 7 ^ xT (X i)) ∧ (∀ y, xC (X i) ≤ y → yP (X i) y ≤ 1)
theorem fcOk.lt {V Se Co En : Nat → Nat} {n : Nat} {X : Nat → fR} {i : Nat} (h : fcOk V Se Co En n X i) : Se i < 2 ^ n := h.1
theorem fcOk.four {V Se Co En : Nat → Nat} {n : Nat} {X : Nat → fR} {i : Nat} (h : fcOk V Se Co En n X i) : popc (Se i) ≤ 4 := h.2.1
theorem fcOk.rows {V Se Co En : Nat → Nat} {n : Nat} {X : Nat → fR} {i : Nat} (h : fcOk V Se Co En n X i) : (xK (X i), yN (X i), yS (X i)) = fiR V (Se i) n := h.2.2.1
theorem fcOk.cells {V Se Co En : Nat → Nat} {n : Nat} {X : Nat → fR} {i : Nat} (h : fcOk V Se Co En n X i) : xC (X i) = cellsF V (Se i) n := h.2.2.2.1
theorem fcOk.small {V Se Co En : Nat → Nat} {n : Nat} {X : Nat → fR} {i : Nat} (h : fcOk V Se Co En n X i) : cellsF V (Se i) n ≤ 256 := h.2.2.2.2.1
theorem fcOk.pos {V Se Co En : Nat → Nat} {n : Nat} {X : Nat → fR} {i : Nat} (h : fcOk V Se Co En n X i) : 0 < cellsF V (Se i) n := h.2.2.2.2.2.1
theorem fcOk.times {V Se Co En : Nat → Nat} {n : Nat} {X : Nat → fR} {i : Nat} (h : fcOk V Se Co En n X i) : xT (X i) = Co i := h.2.2.2.2.2.2.1
theorem fcOk.cop {V Se Co En : Nat → Nat} {n : Nat} {X : Nat → fR} {i : Nat} (h : fcOk V Se Co En n X i) : 1 ≤ Co i ∧ Co i ≤ 3 := h.2.2.2.2.2.2.2.1
theorem fcOk.ent {V Se Co En : Nat → Nat} {n : Nat} {X : Nat → fR} {i : Nat} (h : fcOk V Se Co En n X i) : ∀ y, y < xC (X i) → yE (X i) y = En (256 * i + y) := h.2.2.2.2.2.2.2.2.1
theorem fcOk.pow {V Se Co En : Nat → Nat} {n : Nat} {X : Nat → fR} {i : Nat} (h : fcOk V Se Co En n X i) : ∀ y, y < xC (X i) → yP (X i) y = yE (X i) y ^ xT (X i) := h.2.2.2.2.2.2.2.2.2.1
theorem fcOk.ple {V Se Co En : Nat → Nat} {n : Nat} {X : Nat → fR} {i : Nat} (h : fcOk V Se Co En n X i) : ∀ y, yP (X i) y ≤ 7 ^ xT (X i) := h.2.2.2.2.2.2.2.2.2.2.1
theorem fcOk.far {V Se Co En : Nat → Nat} {n : Nat} {X : Nat → fR} {i : Nat} (h : fcOk V Se Co En n X i) : ∀ y, xC (X i) ≤ y → yP (X i) y ≤ 1 := h.2.2.2.2.2.2.2.2.2.2.2
theorem fcOk.k {V Se Co En : Nat → Nat} {n i : Nat} {X : Nat → fR} (h : fcOk V Se Co En n X i) : xK (X i) = (fiR V (Se i) n).1 := congrArg Prod.fst h.rows
theorem fcOk.nm {V Se Co En : Nat → Nat} {n i : Nat} {X : Nat → fR} (h : fcOk V Se Co En n X i) : yN (X i) = (fiR V (Se i) n).2.1 := congrArg (fun t => t.2.1) h.rows
theorem fcOk.sp {V Se Co En : Nat → Nat} {n i : Nat} {X : Nat → fR} (h : fcOk V Se Co En n X i) : yS (X i) = (fiR V (Se i) n).2.2 := congrArg (fun t => t.2.2) h.rows
theorem fcOk.en {V Se Co En : Nat → Nat} {n i : Nat} {X : Nat → fR} (h : fcOk V Se Co En n X i) (D : Nat → Nat) : xEn X D i = nmF D V (Se i) n := by
  show entF (yN (X i)) (yS (X i)) D (xK (X i)) = _
  rw [h.k, h.nm, h.sp, ent_nm]
theorem fcOk.inr {V Se Co En : Nat → Nat} {n i : Nat} {X : Nat → fR} (h : fcOk V Se Co En n X i) {D : Nat → Nat} (hD : ∀ j, j < n → D j < V j) : xEn X D i < xC (X i) := by
  rw [h.en, h.cells]
  exact nmF_lt n hD
theorem fcOk.al {V Se Co En : Nat → Nat} {n i : Nat} {X : Nat → fR} (h : fcOk V Se Co En n X i) (hn : n ≤ 12) : alF (Se i) 12 = alF (Se i) n := by
  have := alF_hi h.lt (12 - n)
  rw [show n + (12 - n) = 12 by omega] at this
  exact this
theorem up_same (D : Nat → Nat) (a : Nat) : va_up D a (D a) = D := funext fun j => by
  by_cases q : j = a
  · rw [q, va_up_self]
  · rw [va_up_ne _ _ q]
/-- the last name of a factor stands last -/
theorem fcOk.last {V Se Co En : Nat → Nat} {n i a : Nat} {X : Nat → fR} (h : fcOk V Se Co En n X i) (hn : n ≤ 12) (ha : alF (Se i) 12 = a + 1) : a < n ∧ ∃ f, xK (X i) = f + 1 ∧ yN (X i) f = a ∧ ∀ j, j < f → yN (X i) j < a := by
  rw [h.al hn] at ha
  have hle := alF_le (S := Se i) n
  refine ⟨by omega, ?_⟩
  rcases fi_last (V := V) (S := Se i) n with ⟨_, h2⟩ | ⟨f, h1, h2, h3⟩
  · omega
  · refine ⟨f, by rw [h.k]; exact h1, by rw [h.nm]; omega, fun j hj => ?_⟩
    have := h3 j hj
    rw [h.nm]
    omega
theorem fcOk.step {V Se Co En : Nat → Nat} {n i a : Nat} {X : Nat → fR} (h : fcOk V Se Co En n X i) (hn : n ≤ 12) (ha : alF (Se i) 12 = a + 1) (D : Nat → Nat) (v : Nat) : xEn X (va_up D a 0) i + v * yS (X i) (xK (X i) - 1) = xEn X (va_up D a v) i := by
  obtain ⟨_, f, hf, hl, hb⟩ := h.last hn ha
  show entF (yN (X i)) (yS (X i)) (va_up D a 0) (xK (X i)) + _ = entF (yN (X i)) (yS (X i)) (va_up D a v) (xK (X i))
  rw [hf, ent_last (v := v) hl hb, Nat.add_sub_cancel]
theorem fcOk.val {V Se Co En : Nat → Nat} {n i : Nat} {X : Nat → fR} (h : fcOk V Se Co En n X i) {D : Nat → Nat} (hD : ∀ j, j < n → D j < V j) : yP (X i) (xEn X D i) = En (256 * i + nmF D V (Se i) n) ^ Co i := by
  have hi := h.inr hD
  rw [h.pow _ hi, h.ent _ hi, h.times, h.en]
theorem al0 {S : Nat} : ∀ k, alF S k = 0 → ∀ j, j < k → S.testBit j = false
  | 0, _, j, hj => absurd hj (Nat.not_lt_zero _)
  | k + 1, h, j, hj => by
    cases hb : S.testBit k
    · rw [alF_f hb] at h
      by_cases q : j = k
      · rw [q]; exact hb
      · exact al0 k h j (by omega)
    · rw [alF_t hb] at h
      omega
theorem nm_none {D V : Nat → Nat} {S : Nat} : ∀ n, (∀ j, j < n → S.testBit j = false) → nmF D V S n = 0
  | 0, _ => rfl
  | n + 1, h => by
    rw [nmF_f (h n (Nat.lt_succ_self n))]
    exact nm_none n (fun j hj => h j (by omega))
theorem fcOk.zero {V Se Co En : Nat → Nat} {n i : Nat} {X : Nat → fR} (h : fcOk V Se Co En n X i) (hn : n ≤ 12) (ha : alF (Se i) 12 = 0) {D : Nat → Nat} (hD : ∀ j, j < n → D j < V j) : yP (X i) 0 = En (256 * i + nmF D V (Se i) n) ^ Co i := by
  rw [← h.val hD, h.en, nm_none n (fun j hj => al0 12 ha j (by omega))]
-- one chain more
theorem tq_eq {X : Nat → fR} {L M : Nat → List Nat} {D : Nat → Nat} : ∀ d a, (∀ b, a < b → b ≤ a + d → L b = M b) → tqF X L D d a = tqF X M D d a
  | 0, _, _ => rfl
  | d + 1, a, h => by
    simp only [tqF]
    rw [h (a + 1) (by omega) (by omega), tq_eq d (a + 1) (fun b h1 h2 => h b (by omega) (by omega))]
theorem tq_cons {X : Nat → fR} {L M : Nat → List Nat} {D : Nat → Nat} {i c : Nat} (hc : L (c + 1) = i :: M (c + 1)) (ho : ∀ b, b ≠ c + 1 → L b = M b) : ∀ d a, a ≤ c → c < a + d → tqF X L D d a = yP (X i) (xEn X (va_up D c 0) i + D c * yS (X i) (xK (X i) - 1)) * tqF X M D d a
  | 0, a, h1, h2 => absurd h2 (by omega)
  | d + 1, a, h1, h2 => by
    simp only [tqF]
    by_cases q : a = c
    · subst q
      rw [hc, tq_eq d (a + 1) (fun b h3 h4 => ho b (by omega))]
      simp only [lvP]
      rw [Nat.mul_assoc]
    · rw [ho (a + 1) (by omega), tq_cons hc ho d (a + 1) (by omega) (by omega), Nat.mul_left_comm]
theorem rm_eq {X : Nat → fR} {L M : Nat → List Nat} : ∀ d a, (∀ b, a < b → b ≤ a + d → L b = M b) → rmx X L a d = rmx X M a d
  | 0, _, _ => rfl
  | d + 1, a, h => by
    simp only [rmx]
    rw [h (a + 1) (by omega) (by omega), rm_eq d (a + 1) (fun b h1 h2 => h b (by omega) (by omega))]
theorem rm_cons {X : Nat → fR} {L M : Nat → List Nat} {i c : Nat} (hc : L (c + 1) = i :: M (c + 1)) (ho : ∀ b, b ≠ c + 1 → L b = M b) : ∀ d a, a ≤ c → c < a + d → rmx X L a d = 7 ^ xT (X i) * rmx X M a d
  | 0, a, h1, h2 => absurd h2 (by omega)
  | d + 1, a, h1, h2 => by
    simp only [rmx]
    by_cases q : a = c
    · subst q
      rw [hc, rm_eq d (a + 1) (fun b h3 h4 => ho b (by omega))]
      simp only [lmx]
      rw [Nat.mul_assoc]
    · rw [ho (a + 1) (by omega), rm_cons hc ho d (a + 1) (by omega) (by omega), Nat.mul_left_comm]
theorem chL_n {Se : Nat → Nat} {k c : Nat} (h : c ≠ alF (Se k) 12) : chL Se (k + 1) c = chL Se k c := by
  simp only [chL]
  rw [if_neg (fun q => h q.symm)]
theorem chL_y {Se : Nat → Nat} {k : Nat} : chL Se (k + 1) (alF (Se k) 12) = k :: chL Se k (alF (Se k) 12) := by
  show (if alF (Se k) 12 = alF (Se k) 12 then _ else _) = _
  rw [if_pos rfl]
theorem tq_z {X : Nat → fR} {D : Nat → Nat} {L : Nat → List Nat} (h : ∀ b, L b = []) : ∀ d a, tqF X L D d a = 1
  | 0, _ => rfl
  | d + 1, a => by
    simp only [tqF]
    rw [h, tq_z h d (a + 1)]
    rfl
theorem rm_z {X : Nat → fR} {L : Nat → List Nat} (h : ∀ b, L b = []) : ∀ d a, rmx X L a d = 1
  | 0, _ => rfl
  | d + 1, a => by
    simp only [rmx]
    rw [h, rm_z h d (a + 1)]
    rfl
/-- the product along the chains -/
theorem ch_pr {V Se Co En D : Nat → Nat} {n : Nat} {X : Nat → fR} (hn : n ≤ 12) (hD : ∀ j, j < n → D j < V j) : ∀ k, (∀ i, i < k → fcOk V Se Co En n X i) → chP X (chL Se k 0) * tqF X (chL Se k) D n 0 = prF V D Se Co En n k
  | 0, _ => by
    rw [tq_z (L := chL Se 0) (fun _ => rfl)]
    rfl
  | k + 1, h => by
    have ih := ch_pr hn hD k (fun i hi => h i (by omega))
    have hk := h k (Nat.lt_succ_self k)
    show _ = prF V D Se Co En n k * En (256 * k + nmF D V (Se k) n) ^ Co k
    rw [← ih]
    rcases hc : alF (Se k) 12 with _ | c
    · have e0 : chL Se (k + 1) 0 = k :: chL Se k 0 := by have := chL_y (Se := Se) (k := k); rw [hc] at this; exact this
      rw [e0, tq_eq (M := chL Se k) n 0 (fun b h1 h2 => chL_n (by omega))]
      show yP (X k) 0 * chP X (chL Se k 0) * _ = _
      rw [hk.zero hn hc hD]
      rw [Nat.mul_assoc, Nat.mul_comm]
    · have hcn := (hk.last hn hc).1
      rw [chL_n (c := 0) (by omega), tq_cons (i := k) (c := c) (M := chL Se k) (by have := chL_y (Se := Se) (k := k); rw [hc] at this; exact this) (fun b hb => chL_n (by omega)) n 0 (Nat.zero_le c) (by omega), hk.step hn hc D (D c), up_same, hk.val hD, Nat.mul_left_comm, Nat.mul_comm]
theorem ch_mx {V Se Co En : Nat → Nat} {n : Nat} {X : Nat → fR} (hn : n ≤ 12) : ∀ k, (∀ i, i < k → fcOk V Se Co En n X i) → lmx X (chL Se k 0) * rmx X (chL Se k) 0 n = 7 ^ sumF Co k
  | 0, _ => by
    rw [rm_z (L := chL Se 0) (fun _ => rfl)]
    rfl
  | k + 1, h => by
    have ih := ch_mx hn k (fun i hi => h i (by omega))
    have hk := h k (Nat.lt_succ_self k)
    show _ = 7 ^ (sumF Co k + Co k)
    rw [Nat.pow_add, ← ih, ← hk.times]
    rcases hc : alF (Se k) 12 with _ | c
    · have e0 : chL Se (k + 1) 0 = k :: chL Se k 0 := by have := chL_y (Se := Se) (k := k); rw [hc] at this; exact this
      rw [e0, rm_eq (M := chL Se k) n 0 (fun b h1 h2 => chL_n (by omega))]
      show 7 ^ xT (X k) * lmx X (chL Se k 0) * _ = _
      rw [Nat.mul_assoc, Nat.mul_comm]
    · have hcn := (hk.last hn hc).1
      rw [chL_n (c := 0) (by omega), rm_cons (i := k) (c := c) (M := chL Se k) (by have := chL_y (Se := Se) (k := k); rw [hc] at this; exact this) (fun b hb => chL_n (by omega)) n 0 (Nat.zero_le c) (by omega), Nat.mul_left_comm, Nat.mul_comm]
theorem chP_le {X : Nat → fR} : ∀ L : List Nat, (∀ i, i ∈ L → yP (X i) 0 ≤ 7 ^ xT (X i)) → chP X L ≤ lmx X L
  | [], _ => Nat.le_refl 1
  | i :: L, h => Nat.mul_le_mul (h i List.mem_cons_self) (chP_le L (fun j hj => h j (List.mem_cons_of_mem _ hj)))
/-- the bound of all products -/
theorem chn_b {V Se Co En : Nat → Nat} {n nf : Nat} {X : Nat → fR} (hn : n ≤ 12) (hC : sumF Co nf ≤ 16) (h : ∀ i, i < nf → fcOk V Se Co En n X i) : chP X (chL Se nf 0) * rmx X (chL Se nf) 0 n ≤ 33232930569601 := by
  refine Nat.le_trans (Nat.mul_le_mul_right _ (chP_le _ (fun i hi => (h i ((chL_mem nf).mp hi).1).ple 0))) ?_
  rw [ch_mx hn nf h]
  exact pw7 hC
theorem ch_nl {V Se Co En : Nat → Nat} {n nf : Nat} {X : Nat → fR} (hn : n ≤ 12) (h : ∀ i, i < nf → fcOk V Se Co En n X i) : nlOk X (chL Se nf) n := fun b hb i hi k hk => by
  obtain ⟨h1, h2⟩ := (chL_mem nf).mp hi
  obtain ⟨_, f, hf, hl, hs⟩ := (h i h1).last hn h2
  by_cases q : k = f
  · rw [q, hl]; exact Nat.le_refl _
  · exact Nat.le_of_lt (hs k (by omega))
theorem ch_mxOk {V Se Co En : Nat → Nat} {n nf : Nat} {X : Nat → fR} (h : ∀ i, i < nf → fcOk V Se Co En n X i) : mxOk X (chL Se nf) n := fun b hb i hi j => (h i ((chL_mem nf).mp hi).1).ple j
theorem ch_en {V Se Co En : Nat → Nat} {n nf : Nat} {X : Nat → fR} (hn : n ≤ 12) (hV : ∀ j, j < n → 0 < V j) (h : ∀ i, i < nf → fcOk V Se Co En n X i) : enOk X (chL Se nf) V n := fun a ha C hC h0 i hi v hv => by
  obtain ⟨h1, h2⟩ := (chL_mem nf).mp hi
  have hk := h i h1
  have e : va_up C a 0 = C := by rw [← h0]; exact up_same C a
  have h3 := hk.step hn h2 C v
  rw [e] at h3
  rw [h3]
  -- values beyond the last name don't matter
  have h4 : xEn X (va_up C a v) i = xEn X (fun j => if j ≤ a then va_up C a v j else 0) i := entF_cg _ (fun k hk2 => by
    obtain ⟨_, f, hf, hl, hs⟩ := hk.last hn h2
    have : yN (X i) k ≤ a := by
      by_cases q : k = f
      · rw [q, hl]; exact Nat.le_refl _
      · exact Nat.le_of_lt (hs k (by omega))
    show va_up C a v (yN (X i) k) = if yN (X i) k ≤ a then va_up C a v (yN (X i) k) else 0
    rw [if_pos this])
  rw [h4]
  refine hk.inr (fun j hj => ?_)
  show (if j ≤ a then va_up C a v j else 0) < V j
  by_cases q : j ≤ a
  · rw [if_pos q]
    by_cases q2 : j = a
    · rw [q2, va_up_self]; exact hv
    · rw [va_up_ne _ _ q2]; exact hC j (by omega)
  · rw [if_neg q]; exact hV j hj
theorem ch_k0 {V Se Co En : Nat → Nat} {n nf : Nat} {X : Nat → fR} (hn : n ≤ 12) (h : ∀ i, i < nf → fcOk V Se Co En n X i) : ∀ b, b < n → ∀ i, i ∈ chL Se nf (b + 1) → 0 < xK (X i) := fun b hb i hi => by
  obtain ⟨h1, h2⟩ := (chL_mem nf).mp hi
  obtain ⟨_, f, hf, -, -⟩ := (h i h1).last hn h2
  omega
/-- a state's weight -/
theorem ws_wt {V Bd Se Co En : Nat → Nat} {n nf x : Nat} {X : Nat → fR} (hn : n ≤ 12) (hV : ∀ j, j < n → 0 < V j) (h : ∀ i, i < nf → fcOk V Se Co En n X i) (hx : x < prV V 0 n) : wsF X (chL Se nf) V Bd n 0 (fun _ => 0) (chP X (chL Se nf 0)) x = wtM V Bd Se Co En n nf x := by
  have hD : ∀ j, j < n → valF V n x j < V j := fun j hj => valF_lt (hV j hj)
  rw [ws_tp (D := valF V n x) (ch_nl hn h) n 0 _ _ x (Nat.zero_add n) hx (fun j _ h2 => hV j (by omega)) (fun j hj => absurd hj (Nat.not_lt_zero _)) (fun j _ h2 => by rw [Nat.zero_add] at h2 ⊢; exact val_pr h2)]
  unfold wtM wgF
  by_cases q : evP Bd (valF V n x) n
  · rw [zif_t q, tp_ev n 0 _ (fun j _ h2 => q j (by omega)), ch_pr hn hD nf h]
  · rw [zif_f q, tp_no n 0 _ (fun z => q (fun j hj => z j (Nat.zero_le j) (by omega)))]
theorem pa_pr {V Se Co En D : Nat → Nat} {n : Nat} {X : Nat → fR} (hD : ∀ j, j < n → D j < V j) : ∀ k, (∀ i, i < k → fcOk V Se Co En n X i) → paP X D k = prF V D Se Co En n k
  | 0, _ => rfl
  | k + 1, h => by
    show paP X D k * yP (X k) (xEn X D k) = prF V D Se Co En n k * _
    rw [pa_pr hD k (fun i hi => h i (by omega)), (h k (Nat.lt_succ_self k)).val hD]
