-- LEVEL 2, what refreshing leaves is what the reference weighs
theorem cn_all {W : Nat → Nat} {t0 : wT} : ∀ N, (foV (fun s t => if W s = 0 then t else kpW s (W s) t) N t0).2.2.1 = t0.2.2.1 + cnF W N
  | 0 => rfl
  | N + 1 => by
    have ih := cn_all (W := W) (t0 := t0) N
    show (if W N = 0 then foV (fun s t => if W s = 0 then t else kpW s (W s) t) N t0 else kpW N (W N) (foV (fun s t => if W s = 0 then t else kpW s (W s) t) N t0)).2.2.1 = _
    by_cases q : W N = 0
    · rw [if_pos q, ih, cnF_0 q]
    · rw [if_neg q, cnF_1 q, ← Nat.add_assoc, ← ih]
      rfl
theorem sum_sm {W : Nat → Nat} : ∀ N, sumF W N = smF W N
  | 0 => rfl
  | N + 1 => by
    show sumF W N + W N = smF W N + W N
    rw [sum_sm N]
/-- the class's rows and the weights of the states -/
abbrev wtR (W : Nat → Nat) (N : Nat) (t : wT) : Prop := (∀ s, s < N → t.1 s = W s) ∧ (t.2.1 = smF W N) ∧ (t.2.2.1 = cnF W N) ∧ (∀ Tw Ts : Nat → Nat, rkR t.2.2.2 (rkF W (Tw, Ts, 0) N))
theorem wtR.row {W : Nat → Nat} {N : Nat} {t : wT} (h : wtR W N t) : ∀ s, s < N → t.1 s = W s := h.1
theorem wtR.sum {W : Nat → Nat} {N : Nat} {t : wT} (h : wtR W N t) : t.2.1 = smF W N := h.2.1
theorem wtR.cnt {W : Nat → Nat} {N : Nat} {t : wT} (h : wtR W N t) : t.2.2.1 = cnF W N := h.2.2.1
theorem wtR.rnk {W : Nat → Nat} {N : Nat} {t : wT} (h : wtR W N t) : ∀ Tw Ts : Nat → Nat, rkR t.2.2.2 (rkF W (Tw, Ts, 0) N) := h.2.2.2
/-- bounds of the rows -/
abbrev wtB (t : wT) : Prop := (∀ s, t.1 s ≤ 33232930569601) ∧ (∀ j, t.2.2.2.1 j ≤ 33232930569601) ∧ (∀ j, t.2.2.2.2.1 j < 2 ^ 31) ∧ (t.2.2.2.2.2 ≤ 24)
theorem wtB.row {t : wT} (h : wtB t) : ∀ s, t.1 s ≤ 33232930569601 := h.1
theorem wtB.rnk {t : wT} (h : wtB t) : ∀ j, t.2.2.2.1 j ≤ 33232930569601 := h.2.1
theorem wtB.sta {t : wT} (h : wtB t) : ∀ j, t.2.2.2.2.1 j < 2 ^ 31 := h.2.2.1
theorem wtB.num {t : wT} (h : wtB t) : t.2.2.2.2.2 ≤ 24 := h.2.2.2
theorem rkF_none {W : Nat → Nat} {s0 : rkT} : ∀ N, (∀ s, s < N → W s = 0) → rkF W s0 N = s0
  | 0, _ => rfl
  | N + 1, h => by rw [rkF_0 (h N (Nat.lt_succ_self N)), rkF_none N (fun s hs => h s (by omega))]
theorem smF_none {W : Nat → Nat} : ∀ N, (∀ s, s < N → W s = 0) → smF W N = 0
  | 0, _ => rfl
  | N + 1, h => by
    show smF W N + W N = 0
    rw [smF_none N (fun s hs => h s (by omega)), h N (Nat.lt_succ_self N)]
theorem cnF_none {W : Nat → Nat} : ∀ N, (∀ s, s < N → W s = 0) → cnF W N = 0
  | 0, _ => rfl
  | N + 1, h => by rw [cnF_0 (h N (Nat.lt_succ_self N)), cnF_none N (fun s hs => h s (by omega))]
theorem rkR_z {c m : rkT} (h1 : c.2.2 = 0) (h2 : m.2.2 = 0) : rkR c m := ⟨by rw [h1, h2], by rw [h1]; exact Nat.zero_le _, fun j hj => absurd hj (by rw [h1]; exact Nat.not_lt_zero j)⟩
theorem kpW_B {x p : Nat} {t : wT} (hx : x < 2 ^ 31) (hp : p ≤ 33232930569601) (h : wtB t) : wtB (kpW x p t) := by
  refine ⟨fun s => ?_, ?_, ?_, ?_⟩
  · show va_up t.1 x p s ≤ _
    unfold va_up
    split
    · exact hp
    · exact h.row s
  · exact (kpZ_b (RS := t.2.2.2.2.1) (x := x) h.rnk h.num hp).1
  · intro j
    show (kpZ t.2.2.2.1 t.2.2.2.2.1 t.2.2.2.2.2 x p).2.1 j < 2 ^ 31
    by_cases q : t.2.2.2.2.2 < 24 ∨ t.2.2.2.1 23 < p
    · rw [kpZ_y q]
      exact Nat.lt_of_le_of_lt (rkSh_le (B := 2 ^ 31 - 1) (fun i => by have := h.sta i; omega) (by omega) j) (by decide)
    · rw [kpZ_n q]
      exact h.sta j
  · exact (kpZ_b (RS := t.2.2.2.2.1) (x := x) h.rnk h.num hp).2
theorem foV_B {W : Nat → Nat} (hW : ∀ s, W s ≤ 33232930569601) {t0 : wT} (h : wtB t0) : ∀ N, N ≤ 2 ^ 31 → wtB (foV (fun s t => if W s = 0 then t else kpW s (W s) t) N t0)
  | 0, _ => h
  | N + 1, hN => by
    have ih := foV_B hW h N (by omega)
    show wtB (if W N = 0 then foV (fun s t => if W s = 0 then t else kpW s (W s) t) N t0 else kpW N (W N) (foV (fun s t => if W s = 0 then t else kpW s (W s) t) N t0))
    by_cases q : W N = 0
    · rw [if_pos q]; exact ih
    · rw [if_neg q]; exact kpW_B (by omega) (hW N) ih
theorem rw_new {V Bd Se Co En : Nat → Nat} {n nf N : Nat} {X : Nat → fR} {t : wT} (hn : n ≤ 12) (hV : ∀ j, j < n → 0 < V j) (hE : ∀ y, En y ≤ 7) (hC : sumF Co nf ≤ 16) (h : ∀ i, i < nf → fcOk V Se Co En n X i) (hN : prV V 0 n = N) (hN2 : N ≤ 65536) (hB : wtB t) :
    wtR (wtM V Bd Se Co En n nf) N (rwZ X (chL Se nf) V Bd N n 0 t) ∧ wtB (rwZ X (chL Se nf) V Bd N n 0 t) := by
  have hw : ∀ x, x < N → wsF X (chL Se nf) V Bd n 0 (fun _ => 0) (chP X (chL Se nf 0)) x = wtM V Bd Se Co En n nf x := fun x hx => ws_wt hn hV h (by rw [hN]; exact hx)
  have hb0 : wtB (rowF t.1 (fun _ => 0) N, 0, 0, t.2.2.2.1, t.2.2.2.2.1, 0) := ⟨fun s => by
    show rowF t.1 (fun _ => 0) N s ≤ _
    unfold rowF
    split
    · exact Nat.zero_le _
    · exact hB.row s, hB.rnk, hB.sta, Nat.zero_le _⟩
  by_cases q : chP X (chL Se nf 0) = 0
  · rw [rwZ_0 rfl q]
    have hz : ∀ s, s < N → wtM V Bd Se Co En n nf s = 0 := fun s hs => by rw [← hw s hs, q, wsF_0]
    refine ⟨⟨fun s hs => ?_, (smF_none N hz).symm, (cnF_none N hz).symm, fun Tw Ts => rkR_z rfl ?_⟩, hb0⟩
    · show rowF t.1 (fun _ => 0) N s = _
      rw [rowF_lt hs, hz s hs]
    · rw [rkF_none N hz]
  · rw [rwZ_1 rfl q, chF_row n 0 (fun _ => 0) 0 _ _ q (fun j _ h2 => hV j (by omega)), hN]
    have e : ∀ t0 : wT, foV (fun y t => if wsF X (chL Se nf) V Bd n 0 (fun _ => 0) (chP X (chL Se nf 0)) y = 0 then t else kpW (0 * N + y) (wsF X (chL Se nf) V Bd n 0 (fun _ => 0) (chP X (chL Se nf 0)) y) t) N t0 = foV (fun s t => if wtM V Bd Se Co En n nf s = 0 then t else kpW s (wtM V Bd Se Co En n nf s) t) N t0 := fun t0 => foV_cg N (fun y hy t => by rw [hw y hy, show 0 * N + y = y by omega]) t0
    rw [e]
    refine ⟨⟨fun s hs => ?_, ?_, ?_, fun Tw Ts => rk_all (rkR_z rfl rfl) N⟩, foV_B (fun s => wtM_le hE hC) hb0 N (by omega)⟩
    · rw [bs_all]
      by_cases z : wtM V Bd Se Co En n nf s = 0
      · rw [if_neg (fun c => c.2 z)]
        show rowF t.1 (fun _ => 0) N s = _
        rw [rowF_lt hs, z]
      · rw [if_pos ⟨hs, z⟩]
    · rw [sm_all, sum_sm]
      exact Nat.zero_add _
    · rw [cn_all]
      exact Nat.zero_add _
theorem rwZ_k {X : Nat → fR} {Lc : Nat → List Nat} {V Bd : Nat → Nat} {NS n kw : Nat} {t : wT} (h : kw ≠ 0) : rwZ X Lc V Bd NS n kw t = t := by
  unfold rwZ
  rw [if_neg h]
/-- the matching test, by the number of the names' values -/
theorem cl_pos {V : Nat → Nat} {S : Nat} : ∀ n, (∀ j, j < n → 0 < V j) → 0 < cellsF V S n
  | 0, _ => Nat.one_pos
  | n + 1, h => by
    have ih := cl_pos (V := V) (S := S) n (fun j hj => h j (by omega))
    cases hb : S.testBit n
    · rw [cellsF_f hb]; exact ih
    · rw [cellsF_t hb]; exact Nat.mul_pos ih (h n (Nat.lt_succ_self n))
theorem gh_nm {V : Nat → Nat} {S q : Nat} : ∀ i, (∀ j, j < i → 0 < V j) → q = nmF (fun j => ghR V S q j % V j) V S i + cellsF V S i * ghR V S q i
  | 0, _ => by
    show q = 0 + 1 * q
    omega
  | i + 1, h => by
    have ih := gh_nm (V := V) (S := S) (q := q) i (fun j hj => h j (by omega))
    cases hb : S.testBit i
    · rw [nmF_f hb, cellsF_f hb, ghR_f hb]
      exact ih
    · rw [nmF_t hb, cellsF_t hb, ghR_t hb, Nat.mul_assoc, Nat.add_assoc, ← Nat.mul_add]
      have := Nat.mod_add_div (ghR V S q i) (V i)
      show q = _ + cellsF V S i * (ghR V S q i % V i + V i * (ghR V S q i / V i))
      rw [this]
      exact ih
theorem nm_inj {D E V : Nat → Nat} {S : Nat} : ∀ n, (∀ j, j < n → D j < V j) → (∀ j, j < n → E j < V j) → nmF D V S n = nmF E V S n → ∀ j, j < n → S.testBit j = true → D j = E j
  | 0, _, _, _, j, hj, _ => absurd hj (Nat.not_lt_zero _)
  | n + 1, hD, hE, h, j, hj, hb => by
    have hD' : ∀ j, j < n → D j < V j := fun j hj => hD j (by omega)
    have hE' : ∀ j, j < n → E j < V j := fun j hj => hE j (by omega)
    cases hbn : S.testBit n
    · rw [nmF_f hbn, nmF_f hbn] at h
      by_cases q : j = n
      · rw [q, hbn] at hb; exact absurd hb (by decide)
      · exact nm_inj n hD' hE' h j (by omega) hb
    · rw [nmF_t hbn, nmF_t hbn] at h
      have l1 := nmF_lt (S := S) n hD'
      have l2 := nmF_lt (S := S) n hE'
      have e : D n = E n := by
        have m1 : (nmF D V S n + cellsF V S n * D n) / cellsF V S n = D n := by
          rw [Nat.add_mul_div_left _ _ (by omega), Nat.div_eq_of_lt l1, Nat.zero_add]
        have m2 : (nmF E V S n + cellsF V S n * E n) / cellsF V S n = E n := by
          rw [Nat.add_mul_div_left _ _ (by omega), Nat.div_eq_of_lt l2, Nat.zero_add]
        rw [← m1, ← m2, h]
      rw [e] at h
      by_cases q : j = n
      · rw [q]; exact e
      · exact nm_inj n hD' hE' (by omega) j (by omega) hb
theorem nm_cg2 {D E V : Nat → Nat} {S : Nat} : ∀ n, (∀ j, j < n → S.testBit j = true → D j = E j) → nmF D V S n = nmF E V S n
  | 0, _ => rfl
  | n + 1, h => by
    have ih := nm_cg2 (V := V) n (fun j hj => h j (by omega))
    cases hb : S.testBit n
    · rw [nmF_f hb, nmF_f hb, ih]
    · rw [nmF_t hb, nmF_t hb, ih, h n (Nat.lt_succ_self n) hb]
theorem cg_nm {D V : Nat → Nat} {S q n : Nat} (hV : ∀ j, j < n → 0 < V j) (hD : ∀ j, j < n → D j < V j) (hq : q < cellsF V S n) : (∀ j, j < n → cgF V S q j = 0 ∨ cgF V S q j = D j + 1) ↔ nmF D V S n = q := by
  have hg := gh_nm (V := V) (S := S) (q := q) n hV
  have h0 : ghR V S q n = 0 := by
    rcases Nat.eq_zero_or_pos (ghR V S q n) with z | z
    · exact z
    · have : cellsF V S n ≤ cellsF V S n * ghR V S q n := Nat.le_mul_of_pos_right _ z
      omega
  rw [h0, Nat.mul_zero, Nat.add_zero] at hg
  constructor
  · intro h
    rw [nm_cg2 (E := fun j => ghR V S q j % V j) n (fun j hj hb => ?_)]
    · exact hg.symm
    · rcases h j hj with z | z
      · rw [cgF_t hb] at z; omega
      · rw [cgF_t hb] at z; show D j = ghR V S q j % V j; omega
  · intro h j hj
    cases hb : S.testBit j
    · exact Or.inl (cgF_f hb)
    · right
      rw [cgF_t hb, nm_inj n hD (E := fun j => ghR V S q j % V j) (fun j hj => Nat.mod_lt _ (hV j hj)) (h.trans hg) j hj hb]
/-- gathering in one row -/
theorem foV_ga {P : Nat → Bool} {BS : Nat → Nat} : ∀ N t, foV (fun y t => if P y = true ∧ BS y ≠ 0 then (t.1 + BS y, t.2 + 1) else t) N t = (t.1 + smF (fun y => if P y = true then BS y else 0) N, t.2 + cnF (fun y => if P y = true then BS y else 0) N)
  | 0, _ => rfl
  | N + 1, t => by
    show (if P N = true ∧ BS N ≠ 0 then _ else _) = _
    rw [foV_ga N t]
    by_cases q : P N = true
    · by_cases z : BS N = 0
      · rw [if_neg (fun c => c.2 z), cnF_0 (by show (if P N = true then BS N else 0) = 0; rw [if_pos q, z])]
        show _ = (t.1 + (smF _ N + (if P N = true then BS N else 0)), _)
        rw [if_pos q, z, Nat.add_zero]
      · rw [if_pos ⟨q, z⟩, cnF_1 (by show (if P N = true then BS N else 0) ≠ 0; rw [if_pos q]; exact z)]
        show _ = (t.1 + (smF _ N + (if P N = true then BS N else 0)), _)
        rw [if_pos q, Nat.add_assoc, Nat.add_assoc]
    · rw [if_neg (fun c => q c.1), cnF_0 (by show (if P N = true then BS N else 0) = 0; rw [if_neg q])]
      show _ = (t.1 + (smF _ N + (if P N = true then BS N else 0)), _)
      rw [if_neg q, Nat.add_zero]
theorem smF_cg {W U : Nat → Nat} : ∀ N, (∀ s, s < N → W s = U s) → smF W N = smF U N
  | 0, _ => rfl
  | N + 1, h => by
    show smF W N + W N = smF U N + U N
    rw [smF_cg N (fun s hs => h s (by omega)), h N (Nat.lt_succ_self N)]
theorem cnF_cg {W U : Nat → Nat} : ∀ N, (∀ s, s < N → W s = U s) → cnF W N = cnF U N
  | 0, _ => rfl
  | N + 1, h => by
    have ih := cnF_cg N (fun s hs => h s (by omega))
    have e := h N (Nat.lt_succ_self N)
    by_cases q : W N = 0
    · rw [cnF_0 q, cnF_0 (by rw [← e]; exact q), ih]
    · rw [cnF_1 q, cnF_1 (by rw [← e]; exact q), ih]
theorem ga_wh {V W BS : Nat → Nat} {n N S q : Nat} (hV : ∀ j, j < n → 0 < V j) (hN : prV V 0 n = N) (hB : ∀ s, s < N → BS s = W s) (hq : q < cellsF V S n) :
    gaF V (cgF V S q) BS n 0 0 (0, 0) = (smF (whF W (fun k => nmF (valF V n k) V S n) q) N, cnF (whF W (fun k => nmF (valF V n k) V S n) q) N) := by
  rw [gaF_row n 0 0 (0, 0) (fun j _ h2 => ⟨hV j (by omega), cgF_le (hV j (by omega))⟩), hN]
  rw [foV_cg (g := fun y t => if mtG V (cgF V S q) n 0 y = true ∧ BS y ≠ 0 then (t.1 + BS y, t.2 + 1) else t) N (fun y hy t => by rw [show 0 * N + y = y by omega]), foV_ga]
  have e : ∀ s, s < N → (if mtG V (cgF V S q) n 0 s = true then BS s else 0) = whF W (fun k => nmF (valF V n k) V S n) q s := fun s hs => by
    have h1 := mt_dig (V := V) (Cg := cgF V S q) n 0 s (by rw [hN]; exact hs) (fun j _ h2 => hV j (by omega))
    have h2 : mtG V (cgF V S q) n 0 s = true ↔ nmF (valF V n s) V S n = q := by
      rw [h1, ← cg_nm hV (fun j hj => valF_lt (hV j hj)) hq]
      constructor
      · intro h j hj
        have := h j (Nat.zero_le j) (by omega)
        rw [Nat.zero_add, ← val_pr hj] at this
        exact this
      · intro h j _ h3
        have hj : j < n := by omega
        rw [Nat.zero_add, ← val_pr hj]
        exact h j hj
    unfold whF
    by_cases z : nmF (valF V n s) V S n = q
    · rw [if_pos (h2.mpr z), if_pos z, hB s hs]
    · rw [if_neg (fun c => z (h2.mp c)), if_neg z]
  rw [smF_cg N e, cnF_cg N e, Nat.zero_add, Nat.zero_add]
theorem cl_one {V : Nat → Nat} {j : Nat} : ∀ i, i ≤ j → cellsF V (2 ^ j) i = 1
  | 0, _ => rfl
  | i + 1, h => by
    rw [cellsF_f (by rw [Nat.testBit_two_pow]; simp; omega), cl_one i (by omega)]
theorem nm_one {D V : Nat → Nat} {j : Nat} : ∀ n, nmF D V (2 ^ j) n = if j < n then D j else 0
  | 0 => rfl
  | n + 1 => by
    have ih := nm_one (D := D) (V := V) (j := j) n
    by_cases q : j = n
    · subst q
      rw [nmF_t (by rw [Nat.testBit_two_pow]; simp), ih, if_neg (Nat.lt_irrefl j), if_pos (Nat.lt_succ_self j), cl_one j (Nat.le_refl j), Nat.one_mul, Nat.zero_add]
    · rw [nmF_f (by rw [Nat.testBit_two_pow]; simp; exact q), ih]
      by_cases h : j < n
      · rw [if_pos h, if_pos (by omega)]
      · rw [if_neg h, if_neg (by omega)]
theorem cl_two {V : Nat → Nat} {j : Nat} : ∀ n, cellsF V (2 ^ j) n = if j < n then V j else 1
  | 0 => rfl
  | n + 1 => by
    have ih := cl_two (V := V) (j := j) n
    by_cases q : j = n
    · subst q
      rw [cellsF_t (by rw [Nat.testBit_two_pow]; simp), ih, if_neg (Nat.lt_irrefl j), if_pos (Nat.lt_succ_self j), Nat.one_mul]
    · rw [cellsF_f (by rw [Nat.testBit_two_pow]; simp; exact q), ih]
      by_cases h : j < n
      · rw [if_pos h, if_pos (by omega)]
      · rw [if_neg h, if_neg (by omega)]
/-- drawing -/
theorem sa_dw {W BS : Nat → Nat} {U N : Nat} (hB : ∀ s, s < N → BS s = W s) (hU : U < smF W N) : ∀ k i, i + k = N → smF W i ≤ U → saG BS U k i = dwF W U k i - 1 ∧ i < dwF W U k i ∧ dwF W U k i ≤ N
  | 0, i, h, h2 => by
    rw [show i = N by omega] at h2
    omega
  | k + 1, i, h, h2 => by
    have e : sumF BS (i + 1) = smF W (i + 1) := by
      rw [sum_sm]
      exact smF_cg (i + 1) (fun s hs => hB s (by omega))
    rw [dwF_n h2]
    by_cases q : U < smF W (i + 1)
    · rw [saG_t (by rw [e]; exact q), dwF_at q]
      omega
    · rw [saG_f (by rw [e]; exact q)]
      have := sa_dw hB hU k (i + 1) (by omega) (by omega)
      omega
theorem saG_le {BS : Nat → Nat} {U : Nat} : ∀ k i, saG BS U k i ≤ i + k
  | 0, i => Nat.zero_le _
  | k + 1, i => by
    by_cases q : U < sumF BS (i + 1)
    · rw [saG_t q]; omega
    · rw [saG_f q]
      have := saG_le (BS := BS) (U := U) k (i + 1)
      omega
