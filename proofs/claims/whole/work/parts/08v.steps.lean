-- LEVEL 2, the steps of a run
theorem lkd_cg {X Y : Nat → fR} : ∀ L : List Nat, (∀ i, i ∈ L → xA (X i) = xA (Y i)) → lkd X L = lkd Y L
  | [], _ => rfl
  | i :: _, h => by
    show some (xA (X i)) = some (xA (Y i))
    rw [h i List.mem_cons_self]
theorem chOk_cg {X Y : Nat → fR} {m : Nat} : ∀ L : List Nat, (∀ i, i ∈ L → xA (X i) = xA (Y i) ∧ xX (X i) = xX (Y i)) → chOk X m L → chOk Y m L
  | [], _, _ => trivial
  | i :: L, h, hc => by
    have h2 : ∀ j, j ∈ L → xA (X j) = xA (Y j) ∧ xX (X j) = xX (Y j) := fun j hj => h j (List.mem_cons_of_mem _ hj)
    exact ⟨hc.1, by rw [← (h i List.mem_cons_self).2, hc.2.1]; exact lkd_cg L (fun j hj => (h2 j hj).1), chOk_cg L h2 hc.2.2⟩
theorem sum_cg {A B : Nat → Nat} : ∀ n, (∀ j, j < n → A j = B j) → sumF A n = sumF B n
  | 0, _ => rfl
  | n + 1, h => by
    show sumF A n + A n = sumF B n + B n
    rw [sum_cg n (fun j hj => h j (by omega)), h n (Nat.lt_succ_self n)]
theorem sum_up {A : Nat → Nat} {k q : Nat} : ∀ n, k < n → sumF (va_up A k q) n + A k = sumF A n + q
  | 0, h => absurd h (Nat.not_lt_zero _)
  | n + 1, h => by
    show sumF (va_up A k q) n + va_up A k q n + A k = sumF A n + A n + q
    by_cases z : k = n
    · subst z
      rw [va_up_self, sum_cg (B := A) k (fun j hj => va_up_ne _ _ (by omega))]
      omega
    · rw [va_up_ne _ _ (by omega)]
      have := sum_up (A := A) (k := k) (q := q) n (by omega)
      omega
theorem chL_cg {A B : Nat → Nat} : ∀ k c, (∀ i, i < k → A i = B i) → chL A k c = chL B k c
  | 0, _, _ => rfl
  | k + 1, c, h => by
    simp only [chL]
    rw [chL_cg k c (fun i hi => h i (by omega)), h k (Nat.lt_succ_self k)]
theorem orF_cg {A B : Nat → Nat} {a : Nat} : ∀ k, (∀ i, i < k → A i = B i) → orF A a k = orF B a k
  | 0, _ => rfl
  | k + 1, h => by
    simp only [orF]
    rw [orF_cg k (fun i hi => h i (by omega)), h k (Nat.lt_succ_self k)]
theorem jn_dr {Se Nb : Nat → Nat} {n nf S : Nat} (hN : ∀ a, Nb a = drF Se nf a) (hS : S < 2 ^ n) (a : Nat) : rowF Nb (jnF Nb S) n a = drF (va_up Se nf S) (nf + 1) a := by
  have e : orF (va_up Se nf S) a nf = orF Se a nf := orF_cg nf (fun i hi => va_up_ne _ _ (by omega))
  have e2 : drF (va_up Se nf S) (nf + 1) a = if S.testBit a then sdf (orF Se a nf ||| S) (2 ^ a) else drF Se nf a := by
    unfold drF
    simp only [orF]
    rw [e, va_up_self]
    cases S.testBit a <;> rfl
  have e3 : ∀ x y z : Nat, sdf (x ||| y) z = sdf x z ||| sdf y z := fun x y z => Nat.eq_of_testBit_eq fun i => by
    rw [sdf_bit, Nat.testBit_or, Nat.testBit_or, sdf_bit, sdf_bit]
    cases x.testBit i <;> cases y.testBit i <;> cases z.testBit i <;> rfl
  rw [e2]
  unfold rowF
  by_cases ha : a < n
  · rw [if_pos ha]
    cases hb : S.testBit a
    · rw [jnF_f hb, hN]; rfl
    · rw [jnF_t hb, hN]
      show _ = sdf (orF Se a nf ||| S) (2 ^ a)
      rw [e3]
      rfl
  · rw [if_neg ha, hN]
    have : S.testBit a = false := Nat.testBit_lt_two_pow (Nat.lt_of_lt_of_le hS (Nat.pow_le_pow_right (by decide) (by omega)))
    rw [this]
    rfl
theorem cl4 {V : Nat → Nat} {S : Nat} (hV : ∀ j, V j ≤ 4) : ∀ n, cellsF V S n ≤ 4 ^ popP S n
  | 0 => Nat.le_refl 1
  | n + 1 => by
    have ih := cl4 (V := V) (S := S) hV n
    show _ ≤ 4 ^ (popP S n + bitN S n)
    cases hb : S.testBit n
    · rw [cellsF_f hb, bitN_f hb]; exact ih
    · rw [cellsF_t hb, bitN_t hb, Nat.pow_succ]; exact Nat.mul_le_mul ih (hV n)
theorem onF_in {En : Nat → Nat} {b k y : Nat} (h : b ≤ y ∧ y < b + k) : onF En b k y = 1 := by unfold onF; rw [if_pos h]
theorem onF_out {En : Nat → Nat} {b k y : Nat} (h : ¬ (b ≤ y ∧ y < b + k)) : onF En b k y = En y := by unfold onF; rw [if_neg h]
theorem row1 {y : Nat} (h : y < 256) : rowF (fun _ => 0) (fun _ => 1) 256 y = 1 := by rw [rowF_lt h]
theorem row1_le {y : Nat} : rowF (fun _ => 0) (fun _ => 1) 256 y ≤ 7 ^ 1 := by
  unfold rowF
  split
  · exact (by decide : (1 : Nat) ≤ 7 ^ 1)
  · exact (by decide : (0 : Nat) ≤ 7 ^ 1)
theorem iF.factor {n nf S : Nat} {V Se Co En : Nat → Nat} {ca : Nat} {fB fL : Nat → Option Nat} {X : Nat → fR} {ad : Nat × Nat × Nat × Nat × Nat} (h : iF n nf V Se Co En ca fB fL X) (hn : n ≤ 12) (hV : ∀ j, V j ≤ 4) (hV0 : ∀ j, j < n → 0 < V j) (hca : ca < 16) (hS : S < 2 ^ n) (h4 : popc S ≤ 4) (had : X nf = frF ad) :
    iF n (nf + 1) V (va_up Se nf S) (va_up Co nf 1) (onF En (256 * nf) 256) (ca + 1) fB (va_up fL (alF S 12) (some ad.1)) (va_up X nf (nwF ad (fL (alF S 12)) V S n)) := by
  have hnc := h.nc
  have eS : ∀ i, i < nf → va_up Se nf S i = Se i := fun i hi => va_up_ne _ _ (by omega)
  have eX : ∀ i, i < nf → va_up X nf (nwF ad (fL (alF S 12)) V S n) i = X i := fun i hi => va_up_ne _ _ (by omega)
  have hA : ∀ i, xA (va_up X nf (nwF ad (fL (alF S 12)) V S n) i) = xA (X i) := fun i => by
    by_cases q : i = nf
    · rw [q, va_up_self, had]; rfl
    · rw [va_up_ne _ _ q]
  refine ⟨by omega, by omega, ?_, fun y => ?_, fun i hi => ?_, fun i h1 h2 => ?_, fun i hi => ?_, fun c => ?_⟩
  · show ca + 1 = sumF (va_up Co nf 1) nf + va_up Co nf 1 nf
    rw [va_up_self, sum_cg nf (fun j hj => va_up_ne _ _ (by omega)), h.cs]
  · by_cases q : 256 * nf ≤ y ∧ y < 256 * nf + 256
    · rw [onF_in q]; decide
    · rw [onF_out q]; exact h.e7 y
  · by_cases q : i = nf
    · subst q
      have hp : cellsF V S n ≤ 256 := Nat.le_trans (cl4 hV n) (Nat.le_trans (Nat.pow_le_pow_right (by decide) (Nat.le_trans (popP_le hn) h4)) (by decide))
      refine ⟨by rw [va_up_self]; exact hS, by rw [va_up_self]; exact h4, by rw [va_up_self, va_up_self]; rfl, by rw [va_up_self, va_up_self]; rfl, by rw [va_up_self]; exact hp, by rw [va_up_self]; exact cl_pos n hV0, by rw [va_up_self, va_up_self]; rfl, by rw [va_up_self]; decide, fun y hy => ?_, fun y hy => ?_, fun y => ?_, fun y _ => ?_⟩
      · rw [va_up_self] at hy ⊢
        have hy2 : y < cellsF V S n := hy
        rw [onF_in (by omega)]
        exact row1 (by omega)
      · rw [va_up_self] at hy ⊢
        have hy2 : y < cellsF V S n := hy
        show rowF (fun _ => 0) (fun _ => 1) 256 y = rowF (fun _ => 0) (fun _ => 1) 256 y ^ 1
        rw [Nat.pow_one]
      · rw [va_up_self]
        exact row1_le
      · rw [va_up_self]
        show rowF (fun _ => 0) (fun _ => 1) 256 y ≤ 1
        unfold rowF
        split
        · exact Nat.le_refl 1
        · exact Nat.zero_le 1
    · have hi2 : i < nf := by omega
      have hk := h.fc i hi2
      refine ⟨by rw [eS i hi2]; exact hk.lt, by rw [eS i hi2]; exact hk.four, by rw [eS i hi2, eX i hi2]; exact hk.rows, by rw [eS i hi2, eX i hi2]; exact hk.cells, by rw [eS i hi2]; exact hk.small, by rw [eS i hi2]; exact hk.pos, by rw [eX i hi2, va_up_ne _ _ q]; exact hk.times, by rw [va_up_ne _ _ q]; exact hk.cop, fun y hy => ?_, fun y hy => ?_, fun y => ?_, fun y hy => by rw [eX i hi2] at hy ⊢; exact hk.far y hy⟩
      · rw [eX i hi2] at hy ⊢
        have hc := hk.cells
        have hs := hk.small
        rw [onF_out (by omega)]
        exact hk.ent y hy
      · rw [eX i hi2] at hy ⊢
        exact hk.pow y hy
      · rw [eX i hi2]
        exact hk.ple y
  · rw [va_up_ne _ _ (by omega)]
    exact h.fr i (by omega) h2
  · rw [hA]
    exact h.hB i hi
  · have hm : ∀ i, i ∈ chL Se nf c → i < nf := fun i hi => ((chL_mem nf).mp hi).1
    have eL : chL (va_up Se nf S) nf c = chL Se nf c := chL_cg nf c eS
    have l1 : lkd (va_up X nf (nwF ad (fL (alF S 12)) V S n)) (chL Se nf c) = lkd X (chL Se nf c) := lkd_cg _ (fun i _ => hA i)
    have l2 : chOk (va_up X nf (nwF ad (fL (alF S 12)) V S n)) 16 (chL Se nf c) := chOk_cg _ (fun i hi => by rw [eX i (hm i hi)]; exact ⟨rfl, rfl⟩) (h.hL c).2
    by_cases q : alF S 12 = c
    · have e : chL (va_up Se nf S) (nf + 1) c = nf :: chL Se nf c := by
        simp only [chL]
        rw [va_up_self, if_pos q, eL]
      rw [e]
      refine ⟨?_, by omega, ?_, l2⟩
      · rw [← q, va_up_self]
        show some ad.1 = some (xA (va_up X nf _ nf))
        rw [va_up_self]
        rfl
      · rw [l1, va_up_self]
        show fL (alF S 12) = _
        rw [q]
        exact (h.hL c).1
    · have e : chL (va_up Se nf S) (nf + 1) c = chL Se nf c := by
        simp only [chL]
        rw [va_up_self, if_neg q, eL]
      rw [e, va_up_ne _ _ (fun z => q z.symm), l1]
      exact ⟨(h.hL c).1, l2⟩
theorem INV.factor {n nf stt mem : Nat} {V Pl Nb : Nat → Nat} {t : sqT} {kn : Nat} {r : srT} {ca : Nat} {fB fL : Nat → Option Nat} {X : Nat → fR} {tw : wT} {kw : Nat} {Bd Se Co En Bm : Nat → Nat} {L O B : Nat → Nat} {kd fi sl : Nat} {Lm Cm Tw Ts : Nat → Nat} {tp : Nat} {S : Nat} {ad : Nat × Nat × Nat × Nat × Nat}
    (h : INV n nf stt mem V Pl Nb t kn r ca fB fL X tw kw Bd Se Co En Bm (L, O, B, kd, fi, sl) Lm Cm Tw Ts tp) (hca : ca < 16) (hS : S < 2 ^ n) (h4 : popc S ≤ 4) (had : X nf = frF ad) :
    INV n (nf + 1) stt mem V Pl (rowF Nb (jnF Nb S) n) t 0 (0, r.2) (ca + 1) fB (va_up fL (alF S 12) (some ad.1)) (va_up X nf (nwF ad (fL (alF S 12)) V S n)) tw 0 Bd (va_up Se nf S) (va_up Co nf 1) (onF En (256 * nf) 256) Bm (L, O, B, kd, fi, 1) Lm Cm Tw Ts tp := by
  have h12 := h.a.n12
  have h2m : 2 ^ n ≤ 4096 := Nat.pow_le_pow_right (by decide) h12
  have hS2 : iS n (nf + 1) (va_up Se nf S) (rowF Nb (jnF Nb S) n) := by
    refine ⟨fun i => ?_, fun i hi => ?_, jn_dr h.s.nb hS⟩
    · unfold va_up
      split
      · omega
      · exact h.s.s4 i
    · by_cases q : i = nf
      · rw [q, va_up_self]; exact hS
      · rw [va_up_ne _ _ q]; exact h.s.sn i (by omega)
  exact ⟨h.a, h.p, h.p2, h.m, hS2, q_new ⟨h.q.ob.1, h.q.ob.2.1, h.q.ob.2.2.1, Nat.le_refl 1⟩ (hS2.gr h12) h.a.V4 hS2.nb h.q.od h.q.bg h.q.mx rfl, ⟨Nat.zero_le 1, h.r.cn, h.r.ce, h.r.lc, h.r.le, fun q => absurd (show (0 : Nat) = 1 from q) (by decide)⟩, h.f.factor h12 h.a.V4 h.a.V0 hca hS h4 had, h.b, ⟨Nat.zero_le 1, h.w.b, fun q => absurd q (by decide)⟩, h.x⟩
/-- a factor changed in place: addresses and links stay -/
theorem iF.set {n nf k : Nat} {V Se Co Co2 En En2 : Nat → Nat} {ca ca2 : Nat} {fB fL : Nat → Option Nat} {X : Nat → fR} {x : fR} (h : iF n nf V Se Co En ca fB fL X) (hk : k < nf) (hx : x.1 = (X k).1) (hl : xX x = xX (X k)) (h1 : ca2 ≤ 16) (h2 : nf ≤ ca2) (h3 : ca2 = sumF Co2 nf) (h4 : ∀ y, En2 y ≤ 7) (h5 : fcOk V Se Co2 En2 n (va_up X k x) k)
    (h6 : ∀ i, i < nf → i ≠ k → Co2 i = Co i ∧ ∀ y, y < 256 → En2 (256 * i + y) = En (256 * i + y)) : iF n nf V Se Co2 En2 ca2 fB fL (va_up X k x) := by
  have hA : ∀ i, xA (va_up X k x i) = xA (X i) ∧ xX (va_up X k x i) = xX (X i) := fun i => by
    by_cases q : i = k
    · rw [q, va_up_self]; exact ⟨by show x.1.1 = (X k).1.1; rw [hx], hl⟩
    · rw [va_up_ne _ _ q]; exact ⟨rfl, rfl⟩
  refine ⟨h1, h2, h3, h4, fun i hi => ?_, fun i a1 a2 => ?_, fun i hi => ?_, fun c => ?_⟩
  · by_cases q : i = k
    · rw [q]; exact h5
    · have hq := h.fc i hi
      obtain ⟨c1, c2⟩ := h6 i hi q
      have e : va_up X k x i = X i := va_up_ne _ _ q
      refine ⟨hq.lt, hq.four, by rw [e]; exact hq.rows, by rw [e]; exact hq.cells, hq.small, hq.pos, by rw [e, c1]; exact hq.times, by rw [c1]; exact hq.cop, fun y hy => ?_, fun y hy => ?_, fun y => ?_, fun y hy => by rw [e] at hy ⊢; exact hq.far y hy⟩
      · rw [e] at hy ⊢
        have s1 := hq.cells
        have s2 := hq.small
        rw [c2 y (by omega)]
        exact hq.ent y hy
      · rw [e] at hy ⊢
        exact hq.pow y hy
      · rw [e]
        exact hq.ple y
  · rw [va_up_ne _ _ (by omega)]
    exact h.fr i a1 a2
  · rw [(hA i).1]
    exact h.hB i hi
  · obtain ⟨b1, b2⟩ := h.hL c
    exact ⟨by rw [b1]; exact lkd_cg _ (fun i _ => (hA i).1.symm), chOk_cg _ (fun i _ => ⟨(hA i).1.symm, (hA i).2.symm⟩) b2⟩
theorem iF.put {n nf k y v : Nat} {V Se Co En : Nat → Nat} {ca : Nat} {fB fL : Nat → Option Nat} {X : Nat → fR} (h : iF n nf V Se Co En ca fB fL X) (hk : k < nf) (hy : y < xC (X k)) (hv : v ≤ 7) : iF n nf V Se Co (va_up En (256 * k + y) v) ca fB fL (va_up X k (ptF (X k) y v)) := by
  have hq := h.fc k hk
  have s1 := hq.cells
  have s2 := hq.small
  refine h.set hk rfl rfl h.c16 h.nc h.cs (fun z => ?_) ?_ (fun i hi hne => ⟨rfl, fun z hz => va_up_ne _ _ (by omega)⟩)
  · unfold va_up
    split
    · exact hv
    · exact h.e7 z
  · have e : va_up X k (ptF (X k) y v) k = ptF (X k) y v := va_up_self _ _ _
    refine ⟨hq.lt, hq.four, by rw [e]; exact hq.rows, by rw [e]; exact hq.cells, hq.small, hq.pos, by rw [e]; exact hq.times, hq.cop, fun z hz => ?_, fun z hz => ?_, fun z => ?_, fun z hz => ?_⟩
    · rw [e] at hz ⊢
      show va_up (yE (X k)) y v z = _
      by_cases q : z = y
      · rw [q, va_up_self, va_up_self]
      · rw [va_up_ne _ _ q, va_up_ne _ _ (by omega)]
        exact hq.ent z hz
    · rw [e] at hz ⊢
      show va_up (yP (X k)) y (v ^ xT (X k)) z = va_up (yE (X k)) y v z ^ xT (X k)
      by_cases q : z = y
      · rw [q, va_up_self, va_up_self]
      · rw [va_up_ne _ _ q, va_up_ne _ _ q]
        exact hq.pow z hz
    · rw [e]
      show va_up (yP (X k)) y (v ^ xT (X k)) z ≤ 7 ^ xT (X k)
      by_cases q : z = y
      · rw [q, va_up_self]; exact Nat.pow_le_pow_left hv _
      · rw [va_up_ne _ _ q]; exact hq.ple z
    · rw [e] at hz ⊢
      have hz2 : xC (X k) ≤ z := hz
      show va_up (yP (X k)) y (v ^ xT (X k)) z ≤ 1
      rw [va_up_ne _ _ (by omega)]
      exact hq.far z hz2
theorem iF.copies {n nf k q : Nat} {V Se Co En : Nat → Nat} {ca : Nat} {fB fL : Nat → Option Nat} {X : Nat → fR} (h : iF n nf V Se Co En ca fB fL X) (hk : k < nf) (hq : 1 ≤ q ∧ q ≤ 3) (hc : ca - xT (X k) + q ≤ 16) : iF n nf V Se (va_up Co k q) En (ca - xT (X k) + q) fB fL (va_up X k (cpF (X k) q)) := by
  have hf := h.fc k hk
  have hs := sum_up (A := Co) (q := q) nf hk
  have hle := sumF_in (Co := Co) hk
  have ht := hf.times
  have hcs := h.cs
  have hnn : nf ≤ ca - xT (X k) + q := by
    have key : ∀ m, k < m → m ≤ nf → m ≤ sumF (va_up Co k q) m := by
      intro m
      induction m with
      | zero => intro a _; omega
      | succ m ih =>
        intro a b
        show _ ≤ sumF (va_up Co k q) m + va_up Co k q m
        by_cases z : k = m
        · subst z
          rw [va_up_self]
          have : ∀ w, w ≤ k → w ≤ sumF (va_up Co k q) w := by
            intro w
            induction w with
            | zero => intro _; exact Nat.zero_le _
            | succ w ih2 =>
              intro c
              show _ ≤ sumF (va_up Co k q) w + va_up Co k q w
              rw [va_up_ne _ _ (by omega)]
              have := (h.fc w (by omega)).cop.1
              have := ih2 (by omega)
              omega
          have := this k (Nat.le_refl k)
          omega
        · rw [va_up_ne _ _ (by omega)]
          have := (h.fc m (by omega)).cop.1
          have := ih (by omega) (by omega)
          omega
    have := key nf hk (Nat.le_refl nf)
    omega
  refine h.set hk rfl rfl hc hnn (by omega) h.e7 ?_ (fun i hi hne => ⟨va_up_ne _ _ hne, fun z hz => rfl⟩)
  have e : va_up X k (cpF (X k) q) k = cpF (X k) q := va_up_self _ _ _
  refine ⟨hf.lt, hf.four, by rw [e]; exact hf.rows, by rw [e]; exact hf.cells, hf.small, hf.pos, by rw [e, va_up_self]; rfl, by rw [va_up_self]; exact hq, fun z hz => ?_, fun z hz => ?_, fun z => ?_, fun z hz => ?_⟩
  · rw [e] at hz ⊢
    exact hf.ent z hz
  · rw [e] at hz ⊢
    show rowF (yP (X k)) (fun y => yE (X k) y ^ q) (xC (X k)) z = yE (X k) z ^ q
    rw [rowF_lt (show z < xC (X k) from hz)]
  · rw [e]
    show rowF (yP (X k)) (fun y => yE (X k) y ^ q) (xC (X k)) z ≤ 7 ^ q
    by_cases w : z < xC (X k)
    · rw [rowF_lt w, hf.ent z w]
      exact Nat.pow_le_pow_left (h.e7 _) _
    · rw [rowF_ge (by omega)]
      exact Nat.le_trans (hf.far z (by omega)) (Nat.pow_pos (by decide))
  · rw [e] at hz ⊢
    have hz2 : xC (X k) ≤ z := hz
    show rowF (yP (X k)) (fun y => yE (X k) y ^ q) (xC (X k)) z ≤ 1
    rw [rowF_ge hz2]
    exact hf.far z hz2
