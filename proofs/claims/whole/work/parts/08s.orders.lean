-- LEVEL 2, the orders put together
theorem wdF_cg {A B : Nat → Nat} : ∀ n, (∀ j, j < n → A j = B j) → wdF A n = wdF B n
  | 0, _ => rfl
  | n + 1, h => by
    simp only [wdF]
    rw [wdF_cg n (fun j hj => h j (by omega)), h n (Nat.lt_succ_self n)]
theorem mcF_cg {V A B : Nat → Nat} {m : Nat} : ∀ n, (∀ j, j < n → A j = B j) → mcF V A m n = mcF V B m n
  | 0, _ => rfl
  | n + 1, h => by
    simp only [mcF]
    rw [mcF_cg n (fun j hj => h j (by omega)), h n (Nat.lt_succ_self n)]
theorem cs_cg {V A B : Nat → Nat} {m : Nat} : ∀ n, (∀ j, j < n → A j = B j) → sumF (fun i => cellsF V (A i) m) n = csF V B m n
  | 0, _ => rfl
  | n + 1, h => by
    show sumF (fun i => cellsF V (A i) m) n + cellsF V (A n) m = csF V B m n + cellsF V (B n) m
    rw [cs_cg n (fun j hj => h j (by omega)), h n (Nat.lt_succ_self n)]
/-- the class's order and the reference's tell the same -/
abbrev sqR (n : Nat) (V : Nat → Nat) (t : sqT) (r : (Nat → Nat) × (Nat → Nat) × Nat × Nat) : Prop := (t.1 = r.2.2.1) ∧ (t.2.1 = wdF r.2.1 n) ∧ (t.2.2.1 = r.2.2.2) ∧ (t.2.2.2.1 = csF V r.2.1 n n) ∧ (t.2.2.2.2.1 = mcF V r.2.1 n n) ∧ (∀ j, j < n → t.2.2.2.2.2.1 j = r.1 j) ∧ (∀ j, j < n → t.2.2.2.2.2.2 j = r.2.1 j)
theorem sqR.kind {n : Nat} {V : Nat → Nat} {t : sqT} {r : (Nat → Nat) × (Nat → Nat) × Nat × Nat} (h : sqR n V t r) : t.1 = r.2.2.1 := h.1
theorem sqR.width {n : Nat} {V : Nat → Nat} {t : sqT} {r : (Nat → Nat) × (Nat → Nat) × Nat × Nat} (h : sqR n V t r) : t.2.1 = wdF r.2.1 n := h.2.1
theorem sqR.fill {n : Nat} {V : Nat → Nat} {t : sqT} {r : (Nat → Nat) × (Nat → Nat) × Nat × Nat} (h : sqR n V t r) : t.2.2.1 = r.2.2.2 := h.2.2.1
theorem sqR.sum {n : Nat} {V : Nat → Nat} {t : sqT} {r : (Nat → Nat) × (Nat → Nat) × Nat × Nat} (h : sqR n V t r) : t.2.2.2.1 = csF V r.2.1 n n := h.2.2.2.1
theorem sqR.most {n : Nat} {V : Nat → Nat} {t : sqT} {r : (Nat → Nat) × (Nat → Nat) × Nat × Nat} (h : sqR n V t r) : t.2.2.2.2.1 = mcF V r.2.1 n n := h.2.2.2.2.1
theorem sqR.row {n : Nat} {V : Nat → Nat} {t : sqT} {r : (Nat → Nat) × (Nat → Nat) × Nat × Nat} (h : sqR n V t r) : ∀ j, j < n → t.2.2.2.2.2.1 j = r.1 j := h.2.2.2.2.2.1
theorem sqR.bag {n : Nat} {V : Nat → Nat} {t : sqT} {r : (Nat → Nat) × (Nat → Nat) × Nat × Nat} (h : sqR n V t r) : ∀ j, j < n → t.2.2.2.2.2.2 j = r.2.1 j := h.2.2.2.2.2.2
theorem wk_sq {Nb V F Bg : Nat → Nat} {n kd : Nat} {s : wkT} (h : wkI Nb n F n s) : sqR n V (tkZ Nb V n kd F Bg) (s.2.2.1, s.2.2.2.1, kd, s.2.2.2.2) := by
  obtain ⟨-, h2, h3, h4, -⟩ := h
  have hb : ∀ j, j < n → bgC Nb n F j = s.2.2.2.1 j := fun j hj => (h3 j hj).symm
  refine ⟨rfl, wdF_cg n hb, h4.symm, cs_cg n hb, mcF_cg n hb, fun j hj => (h2 j hj).symm, fun j hj => ?_⟩
  show rowF Bg (bgC Nb n F) n j = _
  rw [rowF_lt hj]
  exact hb j hj
/-- the reference's walk along the class's order, kinds 0 to 4 -/
theorem kd_all {Nb V Pl Fo Od Li Od2 Bg2 Se : Nat → Nat} {n nf kd : Nat} (hG : grOk Nb n) (hV : ∀ j, V j ≤ 4) (hk : kd < 5) (h1 : kd = 1 → pcOk Pl n) (h : ∀ a, a < n → Nb a = drF Se nf a) : ∀ i, i ≤ n → wkI Nb n (arC (ctC Nb V Pl Fo n kd) Od n) i (wkF kd V Pl n (rowF Li (drF Se nf) n, 0, Od2, Bg2, 0) i)
  | 0, _ => wkI_0 hG h
  | i + 1, hi => by
    have ih := kd_all (Fo := Fo) (Od := Od) (Li := Li) (Od2 := Od2) (Bg2 := Bg2) hG hV hk h1 h i (by omega)
    obtain ⟨a1, a2, a3⟩ := kinds (Nb := Nb) (V := V) (Pl := Pl) (Fo := Fo) (Od := Od) hG hV hk h1 i (by omega) _ ih
    show wkI Nb n _ (i + 1) (wkN n i (wkC kd V Pl n _ i) _)
    rw [a1]
    exact wkI_s hG a2 a3 ih
theorem kd_sq {Nb V Pl Fo Od Bg Li Od2 Bg2 Se : Nat → Nat} {n nf kd : Nat} (hG : grOk Nb n) (hV : ∀ j, V j ≤ 4) (hk : kd < 5) (h1 : kd = 1 → pcOk Pl n) (h : ∀ a, a < n → Nb a = drF Se nf a) :
    sqR n V (tkZ Nb V n kd (arC (ctC Nb V Pl Fo n kd) Od n) Bg) ((wkZ kd V Pl Se Li Od2 Bg2 n nf).2.2.1, (wkZ kd V Pl Se Li Od2 Bg2 n nf).2.2.2.1, kd, (wkZ kd V Pl Se Li Od2 Bg2 n nf).2.2.2.2) :=
  wk_sq (kd_all hG hV hk h1 h n (Nat.le_refl n))
theorem arC_nat {Nb V Pl Fo Od : Nat → Nat} {n : Nat} : ∀ i, arC (ctC Nb V Pl Fo n 0) Od i = rowF Od (fun j => j) i
  | 0 => (rowF_0 _ _).symm
  | i + 1 => by
    show va_up (arC (ctC Nb V Pl Fo n 0) Od i) i i = _
    rw [arC_nat i]
    exact rowF_s Od (fun j => j) i
theorem nat_sq {Nb V Od Bg Li Od2 Bg2 Pl Se : Nat → Nat} {n nf : Nat} (hG : grOk Nb n) (hV : ∀ j, V j ≤ 4) (h : ∀ a, a < n → Nb a = drF Se nf a) :
    sqR n V (tkZ Nb V n 0 (rowF Od (fun j => j) n) Bg) ((wkZ 0 V Pl Se Li Od2 Bg2 n nf).2.2.1, (wkZ 0 V Pl Se Li Od2 Bg2 n nf).2.2.2.1, 0, (wkZ 0 V Pl Se Li Od2 Bg2 n nf).2.2.2.2) := by
  have := kd_sq (Pl := Pl) (Fo := Od) (Od := Od) (Bg := Bg) (Li := Li) (Od2 := Od2) (Bg2 := Bg2) (kd := 0) hG hV (by decide) (fun q => absurd q (by decide)) h
  rw [arC_nat] at this
  exact this
theorem wkI_cg {Nb F H : Nat → Nat} {n : Nat} {s : wkT} (h : ∀ j, j < n → F j = H j) (w : wkI Nb n F n s) : wkI Nb n H n s := by
  obtain ⟨h1, h2, h3, h4, h5⟩ := w
  have hg : ∀ k, k ≤ n → goF F k = goF H k := fun k hk => goF_cg k (fun j hj => h j (by omega))
  have hb : ∀ j, j < n → bgC Nb n F j = bgC Nb n H j := fun j hj => by
    unfold bgC
    rw [h j hj, hg j (by omega)]
  have hf : ∀ k, k ≤ n → flC Nb n F k = flC Nb n H k := by
    intro k hk
    induction k with
    | zero => rfl
    | succ k ih =>
      simp only [flC]
      rw [ih (by omega), hb k (by omega), hg k (by omega)]
  exact ⟨by rw [h1, hg n (Nat.le_refl n)], fun j hj => by rw [h2 j hj, h j hj], fun j hj => by rw [h3 j hj, hb j hj], by rw [h4, hf n (Nat.le_refl n)], by rw [← hg n (Nat.le_refl n)]; exact h5⟩
theorem clR_at {V Lc : Nat → Nat} {n S : Nat} (h : S < 2 ^ n) : clR V Lc n S = cellsF V S n := by
  unfold clR
  rw [rowF_lt h]
/-- the best of all orders: both find the same row -/
theorem five {Nb V Lc Le Fo Li Od Le2 Ch2 Se : Nat → Nat} {n nf : Nat} (hG : grOk Nb n) (hV : ∀ j, V j ≤ 4) (h : ∀ a, a < n → Nb a = drF Se nf a) : ∀ j, j < n → fdR V Nb Lc Le Fo n j = orO n nf V Se Li Od Le2 Ch2 j ∧ orO n nf V Se Li Od Le2 Ch2 j < n ∧ (goF (orO n nf V Se Li Od Le2 Ch2) j).testBit (orO n nf V Se Li Od Le2 Ch2 j) = false := by
  have hL : ∀ b, b < n → rowF Li (drF Se nf) n b = Nb b := fun b hb => by rw [rowF_lt hb, h b hb]
  have h2n : 1 ≤ 2 ^ n := Nat.one_le_two_pow
  obtain ⟨w1, w2⟩ := lw_0 (Le := Le2) (Lf := Le) hG hL
  intro j hj
  have key := fw_all (Fo := Fo) (Od := Od) (wd := lwA (rowF Li (drF Se nf) n) Le2 n (2 ^ n - 1) 0) (F := chA V (rowF Li (drF Se nf) n) Ch2 n (lwA (rowF Li (drF Se nf) n) Le2 n (2 ^ n - 1) 0) (2 ^ n - 1))
    (H := ccR Nb (clR V Lc n) (lwR Nb Le n (2 ^ n - 1)) n (lwA (rowF Li (drF Se nf) n) Le2 n (2 ^ n - 1) 0) (2 ^ n - 1)) (Lc := clR V Lc n) hG hV hL (fun S hS => clR_at hS)
    (fun o ho => cc_all hG hV hL (fun S hS => clR_at hS) (2 ^ n - 1) (Nat.le_refl _) o (by omega) (by omega))
    (fun o ho => cd5_ex ho (free_ex ho)) (nz_all w2 (2 ^ n - 1) 0 (Nat.zero_add _) (Nat.le_refl _)) n (Nat.le_refl n)
  obtain ⟨-, -, -, -, k5, -⟩ := key
  obtain ⟨a1, a2, a3⟩ := k5 j hj
  refine ⟨?_, a2, a3⟩
  unfold fdR orO
  rw [← w1]
  exact a1
/-- the best order by itself, without what stood in the rows before -/
def bstR (V Nb : Nat → Nat) (n : Nat) : Nat → Nat := fdR V Nb (fun _ => 0) (fun _ => 0) (fun _ => 0) n
theorem arC_five {Nb V Pl Fo Od : Nat → Nat} {n j : Nat} (h : j < n) : arC (ctC Nb V Pl Fo n 5) Od n j = Fo j := by
  rw [arC_at h]
  rfl
theorem five_sq {Nb V Pl Fo Od Bg Li Od2 Bg2 Le2 Ch2 Se : Nat → Nat} {n nf : Nat} (hG : grOk Nb n) (hV : ∀ j, V j ≤ 4) (h : ∀ a, a < n → Nb a = drF Se nf a) (hF : ∀ j, j < n → Fo j = orO n nf V Se Li Od2 Le2 Ch2 j) :
    sqR n V (tkZ Nb V n 5 (arC (ctC Nb V Pl Fo n 5) Od n) Bg) (orO n nf V Se Li Od2 Le2 Ch2, (or5 n nf V Se Li Od2 Bg2 Le2 Ch2).2.2.2.1, 5, (or5 n nf V Se Li Od2 Bg2 Le2 Ch2).2.2.2.2) := by
  have hf := five (Lc := fun _ => 0) (Le := fun _ => 0) (Fo := fun _ => 0) (Li := Li) (Od := Od2) (Le2 := Le2) (Ch2 := Ch2) hG hV h
  have w := wkI_all (V := V) (how := 1) (Pl := fun i => orO n nf V Se Li Od2 Le2 Ch2 i + 1) (F := orO n nf V Se Li Od2 Le2 Ch2) (s0 := (rowF Li (drF Se nf) n, 0, orO n nf V Se Li Od2 Le2 Ch2, Bg2, 0)) hG (wkI_0 hG h) (fun i hi => (hf i hi).2) (fun i hi s _ => rfl) n (Nat.le_refl n)
  have w2 := wkI_cg (H := arC (ctC Nb V Pl Fo n 5) Od n) (fun j hj => by rw [arC_five hj, hF j hj]) w
  have q := wk_sq (V := V) (kd := 5) (Bg := Bg) w2
  obtain ⟨q1, q2, q3, q4, q5, q6, q7⟩ := q
  exact ⟨q1, q2, q3, q4, q5, fun j hj => by
    show arC (ctC Nb V Pl Fo n 5) Od n j = _
    rw [arC_five hj]; exact hF j hj, q7⟩
/-- the later place whose bag has the name: the same walk -/
theorem par_eq {b : Nat} {Od Od2 Bg2 : Nat → Nat} {n i : Nat} (hb : b = Bg2 i) (hO : ∀ j, j < n → Od j = Od2 j) : ∀ k j, j + k = n → parF b Od k j = paF Od2 Bg2 i k j
  | 0, _, _ => rfl
  | k + 1, j, h => by
    simp only [parF, paF]
    rw [hb, hO j (by omega), ← hb, par_eq hb hO k (j + 1) (by omega), hb]
