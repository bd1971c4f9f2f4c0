-- LEVEL 2, orders: the reference's way through an order and the class's
theorem lt_2n {x n : Nat} (h : ∀ c, x.testBit c = true → c < n) : x < 2 ^ n := by
  apply Nat.lt_pow_two_of_testBit
  intro i hi
  cases q : x.testBit i
  · rfl
  · have := h i q
    omega
theorem Rp_lt {Nb : Nat → Nat} {n I f c : Nat} (hG : grOk Nb n) (hf : f < n) (h : Rp (nbP Nb) (btP I) f c) : c < n :=
  h (fun c => c < n) hf (fun c hc => tb_lt (hG.2.1 f) hc) (fun b c _ _ hc => tb_lt (hG.2.1 b) hc)
theorem el_lt {Nb Li : Nat → Nat} {n gone x : Nat} (hG : grOk Nb n) (hx : x < n) (hxg : gone.testBit x = false) (h : elOk Nb n gone Li) : Li x < 2 ^ n :=
  lt_2n (fun c hc => Rp_lt hG hx ((h x hx hxg c).mp hc).2.1)
/-- only the rows of names that are left and below n count -/
theorem el_fill2 {Nb Li : Nat → Nat} {n gone x : Nat} (hG : grOk Nb n) (hx : x < n) (hxg : gone.testBit x = false) (h : elOk Nb n gone Li) : fillS Nb n (bagF Nb n x gone) gone n / 2 = filF Li x n := by
  have e : ∀ a, (rowF (fun _ => 0) (fun a => if gone.testBit a then 0 else Li a) n) a < 2 ^ n := fun a => by
    unfold rowF
    split
    · rename_i h1
      show (if gone.testBit a = true then 0 else Li a) < 2 ^ n
      cases h2 : gone.testBit a
      · exact el_lt (x := a) hG h1 h2 h
      · exact Nat.pow_pos (by decide)
    · exact Nat.pow_pos (by decide)
  have e2 : ∀ a, a < n → gone.testBit a = false → rowF (fun _ => 0) (fun a => if gone.testBit a then 0 else Li a) n a = Li a := fun a ha hg => by
    rw [rowF_lt ha, hg]
    rfl
  rw [el_fill (Li := rowF (fun _ => 0) (fun a => if gone.testBit a then 0 else Li a) n) hG hx hxg (fun a ha hg c => by rw [e2 a ha hg]; exact h a ha hg c) e, fil_tri, fil_tri]
  refine sumF_cg n (fun i hi => sumF_cg i (fun c hc => ?_))
  unfold fgB
  rw [e2 x hx hxg]
  cases hq : (Li x).testBit i
  · rfl
  · rw [e2 i hi ((h x hx hxg i).mp hq).2.2]
theorem goF_cg {F H : Nat → Nat} : ∀ k, (∀ j, j < k → F j = H j) → goF F k = goF H k
  | 0, _ => rfl
  | k + 1, h => by
    simp only [goF]
    rw [goF_cg k (fun j hj => h j (by omega)), h k (by omega)]
theorem arC_st {ct : Nat → Nat → Nat} {Od : Nat → Nat} : ∀ i k j, j < i → arC ct Od (i + k) j = arC ct Od i j
  | _, 0, _, _ => rfl
  | i, k + 1, j, h => by
    show va_up (arC ct Od (i + k)) (i + k) _ j = _
    rw [va_up_ne _ _ (by omega)]
    exact arC_st i k j h
theorem arC_at {ct : Nat → Nat → Nat} {Od : Nat → Nat} {n j : Nat} (h : j < n) : arC ct Od n j = ct j (goF (arC ct Od n) j) := by
  have e1 := arC_st (ct := ct) (Od := Od) (j + 1) (n - (j + 1)) j (by omega)
  rw [show j + 1 + (n - (j + 1)) = n by omega] at e1
  rw [e1]
  simp only [arC]
  rw [va_up_self]
  congr 1
  refine goF_cg j (fun i hi => ?_)
  have e2 := arC_st (ct := ct) (Od := Od) j (n - j) i hi
  rw [show j + (n - j) = n by omega] at e2
  exact e2.symm
theorem arC_far {ct : Nat → Nat → Nat} {Od : Nat → Nat} : ∀ n j, n ≤ j → arC ct Od n j = Od j
  | 0, _, _ => rfl
  | n + 1, j, h => by
    show va_up (arC ct Od n) n _ j = _
    rw [va_up_ne _ _ (by omega)]
    exact arC_far n j (by omega)
/-- behind i steps of an order F -/
def wkI (Nb : Nat → Nat) (n : Nat) (F : Nat → Nat) (i : Nat) (s : wkT) : Prop :=
  s.2.1 = goF F i ∧ (∀ j, j < i → s.2.2.1 j = F j) ∧ (∀ j, j < i → s.2.2.2.1 j = bgC Nb n F j) ∧ s.2.2.2.2 = flC Nb n F i ∧ elOk Nb n (goF F i) s.1
theorem wkI_s {Nb F : Nat → Nat} {n i : Nat} {s : wkT} (hG : grOk Nb n) (hF : F i < n) (hg : (goF F i).testBit (F i) = false) (h : wkI Nb n F i s) : wkI Nb n F (i + 1) (wkN n i (F i) s) := by
  obtain ⟨h1, h2, h3, h4, h5⟩ := h
  refine ⟨?_, fun j hj => ?_, fun j hj => ?_, ?_, el_s hG hF hg h5⟩
  · show s.2.1 ||| 2 ^ F i = _
    rw [h1]; rfl
  · show va_up s.2.2.1 i (F i) j = _
    by_cases q : j = i
    · rw [q, va_up_self]
    · rw [va_up_ne _ _ q]; exact h2 j (by omega)
  · show va_up s.2.2.2.1 i (s.1 (F i) ||| 2 ^ F i) j = _
    by_cases q : j = i
    · rw [q, va_up_self, el_bag hG hF hg h5]; rfl
    · rw [va_up_ne _ _ q]; exact h3 j (by omega)
  · show s.2.2.2.2 + filF s.1 (F i) n = _
    rw [h4, ← el_fill2 hG hF hg h5]; rfl
theorem wkI_all {Nb F V Pl : Nat → Nat} {n how : Nat} {s0 : wkT} (hG : grOk Nb n) (h0 : wkI Nb n F 0 s0) (hF : ∀ i, i < n → F i < n ∧ (goF F i).testBit (F i) = false) (hc : ∀ i, i < n → ∀ s, wkI Nb n F i s → wkC how V Pl n s i = F i) : ∀ i, i ≤ n → wkI Nb n F i (wkF how V Pl n s0 i)
  | 0, _ => h0
  | i + 1, hi => by
    have ih := wkI_all (V := V) (Pl := Pl) (how := how) hG h0 hF hc i (by omega)
    show wkI Nb n F (i + 1) (wkN n i (wkC how V Pl n (wkF how V Pl n s0 i) i) (wkF how V Pl n s0 i))
    rw [hc i (by omega) _ ih]
    exact wkI_s hG (hF i (by omega)).1 (hF i (by omega)).2 ih
theorem wkI_0 {Nb F Li Od Bg Se : Nat → Nat} {n nf : Nat} (hG : grOk Nb n) (h : ∀ a, a < n → Nb a = drF Se nf a) : wkI Nb n F 0 (rowF Li (drF Se nf) n, 0, Od, Bg, 0) :=
  ⟨rfl, fun _ q => absurd q (Nat.not_lt_zero _), fun _ q => absurd q (Nat.not_lt_zero _), rfl, el_0 hG (fun a ha => by rw [h a ha]; exact rowF_lt ha)⟩
-- the choices
theorem goF_tb {F : Nat → Nat} {c : Nat} : ∀ k, (goF F k).testBit c = true ↔ ∃ j, j < k ∧ F j = c
  | 0 => by
    constructor
    · intro h
      rw [show goF F 0 = 0 from rfl, Nat.zero_testBit] at h
      exact absurd h (by decide)
    · rintro ⟨j, hj, -⟩
      exact absurd hj (Nat.not_lt_zero _)
  | k + 1 => by
    show (goF F k ||| 2 ^ F k).testBit c = true ↔ _
    rw [tb_or, tb_pw, goF_tb k]
    constructor
    · rintro (⟨j, h1, h2⟩ | h)
      · exact ⟨j, by omega, h2⟩
      · exact ⟨k, by omega, h⟩
    · rintro ⟨j, h1, h2⟩
      by_cases q : j = k
      · exact Or.inr (q ▸ h2)
      · exact Or.inl ⟨j, by omega, h2⟩
theorem goF_fr {F : Nat → Nat} {k c : Nat} (h : ∀ j, j < k → F j ≠ c) : (goF F k).testBit c = false := by
  cases q : (goF F k).testBit c
  · rfl
  · obtain ⟨j, h1, h2⟩ := (goF_tb k).mp q
    exact absurd h2 (h j h1)
/-- the least cost: both pick the same name when the costs differ by the same number -/
theorem pk_ch {co cc : Nat → Nat} {out dl : Nat} : ∀ n, (∀ i, i < n → out.testBit i = false → cc i = co i + dl ∧ cc i < 2147483647) → (pkF co out n = (0, 0) ∧ chC cc out n = (0, 2147483647)) ∨ (∃ p c, pkF co out n = (p + 1, c) ∧ chC cc out n = (p, c + dl))
  | 0, _ => Or.inl ⟨rfl, rfl⟩
  | n + 1, h => by
    have ih := pk_ch (co := co) (cc := cc) (out := out) (dl := dl) n (fun i hi => h i (by omega))
    cases hb : out.testBit n
    · obtain ⟨e1, e2⟩ := h n (by omega) hb
      rcases ih with ⟨h1, h2⟩ | ⟨p, c, h1, h2⟩
      · refine Or.inr ⟨n, co n, ?_, ?_⟩
        · rw [pkF_t hb (Or.inl (by rw [h1]))]
        · rw [chC_t hb (by rw [h2]; exact e2), e1]
      · by_cases hlt : co n < c
        · refine Or.inr ⟨n, co n, ?_, ?_⟩
          · rw [pkF_t hb (Or.inr (by rw [h1]; exact hlt))]
          · rw [chC_t hb (by rw [h2]; show cc n < c + dl; omega), e1]
        · refine Or.inr ⟨p, c, ?_, ?_⟩
          · rw [pkF_f hb (by rw [h1]; exact fun q => q.elim (fun z => absurd z (Nat.succ_ne_zero p)) hlt), h1]
          · rw [chC_f hb (by rw [h2]; show ¬ cc n < c + dl; omega), h2]
    · rw [pkF_o hb, chC_o hb]
      exact ih
