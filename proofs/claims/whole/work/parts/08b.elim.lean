-- LEVEL 2, the graph: the reference's bags are the class's
theorem bgN_in {L : Nat → Nat} {a out sn b c : Nat} (hb : sn.testBit b = true ∧ (b = a ∨ out.testBit b = true)) (hc : (L b).testBit c = true) : ∀ m, b < m → (bgN L a out sn m).testBit c = true
  | 0, h => absurd h (Nat.not_lt_zero _)
  | m + 1, h => by
    by_cases q : b = m
    · subst q
      rw [bgN_t hb]
      exact tb_or.mpr (Or.inr hc)
    · have ih := bgN_in hb hc m (by omega)
      by_cases hm : sn.testBit m = true ∧ (m = a ∨ out.testBit m = true)
      · rw [bgN_t hm]; exact tb_or.mpr (Or.inl ih)
      · rw [bgN_f hm]; exact ih
theorem bgN_sn {L : Nat → Nat} {a out sn c : Nat} (hc : sn.testBit c = true) : ∀ m, (bgN L a out sn m).testBit c = true
  | 0 => hc
  | m + 1 => by
    by_cases hm : sn.testBit m = true ∧ (m = a ∨ out.testBit m = true)
    · rw [bgN_t hm]; exact tb_or.mpr (Or.inl (bgN_sn hc m))
    · rw [bgN_f hm]; exact bgN_sn hc m
theorem bgN_R {L : Nat → Nat} {a out sn : Nat} (h : ∀ c, sn.testBit c = true → Rp (nbP L) (btP out) a c) : ∀ m c, (bgN L a out sn m).testBit c = true → Rp (nbP L) (btP out) a c
  | 0, c, hc => h c hc
  | m + 1, c, hc => by
    by_cases hm : sn.testBit m = true ∧ (m = a ∨ out.testBit m = true)
    · rw [bgN_t hm] at hc
      rcases tb_or.mp hc with q | q
      · exact bgN_R h m c q
      · rcases hm.2 with e | e
        · exact Rp_nb (e ▸ q)
        · exact Rp_cl (h m hm.1) e q
    · rw [bgN_f hm] at hc
      exact bgN_R h m c hc
theorem bgN_2 {L : Nat → Nat} {n : Nat} (hL : ∀ i, L i < 2 ^ n) {a out sn : Nat} (h : sn < 2 ^ n) : ∀ b, bgN L a out sn b < 2 ^ n
  | 0 => h
  | b + 1 => by
    by_cases hc : sn.testBit b = true ∧ (b = a ∨ out.testBit b = true)
    · rw [bgN_t hc]; exact or_lt2 (bgN_2 hL h b) (hL b)
    · rw [bgN_f hc]; exact bgN_2 hL h b
theorem bgX_ok {L : Nat → Nat} {n a out : Nat} (hL : ∀ i, L i < 2 ^ n) : ∀ k sn, sn < 2 ^ n → 2 ^ n ≤ sn + k → (∀ c, sn.testBit c = true → Rp (nbP L) (btP out) a c) →
    bgX L n a out k sn < 2 ^ n ∧ (∀ c, (bgX L n a out k sn).testBit c = true → Rp (nbP L) (btP out) a c) ∧ (∀ c, sn.testBit c = true → (bgX L n a out k sn).testBit c = true) ∧ bgN L a out (bgX L n a out k sn) n = bgX L n a out k sn
  | 0, sn, h, hk, _ => absurd hk (by omega)
  | k + 1, sn, h, hk, hR => by
    by_cases hc : bgN L a out sn n = sn
    · rw [bgX_e hc]
      exact ⟨h, hR, fun _ q => q, hc⟩
    · rw [bgX_n hc]
      have hg := bgN_ge (L := L) (a := a) (out := out) (sn := sn) n
      obtain ⟨a1, a2, a3, a4⟩ := bgX_ok (a := a) (out := out) hL k (bgN L a out sn n) (bgN_2 hL h n) (by omega) (bgN_R hR n)
      exact ⟨a1, a2, fun c q => a3 c (bgN_sn q n), a4⟩
theorem mbF_eq {L : Nat → Nat} {n a out : Nat} (hn : n ≤ 12) (hL : ∀ i, L i < 2 ^ n) (ha : a < n) (hao : out.testBit a = false) : mbF L n a out = bagF L n a out := by
  have h2 : 2 ^ n ≤ 4096 := Nat.pow_le_pow_right (by decide) hn
  obtain ⟨a1, a2, a3, a4⟩ := bgX_ok (a := a) (out := out) hL 4096 (2 ^ a) (pw_lt2 ha) (Nat.le_trans h2 (Nat.le_add_left _ _)) (fun c hc => by rw [← tb_pw.mp hc]; exact Rp_self)
  have hcl : ∀ b c, (bgX L n a out 4096 (2 ^ a)).testBit b = true → (b = a ∨ out.testBit b = true) → (L b).testBit c = true → (bgX L n a out 4096 (2 ^ a)).testBit c = true := fun b c h1 h2 h3 => by
    have := bgN_in ⟨h1, h2⟩ h3 n (tb_lt a1 h1)
    rw [a4] at this
    exact this
  have ha0 := a3 a (tb_pw.mpr rfl)
  apply nat_ext
  intro c
  rw [bagF_iff hn hL ha]
  unfold mbF
  rw [tb_or, tb_pw, tb_sdf]
  constructor
  · rintro (rfl | ⟨h1, h2⟩)
    · exact ⟨Rp_self, hao⟩
    · exact ⟨a2 c h1, h2⟩
  · rintro ⟨h1, h2⟩
    exact Or.inr ⟨h1 (fun c => (bgX L n a out 4096 (2 ^ a)).testBit c = true) ha0 (fun c hc => hcl a c ha0 (Or.inl rfl) hc) (fun b c q1 q2 q3 => hcl b c q1 (Or.inr q2) q3), h2⟩
/-- the links that the reference keeps, when some are gone -/
def elOk (Nb : Nat → Nat) (n gone : Nat) (Li : Nat → Nat) : Prop := ∀ a, a < n → gone.testBit a = false → ∀ c, (Li a).testBit c = true ↔ c ≠ a ∧ Rp (nbP Nb) (btP gone) a c ∧ gone.testBit c = false
def grOk (Nb : Nat → Nat) (n : Nat) : Prop := n ≤ 12 ∧ (∀ i, Nb i < 2 ^ n) ∧ (∀ a b, nbP Nb a b → nbP Nb b a) ∧ (∀ a, ¬ nbP Nb a a)
theorem el_0 {Nb Li : Nat → Nat} {n : Nat} (hG : grOk Nb n) (h : ∀ a, a < n → Li a = Nb a) : elOk Nb n 0 Li := fun a ha _ c => by
  rw [h a ha]
  constructor
  · intro hc
    refine ⟨fun q => hG.2.2.2 a (q ▸ hc), Rp_nb hc, Nat.zero_testBit c⟩
  · rintro ⟨h1, h2, -⟩
    exact (h2 (fun c => c = a ∨ nbP Nb a c) (Or.inl rfl) (fun _ q => Or.inr q) (fun b c _ q _ => by unfold btP at q; rw [Nat.zero_testBit] at q; exact absurd q (by decide))).resolve_left h1
theorem el_s {Nb Li : Nat → Nat} {n gone x : Nat} (hG : grOk Nb n) (hx : x < n) (hxg : gone.testBit x = false) (h : elOk Nb n gone Li) : elOk Nb n (gone ||| 2 ^ x) (toF Li n x) := fun b hb hbg c => by
  have hg1 : gone.testBit b = false := by
    rw [Nat.testBit_or, Bool.or_eq_false_iff] at hbg; exact hbg.1
  have hbx : b ≠ x := fun q => by
    rw [Nat.testBit_or, Bool.or_eq_false_iff, Nat.testBit_two_pow] at hbg
    exact absurd hbg.2 (by simp [q])
  have hI : ∀ e, btP (gone ||| 2 ^ x) e ↔ (btP gone e ∨ e = x) := fun e => by
    unfold btP
    rw [tb_or, tb_pw]
    exact ⟨fun q => q.imp id Eq.symm, fun q => q.imp id Eq.symm⟩
  have hcg : (gone ||| 2 ^ x).testBit c = false ↔ gone.testBit c = false ∧ c ≠ x := by
    rw [Nat.testBit_or, Bool.or_eq_false_iff, Nat.testBit_two_pow, decide_eq_false_iff_not]
    exact ⟨fun q => ⟨q.1, fun e => q.2 e.symm⟩, fun q => ⟨q.1, fun e => q.2 e.symm⟩⟩
  rw [Rp_cg hI, Rp_add hG.2.2.1, hcg]
  have hxb := h x hx hxg b
  have hbc := h b hb hg1 c
  have hxc := h x hx hxg c
  have ht : toF Li n x b = toB Li x b := by
    unfold toF
    rw [va_up_ne _ _ hbx]
    exact rowF_lt hb
  rw [ht]
  unfold toB
  cases hq : (Li x).testBit b
  · have hn : ¬ Rp (nbP Nb) (btP gone) b x := fun q => by
      have := hxb.mpr ⟨hbx, Rp_sym hG.2.2.1 q, hg1⟩
      rw [hq] at this
      exact absurd this (by decide)
    rw [if_neg (by decide), hbc]
    constructor
    · rintro ⟨h1, h2, h3⟩
      exact ⟨h1, Or.inl h2, h3, fun e => hn (e ▸ h2)⟩
    · rintro ⟨h1, h2, h3, -⟩
      exact ⟨h1, h2.resolve_right (fun q => hn q.1), h3⟩
  · have hr : Rp (nbP Nb) (btP gone) b x := Rp_sym hG.2.2.1 (hxb.mp hq).2.1
    rw [if_pos rfl, tb_sdf, tb_sdf, tb_or, hbc, hxc, Nat.testBit_two_pow, Nat.testBit_two_pow, decide_eq_false_iff_not, decide_eq_false_iff_not]
    constructor
    · rintro ⟨⟨h1 | h1, h2⟩, h3⟩
      · exact ⟨h1.1, Or.inl h1.2.1, h1.2.2, fun e => h3 e.symm⟩
      · exact ⟨fun e => h2 e.symm, Or.inr ⟨hr, h1.2.1⟩, h1.2.2, h1.1⟩
    · rintro ⟨h1, h2 | h2, h3, h4⟩
      · exact ⟨⟨Or.inl ⟨h1, h2, h3⟩, fun e => h1 e.symm⟩, fun e => h4 e.symm⟩
      · exact ⟨⟨Or.inr ⟨h4, h2.2, h3⟩, fun e => h1 e.symm⟩, fun e => h4 e.symm⟩
/-- the bag that the reference tells is the class's -/
theorem el_bag {Nb Li : Nat → Nat} {n gone x : Nat} (hG : grOk Nb n) (hx : x < n) (hxg : gone.testBit x = false) (h : elOk Nb n gone Li) : Li x ||| 2 ^ x = bagF Nb n x gone := by
  apply nat_ext
  intro c
  rw [bagF_iff hG.1 hG.2.1 hx, tb_or, tb_pw, h x hx hxg c]
  constructor
  · rintro (⟨-, h2, h3⟩ | rfl)
    · exact ⟨h2, h3⟩
    · exact ⟨Rp_self, hxg⟩
  · rintro ⟨h1, h2⟩
    by_cases q : x = c
    · exact Or.inr q
    · exact Or.inl ⟨fun e => q e.symm, h1, h2⟩
