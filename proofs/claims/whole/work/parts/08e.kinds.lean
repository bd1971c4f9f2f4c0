-- LEVEL 2, orders: the kinds 0 to 4
theorem popP_orc {o a : Nat} (n : Nat) : popP (o ||| 2 ^ a) n ≤ popP o n + 1 := by
  cases h : o.testBit a
  · rw [popP_or h n]
    split <;> omega
  · have e : o ||| 2 ^ a = o := Nat.eq_of_testBit_eq fun i => by
      rw [Nat.testBit_or, Nat.testBit_two_pow]
      by_cases hi : a = i
      · subst hi
        simp [h]
      · simp [hi]
    rw [e]
    omega
theorem popP_z (n : Nat) : popP 0 n = 0 := by
  induction n with
  | zero => rfl
  | succ n ih =>
    simp only [popP]
    rw [ih, bitN_f (Nat.zero_testBit n)]
theorem goF_pop {F : Nat → Nat} {n : Nat} : ∀ i, popP (goF F i) n ≤ i
  | 0 => by rw [show goF F 0 = 0 from rfl, popP_z]; exact Nat.le_refl 0
  | i + 1 => Nat.le_trans (popP_orc n) (by have := goF_pop (F := F) (n := n) i; omega)
theorem pkF_posc {co : Nat → Nat} {out j : Nat} (hj : out.testBit j = false) : ∀ n, j < n → (pkF co out n).1 ≠ 0
  | 0, h => absurd h (Nat.not_lt_zero _)
  | n + 1, h => by
    cases hb : out.testBit n
    · by_cases hc : (pkF co out n).1 = 0 ∨ co n < (pkF co out n).2
      · rw [pkF_t hb hc]; exact Nat.succ_ne_zero n
      · rw [pkF_f hb hc]; exact fun z => hc (Or.inl z)
    · rw [pkF_o hb]
      refine pkF_posc hj n ?_
      rcases Nat.lt_or_ge j n with q | q
      · exact q
      · rw [show j = n by omega, hb] at hj
        exact absurd hj (by decide)
theorem co_eq {Nb V Li : Nat → Nat} {n gone kd j : Nat} (hG : grOk Nb n) (hV : ∀ j, V j ≤ 4) (hk : 2 ≤ kd ∧ kd ≤ 4) (h : elOk Nb n gone Li) (hj : j < n) (hg : gone.testBit j = false) :
    coC Nb V n kd gone j = pkC V Li n kd j + (if kd = 2 then 1 else 0) ∧ coC Nb V n kd gone j < 2147483647 := by
  have hN : ∀ i, Nb i < 4096 := fun i => Nat.lt_of_lt_of_le (hG.2.1 i) (Nat.pow_le_pow_right (by decide) hG.1)
  refine ⟨?_, Nat.lt_of_le_of_lt (coC_le hG.1 hN hV hj) (by decide)⟩
  have hb := el_bag hG hj hg h
  have hs : (Li j).testBit j = false := by
    cases q : (Li j).testBit j
    · rfl
    · exact absurd rfl ((h j hj hg j).mp q).1
  unfold coC pkC
  by_cases k2 : kd = 2
  · rw [if_pos k2, if_pos k2, if_pos k2, ← hb, ← popP_12, ← popP_12, popP_or hs, if_pos (show j < 12 by have := hG.1; omega)]
  · rw [if_neg k2, if_neg k2, if_neg k2]
    by_cases k3 : kd = 3
    · rw [if_pos k3, if_pos k3, el_fill2 hG hj hg h]; rfl
    · rw [if_neg k3, if_neg k3, hb]; rfl
/-- the places name each name once -/
def pcOk (Pl : Nat → Nat) (n : Nat) : Prop := (∀ i, i < n → 0 < Pl i ∧ Pl i ≤ n) ∧ ∀ i j, i < j → j < n → Pl i ≠ Pl j
theorem kinds {Nb V Pl Fo Od : Nat → Nat} {n kd : Nat} (hG : grOk Nb n) (hV : ∀ j, V j ≤ 4) (hk : kd < 5) (h1 : kd = 1 → pcOk Pl n) :
    let F := arC (ctC Nb V Pl Fo n kd) Od n
    ∀ i, i < n → (∀ s : wkT, wkI Nb n F i s → wkC kd V Pl n s i = F i ∧ F i < n ∧ (goF F i).testBit (F i) = false) := by
  intro F i hi s hs
  have hF : F i = ctC Nb V Pl Fo n kd i (goF F i) := arC_at hi
  have hFj : ∀ j, j < n → F j = ctC Nb V Pl Fo n kd j (goF F j) := fun j hj => arC_at hj
  by_cases k0 : kd = 0
  · have e : ∀ j, j < n → F j = j := fun j hj => by rw [hFj j hj]; unfold ctC; rw [if_pos k0]
    refine ⟨?_, by rw [e i hi]; exact hi, goF_fr (fun j hj => by rw [e i hi, e j (by omega)]; omega)⟩
    unfold wkC
    rw [e i hi, if_neg (by omega), if_neg (by omega)]
  · by_cases k1 : kd = 1
    · have e : ∀ j, j < n → F j = Pl j - 1 := fun j hj => by rw [hFj j hj]; unfold ctC; rw [if_neg k0, if_pos k1]
      obtain ⟨p1, p2⟩ := h1 k1
      have q1 := p1 i hi
      refine ⟨?_, by rw [e i hi]; omega, goF_fr (fun j hj => ?_)⟩
      · unfold wkC
        rw [e i hi, if_pos k1]
      · have q2 := p1 j (by omega)
        have q3 := p2 j i hj hi
        rw [e i hi, e j (by omega)]
        omega
    · have e : F i = (chC (coC Nb V n kd (goF F i)) (goF F i) n).1 := by rw [hF]; unfold ctC; rw [if_neg k0, if_neg k1, if_neg (by omega)]
      obtain ⟨s1, -, -, -, s5⟩ := hs
      obtain ⟨j, hj, hjf⟩ := pop_free (o := goF F i) n (by have := goF_pop (F := F) (n := n) i; omega)
      rcases pk_ch (co := pkC V s.1 n kd) (cc := coC Nb V n kd (goF F i)) (out := goF F i) (dl := if kd = 2 then 1 else 0) n (fun j hj hg => co_eq hG hV ⟨by omega, by omega⟩ s5 hj hg) with ⟨a1, a2⟩ | ⟨p, c, a1, a2⟩
      · exact absurd (by rw [a1]) (pkF_posc (co := pkC V s.1 n kd) hjf n hj)
      · have hin := pkF_in (co := pkC V s.1 n kd) (o := goF F i) n
        have e2 : F i = p := by rw [e, a2]
        refine ⟨?_, ?_, ?_⟩
        · unfold wkC
          rw [if_neg k1, if_pos (by omega), s1, a1, e2]
          rfl
        · rw [e2]
          have := hin.1
          rw [a1] at this
          omega
        · rw [e2]
          exact hin.2 p (by rw [a1])
