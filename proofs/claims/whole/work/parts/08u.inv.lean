-- LEVEL 2, what holds between two calls
abbrev iA (n stt : Nat) (V : Nat → Nat) : Prop := (n ≤ 12) ∧ (stt ≤ 65536) ∧ (prV V 0 n = stt) ∧ (∀ j, V j ≤ 4) ∧ (∀ j, j < n → 0 < V j)
theorem iA.n12 {n stt : Nat} {V : Nat → Nat} (h : iA n stt V) : n ≤ 12 := h.1
theorem iA.st {n stt : Nat} {V : Nat → Nat} (h : iA n stt V) : stt ≤ 65536 := h.2.1
theorem iA.pr {n stt : Nat} {V : Nat → Nat} (h : iA n stt V) : prV V 0 n = stt := h.2.2.1
theorem iA.V4 {n stt : Nat} {V : Nat → Nat} (h : iA n stt V) : ∀ j, V j ≤ 4 := h.2.2.2.1
theorem iA.V0 {n stt : Nat} {V : Nat → Nat} (h : iA n stt V) : ∀ j, j < n → 0 < V j := h.2.2.2.2
abbrev iS (n nf : Nat) (Se Nb : Nat → Nat) : Prop := (∀ i, Se i < 4096) ∧ (∀ i, i < nf → Se i < 2 ^ n) ∧ (∀ a, Nb a = drF Se nf a)
theorem iS.s4 {n nf : Nat} {Se Nb : Nat → Nat} (h : iS n nf Se Nb) : ∀ i, Se i < 4096 := h.1
theorem iS.sn {n nf : Nat} {Se Nb : Nat → Nat} (h : iS n nf Se Nb) : ∀ i, i < nf → Se i < 2 ^ n := h.2.1
theorem iS.nb {n nf : Nat} {Se Nb : Nat → Nat} (h : iS n nf Se Nb) : ∀ a, Nb a = drF Se nf a := h.2.2
abbrev iQ (n nf : Nat) (V Pl Se Nb : Nat → Nat) (t : sqT) (kn : Nat) (o : osT) : Prop := (kn ≤ 1) ∧ (oB o) ∧ (∀ i, t.2.2.2.2.2.1 i < 12) ∧ (∀ i, t.2.2.2.2.2.2 i < 4096) ∧ (t.2.2.2.2.1 ≤ 16777216) ∧ (sqR n V (srZ Nb V n kn t) (oZ n nf V Pl Se o).2)
theorem iQ.k1 {n nf : Nat} {V Pl Se Nb : Nat → Nat} {t : sqT} {kn : Nat} {o : osT} (h : iQ n nf V Pl Se Nb t kn o) : kn ≤ 1 := h.1
theorem iQ.ob {n nf : Nat} {V Pl Se Nb : Nat → Nat} {t : sqT} {kn : Nat} {o : osT} (h : iQ n nf V Pl Se Nb t kn o) : oB o := h.2.1
theorem iQ.od {n nf : Nat} {V Pl Se Nb : Nat → Nat} {t : sqT} {kn : Nat} {o : osT} (h : iQ n nf V Pl Se Nb t kn o) : ∀ i, t.2.2.2.2.2.1 i < 12 := h.2.2.1
theorem iQ.bg {n nf : Nat} {V Pl Se Nb : Nat → Nat} {t : sqT} {kn : Nat} {o : osT} (h : iQ n nf V Pl Se Nb t kn o) : ∀ i, t.2.2.2.2.2.2 i < 4096 := h.2.2.2.1
theorem iQ.mx {n nf : Nat} {V Pl Se Nb : Nat → Nat} {t : sqT} {kn : Nat} {o : osT} (h : iQ n nf V Pl Se Nb t kn o) : t.2.2.2.2.1 ≤ 16777216 := h.2.2.2.2.1
theorem iQ.sq {n nf : Nat} {V Pl Se Nb : Nat → Nat} {t : sqT} {kn : Nat} {o : osT} (h : iQ n nf V Pl Se Nb t kn o) : sqR n V (srZ Nb V n kn t) (oZ n nf V Pl Se o).2 := h.2.2.2.2.2
abbrev iR (n : Nat) (V Nb : Nat → Nat) (r : srT) : Prop := (r.1 ≤ 1) ∧ (r.2.1 ≤ 2 ^ n) ∧ (∀ j, j < r.2.1 → r.2.2.1 j = cellsF V j n) ∧ (∀ i, r.2.2.1 i ≤ 16777216) ∧ (∀ i, r.2.2.2.1 i ≤ 268435457) ∧ (r.1 = 1 → ∀ j, j < n → r.2.2.2.2 j = bstR V Nb n j)
theorem iR.k1 {n : Nat} {V Nb : Nat → Nat} {r : srT} (h : iR n V Nb r) : r.1 ≤ 1 := h.1
theorem iR.cn {n : Nat} {V Nb : Nat → Nat} {r : srT} (h : iR n V Nb r) : r.2.1 ≤ 2 ^ n := h.2.1
theorem iR.ce {n : Nat} {V Nb : Nat → Nat} {r : srT} (h : iR n V Nb r) : ∀ j, j < r.2.1 → r.2.2.1 j = cellsF V j n := h.2.2.1
theorem iR.lc {n : Nat} {V Nb : Nat → Nat} {r : srT} (h : iR n V Nb r) : ∀ i, r.2.2.1 i ≤ 16777216 := h.2.2.2.1
theorem iR.le {n : Nat} {V Nb : Nat → Nat} {r : srT} (h : iR n V Nb r) : ∀ i, r.2.2.2.1 i ≤ 268435457 := h.2.2.2.2.1
theorem iR.fo {n : Nat} {V Nb : Nat → Nat} {r : srT} (h : iR n V Nb r) : r.1 = 1 → ∀ j, j < n → r.2.2.2.2 j = bstR V Nb n j := h.2.2.2.2.2
abbrev iF (n nf : Nat) (V Se Co En : Nat → Nat) (ca : Nat) (fB fL : Nat → Option Nat) (X : Nat → fR) : Prop := (ca ≤ 16) ∧ (nf ≤ ca) ∧ (ca = sumF Co nf) ∧ (∀ y, En y ≤ 7) ∧ (∀ i, i < nf → fcOk V Se Co En n X i) ∧ (∀ i, nf ≤ i → i < 16 → ∃ ad, X i = frF ad) ∧ (∀ i, i < 16 → fB i = some (xA (X i))) ∧ (∀ c, fL c = lkd X (chL Se nf c) ∧ chOk X 16 (chL Se nf c))
theorem iF.c16 {n nf : Nat} {V Se Co En : Nat → Nat} {ca : Nat} {fB fL : Nat → Option Nat} {X : Nat → fR} (h : iF n nf V Se Co En ca fB fL X) : ca ≤ 16 := h.1
theorem iF.nc {n nf : Nat} {V Se Co En : Nat → Nat} {ca : Nat} {fB fL : Nat → Option Nat} {X : Nat → fR} (h : iF n nf V Se Co En ca fB fL X) : nf ≤ ca := h.2.1
theorem iF.cs {n nf : Nat} {V Se Co En : Nat → Nat} {ca : Nat} {fB fL : Nat → Option Nat} {X : Nat → fR} (h : iF n nf V Se Co En ca fB fL X) : ca = sumF Co nf := h.2.2.1
theorem iF.e7 {n nf : Nat} {V Se Co En : Nat → Nat} {ca : Nat} {fB fL : Nat → Option Nat} {X : Nat → fR} (h : iF n nf V Se Co En ca fB fL X) : ∀ y, En y ≤ 7 := h.2.2.2.1
theorem iF.fc {n nf : Nat} {V Se Co En : Nat → Nat} {ca : Nat} {fB fL : Nat → Option Nat} {X : Nat → fR} (h : iF n nf V Se Co En ca fB fL X) : ∀ i, i < nf → fcOk V Se Co En n X i := h.2.2.2.2.1
theorem iF.fr {n nf : Nat} {V Se Co En : Nat → Nat} {ca : Nat} {fB fL : Nat → Option Nat} {X : Nat → fR} (h : iF n nf V Se Co En ca fB fL X) : ∀ i, nf ≤ i → i < 16 → ∃ ad, X i = frF ad := h.2.2.2.2.2.1
theorem iF.hB {n nf : Nat} {V Se Co En : Nat → Nat} {ca : Nat} {fB fL : Nat → Option Nat} {X : Nat → fR} (h : iF n nf V Se Co En ca fB fL X) : ∀ i, i < 16 → fB i = some (xA (X i)) := h.2.2.2.2.2.2.1
theorem iF.hL {n nf : Nat} {V Se Co En : Nat → Nat} {ca : Nat} {fB fL : Nat → Option Nat} {X : Nat → fR} (h : iF n nf V Se Co En ca fB fL X) : ∀ c, fL c = lkd X (chL Se nf c) ∧ chOk X 16 (chL Se nf c) := h.2.2.2.2.2.2.2
abbrev iB (n : Nat) (Bd Bm : Nat → Nat) : Prop := (∀ i, Bd i ≤ 4) ∧ (∀ i, Bm i ≤ 4) ∧ (∀ j, j < n → Bd j = Bm j) ∧ (∀ j, n ≤ j → j < 12 → Bd j = 0)
theorem iB.b4 {n : Nat} {Bd Bm : Nat → Nat} (h : iB n Bd Bm) : ∀ i, Bd i ≤ 4 := h.1
theorem iB.m4 {n : Nat} {Bd Bm : Nat → Nat} (h : iB n Bd Bm) : ∀ i, Bm i ≤ 4 := h.2.1
theorem iB.eq {n : Nat} {Bd Bm : Nat → Nat} (h : iB n Bd Bm) : ∀ j, j < n → Bd j = Bm j := h.2.2.1
theorem iB.z {n : Nat} {Bd Bm : Nat → Nat} (h : iB n Bd Bm) : ∀ j, n ≤ j → j < 12 → Bd j = 0 := h.2.2.2
abbrev iW (W : Nat → Nat) (stt : Nat) (tw : wT) (kw : Nat) : Prop := (kw ≤ 1) ∧ (wtB tw) ∧ (kw = 1 → wtR W stt tw)
theorem iW.k1 {W : Nat → Nat} {stt : Nat} {tw : wT} {kw : Nat} (h : iW W stt tw kw) : kw ≤ 1 := h.1
theorem iW.b {W : Nat → Nat} {stt : Nat} {tw : wT} {kw : Nat} (h : iW W stt tw kw) : wtB tw := h.2.1
theorem iW.r {W : Nat → Nat} {stt : Nat} {tw : wT} {kw : Nat} (h : iW W stt tw kw) : kw = 1 → wtR W stt tw := h.2.2
abbrev iX (Lm Cm Tw Ts : Nat → Nat) (tp : Nat) : Prop := (∀ i, Lm i ≤ 101) ∧ (∀ i, Cm i ≤ 137438953472) ∧ (∀ i, Tw i ≤ 33232930569601) ∧ (∀ i, Ts i ≤ 65536) ∧ (tp ≤ 24)
theorem iX.lm {Lm Cm Tw Ts : Nat → Nat} {tp : Nat} (h : iX Lm Cm Tw Ts tp) : ∀ i, Lm i ≤ 101 := h.1
theorem iX.cm {Lm Cm Tw Ts : Nat → Nat} {tp : Nat} (h : iX Lm Cm Tw Ts tp) : ∀ i, Cm i ≤ 137438953472 := h.2.1
theorem iX.tw {Lm Cm Tw Ts : Nat → Nat} {tp : Nat} (h : iX Lm Cm Tw Ts tp) : ∀ i, Tw i ≤ 33232930569601 := h.2.2.1
theorem iX.ts {Lm Cm Tw Ts : Nat → Nat} {tp : Nat} (h : iX Lm Cm Tw Ts tp) : ∀ i, Ts i ≤ 65536 := h.2.2.2.1
theorem iX.tp {Lm Cm Tw Ts : Nat → Nat} {tp : Nat} (h : iX Lm Cm Tw Ts tp) : tp ≤ 24 := h.2.2.2.2
abbrev INV (n nf stt mem : Nat) (V Pl Nb : Nat → Nat) (t : sqT) (kn : Nat) (r : srT) (ca : Nat) (fB fL : Nat → Option Nat) (X : Nat → fR) (tw : wT) (kw : Nat) (Bd Se Co En Bm : Nat → Nat) (o : osT) (Lm Cm Tw Ts : Nat → Nat) (tp : Nat) : Prop := (iA n stt V) ∧ (∀ i, i < 12 → Pl i ≤ n) ∧ (∀ i, Pl i ≤ 12) ∧ (mem ≤ 65536) ∧ (iS n nf Se Nb) ∧ (iQ n nf V Pl Se Nb t kn o) ∧ (iR n V Nb r) ∧ (iF n nf V Se Co En ca fB fL X) ∧ (iB n Bd Bm) ∧ (iW (wtM V Bm Se Co En n nf) stt tw kw) ∧ (iX Lm Cm Tw Ts tp)
theorem INV.a {n nf stt mem : Nat} {V Pl Nb : Nat → Nat} {t : sqT} {kn : Nat} {r : srT} {ca : Nat} {fB fL : Nat → Option Nat} {X : Nat → fR} {tw : wT} {kw : Nat} {Bd Se Co En Bm : Nat → Nat} {o : osT} {Lm Cm Tw Ts : Nat → Nat} {tp : Nat} (h : INV n nf stt mem V Pl Nb t kn r ca fB fL X tw kw Bd Se Co En Bm o Lm Cm Tw Ts tp) : iA n stt V := h.1
theorem INV.p {n nf stt mem : Nat} {V Pl Nb : Nat → Nat} {t : sqT} {kn : Nat} {r : srT} {ca : Nat} {fB fL : Nat → Option Nat} {X : Nat → fR} {tw : wT} {kw : Nat} {Bd Se Co En Bm : Nat → Nat} {o : osT} {Lm Cm Tw Ts : Nat → Nat} {tp : Nat} (h : INV n nf stt mem V Pl Nb t kn r ca fB fL X tw kw Bd Se Co En Bm o Lm Cm Tw Ts tp) : ∀ i, i < 12 → Pl i ≤ n := h.2.1
theorem INV.p2 {n nf stt mem : Nat} {V Pl Nb : Nat → Nat} {t : sqT} {kn : Nat} {r : srT} {ca : Nat} {fB fL : Nat → Option Nat} {X : Nat → fR} {tw : wT} {kw : Nat} {Bd Se Co En Bm : Nat → Nat} {o : osT} {Lm Cm Tw Ts : Nat → Nat} {tp : Nat} (h : INV n nf stt mem V Pl Nb t kn r ca fB fL X tw kw Bd Se Co En Bm o Lm Cm Tw Ts tp) : ∀ i, Pl i ≤ 12 := h.2.2.1
theorem INV.m {n nf stt mem : Nat} {V Pl Nb : Nat → Nat} {t : sqT} {kn : Nat} {r : srT} {ca : Nat} {fB fL : Nat → Option Nat} {X : Nat → fR} {tw : wT} {kw : Nat} {Bd Se Co En Bm : Nat → Nat} {o : osT} {Lm Cm Tw Ts : Nat → Nat} {tp : Nat} (h : INV n nf stt mem V Pl Nb t kn r ca fB fL X tw kw Bd Se Co En Bm o Lm Cm Tw Ts tp) : mem ≤ 65536 := h.2.2.2.1
theorem INV.s {n nf stt mem : Nat} {V Pl Nb : Nat → Nat} {t : sqT} {kn : Nat} {r : srT} {ca : Nat} {fB fL : Nat → Option Nat} {X : Nat → fR} {tw : wT} {kw : Nat} {Bd Se Co En Bm : Nat → Nat} {o : osT} {Lm Cm Tw Ts : Nat → Nat} {tp : Nat} (h : INV n nf stt mem V Pl Nb t kn r ca fB fL X tw kw Bd Se Co En Bm o Lm Cm Tw Ts tp) : iS n nf Se Nb := h.2.2.2.2.1
theorem INV.q {n nf stt mem : Nat} {V Pl Nb : Nat → Nat} {t : sqT} {kn : Nat} {r : srT} {ca : Nat} {fB fL : Nat → Option Nat} {X : Nat → fR} {tw : wT} {kw : Nat} {Bd Se Co En Bm : Nat → Nat} {o : osT} {Lm Cm Tw Ts : Nat → Nat} {tp : Nat} (h : INV n nf stt mem V Pl Nb t kn r ca fB fL X tw kw Bd Se Co En Bm o Lm Cm Tw Ts tp) : iQ n nf V Pl Se Nb t kn o := h.2.2.2.2.2.1
theorem INV.r {n nf stt mem : Nat} {V Pl Nb : Nat → Nat} {t : sqT} {kn : Nat} {r : srT} {ca : Nat} {fB fL : Nat → Option Nat} {X : Nat → fR} {tw : wT} {kw : Nat} {Bd Se Co En Bm : Nat → Nat} {o : osT} {Lm Cm Tw Ts : Nat → Nat} {tp : Nat} (h : INV n nf stt mem V Pl Nb t kn r ca fB fL X tw kw Bd Se Co En Bm o Lm Cm Tw Ts tp) : iR n V Nb r := h.2.2.2.2.2.2.1
theorem INV.f {n nf stt mem : Nat} {V Pl Nb : Nat → Nat} {t : sqT} {kn : Nat} {r : srT} {ca : Nat} {fB fL : Nat → Option Nat} {X : Nat → fR} {tw : wT} {kw : Nat} {Bd Se Co En Bm : Nat → Nat} {o : osT} {Lm Cm Tw Ts : Nat → Nat} {tp : Nat} (h : INV n nf stt mem V Pl Nb t kn r ca fB fL X tw kw Bd Se Co En Bm o Lm Cm Tw Ts tp) : iF n nf V Se Co En ca fB fL X := h.2.2.2.2.2.2.2.1
theorem INV.b {n nf stt mem : Nat} {V Pl Nb : Nat → Nat} {t : sqT} {kn : Nat} {r : srT} {ca : Nat} {fB fL : Nat → Option Nat} {X : Nat → fR} {tw : wT} {kw : Nat} {Bd Se Co En Bm : Nat → Nat} {o : osT} {Lm Cm Tw Ts : Nat → Nat} {tp : Nat} (h : INV n nf stt mem V Pl Nb t kn r ca fB fL X tw kw Bd Se Co En Bm o Lm Cm Tw Ts tp) : iB n Bd Bm := h.2.2.2.2.2.2.2.2.1
theorem INV.w {n nf stt mem : Nat} {V Pl Nb : Nat → Nat} {t : sqT} {kn : Nat} {r : srT} {ca : Nat} {fB fL : Nat → Option Nat} {X : Nat → fR} {tw : wT} {kw : Nat} {Bd Se Co En Bm : Nat → Nat} {o : osT} {Lm Cm Tw Ts : Nat → Nat} {tp : Nat} (h : INV n nf stt mem V Pl Nb t kn r ca fB fL X tw kw Bd Se Co En Bm o Lm Cm Tw Ts tp) : iW (wtM V Bm Se Co En n nf) stt tw kw := h.2.2.2.2.2.2.2.2.2.1
theorem INV.x {n nf stt mem : Nat} {V Pl Nb : Nat → Nat} {t : sqT} {kn : Nat} {r : srT} {ca : Nat} {fB fL : Nat → Option Nat} {X : Nat → fR} {tw : wT} {kw : Nat} {Bd Se Co En Bm : Nat → Nat} {o : osT} {Lm Cm Tw Ts : Nat → Nat} {tp : Nat} (h : INV n nf stt mem V Pl Nb t kn r ca fB fL X tw kw Bd Se Co En Bm o Lm Cm Tw Ts tp) : iX Lm Cm Tw Ts tp := h.2.2.2.2.2.2.2.2.2.2
-- the graph
theorem orF_tb {Se : Nat → Nat} {a c : Nat} : ∀ k, (orF Se a k).testBit c = true ↔ ∃ i, i < k ∧ (Se i).testBit a = true ∧ (Se i).testBit c = true
  | 0 => by
    show (0 : Nat).testBit c = true ↔ _
    rw [Nat.zero_testBit]
    exact ⟨fun h => absurd h (by decide), fun ⟨_, h, _⟩ => absurd h (Nat.not_lt_zero _)⟩
  | k + 1 => by
    have ih := orF_tb (Se := Se) (a := a) (c := c) k
    simp only [orF]
    cases hb : (Se k).testBit a
    · simp only [Bool.false_eq_true, if_false]
      rw [ih]
      constructor
      · rintro ⟨i, h1, h2⟩
        exact ⟨i, by omega, h2⟩
      · rintro ⟨i, h1, h2⟩
        by_cases q : i = k
        · rw [q, hb] at h2; exact absurd h2.1 (by decide)
        · exact ⟨i, by omega, h2⟩
    · simp only [if_true]
      rw [tb_or, ih]
      constructor
      · rintro (⟨i, h1, h2⟩ | h)
        · exact ⟨i, by omega, h2⟩
        · exact ⟨k, Nat.lt_succ_self k, hb, h⟩
      · rintro ⟨i, h1, h2⟩
        by_cases q : i = k
        · rw [q] at h2; exact Or.inr h2.2
        · exact Or.inl ⟨i, by omega, h2⟩
theorem drF_tb {Se : Nat → Nat} {a c nf : Nat} : (drF Se nf a).testBit c = true ↔ (∃ i, i < nf ∧ (Se i).testBit a = true ∧ (Se i).testBit c = true) ∧ a ≠ c := by
  unfold drF
  rw [tb_sdf, orF_tb, Nat.testBit_two_pow]
  simp
theorem iS.gr {n nf : Nat} {Se Nb : Nat → Nat} (h : iS n nf Se Nb) (hn : n ≤ 12) : grOk Nb n := by
  have e : ∀ a c, nbP Nb a c ↔ (∃ i, i < nf ∧ (Se i).testBit a = true ∧ (Se i).testBit c = true) ∧ a ≠ c := fun a c => by
    unfold nbP
    rw [h.nb, drF_tb]
  refine ⟨hn, fun i => lt_2n (fun c hc => ?_), fun a b hab => ?_, fun a ha => ((e a a).mp ha).2 rfl⟩
  · obtain ⟨⟨j, h1, -, h3⟩, -⟩ := (e i c).mp hc
    exact tb_lt (h.sn j h1) h3
  · obtain ⟨⟨j, h1, h2, h3⟩, h4⟩ := (e a b).mp hab
    exact (e b a).mpr ⟨⟨j, h1, h3, h2⟩, fun q => h4 q.symm⟩
theorem iS.n4 {n nf : Nat} {Se Nb : Nat → Nat} (h : iS n nf Se Nb) (hn : n ≤ 12) : ∀ i, Nb i < 4096 := fun i => Nat.lt_of_lt_of_le ((h.gr hn).2.1 i) (Nat.pow_le_pow_right (by decide) hn)
theorem iF.ok {n nf : Nat} {V Se Co En : Nat → Nat} {ca : Nat} {fB fL : Nat → Option Nat} {X : Nat → fR} (h : iF n nf V Se Co En ca fB fL X) (hn : n ≤ 12) : ∀ i, i < 16 → fOk (X i) := fun i hi => by
  rcases Nat.lt_or_ge i nf with q | q
  · have hk := h.fc i q
    refine ⟨?_, fun j hj => ?_, ?_, ?_, fun j => ?_⟩
    · rw [hk.k, fiR_1]
      exact Nat.le_trans (popP_le hn) hk.four
    · rw [hk.k] at hj
      rw [hk.nm]
      have h1 := fi_nm (V := V) (S := Se i) n j hj
      have h2 := alF_le (S := Se i) n
      omega
    · rw [hk.cells]
      have h1 := hk.small
      rcases Nat.eq_zero_or_pos (cellsF V (Se i) n) with z | z
      · exact absurd z (by
          have := hk.pos
          omega)
      · exact z
    · rw [hk.cells]; exact hk.small
    · refine Nat.le_trans (hk.ple j) ?_
      rw [hk.times]
      exact Nat.le_trans (Nat.pow_le_pow_right (by decide) hk.cop.2) (by decide)
  · obtain ⟨ad, e⟩ := h.fr i q hi
    rw [e]
    refine ⟨Nat.zero_le _, fun j hj => absurd hj (Nat.not_lt_zero _), Nat.one_pos, (by decide : (1 : Nat) ≤ 256), fun j => ?_⟩
    show rowF (fun _ => 0) (fun _ => 1) 256 j ≤ 343
    unfold rowF
    split
    · exact (by decide : (1 : Nat) ≤ 343)
    · exact (by decide : (0 : Nat) ≤ 343)
theorem prV_up {V : Nat → Nat} {n k : Nat} : ∀ d a, a + d ≤ n → prV (va_up V n k) a d = prV V a d
  | 0, _, _ => rfl
  | d + 1, a, h => by
    simp only [prV]
    rw [prV_up d (a + 1) (by omega), va_up_ne _ _ (by omega)]
theorem cl_up {V : Nat → Nat} {S n k : Nat} : ∀ i, i ≤ n → cellsF (va_up V n k) S i = cellsF V S i
  | 0, _ => rfl
  | i + 1, h => by
    have ih := cl_up (V := V) (S := S) (n := n) (k := k) i (by omega)
    cases hb : S.testBit i
    · rw [cellsF_f hb, cellsF_f hb, ih]
    · rw [cellsF_t hb, cellsF_t hb, ih, va_up_ne _ _ (by omega)]
theorem fi_up {V : Nat → Nat} {S n k : Nat} : ∀ i, i ≤ n → fiR (va_up V n k) S i = fiR V S i
  | 0, _ => rfl
  | i + 1, h => by
    have ih := fi_up (V := V) (S := S) (n := n) (k := k) i (by omega)
    cases hb : S.testBit i
    · rw [fiR_f hb, fiR_f hb, ih]
    · rw [fiR_t hb, fiR_t hb, ih, cl_up i (by omega)]
theorem cl_more {V : Nat → Nat} {S n k : Nat} (h : S < 2 ^ n) : cellsF (va_up V n k) S (n + 1) = cellsF V S n := by
  rw [cellsF_f (Nat.testBit_lt_two_pow h), cl_up n (Nat.le_refl n)]
theorem fi_more {V : Nat → Nat} {S n k : Nat} (h : S < 2 ^ n) : fiR (va_up V n k) S (n + 1) = fiR V S n := by
  rw [fiR_f (Nat.testBit_lt_two_pow h), fi_up n (Nat.le_refl n)]
theorem fcOk.more {V Se Co En : Nat → Nat} {n i k : Nat} {X : Nat → fR} (h : fcOk V Se Co En n X i) (hk : 0 < k) : fcOk (va_up V n k) Se Co En (n + 1) X i :=
  ⟨Nat.lt_of_lt_of_le h.lt (Nat.pow_le_pow_right (by decide) (Nat.le_succ n)), h.four, by rw [fi_more h.lt]; exact h.rows, by rw [cl_more h.lt]; exact h.cells, by rw [cl_more h.lt]; exact h.small, by rw [cl_more h.lt]; exact h.pos, h.times, h.cop, h.ent, h.pow, h.ple, h.far⟩
/-- without an order that stands, both take the names by their numbers -/
theorem q_new {n nf : Nat} {V Pl Se Nb : Nat → Nat} {t : sqT} {o : osT} {L : Nat → Nat} {O B : Nat → Nat} {kd fi : Nat} (ho : oB o) (hG : grOk Nb n) (hV : ∀ j, V j ≤ 4) (hN : ∀ a, Nb a = drF Se nf a) (h1 : ∀ i, t.2.2.2.2.2.1 i < 12) (h2 : ∀ i, t.2.2.2.2.2.2 i < 4096) (h3 : t.2.2.2.2.1 ≤ 16777216) (e : o = (L, O, B, kd, fi, 1)) : iQ n nf V Pl Se Nb t 0 o := by
  refine ⟨Nat.zero_le 1, ho, h1, h2, h3, ?_⟩
  subst e
  have := nat_sq (Od := t.2.2.2.2.2.1) (Bg := t.2.2.2.2.2.2) (Li := L) (Od2 := O) (Bg2 := B) (Pl := Pl) (Se := Se) (nf := nf) hG hV (fun a _ => hN a)
  exact this
theorem iA.name {n stt k : Nat} {V : Nat → Nat} (h : iA n stt V) (hn : n ≠ 12) (hk : 2 ≤ k ∧ k ≤ 4) (hs : stt * k ≤ 65536) : iA (n + 1) (stt * k) (va_up V n k) := by
  have := h.n12
  refine ⟨by omega, hs, ?_, fun j => ?_, fun j hj => ?_⟩
  · have e := prV_split (V := va_up V n k) n 0 1
    rw [e, prV_up n 0 (by omega), h.pr, Nat.zero_add]
    show stt * (va_up V n k n * 1) = _
    rw [va_up_self, Nat.mul_one]
  · unfold va_up
    split
    · exact hk.2
    · exact h.V4 j
  · by_cases q : j = n
    · rw [q, va_up_self]; omega
    · rw [va_up_ne _ _ q]; exact h.V0 j (by omega)
theorem INV.name {n nf stt mem : Nat} {V Pl Nb : Nat → Nat} {t : sqT} {kn : Nat} {r : srT} {ca : Nat} {fB fL : Nat → Option Nat} {X : Nat → fR} {tw : wT} {kw : Nat} {Bd Se Co En Bm : Nat → Nat} {L O B : Nat → Nat} {kd fi sl : Nat} {Lm Cm Tw Ts : Nat → Nat} {tp : Nat} {k : Nat}
    (h : INV n nf stt mem V Pl Nb t kn r ca fB fL X tw kw Bd Se Co En Bm (L, O, B, kd, fi, sl) Lm Cm Tw Ts tp) (hn : n ≠ 12) (hk : 2 ≤ k ∧ k ≤ 4) (hs : stt * k ≤ 65536) :
    INV (n + 1) nf (stt * k) mem (va_up V n k) Pl Nb t 0 (0, r.2) ca fB fL X tw 0 Bd Se Co En (va_up Bm n 0) (L, O, B, kd, fi, 1) Lm Cm Tw Ts tp := by
  have ha := h.a.name hn hk hs
  have h12 := h.a.n12
  have hS : iS (n + 1) nf Se Nb := ⟨h.s.s4, fun i hi => Nat.lt_of_lt_of_le (h.s.sn i hi) (Nat.pow_le_pow_right (by decide) (Nat.le_succ n)), h.s.nb⟩
  refine ⟨ha, fun i hi => Nat.le_succ_of_le (h.p i hi), h.p2, h.m, hS, q_new ⟨h.q.ob.1, h.q.ob.2.1, h.q.ob.2.2.1, Nat.le_refl 1⟩ (hS.gr ha.n12) ha.V4 hS.nb h.q.od h.q.bg h.q.mx rfl, ?_, ?_, ?_, ⟨Nat.zero_le 1, h.w.b, fun q => absurd q (by decide)⟩, h.x⟩
  · refine ⟨Nat.zero_le 1, Nat.le_trans h.r.cn (Nat.pow_le_pow_right (by decide) (Nat.le_succ n)), fun j hj => ?_, h.r.lc, h.r.le, fun q => absurd (show (0 : Nat) = 1 from q) (by decide)⟩
    rw [cl_more (Nat.lt_of_lt_of_le hj h.r.cn)]
    exact h.r.ce j hj
  · exact ⟨h.f.c16, h.f.nc, h.f.cs, h.f.e7, fun i hi => (h.f.fc i hi).more (by omega), h.f.fr, h.f.hB, h.f.hL⟩
  · refine ⟨h.b.b4, fun i => ?_, fun j hj => ?_, fun j h1 h2 => h.b.z j (by omega) h2⟩
    · unfold va_up
      split
      · exact Nat.zero_le _
      · exact h.b.m4 i
    · by_cases q : j = n
      · rw [q, va_up_self]; exact h.b.z n (Nat.le_refl n) (by omega)
      · rw [va_up_ne _ _ q]; exact h.b.eq j (by omega)
theorem po_mt2 {Pl : Nat → Nat} {n : Nat} (h : ∀ i, i < 12 → Pl i ≤ n) : ∀ i, i ≤ 12 → poF Pl i = mtF Pl n i
  | 0, _ => rfl
  | i + 1, hi => by
    by_cases q : Pl i = 0
    · rw [poF_0 q, mtF_n (fun z => z.1 q), po_mt2 h i (by omega)]
    · rw [poF_1 q, mtF_y ⟨q, h i (by omega)⟩, po_mt2 h i (by omega)]
theorem row_1 {i : Nat} : rowF (fun _ => 1) (fun _ => 0) 12 i ≤ 1 := by
  unfold rowF
  split
  · exact Nat.zero_le 1
  · exact Nat.le_refl 1
theorem INV.init {X : Nat → fR} (hX : ∀ j, j < 16 → ∃ ad, X j = frF ad) : INV 0 0 1 65536 (fun _ => 0) (rowF (fun _ => 1) (fun _ => 0) 12) (fun _ => 0) (0, 1, 0, 0, 0, (fun _ => 0), (fun _ => 0)) 0 (0, 0, (fun _ => 0), (fun _ => 1), (fun _ => 0)) 0 (fbR X 16) (fun _ => none) X ((fun _ => 0), 0, 0, (fun _ => 0), (fun _ => 0), 0) 0 (rowF (fun _ => 1) (fun _ => 0) 12) (fun _ => 0) (fun _ => 0) (fun _ => 0) (fun _ => 1) ((fun _ => 0), (fun _ => 0), (fun _ => 0), 0, 0, 1) (fun _ => 1) (fun _ => 1) (fun _ => 0) (fun _ => 0) 0 := by
  have z1 : (0 : Nat) < 4096 := by decide
  have z2 : (0 : Nat) < 12 := by decide
  have z3 : (1 : Nat) ≤ 268435457 := by decide
  have z4 : (0 : Nat) < 2 ^ 31 := by decide
  have hS : iS 0 0 (fun _ => 0) (fun _ => 0) := ⟨fun _ => z1, fun i hi => absurd hi (Nat.not_lt_zero i), fun a => by
    show 0 = sdf 0 (2 ^ a)
    unfold sdf
    simp⟩
  refine ⟨⟨by decide, by decide, rfl, fun _ => Nat.zero_le _, fun j hj => absurd hj (Nat.not_lt_zero j)⟩, fun i hi => by rw [rowF_lt hi]; exact Nat.le_refl 0, fun i => Nat.le_trans row_1 (by decide), Nat.le_refl _, hS, q_new ⟨fun _ => z1, fun _ => z2, fun _ => z1, Nat.le_refl 1⟩ (hS.gr (by decide)) (fun _ => Nat.zero_le _) hS.nb (fun _ => z2) (fun _ => z1) (Nat.zero_le _) rfl, ?_, ?_, ?_, ?_, ?_⟩
  · exact ⟨Nat.zero_le 1, Nat.zero_le _, fun j hj => absurd hj (Nat.not_lt_zero j), fun _ => Nat.zero_le _, fun _ => z3, fun q => absurd (show (0 : Nat) = 1 from q) (by decide)⟩
  · exact ⟨Nat.zero_le _, Nat.le_refl 0, rfl, fun _ => Nat.zero_le _, fun i hi => absurd hi (Nat.not_lt_zero i), fun i _ h2 => hX i h2, fun i hi => fbR_at hi, fun c => ⟨rfl, trivial⟩⟩
  · exact ⟨fun i => Nat.le_trans row_1 (by decide), fun _ => (by decide : (1 : Nat) ≤ 4), fun j hj => absurd hj (Nat.not_lt_zero j), fun j _ h2 => rowF_lt h2⟩
  · exact ⟨Nat.zero_le 1, ⟨fun _ => Nat.zero_le _, fun _ => Nat.zero_le _, fun _ => z4, Nat.zero_le _⟩, fun q => absurd q (by decide)⟩
  · exact ⟨fun _ => (by decide : (1 : Nat) ≤ 101), fun _ => (by decide : (1 : Nat) ≤ 137438953472), fun _ => Nat.zero_le _, fun _ => Nat.zero_le _, Nat.zero_le _⟩
