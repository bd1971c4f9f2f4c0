-- LEVEL 2, the steps of a run, on
section ST2
variable {n nf stt mem : Nat} {V Pl Nb : Nat → Nat} {t : sqT} {kn : Nat} {r : srT} {ca : Nat} {fB fL : Nat → Option Nat} {X : Nat → fR} {tw : wT} {kw : Nat} {Bd Se Co En Bm : Nat → Nat} {o : osT} {Lm Cm Tw Ts : Nat → Nat} {tp : Nat}
theorem INV.put (h : INV n nf stt mem V Pl Nb t kn r ca fB fL X tw kw Bd Se Co En Bm o Lm Cm Tw Ts tp) {k y v : Nat} (hk : k < nf) (hy : y < xC (X k)) (hv : v ≤ 7) :
    INV n nf stt mem V Pl Nb t kn r ca fB fL (va_up X k (ptF (X k) y v)) tw 0 Bd Se Co (va_up En (256 * k + y) v) Bm o Lm Cm Tw Ts tp :=
  ⟨h.a, h.p, h.p2, h.m, h.s, h.q, h.r, h.f.put hk hy hv, h.b, ⟨Nat.zero_le 1, h.w.b, fun q => absurd q (by decide)⟩, h.x⟩
theorem INV.copies (h : INV n nf stt mem V Pl Nb t kn r ca fB fL X tw kw Bd Se Co En Bm o Lm Cm Tw Ts tp) {k q : Nat} (hk : k < nf) (hq : 1 ≤ q ∧ q ≤ 3) (hc : ca - xT (X k) + q ≤ 16) :
    INV n nf stt mem V Pl Nb t kn r (ca - xT (X k) + q) fB fL (va_up X k (cpF (X k) q)) tw 0 Bd Se (va_up Co k q) En Bm o Lm Cm Tw Ts tp :=
  ⟨h.a, h.p, h.p2, h.m, h.s, h.q, h.r, h.f.copies hk hq hc, h.b, ⟨Nat.zero_le 1, h.w.b, fun q => absurd q (by decide)⟩, h.x⟩
theorem INV.evid (h : INV n nf stt mem V Pl Nb t kn r ca fB fL X tw kw Bd Se Co En Bm o Lm Cm Tw Ts tp) {k q : Nat} (hk : k < n) (hq : q ≤ V k) :
    INV n nf stt mem V Pl Nb t kn r ca fB fL X tw 0 (va_up Bd k q) Se Co En (va_up Bm k q) o Lm Cm Tw Ts tp := by
  have h4 := h.a.V4 k
  have u4 : ∀ F : Nat → Nat, (∀ i, F i ≤ 4) → ∀ i, va_up F k q i ≤ 4 := fun F hF i => by
    unfold va_up
    split
    · omega
    · exact hF i
  refine ⟨h.a, h.p, h.p2, h.m, h.s, h.q, h.r, h.f, ⟨u4 _ h.b.b4, u4 _ h.b.m4, fun j hj => ?_, fun j h1 h2 => ?_⟩, ⟨Nat.zero_le 1, h.w.b, fun q => absurd q (by decide)⟩, h.x⟩
  · by_cases z : j = k
    · rw [z, va_up_self, va_up_self]
    · rw [va_up_ne _ _ z, va_up_ne _ _ z]; exact h.b.eq j hj
  · rw [va_up_ne _ _ (by omega)]; exact h.b.z j h1 h2
theorem INV.memo (h : INV n nf stt mem V Pl Nb t kn r ca fB fL X tw kw Bd Se Co En Bm o Lm Cm Tw Ts tp) {k : Nat} (hk : k ≤ 65536) : INV n nf stt k V Pl Nb t kn r ca fB fL X tw kw Bd Se Co En Bm o Lm Cm Tw Ts tp :=
  ⟨h.a, h.p, h.p2, hk, h.s, h.q, h.r, h.f, h.b, h.w, h.x⟩
theorem wk0_pl {V P Q : Nat → Nat} {n : Nat} {s0 : wkT} : ∀ i, wkF 0 V P n s0 i = wkF 0 V Q n s0 i
  | 0 => rfl
  | i + 1 => by
    show wkN n i (wkC 0 V P n (wkF 0 V P n s0 i) i) (wkF 0 V P n s0 i) = wkN n i (wkC 0 V Q n (wkF 0 V Q n s0 i) i) (wkF 0 V Q n s0 i)
    rw [wk0_pl i]
    rfl
theorem oZ_pl {n nf : Nat} {V P Q Se : Nat → Nat} {o : osT} : oZ n nf V P Se o = oZ n nf V Q Se o := by
  unfold oZ rfZ wkZ
  rw [wk0_pl (P := P) (Q := Q)]
theorem INV.place (h : INV n nf stt mem V Pl Nb t kn r ca fB fL X tw kw Bd Se Co En Bm o Lm Cm Tw Ts tp) {k q : Nat} (hq : q < n) : INV n nf stt mem V (va_up Pl k (q + 1)) Nb t kn r ca fB fL X tw kw Bd Se Co En Bm o Lm Cm Tw Ts tp :=
  ⟨h.a, fun i hi => by
    unfold va_up
    split
    · omega
    · exact h.p i hi, fun i => by
    have := h.a.n12
    unfold va_up
    split
    · omega
    · exact h.p2 i, h.m, h.s, ⟨h.q.k1, h.q.ob, h.q.od, h.q.bg, h.q.mx, by rw [oZ_pl (Q := Pl)]; exact h.q.sq⟩, h.r, h.f, h.b, h.w, h.x⟩
theorem srZ_1 {Nb V : Nat → Nat} {n : Nat} {t : sqT} : srZ Nb V n 1 t = t := rfl
theorem wtM_bd {A B : Nat → Nat} (hb : ∀ j, j < n → A j = B j) : wtM V A Se Co En n nf = wtM V B Se Co En n nf := funext fun x => by
  unfold wtM wgF
  by_cases q : evP A (valF V n x) n
  · rw [zif_t q, zif_t (show evP B (valF V n x) n from fun k hk => by rw [← hb k hk]; exact q k hk)]
  · rw [zif_f q, zif_f (fun z => q (fun k hk => by rw [hb k hk]; exact z k hk))]
/-- the weights as they stand when they are asked for -/
theorem INV.rt (h : INV n nf stt mem V Pl Nb t kn r ca fB fL X tw kw Bd Se Co En Bm o Lm Cm Tw Ts tp) : wtR (wtM V Bm Se Co En n nf) stt (rwZ X (chL Se nf) V Bd stt n kw tw) ∧ wtB (rwZ X (chL Se nf) V Bd stt n kw tw) := by
  by_cases q : kw = 0
  · subst q
    have := rw_new (Bd := Bd) (t := tw) h.a.n12 h.a.V0 h.f.e7 (by rw [← h.f.cs]; exact h.f.c16) h.f.fc h.a.pr h.a.st h.w.b
    rw [wtM_bd h.b.eq] at this
    exact this
  · have := h.w.k1
    rw [rwZ_k q]
    exact ⟨h.w.r (by omega), h.w.b⟩
theorem INV.wle (h : INV n nf stt mem V Pl Nb t kn r ca fB fL X tw kw Bd Se Co En Bm o Lm Cm Tw Ts tp) : ∀ x, wtM V Bm Se Co En n nf x ≤ 33232930569601 := fun x => wtM_le h.f.e7 (by rw [← h.f.cs]; exact h.f.c16)
theorem INV.hRT (h : INV n nf stt mem V Pl Nb t kn r ca fB fL X tw kw Bd Se Co En Bm o Lm Cm Tw Ts tp) : (∀ i, (rwZ X (chL Se nf) V Bd stt n kw tw).1 i ≤ 33232930569601) ∧ (rwZ X (chL Se nf) V Bd stt n kw tw).2.1 < 2 ^ 62 ∧ (rwZ X (chL Se nf) V Bd stt n kw tw).2.2.2.2.2 ≤ 24 ∧ (∀ i, (rwZ X (chL Se nf) V Bd stt n kw tw).2.2.2.2.1 i < 2 ^ 31) := by
  obtain ⟨r1, r2⟩ := h.rt
  refine ⟨r2.row, ?_, r2.num, r2.sta⟩
  rw [r1.sum]
  exact Nat.lt_of_le_of_lt (sm_b h.wle h.a.st) (by decide)
theorem INV.read (h : INV n nf stt mem V Pl Nb t kn r ca fB fL X tw kw Bd Se Co En Bm o Lm Cm Tw Ts tp) {t2 : sqT} {kn2 : Nat} {tw2 : wT} {kw2 : Nat} {o2 : osT} {Tw2 Ts2 : Nat → Nat} {tp2 : Nat} (h1 : (t2, kn2) = (t, kn) ∨ (t2, kn2) = (srZ Nb V n kn t, 1)) (h2 : tw2 = tw ∧ kw2 = kw ∨ tw2 = rwZ X (chL Se nf) V Bd stt n kw tw ∧ kw2 = 1) (h3 : oS n nf V Pl Se o o2) (h4 : iX Lm Cm Tw2 Ts2 tp2) :
    INV n nf stt mem V Pl Nb t2 kn2 r ca fB fL X tw2 kw2 Bd Se Co En Bm o2 Lm Cm Tw2 Ts2 tp2 := by
  refine ⟨h.a, h.p, h.p2, h.m, h.s, ?_, h.r, h.f, h.b, ?_, h4⟩
  · rcases h1 with e | e
    · cases e
      exact ⟨h.q.k1, h3.2, h.q.od, h.q.bg, h.q.mx, by rw [h3.1]; exact h.q.sq⟩
    · cases e
      exact ⟨Nat.le_refl 1, h3.2, srZ_od h.a.n12 h.q.od, srZ_bg h.a.n12 (h.s.n4 h.a.n12) h.q.bg, srZ_mx h.a.n12 h.a.V4 h.q.mx, by rw [h3.1]; exact h.q.sq⟩
  · rcases h2 with ⟨e1, e2⟩ | ⟨e1, e2⟩
    · rw [e1, e2]; exact h.w
    · rw [e1, e2]; exact ⟨Nat.le_refl 1, h.rt.2, fun _ => h.rt.1⟩
-- order
theorem INV.h1 (h : INV n nf stt mem V Pl Nb t kn r ca fB fL X tw kw Bd Se Co En Bm o Lm Cm Tw Ts tp) : poF Pl n = 2 ^ n - 1 → pcOk Pl n := fun e => mt_pc (by rw [← po_mt2 h.p n h.a.n12]; exact e)
theorem INV.fd (h : INV n nf stt mem V Pl Nb t kn r ca fB fL X tw kw Bd Se Co En Bm o Lm Cm Tw Ts tp) {Lc Le Fo Li Od Le2 Ch2 : Nat → Nat} : ∀ j, j < n → fdR V Nb Lc Le Fo n j = orO n nf V Se Li Od Le2 Ch2 j ∧ orO n nf V Se Li Od Le2 Ch2 j < n := fun j hj => by
  have := five (Lc := Lc) (Le := Le) (Fo := Fo) (Li := Li) (Od := Od) (Le2 := Le2) (Ch2 := Ch2) (h.s.gr h.a.n12) h.a.V4 (fun a _ => h.s.nb a) j hj
  exact ⟨this.1, this.2.1⟩
theorem INV.bst (h : INV n nf stt mem V Pl Nb t kn r ca fB fL X tw kw Bd Se Co En Bm o Lm Cm Tw Ts tp) {Lc Le Fo : Nat → Nat} : ∀ j, j < n → fdR V Nb Lc Le Fo n j = bstR V Nb n j := fun j hj => by
  have a := (h.fd (Lc := Lc) (Le := Le) (Fo := Fo) (Li := fun _ => 0) (Od := fun _ => 0) (Le2 := fun _ => 0) (Ch2 := fun _ => 0) j hj).1
  have b := (h.fd (Lc := fun _ => 0) (Le := fun _ => 0) (Fo := fun _ => 0) (Li := fun _ => 0) (Od := fun _ => 0) (Le2 := fun _ => 0) (Ch2 := fun _ => 0) j hj).1
  exact a.trans b.symm
theorem INV.h50 (h : INV n nf stt mem V Pl Nb t kn r ca fB fL X tw kw Bd Se Co En Bm o Lm Cm Tw Ts tp) {Lc Le Fo : Nat → Nat} : ∀ i, i < n → fdR V Nb Lc Le Fo n i < n := fun i hi => by
  have := h.fd (Lc := Lc) (Le := Le) (Fo := Fo) (Li := fun _ => 0) (Od := fun _ => 0) (Le2 := fun _ => 0) (Ch2 := fun _ => 0) i hi
  rw [this.1]; exact this.2
theorem INV.h51 (h : INV n nf stt mem V Pl Nb t kn r ca fB fL X tw kw Bd Se Co En Bm o Lm Cm Tw Ts tp) : r.1 = 1 → ∀ i, i < n → r.2.2.2.2 i < n := fun e i hi => by
  rw [h.r.fo e i hi]; exact h.h50 i hi
theorem q_ord {kd : Nat} {F : Nat → Nat} {o2 : osT} {L2 : Nat → Nat} {x : (Nat → Nat) × (Nat → Nat) × Nat × Nat} (hn : n ≤ 12) (hV : ∀ j, V j ≤ 4) (hN : ∀ i, Nb i < 4096) (hF : ∀ i, F i < 12) (hbg : ∀ i, t.2.2.2.2.2.2 i < 4096) (hob : oB o2) (e : o2 = (L2, x.1, x.2.1, x.2.2.1, x.2.2.2, 0)) (hs : sqR n V (tkZ Nb V n kd F t.2.2.2.2.2.2) x) : iQ n nf V Pl Se Nb (tkZ Nb V n kd F t.2.2.2.2.2.2) 1 o2 := by
  refine ⟨Nat.le_refl 1, hob, hF, fun i => ?_, mcF_le hn hV n, ?_⟩
  · show rowF t.2.2.2.2.2.2 (bgC Nb n F) n i < 4096
    unfold rowF
    split
    · exact bagF_lt hN (hF i)
    · exact hbg i
  · rw [e, srZ_1]
    exact hs
theorem arC_12 {ct : Nat → Nat → Nat} {Od : Nat → Nat} (hn : n ≤ 12) (hO : ∀ i, Od i < 12) (h : ∀ i g, i < n → ct i g < n) : ∀ i, arC ct Od n i < 12 := fun i => by
  rcases Nat.lt_or_ge i n with q | q
  · rw [arC_at q]
    exact Nat.lt_of_lt_of_le (h i _ q) hn
  · rw [arC_far n i q]; exact hO i
theorem INV.order (h : INV n nf stt mem V Pl Nb t kn r ca fB fL X tw kw Bd Se Co En Bm o Lm Cm Tw Ts tp) {x : Int32} {u : (sqT × Nat) × srT} {v : orT} (hc : ocP n V Nb Pl t.1 t.2.1 t.2.2.1 t.2.2.2.1 t.2.2.2.2.1 kn t.2.2.2.2.2.1 t.2.2.2.2.2.2 r.1 r.2.1 r.2.2.1 r.2.2.2.1 r.2.2.2.2 x u) (hm : orP n nf V Pl Se o.1 o.2.1 o.2.2.1 Lm Cm o x v) :
    INV n nf stt mem V Pl Nb u.1.1 u.1.2 u.2 ca fB fL X tw kw Bd Se Co En Bm v.1 v.2.1 v.2.2 Tw Ts tp ∧ (inZ x.toInt64 (lN 0) (lN 5) → (x = nI 1 → poF Pl n = 2 ^ n - 1) → u.1.1.2.1 = wdF (orZ n nf V Pl Se o.1 o.2.1 o.2.2.1 Lm Cm (tn x)).2.2.1 n) := by
  obtain ⟨m1, m2, m3, m4⟩ := hm
  have hn := h.a.n12
  have hG := h.s.gr hn
  have hN4 := h.s.n4 hn
  have hok : (inZ x.toInt64 (lN 0) (lN 5) ∧ (x = nI 1 → poF Pl n = 2 ^ n - 1)) ↔ orOk n Pl x := by
    unfold orOk
    rw [po_mt2 h.p n hn]
  have hx : iX v.2.1 v.2.2 Tw Ts tp := ⟨m3, m4, h.x.tw, h.x.ts, h.x.tp⟩
  have mk : ∀ {q : sqT} {rr : srT} {oo : osT}, iQ n nf V Pl Se Nb q 1 oo → iR n V Nb rr → INV n nf stt mem V Pl Nb q 1 rr ca fB fL X tw kw Bd Se Co En Bm oo v.2.1 v.2.2 Tw Ts tp := fun a b => ⟨h.a, h.p, h.p2, h.m, h.s, a, b, h.f, h.b, h.w, hx⟩
  rcases hc with ⟨c1, c2⟩ | ⟨⟨c1, c2, c3⟩, c4⟩ | ⟨c1, c2⟩
  · have : ¬ orOk n Pl x := fun z => c1 (hok.mpr z)
    rw [zif_f this] at m1
    rw [c2, m1]
    exact ⟨⟨h.a, h.p, h.p2, h.m, h.s, h.q, h.r, h.f, h.b, h.w, hx⟩, fun a b => absurd ⟨a, b⟩ c1⟩
  · have hok2 := hok.mp ⟨c1, c2⟩
    rw [zif_t hok2] at m1
    obtain ⟨q, -, hq, rfl⟩ := in_nat (by decide) (by decide) c1
    have htq : tn (nI q) = q := tn_nI (by omega)
    have hq5 : q ≠ 5 := fun z => c3 (by rw [z])
    rw [htq] at m1 c4
    have hp1 : q = 1 → pcOk Pl n := fun z => h.h1 (c2 (by rw [z]))
    have sq := kd_sq (Pl := Pl) (Fo := r.2.2.2.2) (Od := t.2.2.2.2.2.1) (Bg := t.2.2.2.2.2.2) (Li := o.1) (Od2 := o.2.1) (Bg2 := o.2.2.1) (kd := q) hG h.a.V4 (by omega) hp1 (fun a _ => h.s.nb a)
    have e2 : orZ n nf V Pl Se o.1 o.2.1 o.2.2.1 Lm Cm q = ((wkZ q V Pl Se o.1 o.2.1 o.2.2.1 n nf).1, (wkZ q V Pl Se o.1 o.2.1 o.2.2.1 n nf).2.2.1, (wkZ q V Pl Se o.1 o.2.1 o.2.2.1 n nf).2.2.2.1, q, (wkZ q V Pl Se o.1 o.2.1 o.2.2.1 n nf).2.2.2.2, 0) := by
      unfold orZ
      rw [if_neg hq5]
    have hF : ∀ i, arC (ctC Nb V Pl r.2.2.2.2 n q) t.2.2.2.2.2.1 n i < 12 := arC_12 hn h.q.od (fun i g hi => ctC_lt hi (fun z => (hp1 z).1) (fun z => absurd z hq5))
    rw [c4, htq, e2]
    rw [e2] at m1
    refine ⟨?_, fun _ _ => sq.width⟩
    exact mk (q_ord hn h.a.V4 hN4 hF h.q.bg m2 m1 sq) h.r
  · have hin : inZ x.toInt64 (lN 0) (lN 5) := by
      rw [c1]
      exact (in_le0 (by decide)).mpr ⟨by decide, by decide⟩
    have hok2 : orOk n Pl x := hok.mp ⟨hin, fun z => absurd (c1.symm.trans z) (by decide)⟩
    rw [zif_t hok2] at m1
    have htq : tn x = 5 := by rw [c1]; exact tn_nI (by decide)
    rw [htq] at m1 ⊢
    have e2 : orZ n nf V Pl Se o.1 o.2.1 o.2.2.1 Lm Cm 5 = ((or5 n nf V Se o.1 o.2.1 o.2.2.1 Lm Cm).1, orO n nf V Se o.1 o.2.1 Lm Cm, (or5 n nf V Se o.1 o.2.1 o.2.2.1 Lm Cm).2.2.2.1, 5, (or5 n nf V Se o.1 o.2.1 o.2.2.1 Lm Cm).2.2.2.2, 0) := rfl
    rw [e2] at m1 ⊢
    have both : ∀ {Fo : Nat → Nat} {rr : srT}, (∀ j, j < n → Fo j = orO n nf V Se o.1 o.2.1 Lm Cm j) → (∀ i, i < n → Fo i < n) → iR n V Nb rr → u = ((tkZ Nb V n 5 (arC (ctC Nb V Pl Fo n 5) t.2.2.2.2.2.1 n) t.2.2.2.2.2.2, 1), rr) → INV n nf stt mem V Pl Nb u.1.1 u.1.2 u.2 ca fB fL X tw kw Bd Se Co En Bm v.1 v.2.1 v.2.2 Tw Ts tp ∧ (inZ x.toInt64 (lN 0) (lN 5) → (x = nI 1 → poF Pl n = 2 ^ n - 1) → u.1.1.2.1 = wdF (or5 n nf V Se o.1 o.2.1 o.2.2.1 Lm Cm).2.2.2.1 n) := by
      intro Fo rr hFo hFn hR e
      have sq := five_sq (Pl := Pl) (Od := t.2.2.2.2.2.1) (Bg := t.2.2.2.2.2.2) (Bg2 := o.2.2.1) hG h.a.V4 (fun a _ => h.s.nb a) hFo
      have hF : ∀ i, arC (ctC Nb V Pl Fo n 5) t.2.2.2.2.2.1 n i < 12 := arC_12 hn h.q.od (fun i g hi => ctC_lt hi (fun z => absurd z (by decide)) (fun _ => hFn))
      rw [e]
      exact ⟨mk (q_ord hn h.a.V4 hN4 hF h.q.bg m2 m1 sq) hR, fun _ _ => sq.width⟩
    rcases c2 with ⟨k1, k2⟩ | ⟨k1, k2⟩
    · exact both (fun j hj => by rw [h.r.fo k1 j hj, ← h.bst (Lc := fun _ => 0) (Le := fun _ => 0) (Fo := fun _ => 0) j hj]; exact (h.fd j hj).1) (h.h51 k1) h.r k2
    · refine both (fun j hj => (h.fd j hj).1) h.h50 ?_ k2
      refine ⟨Nat.le_refl 1, Nat.le_refl _, fun j hj => clR_at hj, clR_le hn h.a.V4 h.r.lc, ccR_le (lwR_le h.r.le _) _, fun _ j hj => h.bst j hj⟩
end ST2
