-- LEVEL 2, the answers
section ANS
variable {n nf stt mem : Nat} {V Pl Nb : Nat → Nat} {t : sqT} {kn : Nat} {r : srT} {ca : Nat} {fB fL : Nat → Option Nat} {X : Nat → fR} {tw : wT} {kw : Nat} {Bd Se Co En Bm : Nat → Nat} {o : osT} {Lm Cm Tw Ts : Nat → Nat} {tp : Nat}
theorem zif_iff {α : Type} {P Q : Prop} {a b : α} (h : P ↔ Q) : zif P a b = zif Q a b := by rw [show P = Q from propext h]
theorem zif_c {α : Type} {P : Prop} {a b c d : α} (h1 : P → a = c) (h2 : ¬ P → b = d) : zif P a b = zif P c d := by
  by_cases q : P
  · rw [zif_t q, zif_t q, h1 q]
  · rw [zif_f q, zif_f q, h2 q]
theorem INV.fa (h : INV n nf stt mem V Pl Nb t kn r ca fB fL X tw kw Bd Se Co En Bm o Lm Cm Tw Ts tp) {x : Int32} : faC n ca x ↔ faOk n nf Co x := by
  have h1 := h.f.c16
  have h2 := h.f.nc
  have h3 := h.f.cs
  unfold faC faOk
  constructor
  · rintro ⟨a, b, c⟩
    exact ⟨a, b, by omega, by omega⟩
  · rintro ⟨a, b, c, d⟩
    exact ⟨a, b, by omega⟩
theorem INV.afactor (h : INV n nf stt mem V Pl Nb t kn r ca fB fL X tw kw Bd Se Co En Bm o Lm Cm Tw Ts tp) (x : Int32) : zif (stP x n) (zif (popc (tn x) ≤ 4) (zif (faC n ca x) (nI nf) (-4)) (-2)) (-1) = faA n nf Co x := by
  unfold faA
  rw [zif_iff h.fa]
theorem kn_tn {x : Int32} {m : Nat} (hm : m < 2 ^ 31) (h : knP x m) : tn x < m := by
  obtain ⟨k, hk, rfl⟩ := kn_nat hm h
  rw [tn_nI (by omega)]
  exact hk
theorem INV.pu (h : INV n nf stt mem V Pl Nb t kn r ca fB fL X tw kw Bd Se Co En Bm o Lm Cm Tw Ts tp) {f y v : Int32} : puC X nf f y v ↔ puOk n nf V Se f y v := by
  have h1 := h.f.c16
  have h2 := h.f.nc
  unfold puC puOk
  constructor
  · rintro ⟨a, b, c⟩
    rw [(h.f.fc _ (kn_tn (by omega) a)).cells] at b
    exact ⟨a, b, c⟩
  · rintro ⟨a, b, c⟩
    rw [← (h.f.fc _ (kn_tn (by omega) a)).cells] at b
    exact ⟨a, b, c⟩
theorem INV.aput (h : INV n nf stt mem V Pl Nb t kn r ca fB fL X tw kw Bd Se Co En Bm o Lm Cm Tw Ts tp) (f y v : Int32) : zif (knP f nf) (zif (puC X nf f y v) (nI (yE (X (tn f)) (tn y))) (-2)) (-1) = puA n nf V Se En f y v := by
  have h1 := h.f.c16
  have h2 := h.f.nc
  unfold puA
  refine zif_c (fun a => ?_) (fun _ => rfl)
  rw [zif_iff h.pu]
  refine zif_c (fun b => ?_) (fun _ => rfl)
  have hk := h.f.fc _ (kn_tn (by omega) a)
  have hs := hk.small
  have hb := kn_tn (by omega) b.2.1
  rw [hk.ent (tn y) (by rw [hk.cells]; exact hb)]
theorem INV.co (h : INV n nf stt mem V Pl Nb t kn r ca fB fL X tw kw Bd Se Co En Bm o Lm Cm Tw Ts tp) {f y : Int32} : coC2 X nf ca f y ↔ coOk nf Co f y := by
  have h1 := h.f.c16
  have h2 := h.f.nc
  unfold coC2 coOk
  constructor
  · rintro ⟨a, b, c⟩
    rw [(h.f.fc _ (kn_tn (by omega) a)).times, h.f.cs] at c
    exact ⟨a, b, c⟩
  · rintro ⟨a, b, c⟩
    rw [← (h.f.fc _ (kn_tn (by omega) a)).times, ← h.f.cs] at c
    exact ⟨a, b, c⟩
theorem INV.acopies (h : INV n nf stt mem V Pl Nb t kn r ca fB fL X tw kw Bd Se Co En Bm o Lm Cm Tw Ts tp) (f y : Int32) : zif (knP f nf) (zif (inZ y.toInt64 (lN 1) (lN 3)) (zif (coC2 X nf ca f y) (nI (xT (X (tn f)))) (-4)) (-2)) (-1) = coA nf Co f y := by
  have h1 := h.f.c16
  have h2 := h.f.nc
  unfold coA
  refine zif_c (fun a => ?_) (fun _ => rfl)
  rw [zif_iff h.co, (h.f.fc _ (kn_tn (by omega) a)).times]
theorem INV.aevid (h : INV n nf stt mem V Pl Nb t kn r ca fB fL X tw kw Bd Se Co En Bm o Lm Cm Tw Ts tp) (x y : Int32) : evA n V Bd x y = evA n V Bm x y := by
  have h12 := h.a.n12
  unfold evA
  refine zif_c (fun a => ?_) (fun _ => rfl)
  rw [h.b.eq _ (kn_tn (by omega) a)]
theorem INV.tmo (h : INV n nf stt mem V Pl Nb t kn r ca fB fL X tw kw Bd Se Co En Bm o Lm Cm Tw Ts tp) : (mem < (srZ Nb V n kn t).2.2.2.2.1) ↔ tmP n nf mem V Pl Se o := by
  unfold tmP
  rw [h.q.sq.most]
theorem INV.ataken (h : INV n nf stt mem V Pl Nb t kn r ca fB fL X tw kw Bd Se Co En Bm o Lm Cm Tw Ts tp) (x y : Int32) : zif (knP x n) (tkC n V (srZ Nb V n kn t) (tn x) y) (-1) = zif (knP x n) (zif (inZ y.toInt64 (lN 0) (lN 3)) (tkR n V (oZ n nf V Pl Se o) (tn x) (tn y)) (-2)) (-1) := by
  have h12 := h.a.n12
  have sq := h.q.sq
  refine zif_c (fun a => ?_) (fun _ => rfl)
  have hj := kn_tn (by omega) a
  generalize tn x = j at hj
  rcases tb_out (x := y) 0 3 (by decide) with c | ⟨q, -, hq, rfl⟩
  · rw [tkC_out c, zif_f (fun z => ?_)]
    have := (in_lt (by decide)).mp z
    obtain ⟨k, hk1, hk2, rfl⟩ := in_nat (by decide) (by decide) z
    rw [nI_toInt (by omega)] at c
    omega
  · rw [zif_t ((in_le0 (by decide)).mpr ⟨nI_pos (by omega), by rw [nI_leI (by omega) (by decide)]; exact hq⟩), tn_nI (by omega)]
    rcases (show q = 0 ∨ q = 1 ∨ q = 2 ∨ q = 3 by omega) with rfl | rfl | rfl | rfl
    · unfold tkC tkR
      rw [zif_t rfl, zif_t rfl, sq.row j hj]
    · unfold tkC tkR
      rw [zif_f (by decide), zif_t rfl, zif_f (by decide), zif_t rfl, sq.bag j hj]
    · unfold tkC tkR
      rw [zif_f (by decide), zif_f (by decide), zif_t rfl, zif_f (by decide), zif_f (by decide), zif_f (by decide)]
      rw [par_eq (Od2 := (oZ n nf V Pl Se o).2.1) (Bg2 := (oZ n nf V Pl Se o).2.2.1) (n := n) (i := j) (sq.bag j hj) sq.row (n - (j + 1)) (j + 1) (by omega)]
    · unfold tkC tkR
      rw [zif_f (by decide), zif_f (by decide), zif_f (by decide), zif_t rfl, zif_f (by decide), zif_f (by decide), zif_t rfl, sq.bag j hj]
theorem popS_cg {A B : Nat → Nat} : ∀ n, (∀ j, j < n → A j = B j) → popS A n = popS B n
  | 0, _ => rfl
  | n + 1, h => by
    simp only [popS]
    rw [popS_cg n (fun j hj => h j (by omega)), h n (Nat.lt_succ_self n)]
theorem INV.atold (h : INV n nf stt mem V Pl Nb t kn r ca fB fL X tw kw Bd Se Co En Bm o Lm Cm Tw Ts tp) (x : Int32) : tdC n nf ca stt Nb (srZ Nb V n kn t) x = zif (inZ x.toInt64 (lN 0) (lN 9)) (tdR n stt nf V Se Co (oZ n nf V Pl Se o) (tn x)) (-2) := by
  have sq := h.q.sq
  rcases tb_out (x := x) 0 9 (by decide) with c | ⟨q, -, hq, rfl⟩
  · rw [tdC_out (by omega), toC_out (by omega), zif_f (fun z => ?_)]
    obtain ⟨k, hk1, hk2, rfl⟩ := in_nat (by decide) (by decide) z
    rw [nI_toInt (by omega)] at c
    omega
  · rw [zif_t ((in_le0 (by decide)).mpr ⟨nI_pos (by omega), by rw [nI_leI (by omega) (by decide)]; exact hq⟩), tn_nI (by omega)]
    rcases (show q = 0 ∨ q = 1 ∨ q = 2 ∨ q = 3 ∨ q = 4 ∨ q = 5 ∨ q = 6 ∨ q = 7 ∨ q = 8 ∨ q = 9 by omega) with rfl | rfl | rfl | rfl | rfl | rfl | rfl | rfl | rfl | rfl
    · unfold tdC; rw [zif_t rfl]; rfl
    · unfold tdC; rw [zif_f (by decide), zif_t rfl]; rfl
    · unfold tdC; rw [zif_f (by decide), zif_f (by decide), zif_t rfl, h.f.cs]; rfl
    · unfold tdC; rw [zif_f (by decide), zif_f (by decide), zif_f (by decide), zif_t rfl]; rfl
    · unfold tdC; rw [zif_f (by decide), zif_f (by decide), zif_f (by decide), zif_f (by decide), zif_t rfl, popS_cg n (fun j _ => h.s.nb j)]; rfl
    · unfold tdC toC; rw [zif_f (by decide), zif_f (by decide), zif_f (by decide), zif_f (by decide), zif_f (by decide), zif_t rfl, sq.kind]; rfl
    · unfold tdC toC; rw [zif_f (by decide), zif_f (by decide), zif_f (by decide), zif_f (by decide), zif_f (by decide), zif_f (by decide), zif_t rfl, sq.width]; rfl
    · unfold tdC toC; rw [zif_f (by decide), zif_f (by decide), zif_f (by decide), zif_f (by decide), zif_f (by decide), zif_f (by decide), zif_f (by decide), zif_t rfl, sq.fill]; rfl
    · unfold tdC toC; rw [zif_f (by decide), zif_f (by decide), zif_f (by decide), zif_f (by decide), zif_f (by decide), zif_f (by decide), zif_f (by decide), zif_f (by decide), zif_t rfl, sq.sum]; rfl
    · unfold tdC toC; rw [zif_f (by decide), zif_f (by decide), zif_f (by decide), zif_f (by decide), zif_f (by decide), zif_f (by decide), zif_f (by decide), zif_f (by decide), zif_f (by decide), zif_t rfl, sq.most]; rfl
-- what is read off the weights
theorem INV.atotal (h : INV n nf stt mem V Pl Nb t kn r ca fB fL X tw kw Bd Se Co En Bm o Lm Cm Tw Ts tp) : zif (mem < (srZ Nb V n kn t).2.2.2.2.1) (-4 : Int64) (lN (rwZ X (chL Se nf) V Bd stt n kw tw).2.1) = zif (tmP n nf mem V Pl Se o) (-4) (lN (smF (wtM V Bm Se Co En n nf) stt)) := by
  rw [zif_iff h.tmo, h.rt.1.sum]
theorem INV.asupport (h : INV n nf stt mem V Pl Nb t kn r ca fB fL X tw kw Bd Se Co En Bm o Lm Cm Tw Ts tp) : zif (mem < (srZ Nb V n kn t).2.2.2.2.1) (-4 : Int32) (nI (rwZ X (chL Se nf) V Bd stt n kw tw).2.2.1) = zif (tmP n nf mem V Pl Se o) (-4) (nI (cnF (wtM V Bm Se Co En n nf) stt)) := by
  rw [zif_iff h.tmo, h.rt.1.cnt]
theorem INV.agreatest (h : INV n nf stt mem V Pl Nb t kn r ca fB fL X tw kw Bd Se Co En Bm o Lm Cm Tw Ts tp) : zif (mem < (srZ Nb V n kn t).2.2.2.2.1) (-4 : Int64) (lN (zif ((rwZ X (chL Se nf) V Bd stt n kw tw).2.2.2.2.2 = 0) 0 ((rwZ X (chL Se nf) V Bd stt n kw tw).2.2.2.1 0))) = zif (tmP n nf mem V Pl Se o) (-4) (lN (zif ((rkF (wtM V Bm Se Co En n nf) (Tw, Ts, 0) stt).2.2 = 0) 0 ((rkF (wtM V Bm Se Co En n nf) (Tw, Ts, 0) stt).1 0))) := by
  obtain ⟨k1, -, k3⟩ := h.rt.1.rnk Tw Ts
  rw [zif_iff h.tmo, k1]
  refine zif_c (fun _ => rfl) (fun _ => congrArg lN (zif_c (fun _ => rfl) (fun q => (k3 0 (by omega)).1)))
theorem INV.abest (h : INV n nf stt mem V Pl Nb t kn r ca fB fL X tw kw Bd Se Co En Bm o Lm Cm Tw Ts tp) (x : Int32) : zif (knP x n) (zif (mem < (srZ Nb V n kn t).2.2.2.2.1) (-4) (zif ((rwZ X (chL Se nf) V Bd stt n kw tw).2.2.2.2.2 = 0) (-3) (nI (valF V n ((rwZ X (chL Se nf) V Bd stt n kw tw).2.2.2.2.1 0) (tn x))))) (-1) = zif (knP x n) (zif (tmP n nf mem V Pl Se o) (-4) (zif ((rkF (wtM V Bm Se Co En n nf) (Tw, Ts, 0) stt).2.2 = 0) (-3) (nI (valF V n ((rkF (wtM V Bm Se Co En n nf) (Tw, Ts, 0) stt).2.1 0) (tn x))))) (-1) := by
  obtain ⟨k1, -, k3⟩ := h.rt.1.rnk Tw Ts
  rw [zif_iff h.tmo, k1]
  refine zif_c (fun _ => zif_c (fun _ => rfl) (fun _ => zif_c (fun _ => rfl) (fun q => ?_))) (fun _ => rfl)
  rw [(k3 0 (by omega)).2]
theorem INV.arank (h : INV n nf stt mem V Pl Nb t kn r ca fB fL X tw kw Bd Se Co En Bm o Lm Cm Tw Ts tp) (x y : Int32) : zif (y ≠ mI 0 ∧ ¬ knP y n) (-1) (zif (inZ x.toInt64 (lN 0) (lN 23)) (zif (mem < (srZ Nb V n kn t).2.2.2.2.1) (-4) (zif ((rwZ X (chL Se nf) V Bd stt n kw tw).2.2.2.2.2 ≤ tn x) (-3) (zif (y = mI 0) (lN ((rwZ X (chL Se nf) V Bd stt n kw tw).2.2.2.1 (tn x))) (lN (valF V n ((rwZ X (chL Se nf) V Bd stt n kw tw).2.2.2.2.1 (tn x)) (tn y)))))) (-2)) =
    zif (y ≠ mI 0 ∧ ¬ knP y n) (-1) (zif (inZ x.toInt64 (lN 0) (lN 23)) (zif (tmP n nf mem V Pl Se o) (-4) (zif ((rkF (wtM V Bm Se Co En n nf) (Tw, Ts, 0) stt).2.2 ≤ tn x) (-3) (zif (y = mI 0) (lN ((rkF (wtM V Bm Se Co En n nf) (Tw, Ts, 0) stt).1 (tn x))) (lN (valF V n ((rkF (wtM V Bm Se Co En n nf) (Tw, Ts, 0) stt).2.1 (tn x)) (tn y)))))) (-2)) := by
  obtain ⟨k1, -, k3⟩ := h.rt.1.rnk Tw Ts
  rw [zif_iff h.tmo, k1]
  refine zif_c (fun _ => rfl) (fun _ => zif_c (fun _ => zif_c (fun _ => rfl) (fun _ => zif_c (fun _ => rfl) (fun q => ?_))) (fun _ => rfl))
  rw [(k3 (tn x) (by omega)).1, (k3 (tn x) (by omega)).2]
theorem INV.ga (h : INV n nf stt mem V Pl Nb t kn r ca fB fL X tw kw Bd Se Co En Bm o Lm Cm Tw Ts tp) {S q : Nat} (hq : q < cellsF V S n) : gaF V (cgF V S q) (rwZ X (chL Se nf) V Bd stt n kw tw).1 n 0 0 (0, 0) = (smF (whF (wtM V Bm Se Co En n nf) (fun k => nmF (valF V n k) V S n) q) stt, cnF (whF (wtM V Bm Se Co En n nf) (fun k => nmF (valF V n k) V S n) q) stt) := ga_wh h.a.V0 h.a.pr h.rt.1.row hq
theorem INV.hga (h : INV n nf stt mem V Pl Nb t kn r ca fB fL X tw kw Bd Se Co En Bm o Lm Cm Tw Ts tp) (S q : Nat) : (gaF V (cgF V S q) (rwZ X (chL Se nf) V Bd stt n kw tw).1 n 0 0 (0, 0)).1 < 2 ^ 62 := by
  have hb := h.rt.2.row
  rw [gaF_row n 0 0 (0, 0) (fun j _ h2 => ⟨h.a.V0 j (by omega), cgF_le (h.a.V0 j (by omega))⟩), h.a.pr]
  rw [foV_cg (g := fun y t => if mtG V (cgF V S q) n 0 y = true ∧ (rwZ X (chL Se nf) V Bd stt n kw tw).1 y ≠ 0 then (t.1 + (rwZ X (chL Se nf) V Bd stt n kw tw).1 y, t.2 + 1) else t) stt (fun y hy t => by rw [show 0 * stt + y = y by omega]), foV_ga]
  show 0 + smF _ stt < 2 ^ 62
  rw [Nat.zero_add]
  refine Nat.lt_of_le_of_lt (sm_b (fun s => ?_) h.a.st) (by decide)
  show (if _ then _ else _) ≤ _
  split
  · exact hb s
  · exact Nat.zero_le _
theorem INV.aamong (h : INV n nf stt mem V Pl Nb t kn r ca fB fL X tw kw Bd Se Co En Bm o Lm Cm Tw Ts tp) (x y : Int32) : zif (knP x n) (zif (knP y (V (tn x))) (zif (mem < (srZ Nb V n kn t).2.2.2.2.1) (-4) (nI (gaF V (cgF V (2 ^ tn x) (tn y)) (rwZ X (chL Se nf) V Bd stt n kw tw).1 n 0 0 (0, 0)).2)) (-2)) (-1) =
    zif (knP x n) (zif (inZ y.toInt64 (lN 0) (mI (V (tn x))).toInt64) (zif (tmP n nf mem V Pl Se o) (-4) (nI (cnF (whF (wtM V Bm Se Co En n nf) (fun k => valF V n k (tn x)) (tn y)) stt))) (-2)) (-1) := by
  have h12 := h.a.n12
  refine zif_c (fun a => ?_) (fun _ => rfl)
  have hj := kn_tn (by omega) a
  have hv := h.a.V4 (tn x)
  rw [zif_iff (in_kn (x := y) (n := V (tn x)) (by omega))]
  refine zif_c (fun b => ?_) (fun _ => rfl)
  have hy := kn_tn (by omega) b
  rw [zif_iff h.tmo]
  refine zif_c (fun _ => rfl) (fun _ => ?_)
  have e : (fun k => nmF (valF V n k) V (2 ^ tn x) n) = fun k => valF V n k (tn x) := funext fun k => by rw [nm_one, if_pos hj]
  rw [h.ga (S := 2 ^ tn x) (q := tn y) (by rw [cl_two, if_pos hj]; exact hy), e]
theorem INV.ashare (h : INV n nf stt mem V Pl Nb t kn r ca fB fL X tw kw Bd Se Co En Bm o Lm Cm Tw Ts tp) (x y v : Int32) :
    zif (stP x n) (zif (knP y (cellsF V (tn x) n) ∧ inZ v.toInt64 (lN 0) (lN 1)) (zif (mem < (srZ Nb V n kn t).2.2.2.2.1) (-4) (zif ((rwZ X (chL Se nf) V Bd stt n kw tw).2.1 = 0) (-3) (lN (zif (tn v = 0) (gaF V (cgF V (tn x) (tn y)) (rwZ X (chL Se nf) V Bd stt n kw tw).1 n 0 0 (0, 0)).1 (rwZ X (chL Se nf) V Bd stt n kw tw).2.1 / Nat.gcd (gaF V (cgF V (tn x) (tn y)) (rwZ X (chL Se nf) V Bd stt n kw tw).1 n 0 0 (0, 0)).1 (rwZ X (chL Se nf) V Bd stt n kw tw).2.1)))) (-2)) (-1) =
    zif (stP x n) (zif (inZ y.toInt64 (lN 0) (mI (cellsF V (tn x) n)).toInt64 ∧ inZ v.toInt64 (lN 0) (lN 1)) (zif (tmP n nf mem V Pl Se o) (-4) (zif (smF (wtM V Bm Se Co En n nf) stt = 0) (-3) (lN (zif (tn v = 0) (smF (whF (wtM V Bm Se Co En n nf) (fun k => nmF (valF V n k) V (tn x) n) (tn y)) stt) (smF (wtM V Bm Se Co En n nf) stt) / Nat.gcd (smF (wtM V Bm Se Co En n nf) stt) (smF (whF (wtM V Bm Se Co En n nf) (fun k => nmF (valF V n k) V (tn x) n) (tn y)) stt))))) (-2)) (-1) := by
  have h12 := h.a.n12
  refine zif_c (fun a => ?_) (fun _ => rfl)
  have hc := cellsF_b h.a.V4 (tn x) h12
  have e1 : (knP y (cellsF V (tn x) n) ∧ inZ v.toInt64 (lN 0) (lN 1)) ↔ (inZ y.toInt64 (lN 0) (mI (cellsF V (tn x) n)).toInt64 ∧ inZ v.toInt64 (lN 0) (lN 1)) := by rw [in_kn (by omega)]
  rw [← zif_iff e1]
  refine zif_c (fun b => ?_) (fun _ => rfl)
  have hy := kn_tn (by omega) b.1
  rw [zif_iff h.tmo, h.rt.1.sum, h.ga hy, Nat.gcd_comm]
theorem INV.adrawn (h : INV n nf stt mem V Pl Nb t kn r ca fB fL X tw kw Bd Se Co En Bm o Lm Cm Tw Ts tp) (d : Int64) (x : Int32) : zif (knP x n) (zif (lN 0 ≤ d) (zif (mem < (srZ Nb V n kn t).2.2.2.2.1) (-4) (zif ((rwZ X (chL Se nf) V Bd stt n kw tw).2.1 ≤ tL d) (-3) (nI (valF V n (saG (rwZ X (chL Se nf) V Bd stt n kw tw).1 (tL d) stt 0) (tn x))))) (-2)) (-1) =
    zif (knP x n) (zif (lN 0 ≤ d) (zif (tmP n nf mem V Pl Se o) (-4) (zif (smF (wtM V Bm Se Co En n nf) stt ≤ tL d) (-3) (nI (valF V n (dwF (wtM V Bm Se Co En n nf) (tL d) stt 0 - 1) (tn x))))) (-2)) (-1) := by
  rw [zif_iff h.tmo, h.rt.1.sum]
  refine zif_c (fun _ => zif_c (fun _ => zif_c (fun _ => rfl) (fun _ => zif_c (fun _ => rfl) (fun q => ?_))) (fun _ => rfl)) (fun _ => rfl)
  rw [(sa_dw h.rt.1.row (by omega) stt 0 (Nat.zero_add _) (Nat.zero_le _)).1]
theorem INV.hsa (h : INV n nf stt mem V Pl Nb t kn r ca fB fL X tw kw Bd Se Co En Bm o Lm Cm Tw Ts tp) (v : Nat) : saG (rwZ X (chL Se nf) V Bd stt n kw tw).1 v stt 0 < 2 ^ 31 := by
  have := h.a.st
  have := saG_le (BS := (rwZ X (chL Se nf) V Bd stt n kw tw).1) (U := v) stt 0
  omega
theorem INV.aapart (h : INV n nf stt mem V Pl Nb t kn r ca fB fL X tw kw Bd Se Co En Bm o Lm Cm Tw Ts tp) {Li : Nat → Nat} (hLi : ∀ i, Li i < 4096) (x y z : Int32) : zif (apOk n x y z) (zif ((2 ^ tn x ||| 2 ^ tn y) &&& tn z ≠ 0) (nI 1) (zif ((rchF Nb n (tn x) (tn z ^^^ 4294967295)).testBit (tn y) = true) (nI 0) (nI 1))) (-1) = apA n nf Se Li x y z := by
  have h12 := h.a.n12
  have h2m : 2 ^ n ≤ 4096 := Nat.pow_le_pow_right (by decide) h12
  unfold apA
  refine zif_c (fun a => ?_) (fun _ => rfl)
  have ha := kn_tn (by omega) a.1
  have hb := kn_tn (by omega) a.2.1
  have hS : tn z < 2 ^ n := kn_tn (m := 2 ^ n) (by omega) a.2.2
  rw [zif_iff ends_0]
  refine zif_c (fun _ => rfl) (fun q => ?_)
  have s1 : (tn z).testBit (tn x) = false := by cases w : (tn z).testBit (tn x); rfl; exact absurd (Or.inl w) q
  have s2 : (tn z).testBit (tn y) = false := by cases w : (tn z).testBit (tn y); rfl; exact absurd (Or.inr w) q
  rw [zif_iff (ap_eq (L := rowF Li (drF Se nf) n) (h.s.gr h12) (drw_lt hLi h.s.s4) (fun c hc => by rw [rowF_lt hc, h.s.nb]) hS ha hb s2 s1)]
theorem INV.hE0 (h : INV n nf stt mem V Pl Nb t kn r ca fB fL X tw kw Bd Se Co En Bm o Lm Cm Tw Ts tp) {C : Nat → Nat} : ∀ k, k < stt → ∀ i, i < nf → xEn X (rowF C (valF V n k) n) i < xC (X i) := fun k _ i hi => (h.f.fc i hi).inr (fun j hj => by rw [rowF_lt hj]; exact valF_lt (h.a.V0 j hj))
theorem INV.aweight (h : INV n nf stt mem V Pl Nb t kn r ca fB fL X tw kw Bd Se Co En Bm o Lm Cm Tw Ts tp) {C : Nat → Nat} (x : Int32) : zif (knP x stt) (lN (zif (evP Bd (valF V n (tn x)) n) (paP X (rowF C (valF V n (tn x)) n) nf) 0)) (-2) = zif (knP x stt) (lN (wtM V Bm Se Co En n nf (tn x))) (-2) := by
  refine zif_c (fun _ => congrArg lN ?_) (fun _ => rfl)
  rw [← wtM_bd h.b.eq]
  unfold wtM wgF
  refine zif_c (fun _ => ?_) (fun _ => rfl)
  rw [pa_pr (V := V) (Se := Se) (Co := Co) (En := En) (fun j hj => by rw [rowF_lt hj]; exact valF_lt (h.a.V0 j hj)) nf h.f.fc]
  exact prF_congr (fun i hi => rowF_lt hi) nf
end ANS
section ANX
variable {n nf stt mem : Nat} {V Pl Nb : Nat → Nat} {t : sqT} {kn : Nat} {r : srT} {ca : Nat} {fB fL : Nat → Option Nat} {X : Nat → fR} {tw : wT} {kw : Nat} {Bd Se Co En Bm : Nat → Nat} {L O B : Nat → Nat} {kd fi sl : Nat} {Lm Cm Tw Ts : Nat → Nat} {tp : Nat}
theorem INV.nameX (h : INV n nf stt mem V Pl Nb t kn r ca fB fL X tw kw Bd Se Co En Bm (L, O, B, kd, fi, sl) Lm Cm Tw Ts tp) {x : Int32} (hP : nmOk n stt x) :
    INV (n + 1) nf (stt * tn x) mem (va_up V n (tn x)) Pl Nb t 0 (0, r.2) ca fB fL X tw 0 Bd Se Co En (va_up Bm n 0) (L, O, B, kd, fi, 1) Lm Cm Tw Ts tp := by
  obtain ⟨k, h2, h4, e⟩ := in_nat (by decide) (by decide) hP.1
  have htn : tn x = k := by rw [e]; exact tn_nI (by omega)
  have h3 := hP.2.2
  rw [htn] at h3 ⊢
  exact h.name hP.2.1 ⟨h2, h4⟩ h3
theorem INV.factorX (h : INV n nf stt mem V Pl Nb t kn r ca fB fL X tw kw Bd Se Co En Bm (L, O, B, kd, fi, sl) Lm Cm Tw Ts tp) {x : Int32} (hP : faC n ca x) {ad : Nat × Nat × Nat × Nat × Nat} (had : nf < 16 → X nf = frF ad) :
    INV n (nf + 1) stt mem V Pl (rowF Nb (jnF Nb (tn x)) n) t 0 (0, r.2) (ca + 1) fB (va_up fL (alF (tn x) 12) (some ad.1)) (va_up X nf (nwF ad (fL (alF (tn x) 12)) V (tn x) n)) tw 0 Bd (va_up Se nf (tn x)) (va_up Co nf 1) (onF En (256 * nf) 256) Bm (L, O, B, kd, fi, 1) Lm Cm Tw Ts tp := by
  have hn := h.a.n12
  have h4 : 2 ^ n ≤ 4096 := Nat.pow_le_pow_right (by decide) hn
  have hS : tn x < 2 ^ n := kn_tn (m := 2 ^ n) (by omega) hP.1
  have := h.f.nc
  have := hP.2.2
  exact h.factor hP.2.2 hS hP.2.1 (had (by omega))
variable {o : osT}
theorem INV.putX (h : INV n nf stt mem V Pl Nb t kn r ca fB fL X tw kw Bd Se Co En Bm o Lm Cm Tw Ts tp) {f y v : Int32} (hP : puC X nf f y v) :
    INV n nf stt mem V Pl Nb t kn r ca fB fL (va_up X (tn f) (ptF (X (tn f)) (tn y) (tn v))) tw 0 Bd Se Co (va_up En (256 * tn f + tn y) (tn v)) Bm o Lm Cm Tw Ts tp := by
  have := h.f.nc
  have := h.f.c16
  have hk := kn_tn (by omega) hP.1
  have hf := (h.f.ok h.a.n12 (tn f) (by omega)).2.2.2.1
  have hy := kn_tn (by omega) hP.2.1
  obtain ⟨k, -, hk7, e⟩ := in_nat (by decide) (by decide) hP.2.2
  exact h.put hk hy (by rw [e, tn_nI (by omega)]; exact hk7)
theorem INV.copiesX (h : INV n nf stt mem V Pl Nb t kn r ca fB fL X tw kw Bd Se Co En Bm o Lm Cm Tw Ts tp) {f y : Int32} (hP : coC2 X nf ca f y) :
    INV n nf stt mem V Pl Nb t kn r (ca - xT (X (tn f)) + tn y) fB fL (va_up X (tn f) (cpF (X (tn f)) (tn y))) tw 0 Bd Se (va_up Co (tn f) (tn y)) En Bm o Lm Cm Tw Ts tp := by
  have := h.f.nc
  have := h.f.c16
  have hk := kn_tn (by omega) hP.1
  obtain ⟨k, h1, h3, e⟩ := in_nat (by decide) (by decide) hP.2.1
  exact h.copies hk (by rw [e, tn_nI (by omega)]; exact ⟨h1, h3⟩) hP.2.2
theorem INV.evidX (h : INV n nf stt mem V Pl Nb t kn r ca fB fL X tw kw Bd Se Co En Bm o Lm Cm Tw Ts tp) {x y : Int32} (hP : evOk n V x y) :
    INV n nf stt mem V Pl Nb t kn r ca fB fL X tw 0 (va_up Bd (tn x) (tm y)) Se Co En (va_up Bm (tn x) (tm y)) o Lm Cm Tw Ts tp := by
  have := h.a.n12
  have hk := kn_tn (by omega) hP.1
  have h4 := h.a.V4 (tn x)
  obtain ⟨q, hq, e⟩ := ev_nat (by omega) hP.2
  exact h.evid hk (by rw [e, tm_mI (by omega)]; exact hq)
theorem INV.memoX (h : INV n nf stt mem V Pl Nb t kn r ca fB fL X tw kw Bd Se Co En Bm o Lm Cm Tw Ts tp) {x : Int32} (hP : inZ x.toInt64 (lN 1) (lN 65536)) : INV n nf stt (tn x) V Pl Nb t kn r ca fB fL X tw kw Bd Se Co En Bm o Lm Cm Tw Ts tp := by
  obtain ⟨k, h1, h3, e⟩ := in_nat (by decide) (by decide) hP
  exact h.memo (by rw [e, tn_nI (by omega)]; exact h3)
theorem INV.placeX (h : INV n nf stt mem V Pl Nb t kn r ca fB fL X tw kw Bd Se Co En Bm o Lm Cm Tw Ts tp) {x y : Int32} (hP : plOk n x y) : INV n nf stt mem V (va_up Pl (tn x) (tn y + 1)) Nb t kn r ca fB fL X tw kw Bd Se Co En Bm o Lm Cm Tw Ts tp := by
  have := h.a.n12
  exact h.place (kn_tn (by omega) hP.2)
theorem INV.aorder (h : INV n nf stt mem V Pl Nb t kn r ca fB fL X tw kw Bd Se Co En Bm o Lm Cm Tw Ts tp) {x : Int32} {u : (sqT × Nat) × srT} {v : orT} (hc : ocP n V Nb Pl t.1 t.2.1 t.2.2.1 t.2.2.2.1 t.2.2.2.2.1 kn t.2.2.2.2.2.1 t.2.2.2.2.2.2 r.1 r.2.1 r.2.2.1 r.2.2.2.1 r.2.2.2.2 x u) (hm : orP n nf V Pl Se o.1 o.2.1 o.2.2.1 Lm Cm o x v) :
    zif (inZ x.toInt64 (lN 0) (lN 5)) (zif (x = nI 1 → poF Pl n = 2 ^ n - 1) (mI u.1.1.2.1) (-3)) (-2) = zif (inZ x.toInt64 (lN 0) (lN 5)) (zif (orOk n Pl x) (mI (wdF (orZ n nf V Pl Se o.1 o.2.1 o.2.2.1 Lm Cm (tn x)).2.2.1 n)) (-3)) (-2) := by
  have e := (h.order hc hm).2
  refine zif_c (fun a => ?_) (fun _ => rfl)
  have i1 : (x = nI 1 → poF Pl n = 2 ^ n - 1) ↔ orOk n Pl x := by
    unfold orOk
    rw [po_mt2 h.p n h.a.n12]
    exact ⟨fun z => ⟨a, z⟩, fun z => z.2⟩
  rw [← zif_iff i1]
  refine zif_c (fun b => ?_) (fun _ => rfl)
  rw [e a b]
theorem oS_ap {Li L2 : Nat → Nat} (hob : oB (Li, O, B, kd, fi, sl)) (hS : ∀ i, Se i < 4096) (h : L2 = Li ∨ L2 = rowF Li (drF Se nf) n) : oS n nf V Pl Se (Li, O, B, kd, fi, sl) (L2, O, B, kd, fi, sl) := by
  rcases h with e | e
  · rw [e]; exact ⟨rfl, hob⟩
  · have e2 : rowF L2 (drF Se nf) n = rowF Li (drF Se nf) n := by
      rw [e]
      funext j
      by_cases q : j < n
      · rw [rowF_lt q, rowF_lt q]
      · rw [rowF_ge (by omega)]
    refine ⟨?_, by rw [e]; exact drw_lt hob.1 hS, hob.2⟩
    show (rfZ n nf sl kd fi V Pl Se L2 O B).2 = (rfZ n nf sl kd fi V Pl Se Li O B).2
    unfold rfZ wkZ
    rw [e2]
    split <;> rfl
end ANX
