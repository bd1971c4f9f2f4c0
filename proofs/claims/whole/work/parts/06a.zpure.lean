-- PURE: what the reference's methods compute
def inZ (v lo hi : Int64) : Prop := ¬ v < lo ∧ ¬ hi < v
theorem i64_of (x : Int32) : x.toInt64.toInt = x.toInt := Int32.toInt_toInt64 x
theorem in_kn {x : Int32} {n : Nat} (hn : n < 2 ^ 30) : inZ x.toInt64 (lN 0) (mI n).toInt64 ↔ knP x n := by
  unfold inZ knP
  rw [Int64.lt_iff_toInt_lt, Int64.lt_iff_toInt_lt, i64_of, i64_of, mI_toInt hn, Int32.lt_iff_toInt_lt, Int32.le_iff_toInt_le, nI_toInt (Nat.lt_trans hn (by decide))]
  have h0 : (lN 0).toInt = 0 := by decide
  have h1 : (0 : Int32).toInt = 0 := by decide
  rw [h0, h1]
  omega
def stP (x : Int32) (n : Nat) : Prop := ¬ x < 0 ∧ ¬ nI (2 ^ n) ≤ x
def popP (S : Nat) : Nat → Nat
  | 0 => 0
  | i + 1 => popP S i + bitN S i
theorem popP_12 (S : Nat) : popP S 12 = popc S := rfl
def sumF (C : Nat → Nat) : Nat → Nat
  | 0 => 0
  | i + 1 => sumF C i + C i
def orF (Se : Nat → Nat) (a : Nat) : Nat → Nat
  | 0 => 0
  | f + 1 => if (Se f).testBit a then orF Se a f ||| Se f else orF Se a f
theorem orF_t {Se : Nat → Nat} {a f : Nat} (h : (Se f).testBit a = true) : orF Se a (f + 1) = orF Se a f ||| Se f := by simp [orF, h]
theorem orF_f {Se : Nat → Nat} {a f : Nat} (h : (Se f).testBit a = false) : orF Se a (f + 1) = orF Se a f := by simp [orF, h]
theorem orF_lt {Se : Nat → Nat} (h : ∀ i, Se i < 4096) (a : Nat) : ∀ f, orF Se a f < 4096
  | 0 => by show 0 < 4096; decide
  | f + 1 => by
    cases hb : (Se f).testBit a
    · rw [orF_f hb]; exact orF_lt h a f
    · rw [orF_t hb]; exact or_lt (orF_lt h a f) (h f)
/-- the neighbours, out of the sets -/
def drF (Se : Nat → Nat) (nf a : Nat) : Nat := sdf (orF Se a nf) (2 ^ a)
theorem drF_lt {Se : Nat → Nat} (h : ∀ i, Se i < 4096) (nf a : Nat) : drF Se nf a < 4096 := Nat.lt_of_le_of_lt (sdf_le _ _) (orF_lt h a nf)
def filI (Li : Nat → Nat) (a b : Nat) : Nat → Nat
  | 0 => 0
  | c + 1 => if (Li a).testBit b ∧ (Li a).testBit c ∧ (Li b).testBit c = false then filI Li a b c + 1 else filI Li a b c
theorem filI_t {Li : Nat → Nat} {a b c : Nat} (h1 : (Li a).testBit b = true) (h2 : (Li a).testBit c = true) (h3 : (Li b).testBit c = false) : filI Li a b (c + 1) = filI Li a b c + 1 := by simp [filI, h1, h2, h3]
theorem filI_f1 {Li : Nat → Nat} {a b c : Nat} (h1 : (Li a).testBit b = false) : filI Li a b (c + 1) = filI Li a b c := by simp [filI, h1]
theorem filI_f2 {Li : Nat → Nat} {a b c : Nat} (h1 : (Li a).testBit c = false) : filI Li a b (c + 1) = filI Li a b c := by simp [filI, h1]
theorem filI_f3 {Li : Nat → Nat} {a b c : Nat} (h1 : (Li b).testBit c = true) : filI Li a b (c + 1) = filI Li a b c := by simp [filI, h1]
def filF (Li : Nat → Nat) (a : Nat) : Nat → Nat
  | 0 => 0
  | b + 1 => filF Li a b + filI Li a b b
theorem filI_le {Li : Nat → Nat} {a b : Nat} : ∀ c, filI Li a b c ≤ c
  | 0 => Nat.le_refl 0
  | c + 1 => by
    have := filI_le (Li := Li) (a := a) (b := b) c
    unfold filI
    split <;> omega
theorem filF_le {Li : Nat → Nat} {a : Nat} : ∀ b, filF Li a b ≤ b * b
  | 0 => Nat.le_refl 0
  | b + 1 => by
    have h1 := filF_le (Li := Li) (a := a) b
    have h2 := filI_le (Li := Li) (a := a) (b := b) b
    simp only [filF]
    have : (b + 1) * (b + 1) = b * b + b + b + 1 := by
      rw [Nat.add_mul, Nat.mul_add]
      omega
    omega
/-- the neighbours behind the taking out of a, at b -/
def toB (Li : Nat → Nat) (a b : Nat) : Nat := if (Li a).testBit b then sdf (sdf (Li b ||| Li a) (2 ^ b)) (2 ^ a) else Li b
def toF (Li : Nat → Nat) (n a : Nat) : Nat → Nat := va_up (rowF Li (toB Li a) n) a 0
theorem rowF_ge {f g : Nat → Nat} {i j : Nat} (h : i ≤ j) : rowF f g i j = f j := by
  unfold rowF
  rw [if_neg (by omega)]
theorem rowF_skip {f g : Nat → Nat} {i : Nat} (h : g i = f i) : rowF f g (i + 1) = rowF f g i := by
  funext j
  unfold rowF
  by_cases h1 : j < i
  · rw [if_pos h1, if_pos (by omega)]
  · rw [if_neg h1]
    by_cases h2 : j < i + 1
    · rw [if_pos h2, show j = i by omega, h]
    · rw [if_neg h2]
-- widths, cells
def wdF (Bg : Nat → Nat) : Nat → Nat
  | 0 => 0
  | i + 1 => max (wdF Bg i) (popc (Bg i))
def mcF (V Bg : Nat → Nat) (n : Nat) : Nat → Nat
  | 0 => 0
  | i + 1 => max (mcF V Bg n i) (cellsF V (Bg i) n)
theorem cellsF_le {V : Nat → Nat} (hV : ∀ j, V j ≤ 4) (S : Nat) : ∀ n, cellsF V S n ≤ 4 ^ n
  | 0 => Nat.le_refl 1
  | n + 1 => by
    have h := cellsF_le hV S n
    rw [Nat.pow_succ]
    cases hb : S.testBit n
    · rw [cellsF_f hb]
      exact Nat.le_trans h (Nat.le_mul_of_pos_right _ (by decide))
    · rw [cellsF_t hb]
      exact Nat.mul_le_mul h (hV n)
theorem cellsF_b {V : Nat → Nat} (hV : ∀ j, V j ≤ 4) (S : Nat) {n : Nat} (hn : n ≤ 12) : cellsF V S n ≤ 16777216 :=
  Nat.le_trans (cellsF_le hV S n) (Nat.pow_le_pow_right (by decide) hn)
theorem mcF_b {V Bg : Nat → Nat} (hV : ∀ j, V j ≤ 4) {n : Nat} (hn : n ≤ 12) : ∀ i, mcF V Bg n i ≤ 16777216
  | 0 => by show 0 ≤ _; omega
  | i + 1 => by
    have h1 := mcF_b (Bg := Bg) hV hn i
    have h2 := cellsF_b hV (Bg i) hn
    simp only [mcF]
    omega
theorem popS_congr {F G : Nat → Nat} : ∀ n, (∀ i, i < n → F i = G i) → popS F n = popS G n
  | 0, _ => rfl
  | n + 1, h => by
    simp only [popS]
    rw [popS_congr n (fun i hi => h i (by omega)), h n (by omega)]
theorem rowF_lt {f g : Nat → Nat} {i j : Nat} (h : j < i) : rowF f g i j = g j := by
  unfold rowF
  rw [if_pos h]
-- a state's values
def rowD (f g : Nat → Nat) (n t : Nat) : Nat → Nat := fun i => if t ≤ i ∧ i < n then g i else f i
theorem rowD_n (f g : Nat → Nat) (n : Nat) : rowD f g n n = f := by
  funext i
  unfold rowD
  rw [if_neg (by omega)]
theorem rowD_0 (f g : Nat → Nat) (n : Nat) : rowD f g n 0 = rowF f g n := by
  funext i
  unfold rowD rowF
  by_cases h : i < n
  · rw [if_pos h, if_pos (by omega)]
  · rw [if_neg h, if_neg (by omega)]
theorem rowD_s (f g : Nat → Nat) {n t : Nat} (h : t < n) : va_up (rowD f g n (t + 1)) t (g t) = rowD f g n t := by
  funext i
  unfold va_up rowD
  by_cases h1 : i = t
  · subst h1
    rw [if_pos rfl, if_pos (by omega)]
  · rw [if_neg h1]
    by_cases h2 : t + 1 ≤ i ∧ i < n
    · rw [if_pos h2, if_pos (by omega)]
    · rw [if_neg h2, if_neg (by omega)]
theorem restF_s {V : Nat → Nat} {n x t : Nat} (h : t < n) : restF V n x (n - (t + 1)) / V t = restF V n x (n - t) := by
  rw [show n - t = (n - (t + 1)) + 1 by omega]
  show _ = restF V n x (n - (t + 1)) / V (n - 1 - (n - (t + 1)))
  rw [show n - 1 - (n - (t + 1)) = t by omega]
theorem valF_eq {V : Nat → Nat} {n x t : Nat} : valF V n x t = restF V n x (n - (t + 1)) % V t := by
  unfold valF
  rw [show n - 1 - t = n - (t + 1) by omega]
def nmF (Sx V : Nat → Nat) (S : Nat) : Nat → Nat
  | 0 => 0
  | i + 1 => if S.testBit i then nmF Sx V S i + cellsF V S i * Sx i else nmF Sx V S i
theorem nmF_t {Sx V : Nat → Nat} {S i : Nat} (h : S.testBit i = true) : nmF Sx V S (i + 1) = nmF Sx V S i + cellsF V S i * Sx i := by simp [nmF, h]
theorem nmF_f {Sx V : Nat → Nat} {S i : Nat} (h : S.testBit i = false) : nmF Sx V S (i + 1) = nmF Sx V S i := by simp [nmF, h]
-- the greedy rules
def pkC (V Li : Nat → Nat) (n how i : Nat) : Nat := if how = 2 then popc (Li i) else if how = 3 then filF Li i n else cellsF V (Li i ||| 2 ^ i) n
def pkF (co : Nat → Nat) (out : Nat) : Nat → Nat × Nat
  | 0 => (0, 0)
  | i + 1 => if out.testBit i then pkF co out i else if (pkF co out i).1 = 0 ∨ co i < (pkF co out i).2 then (i + 1, co i) else pkF co out i
theorem pkF_o {co : Nat → Nat} {out i : Nat} (h : out.testBit i = true) : pkF co out (i + 1) = pkF co out i := by simp [pkF, h]
theorem pkF_t {co : Nat → Nat} {out i : Nat} (h : out.testBit i = false) (h2 : (pkF co out i).1 = 0 ∨ co i < (pkF co out i).2) : pkF co out (i + 1) = (i + 1, co i) := by
  simp only [pkF, h, if_pos h2]
  rfl
theorem pkF_f {co : Nat → Nat} {out i : Nat} (h : out.testBit i = false) (h2 : ¬ ((pkF co out i).1 = 0 ∨ co i < (pkF co out i).2)) : pkF co out (i + 1) = pkF co out i := by
  simp only [pkF, h, if_neg h2]
  rfl
-- the bag of a name when others are gone, by passes
def bgN (L : Nat → Nat) (a out sn : Nat) : Nat → Nat
  | 0 => sn
  | b + 1 => if sn.testBit b = true ∧ (b = a ∨ out.testBit b = true) then bgN L a out sn b ||| L b else bgN L a out sn b
theorem bgN_t {L : Nat → Nat} {a out sn b : Nat} (h : sn.testBit b = true ∧ (b = a ∨ out.testBit b = true)) : bgN L a out sn (b + 1) = bgN L a out sn b ||| L b := by simp only [bgN, if_pos h]
theorem bgN_f {L : Nat → Nat} {a out sn b : Nat} (h : ¬ (sn.testBit b = true ∧ (b = a ∨ out.testBit b = true))) : bgN L a out sn (b + 1) = bgN L a out sn b := by simp only [bgN, if_neg h]
theorem bgN_lt {L : Nat → Nat} (hL : ∀ i, L i < 4096) {a out sn : Nat} (h : sn < 4096) : ∀ b, bgN L a out sn b < 4096
  | 0 => h
  | b + 1 => by
    by_cases hc : sn.testBit b = true ∧ (b = a ∨ out.testBit b = true)
    · rw [bgN_t hc]; exact or_lt (bgN_lt hL h b) (hL b)
    · rw [bgN_f hc]; exact bgN_lt hL h b
theorem or_ge (a b : Nat) : a ≤ a ||| b := Nat.left_le_or
theorem bgN_ge {L : Nat → Nat} {a out sn : Nat} : ∀ b, sn ≤ bgN L a out sn b
  | 0 => Nat.le_refl sn
  | b + 1 => by
    by_cases hc : sn.testBit b = true ∧ (b = a ∨ out.testBit b = true)
    · rw [bgN_t hc]; exact Nat.le_trans (bgN_ge b) (or_ge _ _)
    · rw [bgN_f hc]; exact bgN_ge b
def bgX (L : Nat → Nat) (n a out : Nat) : Nat → Nat → Nat
  | 0, sn => sn
  | k + 1, sn => if bgN L a out sn n = sn then sn else bgX L n a out k (bgN L a out sn n)
theorem bgX_e {L : Nat → Nat} {n a out k sn : Nat} (h : bgN L a out sn n = sn) : bgX L n a out (k + 1) sn = sn := by simp only [bgX, if_pos h]
theorem bgX_n {L : Nat → Nat} {n a out k sn : Nat} (h : ¬ bgN L a out sn n = sn) : bgX L n a out (k + 1) sn = bgX L n a out k (bgN L a out sn n) := by simp only [bgX, if_neg h]
def mbF (L : Nat → Nat) (n a out : Nat) : Nat := 2 ^ a ||| sdf (bgX L n a out 4096 (2 ^ a)) out
theorem bgX_lt {L : Nat → Nat} (hL : ∀ i, L i < 4096) {n a out : Nat} : ∀ k sn, sn < 4096 → bgX L n a out k sn < 4096
  | 0, _, h => h
  | k + 1, sn, h => by
    by_cases hc : bgN L a out sn n = sn
    · rw [bgX_e hc]; exact h
    · rw [bgX_n hc]; exact bgX_lt hL k _ (bgN_lt hL h n)
theorem mbF_lt {L : Nat → Nat} (hL : ∀ i, L i < 4096) {n a out : Nat} (ha : a < 12) : mbF L n a out < 4096 :=
  or_lt (pw_lt ha) (Nat.lt_of_le_of_lt (sdf_le _ _) (bgX_lt hL _ _ (pw_lt ha)))
-- the best of all orders
def pcF (V L : Nat → Nat) (n wd : Nat) (Ch : Nat → Nat) (a out : Nat) : Nat := if wd < popc (mbF L n a out) ∨ Ch (out ||| 2 ^ a) = 0 then 0 else cellsF V (mbF L n a out) n + Ch (out ||| 2 ^ a)
theorem pcF_n {V L : Nat → Nat} {n wd : Nat} {Ch : Nat → Nat} {a out : Nat} (h : wd < popc (mbF L n a out) ∨ Ch (out ||| 2 ^ a) = 0) : pcF V L n wd Ch a out = 0 := by unfold pcF; rw [if_pos h]
theorem pcF_y {V L : Nat → Nat} {n wd : Nat} {Ch : Nat → Nat} {a out : Nat} (h : ¬ (wd < popc (mbF L n a out) ∨ Ch (out ||| 2 ^ a) = 0)) : pcF V L n wd Ch a out = cellsF V (mbF L n a out) n + Ch (out ||| 2 ^ a) := by unfold pcF; rw [if_neg h]
/-- the least width (plus one) of what is left, at one set, over the names below a -/
def lwS (L F : Nat → Nat) (n out : Nat) : Nat → Nat
  | 0 => 101
  | a + 1 => if out.testBit a then lwS L F n out a else min (lwS L F n out a) (max (popc (mbF L n a out)) (F (out ||| 2 ^ a)))
theorem lwS_o {L F : Nat → Nat} {n out a : Nat} (h : out.testBit a = true) : lwS L F n out (a + 1) = lwS L F n out a := by simp [lwS, h]
theorem lwS_i {L F : Nat → Nat} {n out a : Nat} (h : out.testBit a = false) : lwS L F n out (a + 1) = min (lwS L F n out a) (max (popc (mbF L n a out)) (F (out ||| 2 ^ a))) := by simp [lwS, h]
theorem lwS_le {L F : Nat → Nat} {n out : Nat} : ∀ a, lwS L F n out a ≤ 101
  | 0 => Nat.le_refl _
  | a + 1 => by
    have := lwS_le (L := L) (F := F) (n := n) (out := out) a
    cases h : out.testBit a
    · rw [lwS_i h]; omega
    · rw [lwS_o h]; exact this
/-- the row of least widths behind j steps from the top -/
def lwA (L Le : Nat → Nat) (n : Nat) : Nat → (Nat → Nat)
  | 0 => va_up Le (2 ^ n - 1) 0
  | j + 1 => va_up (lwA L Le n j) (2 ^ n - 1 - 1 - j) (lwS L (lwA L Le n j) n (2 ^ n - 1 - 1 - j) n)
theorem lwA_le {L Le : Nat → Nat} {n : Nat} (h : ∀ i, Le i ≤ 101) : ∀ j i, lwA L Le n j i ≤ 101
  | 0, i => by
    simp only [lwA]
    unfold va_up
    split
    · omega
    · exact h i
  | j + 1, i => by
    simp only [lwA]
    unfold va_up
    split
    · exact lwS_le n
    · exact lwA_le h j i
def chS (V L F : Nat → Nat) (n wd out : Nat) : Nat → Nat
  | 0 => 0
  | a + 1 => if out.testBit a then chS V L F n wd out a else if pcF V L n wd F a out ≠ 0 ∧ (chS V L F n wd out a = 0 ∨ pcF V L n wd F a out < chS V L F n wd out a) then pcF V L n wd F a out else chS V L F n wd out a
theorem chS_o {V L F : Nat → Nat} {n wd out a : Nat} (h : out.testBit a = true) : chS V L F n wd out (a + 1) = chS V L F n wd out a := by simp [chS, h]
theorem chS_y {V L F : Nat → Nat} {n wd out a : Nat} (h : out.testBit a = false) (h2 : pcF V L n wd F a out ≠ 0 ∧ (chS V L F n wd out a = 0 ∨ pcF V L n wd F a out < chS V L F n wd out a)) : chS V L F n wd out (a + 1) = pcF V L n wd F a out := by
  simp only [chS, h, if_pos h2]
  rfl
theorem chS_n {V L F : Nat → Nat} {n wd out a : Nat} (h : out.testBit a = false) (h2 : ¬ (pcF V L n wd F a out ≠ 0 ∧ (chS V L F n wd out a = 0 ∨ pcF V L n wd F a out < chS V L F n wd out a))) : chS V L F n wd out (a + 1) = chS V L F n wd out a := by
  simp only [chS, h, if_neg h2]
  rfl
def chA (V L Ch : Nat → Nat) (n wd : Nat) : Nat → (Nat → Nat)
  | 0 => va_up Ch (2 ^ n - 1) 1
  | j + 1 => va_up (chA V L Ch n wd j) (2 ^ n - 1 - 1 - j) (chS V L (chA V L Ch n wd j) n wd (2 ^ n - 1 - 1 - j) n)
theorem or_ne {o a : Nat} (h : o.testBit a = false) : o ||| 2 ^ a ≠ o := by
  intro q
  have h2 : (o ||| 2 ^ a).testBit a = true := by
    rw [Nat.testBit_or, Nat.testBit_two_pow]
    simp
  rw [q, h] at h2
  exact absurd h2 (by decide)
theorem or_lt2 {a b n : Nat} (ha : a < 2 ^ n) (hb : b < 2 ^ n) : a ||| b < 2 ^ n := Nat.or_lt_two_pow ha hb
theorem pw_lt2 {i n : Nat} (h : i < n) : 2 ^ i < 2 ^ n := Nat.pow_lt_pow_right (by decide) h
theorem pcF_le {V L F : Nat → Nat} {n wd a out B : Nat} (hV : ∀ j, V j ≤ 4) (hn : n ≤ 12) (h : F (out ||| 2 ^ a) ≤ B) : pcF V L n wd F a out ≤ 16777216 + B := by
  unfold pcF
  split
  · omega
  · have := cellsF_b hV (mbF L n a out) hn
    omega
-- weights
def evP (Bd St : Nat → Nat) (i : Nat) : Prop := ∀ k, k < i → Bd k = 0 ∨ Bd k = St k + 1
theorem evP_0 (Bd St : Nat → Nat) : evP Bd St 0 := fun _ h => absurd h (Nat.not_lt_zero _)
theorem evP_s {Bd St : Nat → Nat} {i : Nat} (h : evP Bd St i) (h2 : Bd i = 0 ∨ Bd i = St i + 1) : evP Bd St (i + 1) := fun k hk => by
  rcases Nat.lt_or_ge k i with q | q
  · exact h k q
  · rw [show k = i by omega]; exact h2
/-- the product of the first f factors' entries, each as often as it has copies -/
def prF (V St Se Co En : Nat → Nat) (n : Nat) : Nat → Nat
  | 0 => 1
  | f + 1 => prF V St Se Co En n f * En (256 * f + nmF St V (Se f) n) ^ Co f
theorem prF_0 {V St Se Co En : Nat → Nat} {n f : Nat} (h : prF V St Se Co En n f = 0) : ∀ j, prF V St Se Co En n (f + j) = 0
  | 0 => h
  | j + 1 => by
    show prF V St Se Co En n (f + j) * _ = 0
    rw [prF_0 h j, Nat.zero_mul]
theorem prF_le {V St Se Co En : Nat → Nat} {n : Nat} (hE : ∀ i, En i ≤ 7) : ∀ f, prF V St Se Co En n f ≤ 7 ^ sumF Co f
  | 0 => Nat.le_refl 1
  | f + 1 => by
    show prF V St Se Co En n f * _ ≤ 7 ^ (sumF Co f + Co f)
    rw [Nat.pow_add]
    exact Nat.mul_le_mul (prF_le hE f) (Nat.pow_le_pow_left (hE _) _)
theorem sumF_mono {Co : Nat → Nat} {a b : Nat} (h : a ≤ b) : sumF Co a ≤ sumF Co b := by
  induction b with
  | zero => rw [show a = 0 by omega]; exact Nat.le_refl _
  | succ b ih =>
    rcases Nat.lt_or_ge a (b + 1) with q | q
    · exact Nat.le_trans (ih (by omega)) (Nat.le_add_right _ _)
    · rw [show a = b + 1 by omega]; exact Nat.le_refl _
theorem pw7 {k : Nat} (h : k ≤ 16) : 7 ^ k ≤ 33232930569601 := Nat.le_trans (Nat.pow_le_pow_right (by decide) h) (by decide)
/-- the weight of a state with the values St -/
noncomputable def wgF (V Bd St Se Co En : Nat → Nat) (n nf : Nat) : Nat := zif (evP Bd St n) (prF V St Se Co En n nf) 0
theorem upup {F G : Nat → Nat} {t X : Nat} (h : F = va_up G t X) (v : Nat) : va_up F t v = va_up G t v := by rw [h, bx_uu]
theorem pcF_congr {V L F G : Nat → Nat} {n wd a out : Nat} (h : F (out ||| 2 ^ a) = G (out ||| 2 ^ a)) : pcF V L n wd F a out = pcF V L n wd G a out := by
  unfold pcF
  rw [h]
theorem or_gt {o a : Nat} (h : o.testBit a = false) : o < o ||| 2 ^ a := by
  have h1 := or_ge o (2 ^ a)
  have h2 := or_ne h
  omega
theorem chS_le {V L F : Nat → Nat} {n wd out B : Nat} (hV : ∀ j, V j ≤ 4) (hn : n ≤ 12) : ∀ a, a ≤ n → (∀ b, b < n → out.testBit b = false → F (out ||| 2 ^ b) ≤ B) → chS V L F n wd out a ≤ 16777216 + B
  | 0, _, _ => by show 0 ≤ _; omega
  | a + 1, ha, h => by
    have h1 := chS_le (L := L) (wd := wd) hV hn a (by omega) h
    cases hb : out.testBit a
    · have h2 := pcF_le (L := L) (wd := wd) hV hn (h a (by omega) hb)
      by_cases hc : pcF V L n wd F a out ≠ 0 ∧ (chS V L F n wd out a = 0 ∨ pcF V L n wd F a out < chS V L F n wd out a)
      · rw [chS_y hb hc]; exact h2
      · rw [chS_n hb hc]; exact h1
    · rw [chS_o hb]; exact h1
theorem chA_b {V L Ch : Nat → Nat} {n wd : Nat} (hV : ∀ j, V j ≤ 4) (hn : n ≤ 12) : ∀ j, j ≤ 2 ^ n - 1 → ∀ i, 2 ^ n - 1 - j ≤ i → i ≤ 2 ^ n - 1 → chA V L Ch n wd j i ≤ (2 ^ n - 1 - i + 1) * 16777216 + 1
  | 0, _, i, h1, h2 => by
    rw [show i = 2 ^ n - 1 by omega]
    simp only [chA, va_up_self]
    omega
  | j + 1, hj, i, h1, h2 => by
    simp only [chA]
    by_cases hi : i = 2 ^ n - 1 - 1 - j
    · rw [hi, va_up_self]
      have h2n : 1 ≤ 2 ^ n := Nat.one_le_two_pow
      have := chS_le (L := L) (F := chA V L Ch n wd j) (wd := wd) (out := 2 ^ n - 1 - 1 - j) (B := (2 ^ n - 1 - (2 ^ n - 1 - 1 - j)) * 16777216 + 1) hV hn n (Nat.le_refl n) (fun b hb hbit => by
        have hg := or_gt hbit
        have hl : (2 ^ n - 1 - 1 - j) ||| 2 ^ b < 2 ^ n := or_lt2 (by omega) (pw_lt2 hb)
        refine Nat.le_trans (chA_b hV hn j (by omega) _ (by omega) (by omega)) ?_
        have : 2 ^ n - 1 - ((2 ^ n - 1 - 1 - j) ||| 2 ^ b) + 1 ≤ 2 ^ n - 1 - (2 ^ n - 1 - 1 - j) := by omega
        exact Nat.add_le_add_right (Nat.mul_le_mul_right 16777216 this) 1)
      rw [Nat.add_mul, Nat.one_mul]
      generalize (2 ^ n - 1 - (2 ^ n - 1 - 1 - j)) * 16777216 = Y at this ⊢
      omega
    · rw [va_up_ne _ _ hi]
      exact chA_b hV hn j (by omega) i (by omega) h2
theorem chA_f {V L Ch : Nat → Nat} {n wd : Nat} : ∀ j i, 2 ^ n - 1 < i → chA V L Ch n wd j i = Ch i
  | 0, i, h => by
    simp only [chA]
    rw [va_up_ne _ _ (by omega)]
  | j + 1, i, h => by
    simp only [chA]
    rw [va_up_ne _ _ (by omega)]
    exact chA_f j i h
