-- PURE: weights
def irZ (RW RS : Nat → Nat) (rk x w : Nat) : rkT := (rkSh RW (min rk 23) (rkAt RW w (min rk 23)) w, rkSh RS (min rk 23) (rkAt RW w (min rk 23)) x, min (rk + 1) 24)
noncomputable def kpZ (RW RS : Nat → Nat) (rk x w : Nat) : rkT := zif (rk < 24 ∨ RW 23 < w) (irZ RW RS rk x w) (RW, RS, rk)
theorem kpZ_y {RW RS : Nat → Nat} {rk x w : Nat} (h : rk < 24 ∨ RW 23 < w) : kpZ RW RS rk x w = irZ RW RS rk x w := zif_t h
theorem kpZ_n {RW RS : Nat → Nat} {rk x w : Nat} (h : ¬ (rk < 24 ∨ RW 23 < w)) : kpZ RW RS rk x w = (RW, RS, rk) := zif_f h
theorem rkAt_le {T : Nat → Nat} {w : Nat} : ∀ p, rkAt T w p ≤ p
  | 0 => Nat.le_refl 0
  | p + 1 => by
    have := rkAt_le (T := T) (w := w) p
    unfold rkAt
    split <;> omega
def saG (BS : Nat → Nat) (u : Nat) : Nat → Nat → Nat
  | 0, _ => 0
  | k + 1, i => if u < sumF BS (i + 1) then i else saG BS u k (i + 1)
theorem saG_t {BS : Nat → Nat} {u k i : Nat} (h : u < sumF BS (i + 1)) : saG BS u (k + 1) i = i := by simp [saG, h]
theorem saG_f {BS : Nat → Nat} {u k i : Nat} (h : ¬ u < sumF BS (i + 1)) : saG BS u (k + 1) i = saG BS u k (i + 1) := by simp [saG, h]
theorem sumF_le {C : Nat → Nat} {B : Nat} (h : ∀ i, C i ≤ B) : ∀ i, sumF C i ≤ i * B
  | 0 => Nat.zero_le _
  | i + 1 => by
    have h1 := sumF_le h i
    have h2 := h i
    show sumF C i + C i ≤ (i + 1) * B
    rw [Nat.add_mul, Nat.one_mul]
    omega
theorem sumF_b {C : Nat → Nat} {i : Nat} (h : ∀ i, C i ≤ 33232930569601) (hi : i ≤ 65536) : sumF C i ≤ 2177953337809371136 := Nat.le_trans (sumF_le h i) (Nat.le_trans (Nat.mul_le_mul_right _ hi) (by decide))
/-- every row of ints is a row of numbers -/
def uN (x : Int32) : Nat := x.toBitVec.toNat
theorem uN_eq (x : Int32) : nI (uN x) = x := by
  apply Int32.toBitVec_inj.mp
  show BitVec.ofNat 32 x.toBitVec.toNat = x.toBitVec
  rw [BitVec.ofNat_toNat, BitVec.setWidth_eq]
theorem rawN (f : Nat → Int32) : f = fun j => nI (uN (f j)) := funext fun j => (uN_eq (f j)).symm
-- gathering
def prV (V : Nat → Nat) : Nat → Nat → Nat
  | _, 0 => 1
  | a, d + 1 => V a * prV V (a + 1) d
def gaV (f : Nat → Nat × Nat → Nat × Nat) : Nat → Nat × Nat → Nat × Nat
  | 0, t => t
  | v + 1, t => f v (gaV f v t)
def gaF (V Cg BS : Nat → Nat) : Nat → Nat → Nat → Nat × Nat → Nat × Nat
  | 0, _, x, t => if BS x = 0 then t else (t.1 + BS x, t.2 + 1)
  | d + 1, a, x, t => if Cg a = 0 then gaV (fun v => gaF V Cg BS d (a + 1) (x * V a + v)) (V a) t else gaF V Cg BS d (a + 1) (x * V a + (Cg a - 1)) t
theorem prV_in {V : Nat → Nat} {a d x v N : Nat} (h : (x + 1) * prV V a (d + 1) ≤ N) (hv : v < V a) : (x * V a + v + 1) * prV V (a + 1) d ≤ N := by
  refine Nat.le_trans ?_ h
  show _ ≤ (x + 1) * (V a * prV V (a + 1) d)
  rw [← Nat.mul_assoc]
  refine Nat.mul_le_mul_right _ ?_
  rw [Nat.add_mul, Nat.one_mul]
  omega
theorem prV_0 {V : Nat → Nat} {a x N : Nat} (h : (x + 1) * prV V a 0 ≤ N) : x < N := by
  have : (x + 1) * 1 ≤ N := h
  omega
theorem prV_x {V : Nat → Nat} {a d x N : Nat} (hV : ∀ j, a ≤ j → j < a + d → 0 < V j) (h : (x + 1) * prV V a d ≤ N) : x < N := by
  induction d generalizing a x with
  | zero => exact prV_0 h
  | succ d ih =>
    have h0 := hV a (Nat.le_refl a) (by omega)
    have h1 := ih (a := a + 1) (fun j h1 h2 => hV j (by omega) (by omega)) (prV_in h h0)
    have : x ≤ x * V a := Nat.le_mul_of_pos_right x h0
    omega
def ghR (V : Nat → Nat) (S num : Nat) : Nat → Nat
  | 0 => num
  | i + 1 => if S.testBit i then ghR V S num i / V i else ghR V S num i
theorem ghR_t {V : Nat → Nat} {S num i : Nat} (h : S.testBit i = true) : ghR V S num (i + 1) = ghR V S num i / V i := by simp [ghR, h]
theorem ghR_f {V : Nat → Nat} {S num i : Nat} (h : S.testBit i = false) : ghR V S num (i + 1) = ghR V S num i := by simp [ghR, h]
theorem ghR_le {V : Nat → Nat} {S num : Nat} : ∀ i, ghR V S num i ≤ num
  | 0 => Nat.le_refl _
  | i + 1 => by
    have := ghR_le (V := V) (S := S) (num := num) i
    cases h : S.testBit i
    · rw [ghR_f h]; exact this
    · rw [ghR_t h]; exact Nat.le_trans (Nat.div_le_self _ _) this
def cgF (V : Nat → Nat) (S num j : Nat) : Nat := if S.testBit j then ghR V S num j % V j + 1 else 0
theorem cgF_t {V : Nat → Nat} {S num i : Nat} (h : S.testBit i = true) : cgF V S num i = ghR V S num i % V i + 1 := by simp [cgF, h]
theorem cgF_f {V : Nat → Nat} {S num i : Nat} (h : S.testBit i = false) : cgF V S num i = 0 := by simp [cgF, h]
def rwM (f : Nat → Int32) (g : Nat → Nat) (i : Nat) : Nat → Int32 := fun j => if j < i then mI (g j) else f j
theorem rwM_0 (f : Nat → Int32) (g : Nat → Nat) : rwM f g 0 = f := by
  funext j
  simp [rwM]
theorem rwM_s (f : Nat → Int32) (g : Nat → Nat) (i : Nat) : upd (rwM f g i) i (mI (g i)) = rwM f g (i + 1) := by
  funext j
  unfold upd rwM
  by_cases h : j = i
  · subst h
    simp
  · rw [if_neg h]
    by_cases h2 : j < i
    · rw [if_pos h2, if_pos (by omega)]
    · rw [if_neg h2, if_neg (by omega)]
theorem upd_upd (f : Nat → Int32) (i : Nat) (x y : Int32) : upd (upd f i x) i y = upd f i y := by
  funext j
  unfold upd
  by_cases h : j = i
  · rw [if_pos h, if_pos h]
  · rw [if_neg h, if_neg h, if_neg h]
