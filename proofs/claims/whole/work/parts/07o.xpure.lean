-- PURE: the walk through the states
abbrev wT : Type := (Nat → Nat) × Nat × Nat × rkT
noncomputable def kpW (x p : Nat) (t : wT) : wT := (va_up t.1 x p, t.2.1 + p, t.2.2.1 + 1, kpZ t.2.2.2.1 t.2.2.2.2.1 t.2.2.2.2.2 x p)
def foV {α : Type} (f : Nat → α → α) : Nat → α → α
  | 0, t => t
  | v + 1, t => f v (foV f v t)
def lvP (X : Nat → fR) (C : Nat → Nat) (v : Nat) : List Nat → Nat
  | [] => 1
  | i :: li => yP (X i) (xEn X C i + v * yS (X i) (xK (X i) - 1)) * lvP X C v li
def bsG (Bd : Nat → Nat) (a p v : Nat) : Nat := if Bd a = 0 ∨ Bd a = v + 1 then p else 0
theorem bsG_t {Bd : Nat → Nat} {a p v : Nat} (h : Bd a = 0 ∨ Bd a = v + 1) : bsG Bd a p v = p := by unfold bsG; rw [if_pos h]
theorem bsG_f {Bd : Nat → Nat} {a p v : Nat} (h : ¬ (Bd a = 0 ∨ Bd a = v + 1)) : bsG Bd a p v = 0 := by unfold bsG; rw [if_neg h]
def bsR (Pr : Nat → Nat) (fr : Nat) (g : Nat → Nat) (v : Nat) : Nat → Nat := fun j => if fr ≤ j ∧ j < fr + v then g (j - fr) else Pr j
theorem bsR_0 (Pr : Nat → Nat) (fr : Nat) (g : Nat → Nat) : bsR Pr fr g 0 = Pr := by
  funext j
  unfold bsR
  rw [if_neg (by omega)]
theorem bsR_s (Pr : Nat → Nat) (fr : Nat) (g : Nat → Nat) (v : Nat) : va_up (bsR Pr fr g v) (fr + v) (g v) = bsR Pr fr g (v + 1) := by
  funext j
  unfold va_up bsR
  by_cases h : j = fr + v
  · subst h
    rw [if_pos rfl, if_pos (by omega), show fr + v - fr = v by omega]
  · rw [if_neg h]
    by_cases h2 : fr ≤ j ∧ j < fr + v
    · rw [if_pos h2, if_pos (by omega)]
    · rw [if_neg h2, if_neg (by omega)]
theorem mlF_at {X : Nat → fR} {C : Nat → Nat} {fr cnt v : Nat} (hv : v < cnt) : ∀ (li : List Nat) (Pr : Nat → Nat), mlF X C fr cnt li Pr (fr + v) = Pr (fr + v) * lvP X C v li
  | [], Pr => (Nat.mul_one _).symm
  | i :: li, Pr => by
    show mlF X C fr cnt li (mulF Pr (yP (X i)) fr (xEn X C i) (yS (X i) (xK (X i) - 1)) cnt) (fr + v) = _
    rw [mlF_at hv li]
    unfold mulF
    rw [if_pos (by omega), show fr + v - fr = v by omega, Nat.mul_assoc]
    rfl
theorem mlF_out {X : Nat → fR} {C : Nat → Nat} {fr cnt j : Nat} (hj : j < fr) : ∀ (li : List Nat) (Pr : Nat → Nat), mlF X C fr cnt li Pr j = Pr j
  | [], _ => rfl
  | i :: li, Pr => by
    show mlF X C fr cnt li (mulF Pr (yP (X i)) fr (xEn X C i) (yS (X i) (xK (X i) - 1)) cnt) j = _
    rw [mlF_out hj li]
    unfold mulF
    rw [if_neg (by omega)]
/-- the product of a state's names below a + 1, the last with the value v -/
def pvF (X : Nat → fR) (Lc : Nat → List Nat) (Bd C : Nat → Nat) (a p v : Nat) : Nat := bsG Bd a p v * lvP X (va_up C a 0) v (Lc (a + 1))
noncomputable def chF (X : Nat → fR) (Lc : Nat → List Nat) (V Bd : Nat → Nat) : Nat → Nat → (Nat → Nat) → Nat → Nat → wT → wT
  | 0, _, _, x, p, t => kpW x p t
  | d + 1, a, C, x, p, t => foV (fun v t => if pvF X Lc Bd C a p v = 0 then t else chF X Lc V Bd d (a + 1) (va_up C a v) (x * V a + v) (pvF X Lc Bd C a p v) t) (V a) t
theorem entF_cg {nm sp C D : Nat → Nat} : ∀ k, (∀ i, i < k → C (nm i) = D (nm i)) → entF nm sp C k = entF nm sp D k
  | 0, _ => rfl
  | k + 1, h => by
    simp only [entF]
    rw [entF_cg k (fun i hi => h i (by omega)), h k (by omega)]
def nlOk (X : Nat → fR) (Lc : Nat → List Nat) (n : Nat) : Prop := ∀ b, b < n → ∀ i, i ∈ Lc (b + 1) → ∀ k, k < xK (X i) → yN (X i) k ≤ b
theorem lvP_cg {X : Nat → fR} {C D : Nat → Nat} {v : Nat} : ∀ li : List Nat, (∀ i, i ∈ li → xEn X C i = xEn X D i) → lvP X C v li = lvP X D v li
  | [], _ => rfl
  | i :: li, h => by
    simp only [lvP]
    rw [h i List.mem_cons_self, lvP_cg li (fun j hj => h j (List.mem_cons_of_mem _ hj))]
theorem up_cg {C D : Nat → Nat} {a v : Nat} (h : ∀ j, j < a → C j = D j) : ∀ j, j < a + 1 → va_up C a v j = va_up D a v j := fun j hj => by
  by_cases q : j = a
  · rw [q, va_up_self, va_up_self]
  · rw [va_up_ne _ _ q, va_up_ne _ _ q, h j (by omega)]
theorem pvF_cg {X : Nat → fR} {Lc : Nat → List Nat} {Bd C D : Nat → Nat} {n a p v : Nat} (hN : nlOk X Lc n) (ha : a < n) (h : ∀ j, j < a → C j = D j) : pvF X Lc Bd C a p v = pvF X Lc Bd D a p v := by
  unfold pvF
  rw [lvP_cg _ (fun i hi => entF_cg _ (fun k hk => up_cg h _ (Nat.lt_succ_of_le (hN a ha i hi k hk))))]
theorem foV_cg {α : Type} {f g : Nat → α → α} : ∀ v, (∀ w, w < v → ∀ t, f w t = g w t) → ∀ t, foV f v t = foV g v t
  | 0, _, _ => rfl
  | v + 1, h, t => by
    show f v (foV f v t) = g v (foV g v t)
    rw [foV_cg v (fun w hw => h w (by omega)), h v (by omega)]
theorem chF_cg {X : Nat → fR} {Lc : Nat → List Nat} {V Bd : Nat → Nat} {n : Nat} (hN : nlOk X Lc n) : ∀ d a (C D : Nat → Nat) x p t, a + d = n → (∀ j, j < a → C j = D j) → chF X Lc V Bd d a C x p t = chF X Lc V Bd d a D x p t
  | 0, _, _, _, _, _, _, _, _ => rfl
  | d + 1, a, C, D, x, p, t, hd, h => by
    simp only [chF]
    refine foV_cg _ (fun w _ t => ?_) t
    rw [pvF_cg hN (by omega) h]
    by_cases q : pvF X Lc Bd D a p w = 0
    · rw [if_pos q, if_pos q]
    · rw [if_neg q, if_neg q, chF_cg hN d (a + 1) _ _ _ _ _ (by omega) (up_cg h)]
def lmx (X : Nat → fR) : List Nat → Nat
  | [] => 1
  | i :: li => 7 ^ xT (X i) * lmx X li
def rmx (X : Nat → fR) (Lc : Nat → List Nat) : Nat → Nat → Nat
  | _, 0 => 1
  | a, d + 1 => lmx X (Lc (a + 1)) * rmx X Lc (a + 1) d
theorem lmx_pos {X : Nat → fR} : ∀ li : List Nat, 0 < lmx X li
  | [] => Nat.one_pos
  | i :: li => Nat.mul_pos (Nat.pow_pos (by decide)) (lmx_pos li)
theorem rmx_pos {X : Nat → fR} {Lc : Nat → List Nat} : ∀ a d, 0 < rmx X Lc a d
  | _, 0 => Nat.one_pos
  | a, d + 1 => Nat.mul_pos (lmx_pos _) (rmx_pos (a + 1) d)
theorem lvP_le {X : Nat → fR} {C : Nat → Nat} {v : Nat} : ∀ li : List Nat, (∀ i, i ∈ li → ∀ j, yP (X i) j ≤ 7 ^ xT (X i)) → lvP X C v li ≤ lmx X li
  | [], _ => Nat.le_refl 1
  | i :: li, h => Nat.mul_le_mul (h i List.mem_cons_self _) (lvP_le li (fun j hj => h j (List.mem_cons_of_mem _ hj)))
theorem bsG_le {Bd : Nat → Nat} {a p v : Nat} : bsG Bd a p v ≤ p := by
  unfold bsG
  split <;> omega
def mxOk (X : Nat → fR) (Lc : Nat → List Nat) (n : Nat) : Prop := ∀ b, b < n → ∀ i, i ∈ Lc (b + 1) → ∀ j, yP (X i) j ≤ 7 ^ xT (X i)
theorem pvF_mx {X : Nat → fR} {Lc : Nat → List Nat} {Bd C : Nat → Nat} {n a d p v B : Nat} (hM : mxOk X Lc n) (ha : a < n) (hp : p * rmx X Lc a (d + 1) ≤ B) : pvF X Lc Bd C a p v * rmx X Lc (a + 1) d ≤ B := by
  refine Nat.le_trans ?_ hp
  show _ ≤ p * (lmx X (Lc (a + 1)) * rmx X Lc (a + 1) d)
  rw [← Nat.mul_assoc]
  exact Nat.mul_le_mul_right _ (Nat.mul_le_mul bsG_le (lvP_le _ (hM a ha)))
theorem mx_le {p r B : Nat} (hr : 0 < r) (h : p * r ≤ B) : p ≤ B := Nat.le_trans (Nat.le_mul_of_pos_right p hr) h
theorem rkSh_le {f : Nat → Nat} {tp p v B : Nat} (h : ∀ i, f i ≤ B) (hv : v ≤ B) : ∀ i, rkSh f tp p v i ≤ B := fun i => by
  unfold rkSh va_up shP
  split
  · exact hv
  · split
    · exact h _
    · exact h _
theorem kpZ_b {RW RS : Nat → Nat} {rk x w B : Nat} (h : ∀ i, RW i ≤ B) (hr : rk ≤ 24) (hw : w ≤ B) : (∀ i, (kpZ RW RS rk x w).1 i ≤ B) ∧ (kpZ RW RS rk x w).2.2 ≤ 24 := by
  by_cases q : rk < 24 ∨ RW 23 < w
  · rw [kpZ_y q]
    exact ⟨rkSh_le h hw, Nat.min_le_right _ _⟩
  · rw [kpZ_n q]
    exact ⟨h, hr⟩
def wB (B : Nat) (t : wT) : Prop := (∀ i, t.2.2.2.1 i ≤ B) ∧ t.2.2.2.2.2 ≤ 24
theorem foV_b {α : Type} {f : Nat → α → α} {P : α → Prop} (h : ∀ v t, P t → P (f v t)) : ∀ v t, P t → P (foV f v t)
  | 0, _, ht => ht
  | v + 1, t, ht => h v _ (foV_b h v t ht)
theorem chF_b {X : Nat → fR} {Lc : Nat → List Nat} {V Bd : Nat → Nat} {n B : Nat} (hM : mxOk X Lc n) : ∀ d a (C : Nat → Nat) x p t, a + d = n → p * rmx X Lc a d ≤ B → wB B t → wB B (chF X Lc V Bd d a C x p t)
  | 0, a, C, x, p, t, _, hp, ht => kpZ_b ht.1 ht.2 (mx_le (rmx_pos a 0) hp)
  | d + 1, a, C, x, p, t, hd, hp, ht => by
    simp only [chF]
    refine foV_b (fun v t ht => ?_) _ t ht
    by_cases q : pvF X Lc Bd C a p v = 0
    · rw [if_pos q]; exact ht
    · rw [if_neg q]
      exact chF_b hM d (a + 1) _ _ _ t (by omega) (pvF_mx hM (by omega) hp) ht
/-- the entries of the factors whose last name is a are in range -/
def enOk (X : Nat → fR) (Lc : Nat → List Nat) (V : Nat → Nat) (n : Nat) : Prop := ∀ a, a < n → ∀ C : Nat → Nat, (∀ j, j < a → C j < V j) → C a = 0 → ∀ i, i ∈ Lc (a + 1) → ∀ v, v < V a → xEn X C i + v * yS (X i) (xK (X i) - 1) < xC (X i)
/-- what refreshing leaves -/
noncomputable def rwZ (X : Nat → fR) (Lc : Nat → List Nat) (V Bd : Nat → Nat) (NS n kw : Nat) (t : wT) : wT := if kw = 0 then (if chP X (Lc 0) = 0 then (rowF t.1 (fun _ => 0) NS, 0, 0, t.2.2.2.1, t.2.2.2.2.1, 0) else chF X Lc V Bd n 0 (fun _ => 0) 0 (chP X (Lc 0)) (rowF t.1 (fun _ => 0) NS, 0, 0, t.2.2.2.1, t.2.2.2.2.1, 0)) else t
theorem rwZ_0 {X : Nat → fR} {Lc : Nat → List Nat} {V Bd : Nat → Nat} {NS n kw : Nat} {t : wT} (h : kw = 0) (h2 : chP X (Lc 0) = 0) : rwZ X Lc V Bd NS n kw t = (rowF t.1 (fun _ => 0) NS, 0, 0, t.2.2.2.1, t.2.2.2.2.1, 0) := by
  unfold rwZ
  rw [if_pos h, if_pos h2]
theorem rwZ_1 {X : Nat → fR} {Lc : Nat → List Nat} {V Bd : Nat → Nat} {NS n kw : Nat} {t : wT} (h : kw = 0) (h2 : ¬ chP X (Lc 0) = 0) : rwZ X Lc V Bd NS n kw t = chF X Lc V Bd n 0 (fun _ => 0) 0 (chP X (Lc 0)) (rowF t.1 (fun _ => 0) NS, 0, 0, t.2.2.2.1, t.2.2.2.2.1, 0) := by
  unfold rwZ
  rw [if_pos h, if_neg h2]
