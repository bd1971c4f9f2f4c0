-- WORLDS WITH A TAIL, and the pool of factors
theorem zw.permT {G : zG} {A : Nat → Prop} {s : State} {ws ws' T : va_W} {H : Heap} {locs : List Loc} (w : zw G A s (ws ++ T) H locs) (is : List Nat) (hn : va_nd is = true) (hs : is.map (fun i => ws[i]?) = ws'.map some) : zw G A s (ws' ++ T) H locs := by
  obtain ⟨⟨hK, hP⟩, hD, hS, hA⟩ := w
  have hsub : ∀ q ∈ ws', q ∈ ws := by
    intro q hq
    have h1 : some q ∈ ws'.map some := List.mem_map.mpr ⟨q, hq, rfl⟩
    rw [← hs] at h1
    obtain ⟨i, -, h2⟩ := List.mem_map.mp h1
    exact List.mem_of_getElem? h2
  rw [va_D_iff] at hD
  rw [va_P_iff] at hP
  rw [List.map_append, List.nodup_append] at hD
  have hD1 : va_D A ws := va_D_iff.mpr ⟨hD.1.1, fun q hq => hD.2 q (List.mem_append_left _ hq)⟩
  have hD2 := va_D_iff.mp (hD1.sub is hn hs)
  refine ⟨⟨hK, va_P_iff.mpr fun q hq => ?_⟩, va_D_iff.mpr ⟨?_, fun q hq => ?_⟩, hS, hA⟩
  · rcases List.mem_append.mp hq with h | h
    · exact hP q (List.mem_append_left _ (hsub q h))
    · exact hP q (List.mem_append_right _ h)
  · rw [List.map_append, List.nodup_append]
    refine ⟨hD2.1, hD.1.2.1, fun a ha b hb => ?_⟩
    obtain ⟨q, hq, rfl⟩ := List.mem_map.mp ha
    exact hD.1.2.2 _ (List.mem_map.mpr ⟨q, hsub q hq, rfl⟩) b hb
  · rcases List.mem_append.mp hq with h | h
    · exact hD.2 q (List.mem_append_left _ (hsub q h))
    · exact hD.2 q (List.mem_append_right _ h)
theorem zsubT {ws pl T : va_W} (is : List Nat) (h : is.filterMap (fun i => ws[i]?) = pl) : ∀ q ∈ pl ++ T, q ∈ ws ++ T := by
  intro q hq
  rcases List.mem_append.mp hq with h1 | h1
  · rw [← h] at h1
    obtain ⟨i, -, h2⟩ := List.mem_filterMap.mp h1
    exact List.mem_append_left _ (List.mem_of_getElem? h2)
  · exact List.mem_append_right _ h1
theorem zself (ws : va_W) : (List.range ws.length).filterMap (fun i => ws[i]?) = ws := by
  have h := zsplC ws []
  rw [List.append_nil] at h
  have : (List.range ws.length).filterMap (fun i => ws[i]?) = ((List.range ws.length).map (fun i => ws[i]?)).filterMap id := by
    rw [List.filterMap_map]; rfl
  rw [this, h, List.filterMap_map]
  exact List.filterMap_some
theorem zdisR (wc wr : va_W) : ∀ i ∈ List.range wc.length, i ∉ (List.range wr.length).map (· + wc.length) := by
  intro i hi h2
  exact zdis wc wr i h2 hi
section ZR8
variable {p : Program} {l : Launch} {e : Env} {R : Room} {s : State} {m : MethodId} {args : Array Value} {below : List Frame} {meth : Method} {c : Code} {H : Heap} {locs : List Loc} {cells slots : Nat} {Q : State → Prop}
variable {cc : ByteArray} {pc nL : Nat} {ls : Array Slot} {rest : List Value} {G : zG} {A : Nat → Prop} {a : Nat} {ws ws' : va_W}
theorem z_aast (hx : p.tables.exec = Jvm.exec) (hb : c.code = cc) (w : zw G A s ws H locs) (q0 qk : Nat) {n k v ci : Nat} {vs : List Value} {r : vw_C} {f : Nat → Option Nat} (ha : ws[q0]? = some (a, zF G n f)) (hv : ws[qk]? = some (v, zO ci vs)) (hc : vwCl[ci]? = some r) (hr : r.1 = RFa) (hk : k < n) (hn : n < 2 ^ 31) (hw : ws.set q0 (a, zF G n (va_up f k (some v))) = ws') (hdg : decode cc pc = .ok (.aastore, 1))
    (kk : ∀ (H1 : Heap) (locs1 : List Loc), zw G A s ws' H1 locs1 → W p l e R s m args below meth c H1 locs1 cells slots Q (F0 m (pc + 1) ls rest)) : W p l e R s m args below meth c H locs cells slots Q (F0 m pc ls (.ref v :: .int (nI k) :: .ref a :: rest)) := by
  subst hw
  exact va_astq hx hb w.1.1.1 w.1.2 w.2.1 w.2.2.1 q0 2 qk ci ha (by rw [hr]; rfl) hv hc (vp_in_nI hk hn) hdg (fun H1 locs1 hP hD hS => by
    rw [nI_clamp (Nat.lt_trans hk hn)] at hP hD
    exact kk H1 locs1 ⟨⟨w.1.1, hP⟩, hD, hS, w.2.2.2⟩)
theorem lv_aload_nQ (hx : p.tables.exec = Jvm.exec) (hb : c.code = cc) {k : Fin 4} {i : Nat} {o : Option Nat} (hdg : decode cc pc = .ok (.aload_n k, 1)) (hi : (k : Nat) = i) (hl : ls[i]? = some (.val (va_rf o)))
    (kk : W p l e R s m args below meth c H locs cells slots Q (F0 m (pc + 1) ls (va_rf o :: rest))) : W p l e R s m args below meth c H locs cells slots Q (F0 m pc ls rest) := by
  cases o with
  | none => exact lv_aload_nN hx hb hdg hi hl kk
  | some x => exact lv_aload_n hx hb hdg hi hl kk
theorem lv_aloadQ (hx : p.tables.exec = Jvm.exec) (hb : c.code = cc) {i : Nat} {o : Option Nat} (hdg : decode cc pc = .ok (.aload i, 2)) (hl : ls[i]? = some (.val (va_rf o)))
    (kk : W p l e R s m args below meth c H locs cells slots Q (F0 m (pc + 2) ls (va_rf o :: rest))) : W p l e R s m args below meth c H locs cells slots Q (F0 m pc ls rest) := by
  cases o with
  | none => exact lv_aloadN hx hb hdg hl kk
  | some x => exact lv_aload hx hb hdg hl kk
theorem lv_astore_nQ (hx : p.tables.exec = Jvm.exec) (hb : c.code = cc) {k : Fin 4} {i nL : Nat} {o : Option Nat} {lv lv' : List (Nat × Value)} (hdg : decode cc pc = .ok (.astore_n k, 1)) (hi : (k : Nat) = i) (h : lv_has ls nL lv) (hn : i < nL) (hl : (i, va_rf o) :: lv.filter (fun q => !(q.1 == i) && !(q.1 + 1 == i && q.2.category == 2)) = lv')
    (kk : ∀ ls' : Array Slot, lv_has ls' nL lv' → W p l e R s m args below meth c H locs cells slots Q (F0 m (pc + 1) ls' rest)) : W p l e R s m args below meth c H locs cells slots Q (F0 m pc ls (va_rf o :: rest)) := by
  cases o with
  | none => exact lv_astore_nN hx hb hdg hi h hn hl kk
  | some x => exact lv_astore_n hx hb hdg hi h hn hl kk
theorem lv_astoreQ (hx : p.tables.exec = Jvm.exec) (hb : c.code = cc) {i nL : Nat} {o : Option Nat} {lv lv' : List (Nat × Value)} (hdg : decode cc pc = .ok (.astore i, 2)) (h : lv_has ls nL lv) (hn : i < nL) (hl : (i, va_rf o) :: lv.filter (fun q => !(q.1 == i) && !(q.1 + 1 == i && q.2.category == 2)) = lv')
    (kk : ∀ ls' : Array Slot, lv_has ls' nL lv' → W p l e R s m args below meth c H locs cells slots Q (F0 m (pc + 2) ls' rest)) : W p l e R s m args below meth c H locs cells slots Q (F0 m pc ls (va_rf o :: rest)) := by
  cases o with
  | none => exact lv_astoreN hx hb hdg h hn hl kk
  | some x => exact lv_astore hx hb hdg h hn hl kk
end ZR8
theorem i32_sh (a b c : Int32) : (a + b) + (c - b) = a + c := by
  rw [Int32.sub_eq_add_neg, Int32.add_assoc, Int32.add_comm c, ← Int32.add_assoc b, Int32.add_right_neg, Int32.zero_add]
theorem ca_eq {ca t n : Nat} (h : t ≤ ca) : nI ca + (nI n - nI t) = nI (ca - t + n) := by
  have e : nI ca = nI (ca - t) + nI t := by rw [nI_add, Nat.sub_add_cancel h]
  rw [e, i32_sh, nI_add]
/-- a factor: its addresses (object, names, steps, entries, powers), next, copies, how many names, how many entries; names, steps, entries, powers -/
abbrev fR : Type := (Nat × Nat × Nat × Nat × Nat) × (Option Nat × Nat × Nat × Nat) × (Nat → Nat) × (Nat → Nat) × (Nat → Nat) × (Nat → Nat)
abbrev xA (x : fR) : Nat := x.1.1
abbrev xN (x : fR) : Nat := x.1.2.1
abbrev xS (x : fR) : Nat := x.1.2.2.1
abbrev xE (x : fR) : Nat := x.1.2.2.2.1
abbrev xP (x : fR) : Nat := x.1.2.2.2.2
abbrev xX (x : fR) : Option Nat := x.2.1.1
abbrev xT (x : fR) : Nat := x.2.1.2.1
abbrev xK (x : fR) : Nat := x.2.1.2.2.1
abbrev xC (x : fR) : Nat := x.2.1.2.2.2
abbrev yN (x : fR) : Nat → Nat := x.2.2.1
abbrev yS (x : fR) : Nat → Nat := x.2.2.2.1
abbrev yE (x : fR) : Nat → Nat := x.2.2.2.2.1
abbrev yP (x : fR) : Nat → Nat := x.2.2.2.2.2
def fcl (G : zG) (x : fR) : va_W := [(xA x, zO 0 [.ref (xN x), .ref (xS x), .ref (xE x), .ref (xP x), .int (nI (xK x)), .int (nI (xC x)), .int (nI (xT x)), va_rf (xX x)]), (xN x, zI G 4 (fun j => nI (yN x j))), (xS x, zI G 4 (fun j => nI (yS x j))), (xE x, zI G 256 (fun j => nI (yE x j))), (xP x, zI G 256 (fun j => nI (yP x j)))]
def pool (G : zG) (X : Nat → fR) : Nat → va_W
  | 0 => []
  | n + 1 => pool G X n ++ fcl G (X n)
def poolx (G : zG) (X : Nat → fR) (i : Nat) : Nat → va_W
  | 0 => []
  | n + 1 => poolx G X i n ++ (if n = i then [] else fcl G (X n))
theorem poolx_ge {G : zG} {X : Nat → fR} {i : Nat} : ∀ n, n ≤ i → poolx G X i n = pool G X n
  | 0, _ => rfl
  | n + 1, h => by
    simp only [poolx, pool]
    rw [poolx_ge n (by omega), if_neg (by omega)]
theorem pool_split {G : zG} {X : Nat → fR} {i : Nat} : ∀ n, i < n → (pool G X n).Perm (fcl G (X i) ++ poolx G X i n)
  | 0, h => absurd h (Nat.not_lt_zero _)
  | n + 1, h => by
    simp only [pool, poolx]
    by_cases hi : n = i
    · subst hi
      rw [if_pos rfl, List.append_nil, poolx_ge n (Nat.le_refl n)]
      exact List.perm_append_comm
    · rw [if_neg hi, ← List.append_assoc]
      exact (pool_split n (by omega)).append_right _
theorem poolx_cg {G : zG} {X Y : Nat → fR} {i : Nat} (h : ∀ j, j ≠ i → X j = Y j) : ∀ n, poolx G X i n = poolx G Y i n
  | 0 => rfl
  | n + 1 => by
    simp only [poolx]
    rw [poolx_cg h n]
    by_cases hi : n = i
    · rw [if_pos hi, if_pos hi]
    · rw [if_neg hi, if_neg hi, h n hi]
theorem pool_cg {G : zG} {X Y : Nat → fR} : ∀ n, (∀ j, j < n → X j = Y j) → pool G X n = pool G Y n
  | 0, _ => rfl
  | n + 1, h => by
    simp only [pool]
    rw [pool_cg n (fun j hj => h j (by omega)), h n (by omega)]
theorem pool_in {G : zG} {X : Nat → fR} {i n : Nat} (ws : va_W) (h : i < n) : (ws ++ pool G X n).Perm (ws ++ (fcl G (X i) ++ poolx G X i n)) := List.Perm.append_left ws (pool_split n h)
theorem pool_mem {G : zG} {X : Nat → fR} {i n : Nat} (ws : va_W) (h : i < n) : ∀ q ∈ ws ++ fcl G (X i), q ∈ ws ++ pool G X n := by
  intro q hq
  rw [(pool_in ws h).mem_iff, ← List.append_assoc]
  exact List.mem_append_left _ hq
-- chains
def lkd (X : Nat → fR) : List Nat → Option Nat
  | [] => none
  | i :: _ => some (xA (X i))
def chOk (X : Nat → fR) (nf : Nat) : List Nat → Prop
  | [] => True
  | i :: li => i < nf ∧ xX (X i) = lkd X li ∧ chOk X nf li
def chP (X : Nat → fR) : List Nat → Nat
  | [] => 1
  | i :: li => yP (X i) 0 * chP X li
abbrev xEn (X : Nat → fR) (C : Nat → Nat) (i : Nat) : Nat := entF (yN (X i)) (yS (X i)) C (xK (X i))
def mlF (X : Nat → fR) (C : Nat → Nat) (fr cnt : Nat) : List Nat → (Nat → Nat) → (Nat → Nat)
  | [], Pr => Pr
  | i :: li, Pr => mlF X C fr cnt li (mulF Pr (yP (X i)) fr (xEn X C i) (yS (X i) (xK (X i) - 1)) cnt)
def paP (X : Nat → fR) (C : Nat → Nat) : Nat → Nat
  | 0 => 1
  | i + 1 => paP X C i * yP (X i) (xEn X C i)
/-- what every factor of the pool keeps -/
def fOk (x : fR) : Prop := xK x ≤ 4 ∧ (∀ j, j < xK x → yN x j < 12) ∧ 0 < xC x ∧ xC x ≤ 256 ∧ (∀ j, yP x j ≤ 343)
/-- a factor as it is made -/
def frF (ad : Nat × Nat × Nat × Nat × Nat) : fR := (ad, (none, 1, 0, 1), (fun _ => 0), (fun _ => 0), rowF (fun _ => 0) (fun _ => 1) 256, rowF (fun _ => 0) (fun _ => 1) 256)
/-- a factor as it is when it spans names -/
def nwF (ad : Nat × Nat × Nat × Nat × Nat) (nx : Option Nat) (V : Nat → Nat) (S n : Nat) : fR := (ad, (nx, 1, (fiR V S n).1, cellsF V S n), (fiR V S n).2.1, (fiR V S n).2.2, rowF (fun _ => 0) (fun _ => 1) 256, rowF (fun _ => 0) (fun _ => 1) 256)
def fbR (X : Nat → fR) (i : Nat) : Nat → Option Nat := fun j => if j < i then some (xA (X j)) else none
theorem fbR_0 (X : Nat → fR) : fbR X 0 = fun _ => none := by
  funext j
  unfold fbR
  rw [if_neg (Nat.not_lt_zero _)]
theorem fbR_s {X : Nat → fR} {i : Nat} {x : fR} : va_up (fbR X i) i (some (xA x)) = fbR (va_up X i x) (i + 1) := by
  funext j
  unfold fbR
  by_cases q : j = i
  · subst q
    rw [va_up_self, if_pos (Nat.lt_succ_self _), va_up_self]
  · rw [va_up_ne _ _ q, va_up_ne _ _ q]
    by_cases h : j < i
    · rw [if_pos h, if_pos (by omega)]
    · rw [if_neg h, if_neg (by omega)]
theorem fbR_at {X : Nat → fR} {i j : Nat} (h : j < i) : fbR X i j = some (xA (X j)) := by
  unfold fbR
  rw [if_pos h]
theorem pool_add {G : zG} {X : Nat → fR} {i : Nat} {x : fR} (ws : va_W) : (ws ++ (fcl G x ++ pool G X i)).Perm (ws ++ pool G (va_up X i x) (i + 1)) := by
  refine List.Perm.append_left ws ?_
  show List.Perm _ (pool G (va_up X i x) i ++ fcl G (va_up X i x i))
  rw [va_up_self, pool_cg (Y := X) i (fun j hj => va_up_ne _ _ (by omega))]
  exact List.perm_append_comm
theorem pool_put {G : zG} {X : Nat → fR} {i : Nat} {x : fR} (ws : va_W) (h : i < 16) : (ws ++ (fcl G x ++ poolx G X i 16)).Perm (ws ++ pool G (va_up X i x) 16) := by
  refine List.Perm.trans ?_ (pool_in ws h).symm
  rw [va_up_self, poolx_cg (X := va_up X i x) (Y := X) (fun j hj => va_up_ne _ _ hj)]
