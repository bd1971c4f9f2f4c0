-- worlds as sets of cells
theorem va_P_iff {D : va_G} {cl : List vw_C} {ws : va_W} {H : Heap} : va_P D cl ws H ↔ ∀ q ∈ ws, va_at D cl q H :=
  ⟨fun h q hq => by
    obtain ⟨k, hk⟩ := List.mem_iff_getElem?.mp hq
    exact h k q hk, fun h k q hk => h q (List.mem_of_getElem? hk)⟩
theorem va_D_iff {A : Nat → Prop} {ws : va_W} : va_D A ws ↔ (ws.map (·.1)).Nodup ∧ ∀ q ∈ ws, A q.1 := by
  constructor
  · rintro ⟨h1, h2⟩
    refine ⟨?_, fun q hq => ?_⟩
    · unfold List.Nodup
      rw [List.pairwise_iff_getElem]
      intro i j hi hj hij he
      rw [List.length_map] at hi hj
      rw [List.getElem_map, List.getElem_map] at he
      have := h1 i j ws[i] ws[j] (List.getElem?_eq_getElem hi) (List.getElem?_eq_getElem hj) he
      omega
    · obtain ⟨k, hk⟩ := List.mem_iff_getElem?.mp hq
      exact h2 k q hk
  · rintro ⟨h1, h2⟩
    refine ⟨fun i j p q hi hj he => ?_, fun k q hk => h2 q (List.mem_of_getElem? hk)⟩
    unfold List.Nodup at h1
    rw [List.pairwise_iff_getElem] at h1
    obtain ⟨hi1, rfl⟩ := List.getElem?_eq_some_iff.mp hi
    obtain ⟨hj1, rfl⟩ := List.getElem?_eq_some_iff.mp hj
    rcases Nat.lt_trichotomy i j with h | h | h
    · exact absurd (by rw [List.getElem_map, List.getElem_map]; exact he) (h1 i j (by rw [List.length_map]; exact hi1) (by rw [List.length_map]; exact hj1) h)
    · exact h
    · exact absurd (by rw [List.getElem_map, List.getElem_map]; exact he.symm) (h1 j i (by rw [List.length_map]; exact hj1) (by rw [List.length_map]; exact hi1) h)
theorem zw.of_perm {G : zG} {A : Nat → Prop} {s : State} {ws ws' : va_W} {H : Heap} {locs : List Loc} (w : zw G A s ws H locs) (h : ws.Perm ws') : zw G A s ws' H locs := by
  obtain ⟨⟨hK, hP⟩, hD, hS, hA⟩ := w
  rw [va_D_iff] at hD
  rw [va_P_iff] at hP
  exact ⟨⟨hK, va_P_iff.mpr fun q hq => hP q (h.mem_iff.mpr hq)⟩, va_D_iff.mpr ⟨(h.map _).nodup hD.1, fun q hq => hD.2 q (h.mem_iff.mpr hq)⟩, hS, hA⟩
theorem zr.of_sub {G : zG} {s : State} {ws ws' : va_W} {H : Heap} (r : zr G s ws H) (h : ∀ q ∈ ws', q ∈ ws) : zr G s ws' H :=
  ⟨r.1, va_P_iff.mpr fun q hq => va_P_iff.mp r.2 q (h q hq)⟩
theorem zsplC (wc wr : va_W) : (List.range wc.length).map (fun i => (wc ++ wr)[i]?) = wc.map some := by
  apply List.ext_getElem?
  intro i
  rw [List.getElem?_map, List.getElem?_map]
  by_cases h : i < wc.length
  · rw [List.getElem?_range h]
    simp [List.getElem?_append_left h, h]
  · rw [List.getElem?_eq_none (by simp; omega), List.getElem?_eq_none (by omega)]
    rfl
theorem zsplR (wc wr : va_W) : ((List.range wr.length).map (· + wc.length)).map (fun i => (wc ++ wr)[i]?) = wr.map some := by
  apply List.ext_getElem?
  intro i
  rw [List.getElem?_map, List.getElem?_map, List.getElem?_map]
  by_cases h : i < wr.length
  · rw [List.getElem?_range h]
    simp [List.getElem?_append_right, h]
  · rw [List.getElem?_eq_none (by simp; omega), List.getElem?_eq_none (by omega)]
    rfl
theorem va_nd_of : ∀ (l : List Nat), l.Nodup → va_nd l = true
  | [], _ => rfl
  | a :: l, h => by
    rw [List.nodup_cons] at h
    simp [va_nd, h.1, va_nd_of l h.2]
theorem znd1 (n : Nat) : va_nd (List.range n) = true := va_nd_of _ List.nodup_range
theorem znd2 (n k : Nat) : va_nd ((List.range n).map (· + k)) = true := va_nd_of _ (by
  unfold List.Nodup
  rw [List.pairwise_map]
  exact List.Pairwise.imp (fun h => by omega) (List.nodup_range (n := n)))
theorem zdis (wc wr : va_W) : ∀ i ∈ (List.range wr.length).map (· + wc.length), i ∉ List.range wc.length := by
  intro i hi h2
  obtain ⟨j, -, rfl⟩ := List.mem_map.mp hi
  have := List.mem_range.mp h2
  omega
