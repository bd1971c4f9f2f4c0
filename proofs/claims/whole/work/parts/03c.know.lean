-- a nest mate's constructor, rows of factors
section ZK
variable {p : Program} {l : Launch} {e : Env} {R : Room} {s : State} {m : MethodId} {args : Array Value} {below : List Frame} {meth : Method} {c : Code} {H : Heap} {locs : List Loc} {cells slots : Nat} {Q : State → Prop}
variable {cc : ByteArray} {pc nL : Nat} {ls : Array Slot} {rest : List Value} {G : zG} {A : Nat → Prop} {a : Nat} {ws ws' : va_W}
variable {y : MethodName} {bytes : ByteArray} {maxL n index mc ms : Nat} {own : String} {b : Nat} {As st0 : List Value} {rm : Room} {wr wc : va_W} {rv : Value}
/-- a constructor of a nest mate that is private -/
def zNn (y : MethodName) (bytes : ByteArray) (maxL n : Nat) : Prop :=
  (Cond.instanceMethod y ∈ zT ∧ Cond.initialized y.cls ∈ zT ∧ Cond.code y bytes maxL none ∈ zT) ∧ y.name = "<init>" ∧ y.cls ≠ "java/lang/invoke/MethodHandle" ∧ y.cls ≠ "java/lang/invoke/VarHandle" ∧ (parseMethodDescriptor y.desc).map (fun d => d.parameters.length) = some n
theorem z_wIn {host : String} {Sy : Type} {rz : Sy → Option Value} {w' : Sy → va_W} {post : Sy → Prop} (kn : va_Nw (.methodLinkNest own index y host) s) (S : CallFix p m c cc nL s args zT own) (hM : Met l y (.code y bytes maxL none :: zT) rm (zPw G (.ref b :: As) wc H.size) (zQ G rz w' (va_A wc H.size) post) mc ms (va_A wc H.size)) (hy : zNn y bytes maxL n) (hrm : rm.cells = mc ∧ rm.slots = ms) (hR : zRm R rm maxL) (w : zw G A s ws H locs) (isC isR : List Nat) (hC : isC.map (fun i => ws[i]?) = wc.map some) (hRs : isR.map (fun i => ws[i]?) = wr.map some) (hnC : va_nd isC = true) (hnR : va_nd isR = true) (hdis : ∀ i ∈ isR, i ∉ isC) (hn : As.length = n) (hl : ls.size = nL) (hst : st0 = As.reverse ++ .ref b :: rest) (hcat : (rest.map fun v => v.category).sum ≤ 8) (hdg : decode cc pc = .ok (.invokespecial index, 3)) (hf : cells + mc ≤ R.cells ∧ slots + ms ≤ R.slots)
    (kk : ∀ (u : Sy) (H1 : Heap) (locs1 : List Loc), post u → zw G A s (wr ++ w' u) H1 locs1 → W p l e R s m args below meth c H1 locs1 (cells + mc) (slots + ms) Q (F0 m (pc + 3) ls ((rz u).toList ++ rest))) : W p l e R s m args below meth c H locs cells slots Q (F0 m pc ls st0) :=
  z_callW (va_runIN (b := b) (As := As) (rest := rest) S hM ⟨va_cnB n S.2.2.2.2 (zgood hy.1.2.2) rfl hrm.1 hrm.2 kn (S.2.2.2.2 _ hy.1.2.1) hy.2.2 hR, hy.2.1, S.2.2.2.2 _ hy.1.1⟩ ⟨zPw_blind, fun U hU hW => ⟨rfl, by rw [hU], ⟨zKK.warm hW w.1.1, by rw [hU]; exact w.1.2.sub isC (zfm hC)⟩, (w.2.1.sub isC hnC hC).weaken (fun _ _ _ _ => trivial)⟩⟩ rfl hn hl hst (lv_room hcat) hdg hf) w isC isR hC hRs hnR hdis kk
theorem z_newq (hx : p.tables.exec = Jvm.exec) (hb : c.code = cc) (hown : s.vm.findClass own = some m.cls) (hts : ∀ w ∈ zT, w.before args s = true) (hcl : Cond.classLink own index "TableOrders$Factor" ∈ zT) (w : zw G A s ws H locs) {N : Nat} (hN : N ≤ 100000) (hcells : cells + 1 ≤ R.cells) (hslots : slots + N ≤ R.slots) (hdg : decode cc pc = .ok (.anewarray index, 3))
    (kk : ∀ (q : Nat) (H1 : Heap), zw G A s (ws ++ [(q, zF G N (fun _ => none))]) H1 locs → W p l e R s m args below meth c H1 locs (cells + 1) (slots + N) Q (F0 m (pc + 3) ls (.ref q :: rest))) : W p l e R s m args below meth c H locs cells slots Q (F0 m pc ls (.int (nI N) :: rest)) := by
  refine va_newq (C := "TableOrders$Factor") (N' := N) hx hb hown (hts _ hcl) w.1.1.2.1 w.1.1.1 w.1.2 w.2.1 w.2.2.1 w.2.2.2 (nI_pos (by omega)) (nI_clamp (by omega)) (by omega) hcells hslots hdg (fun q cA H1 hK hP hD hS => ?_)
  have hc : cA = G.2 2 := by
    obtain ⟨_, _, _, _, _, h1⟩ := (hK.2 3 (cA, .object "TableOrders$Factor") rfl).2
    obtain ⟨_, _, _, _, _, h2⟩ := (hK.2 2 (G.2 2, .object "TableOrders$Factor") rfl).2
    exact Option.some.inj (h1.symm.trans h2)
  subst hc
  exact kk q H1 ⟨⟨w.1.1, hP⟩, hD, hS, w.2.2.2⟩
end ZK
set_option maxRecDepth 40000 in
theorem nn_To_11 : zNn yGr_init cGr_init 1 0 := ⟨⟨(zin (List.mem_of_getElem? (i := 62) (by decide +kernel)) rfl), (zin (List.mem_of_getElem? (i := 41) (by decide +kernel)) rfl), (zin (List.mem_of_getElem? (i := 63) rfl) rfl)⟩, rfl, (by decide), (by decide), (by decide +kernel)⟩
