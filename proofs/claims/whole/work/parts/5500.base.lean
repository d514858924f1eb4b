/-! own helpers: guards of the pure functions, the frame of a call, calls by contract -/
abbrev tyW (cy : Nat → ClassId) : List (ClassId × FieldType) := [(cy 0, .int), (cy 1, .byte), (cy 2, .long), (cy 3, .short), (cy 4, .boolean), (cy 5, .char)]
theorem va_D.fst {A : Nat → Prop} {ws ws' : va_W} (h : va_D A ws) (hf : ∀ k : Nat, (ws'[k]?).map Prod.fst = (ws[k]?).map Prod.fst) : va_D A ws' := by
  have back : ∀ (k : Nat) (q : Nat × va_E), ws'[k]? = some q → ∃ q', ws[k]? = some q' ∧ q'.1 = q.1 := by
    intro k q hq
    have h1 := hf k
    rw [hq] at h1
    cases hw : ws[k]? with
    | none => rw [hw] at h1; cases h1
    | some q' => rw [hw] at h1; exact ⟨q', rfl, (Option.some.inj h1).symm⟩
  refine ⟨fun i j p q hp hq hpq => ?_, fun k q hq => ?_⟩
  · obtain ⟨p', e1, e2⟩ := back i p hp
    obtain ⟨q', e3, e4⟩ := back j q hq
    exact h.1 i j p' q' e1 e3 (by rw [e2, e4, hpq])
  · obtain ⟨q', e1, e2⟩ := back k q hq
    rw [← e2]; exact h.2 k q' e1
theorem wc_at {ws wc : va_W} {is : List Nat} (hC : is.map (fun i => ws[i]?) = wc.map some) (k : Nat) (q : Nat × va_E) (hq : wc[k]? = some q) : ∃ i, is[k]? = some i ∧ ws[i]? = some q := by
  have h1 : (is.map (fun i => ws[i]?))[k]? = some (some q) := by rw [hC, List.getElem?_map, hq]; rfl
  rw [List.getElem?_map] at h1
  cases hi : is[k]? with
  | none => rw [hi] at h1; cases h1
  | some i => rw [hi] at h1; exact ⟨i, rfl, Option.some.inj h1⟩
def wmg (w1 : va_W) : va_W → List (Option Nat) → va_W
  | x :: xs, none :: ps => x :: wmg w1 xs ps
  | x :: xs, some j :: ps => w1.getD j x :: wmg w1 xs ps
  | xs, _ => xs
theorem wmg_get (w1 : va_W) : ∀ (ws : va_W) (pl : List (Option Nat)) (k : Nat) (q : Nat × va_E), (∀ j, some j ∈ pl → j < w1.length) → (wmg w1 ws pl)[k]? = some q → q ∈ w1 ∨ (pl.getD k none = none ∧ ws[k]? = some q)
  | [], pl, k, q, _, h => by simp [wmg] at h
  | x :: xs, [], k, q, _, h => Or.inr ⟨by simp, h⟩
  | x :: xs, none :: ps, k, q, hj, h => by
    cases k with
    | zero => exact Or.inr ⟨rfl, h⟩
    | succ k => exact wmg_get w1 xs ps k q (fun j hm => hj j (List.mem_cons_of_mem _ hm)) h
  | x :: xs, some j :: ps, k, q, hj, h => by
    cases k with
    | zero =>
      have h0 : w1.getD j x = q := Option.some.inj h
      have hl := hj j List.mem_cons_self
      rw [List.getD_eq_getElem?_getD, List.getElem?_eq_getElem hl] at h0
      exact Or.inl (by rw [← h0]; exact List.getElem_mem hl)
    | succ k => exact wmg_get w1 xs ps k q (fun j hm => hj j (List.mem_cons_of_mem _ hm)) h
theorem fst_of_map {ws ws' : va_W} (h : ws'.map Prod.fst = ws.map Prod.fst) (k : Nat) : (ws'[k]?).map Prod.fst = (ws[k]?).map Prod.fst := by
  rw [← List.getElem?_map, ← List.getElem?_map, h]
theorem w_fr2 {A0 : Nat → Prop} {D : va_G} {cl : List vw_C} {ws wc w1 ws' : va_W} {H H1 : Heap} (hP : va_P D cl ws H) (hD : va_D A0 ws) (is : List Nat) (pl : List (Option Nat)) (hC : is.map (fun i => ws[i]?) = wc.map some)
    (hk : ∀ q : Nat, q < H.size → ¬ va_A wc H.size q → H1[q]? = H[q]?) (hP1 : va_P D cl w1 H1) (he : wmg w1 ws pl = ws') (hf : ws'.map Prod.fst = ws.map Prod.fst) (hpl : is.all (fun i => (pl.getD i none).isSome) = true) (hlt : pl.all (fun o => match o with | none => true | some j => Nat.blt j w1.length) = true) : va_P D cl ws' H1 ∧ va_D A0 ws' := by
  subst he
  refine ⟨fun k q hq => ?_, hD.fst (fst_of_map hf)⟩
  rcases wmg_get w1 ws pl k q (fun j hj => by have h1 := List.all_eq_true.mp hlt _ hj; simpa [Nat.blt_eq] using h1) hq with h1 | ⟨h1, h2⟩
  · obtain ⟨j, hj⟩ := List.mem_iff_getElem?.mp h1
    exact hP1 j q hj
  · have hl := (hP k q h2).lt
    refine (hP k q h2).kept (hk q.1 hl ?_)
    rintro (⟨k2, e, h3⟩ | h3)
    · obtain ⟨j, h4, h5⟩ := wc_at hC k2 (q.1, e) h3
      have hij := hD.1 k j q (q.1, e) h2 h5 rfl
      subst hij
      have h6 := List.all_eq_true.mp hpl k (List.mem_of_getElem? h4)
      simp only [h1] at h6
      cases h6
    · omega
theorem w_fr1 {A0 : Nat → Prop} {D : va_G} {cl : List vw_C} {ws w1 : va_W} {H1 : Heap} (hD : va_D A0 ws) (hP1 : va_P D cl w1 H1) (hf : w1.map Prod.fst = ws.map Prod.fst) : va_P D cl w1 H1 ∧ va_D A0 w1 := ⟨hP1, hD.fst (fst_of_map hf)⟩
theorem va_free1 {A0 : Nat → Prop} {ws : va_W} {H0 H : Heap} {locs : List Loc} (hD : va_D A0 ws) (hS : va_S A0 H0 H locs) (hA : ∀ q, H0.size ≤ q → A0 q) : ∀ q, va_A ws H.size q → A0 q := by
  intro q h
  rcases h with ⟨k, e, h⟩ | h
  · exact hD.2 k (q, e) h
  · exact hA q (Nat.le_trans hS.1 h)
theorem w_sub {D : va_G} {cl : List vw_C} {ws wc : va_W} {H : Heap} {is : List Nat} (hP : va_P D cl ws H) (hC : is.map (fun i => ws[i]?) = wc.map some) : va_P D cl wc H := fun k q hq => by
  obtain ⟨i, _, h2⟩ := wc_at hC k q hq
  exact hP i q h2
/-- the links to a nest mate's private members -/
def NW (U : State) : Prop := va_Nw (.fieldLinkNest "TypeCourt$World" 58 "TypeCourt$Kinds" "concepts" "LTypeCourt$Concepts;" "TypeCourt") U ∧ va_Nw (.methodLinkNest "TypeCourt$Book" 11 yX1_init "TypeCourt") U ∧ va_Nw (.methodLinkNest "TypeCourt" 15 yX0_init "TypeCourt") U ∧ va_Nw (.methodLinkNest "TypeCourt" 43 yX6_init "TypeCourt") U
theorem NW.warm {s U : State} (hW : s.WarmedH U.vm) (h : NW s) : NW U := ⟨va_Nw.warmF hW h.1, va_Nw.warmM hW h.2.1, va_Nw.warmM hW h.2.2.1, va_Nw.warmM hW h.2.2.2⟩
theorem NW.same {u U : State} (e : u.vm = U.vm) (h : NW u) : NW U := ⟨va_Nw.same rfl e h.1, va_Nw.same rfl e h.2.1, va_Nw.same rfl e h.2.2.1, va_Nw.same rfl e h.2.2.2⟩
def cP (D : va_G) (cy : Nat → ClassId) (av : List Value) (ws : va_W) (sz : Nat) : Array Value → State → Prop := va_Pc av (fun U => U.heap.size = sz ∧ va_P D vwCl ws U.heap ∧ va_K D vwCl (tyW cy) U ∧ va_D (fun _ => True) ws ∧ NW U)
theorem cP_bl {D : va_G} {cy : Nat → ClassId} {av : List Value} {ws : va_W} {sz : Nat} : FrameBlind (cP D cy av ws sz) := fun a U g mk q => by
  obtain ⟨q0, q1, qP, qK, qD, qN⟩ := q
  exact ⟨q0, q1, qP, va_K.moved (u := U) (U := U.calling g mk a) (Vm.Alike.refl U.vm) qK, qD, NW.same (by rfl) qN⟩
abbrev cQi (D : va_G) (cy : Nat → ClassId) (r : Int32) (ws' : va_W) (A : Nat → Prop) : Array Value → State → Outcome → State → Prop := va_Qi (fun (x : Int32) (_ : Unit) => x = r) (fun (_ : Unit) t => va_P D vwCl ws' t.heap ∧ va_K D vwCl (tyW cy) t) A
abbrev cQl (D : va_G) (cy : Nat → ClassId) (r : Int64) (ws' : va_W) (A : Nat → Prop) : Array Value → State → Outcome → State → Prop := va_Ql (fun (x : Int64) (_ : Unit) => x = r) (fun (_ : Unit) t => va_P D vwCl ws' t.heap ∧ va_K D vwCl (tyW cy) t) A
abbrev cQv (D : va_G) (cy : Nat → ClassId) (ws' : va_W) (A : Nat → Prop) : Array Value → State → Outcome → State → Prop := va_Qv (fun (_ : Unit) => True) (fun (_ : Unit) t => va_P D vwCl ws' t.heap ∧ va_K D vwCl (tyW cy) t) A
section CALLS
variable {p : Program} {l : Launch} {e : Env} {R : Room} {s : State} {m : MethodId} {args : Array Value} {below : List Frame} {meth : Method} {c : Code} {H : Heap} {locs : List Loc} {cells slots : Nat} {Q : State → Prop}
variable {y : MethodName} {bytes cc : ByteArray} {maxL nL n index pc : Nat} {ret : Option FieldType} {wds : List Cond} {rm : Room} {Ts : List Cond} {own C : String} {b : Addr} {As rest st0 : List Value} {ls : Array Slot}
variable {D : va_G} {cy : Nat → ClassId} {ws wc w1 ws' : va_W} {A0 : Nat → Prop} {H0 : Heap}
theorem callVi {r : Int32} (S : CallFix p m c cc nL s args Ts own) (hM : Met l y wds rm (cP D cy (.ref b :: As) wc H.size) (cQi D cy r w1 (va_A wc H.size)) 0 0 (va_A wc H.size)) (cw : CallW R s args own C index y bytes maxL ret wds rm 0 0 n)
    (hN : NW s) (hK : va_K D vwCl (tyW cy) s) (hP : va_P D vwCl ws H) (hD : va_D A0 ws) (hS : va_S A0 H0 H locs) (hA : ∀ q, H0.size ≤ q → A0 q) (is : List Nat) (pl : List (Option Nat)) (hnd : va_nd is = true) (hC : is.map (fun i => ws[i]?) = wc.map some) (he : wmg w1 ws pl = ws') (hf : ws'.map Prod.fst = ws.map Prod.fst) (hpl : is.all (fun i => (pl.getD i none).isSome) = true) (hlt : pl.all (fun o => match o with | none => true | some j => Nat.blt j w1.length) = true) (q0 : Nat) {ci N : Nat} {T : u_T} {fs : List Value} (hr0 : ws[q0]? = some (b, .inr (ci, fs))) (hci : vwCl[ci]? = some (C, T, N))
    (hn : As.length = n) (hsize : ls.size = nL) (hst : st0 = As.reverse ++ .ref b :: rest) (hW : (rest.map fun v => v.category).sum ≤ 8) (hdg : decode cc pc = .ok (.invokevirtual index, 3)) (hcl : cells ≤ R.cells ∧ slots ≤ R.slots)
    (kk : ∀ (H1 : Heap) (locs1 : List Loc), va_P D vwCl ws' H1 → va_D A0 ws' → va_S A0 H0 H1 locs1 → W p l e R s m args below meth c H1 locs1 cells slots Q (F0 m (pc + 3) ls (.int r :: rest))) : W p l e R s m args below meth c H locs cells slots Q (F0 m pc ls st0) := by
  have hF := va_free (wc := wc) hD hS hA is hC
  have hPc : va_P D vwCl wc H := w_sub hP hC
  have hDc : va_D (fun _ => True) wc := (hD.sub is hnd hC).weaken (fun _ _ _ _ => trivial)
  refine va_calli (va_runV S hM cw ⟨cP_bl, va_recv hK hP hci hr0, fun U hU hWm => ⟨rfl, by rw [hU], by rw [hU]; exact hPc, va_K.moved hWm.alike hK, hDc, NW.warm hWm hN⟩⟩ rfl hn hsize hst (lv_room hW) hdg hcl) hS (fun q _ h => hF q h) hF (fun r2 u t H1 locs1 ht hvm hw hB hz1 hk1 hS1 => ?_)
  obtain ⟨hP1, _⟩ := hB
  rw [ht] at hP1
  obtain ⟨hP2, hD2⟩ := w_fr2 hP hD is pl hC hk1 hP1 he hf hpl hlt
  subst hw
  exact kk H1 locs1 hP2 hD2 hS1
theorem callVis {r : Int32} (S : CallFix p m c cc nL s args Ts own) (hM : Met l y wds rm (cP D cy (.ref b :: As) ws H.size) (cQi D cy r w1 (va_A ws H.size)) 0 0 (va_A ws H.size)) (cw : CallW R s args own C index y bytes maxL ret wds rm 0 0 n)
    (hN : NW s) (hK : va_K D vwCl (tyW cy) s) (hP : va_P D vwCl ws H) (hD : va_D A0 ws) (hS : va_S A0 H0 H locs) (hA : ∀ q, H0.size ≤ q → A0 q) (hf : w1.map Prod.fst = ws.map Prod.fst) (q0 : Nat) {ci N : Nat} {T : u_T} {fs : List Value} (hr0 : ws[q0]? = some (b, .inr (ci, fs))) (hci : vwCl[ci]? = some (C, T, N))
    (hn : As.length = n) (hsize : ls.size = nL) (hst : st0 = As.reverse ++ .ref b :: rest) (hW : (rest.map fun v => v.category).sum ≤ 8) (hdg : decode cc pc = .ok (.invokevirtual index, 3)) (hcl : cells ≤ R.cells ∧ slots ≤ R.slots)
    (kk : ∀ (H1 : Heap) (locs1 : List Loc), va_P D vwCl w1 H1 → va_D A0 w1 → va_S A0 H0 H1 locs1 → W p l e R s m args below meth c H1 locs1 cells slots Q (F0 m (pc + 3) ls (.int r :: rest))) : W p l e R s m args below meth c H locs cells slots Q (F0 m pc ls st0) := by
  have hF := va_free1 hD hS hA
  have hPc : va_P D vwCl ws H := hP
  have hDc : va_D (fun _ => True) ws := hD.weaken (fun _ _ _ _ => trivial)
  refine va_calli (va_runV S hM cw ⟨cP_bl, va_recv hK hP hci hr0, fun U hU hWm => ⟨rfl, by rw [hU], by rw [hU]; exact hPc, va_K.moved hWm.alike hK, hDc, NW.warm hWm hN⟩⟩ rfl hn hsize hst (lv_room hW) hdg hcl) hS (fun q _ h => hF q h) hF (fun r2 u t H1 locs1 ht hvm hw hB hz1 hk1 hS1 => ?_)
  obtain ⟨hP1, _⟩ := hB
  rw [ht] at hP1
  obtain ⟨hP2, hD2⟩ := w_fr1 hD hP1 hf
  subst hw
  exact kk H1 locs1 hP2 hD2 hS1
theorem callVl {r : Int64} (S : CallFix p m c cc nL s args Ts own) (hM : Met l y wds rm (cP D cy (.ref b :: As) wc H.size) (cQl D cy r w1 (va_A wc H.size)) 0 0 (va_A wc H.size)) (cw : CallW R s args own C index y bytes maxL ret wds rm 0 0 n)
    (hN : NW s) (hK : va_K D vwCl (tyW cy) s) (hP : va_P D vwCl ws H) (hD : va_D A0 ws) (hS : va_S A0 H0 H locs) (hA : ∀ q, H0.size ≤ q → A0 q) (is : List Nat) (pl : List (Option Nat)) (hnd : va_nd is = true) (hC : is.map (fun i => ws[i]?) = wc.map some) (he : wmg w1 ws pl = ws') (hf : ws'.map Prod.fst = ws.map Prod.fst) (hpl : is.all (fun i => (pl.getD i none).isSome) = true) (hlt : pl.all (fun o => match o with | none => true | some j => Nat.blt j w1.length) = true) (q0 : Nat) {ci N : Nat} {T : u_T} {fs : List Value} (hr0 : ws[q0]? = some (b, .inr (ci, fs))) (hci : vwCl[ci]? = some (C, T, N))
    (hn : As.length = n) (hsize : ls.size = nL) (hst : st0 = As.reverse ++ .ref b :: rest) (hW : (rest.map fun v => v.category).sum ≤ 8) (hdg : decode cc pc = .ok (.invokevirtual index, 3)) (hcl : cells ≤ R.cells ∧ slots ≤ R.slots)
    (kk : ∀ (H1 : Heap) (locs1 : List Loc), va_P D vwCl ws' H1 → va_D A0 ws' → va_S A0 H0 H1 locs1 → W p l e R s m args below meth c H1 locs1 cells slots Q (F0 m (pc + 3) ls (.long r :: rest))) : W p l e R s m args below meth c H locs cells slots Q (F0 m pc ls st0) := by
  have hF := va_free (wc := wc) hD hS hA is hC
  have hPc : va_P D vwCl wc H := w_sub hP hC
  have hDc : va_D (fun _ => True) wc := (hD.sub is hnd hC).weaken (fun _ _ _ _ => trivial)
  refine va_calll (va_runV S hM cw ⟨cP_bl, va_recv hK hP hci hr0, fun U hU hWm => ⟨rfl, by rw [hU], by rw [hU]; exact hPc, va_K.moved hWm.alike hK, hDc, NW.warm hWm hN⟩⟩ rfl hn hsize hst (lv_room hW) hdg hcl) hS (fun q _ h => hF q h) hF (fun r2 u t H1 locs1 ht hvm hw hB hz1 hk1 hS1 => ?_)
  obtain ⟨hP1, _⟩ := hB
  rw [ht] at hP1
  obtain ⟨hP2, hD2⟩ := w_fr2 hP hD is pl hC hk1 hP1 he hf hpl hlt
  subst hw
  exact kk H1 locs1 hP2 hD2 hS1
theorem callVls {r : Int64} (S : CallFix p m c cc nL s args Ts own) (hM : Met l y wds rm (cP D cy (.ref b :: As) ws H.size) (cQl D cy r w1 (va_A ws H.size)) 0 0 (va_A ws H.size)) (cw : CallW R s args own C index y bytes maxL ret wds rm 0 0 n)
    (hN : NW s) (hK : va_K D vwCl (tyW cy) s) (hP : va_P D vwCl ws H) (hD : va_D A0 ws) (hS : va_S A0 H0 H locs) (hA : ∀ q, H0.size ≤ q → A0 q) (hf : w1.map Prod.fst = ws.map Prod.fst) (q0 : Nat) {ci N : Nat} {T : u_T} {fs : List Value} (hr0 : ws[q0]? = some (b, .inr (ci, fs))) (hci : vwCl[ci]? = some (C, T, N))
    (hn : As.length = n) (hsize : ls.size = nL) (hst : st0 = As.reverse ++ .ref b :: rest) (hW : (rest.map fun v => v.category).sum ≤ 8) (hdg : decode cc pc = .ok (.invokevirtual index, 3)) (hcl : cells ≤ R.cells ∧ slots ≤ R.slots)
    (kk : ∀ (H1 : Heap) (locs1 : List Loc), va_P D vwCl w1 H1 → va_D A0 w1 → va_S A0 H0 H1 locs1 → W p l e R s m args below meth c H1 locs1 cells slots Q (F0 m (pc + 3) ls (.long r :: rest))) : W p l e R s m args below meth c H locs cells slots Q (F0 m pc ls st0) := by
  have hF := va_free1 hD hS hA
  have hPc : va_P D vwCl ws H := hP
  have hDc : va_D (fun _ => True) ws := hD.weaken (fun _ _ _ _ => trivial)
  refine va_calll (va_runV S hM cw ⟨cP_bl, va_recv hK hP hci hr0, fun U hU hWm => ⟨rfl, by rw [hU], by rw [hU]; exact hPc, va_K.moved hWm.alike hK, hDc, NW.warm hWm hN⟩⟩ rfl hn hsize hst (lv_room hW) hdg hcl) hS (fun q _ h => hF q h) hF (fun r2 u t H1 locs1 ht hvm hw hB hz1 hk1 hS1 => ?_)
  obtain ⟨hP1, _⟩ := hB
  rw [ht] at hP1
  obtain ⟨hP2, hD2⟩ := w_fr1 hD hP1 hf
  subst hw
  exact kk H1 locs1 hP2 hD2 hS1
theorem callVv (S : CallFix p m c cc nL s args Ts own) (hM : Met l y wds rm (cP D cy (.ref b :: As) wc H.size) (cQv D cy w1 (va_A wc H.size)) 0 0 (va_A wc H.size)) (cw : CallW R s args own C index y bytes maxL ret wds rm 0 0 n)
    (hN : NW s) (hK : va_K D vwCl (tyW cy) s) (hP : va_P D vwCl ws H) (hD : va_D A0 ws) (hS : va_S A0 H0 H locs) (hA : ∀ q, H0.size ≤ q → A0 q) (is : List Nat) (pl : List (Option Nat)) (hnd : va_nd is = true) (hC : is.map (fun i => ws[i]?) = wc.map some) (he : wmg w1 ws pl = ws') (hf : ws'.map Prod.fst = ws.map Prod.fst) (hpl : is.all (fun i => (pl.getD i none).isSome) = true) (hlt : pl.all (fun o => match o with | none => true | some j => Nat.blt j w1.length) = true) (q0 : Nat) {ci N : Nat} {T : u_T} {fs : List Value} (hr0 : ws[q0]? = some (b, .inr (ci, fs))) (hci : vwCl[ci]? = some (C, T, N))
    (hn : As.length = n) (hsize : ls.size = nL) (hst : st0 = As.reverse ++ .ref b :: rest) (hW : (rest.map fun v => v.category).sum ≤ 8) (hdg : decode cc pc = .ok (.invokevirtual index, 3)) (hcl : cells ≤ R.cells ∧ slots ≤ R.slots)
    (kk : ∀ (H1 : Heap) (locs1 : List Loc), va_P D vwCl ws' H1 → va_D A0 ws' → va_S A0 H0 H1 locs1 → W p l e R s m args below meth c H1 locs1 cells slots Q (F0 m (pc + 3) ls (rest))) : W p l e R s m args below meth c H locs cells slots Q (F0 m pc ls st0) := by
  have hF := va_free (wc := wc) hD hS hA is hC
  have hPc : va_P D vwCl wc H := w_sub hP hC
  have hDc : va_D (fun _ => True) wc := (hD.sub is hnd hC).weaken (fun _ _ _ _ => trivial)
  refine va_callv (va_runV S hM cw ⟨cP_bl, va_recv hK hP hci hr0, fun U hU hWm => ⟨rfl, by rw [hU], by rw [hU]; exact hPc, va_K.moved hWm.alike hK, hDc, NW.warm hWm hN⟩⟩ rfl hn hsize hst (lv_room hW) hdg hcl) hS (fun q _ h => hF q h) hF (fun u t H1 locs1 ht hvm hw hB hz1 hk1 hS1 => ?_)
  obtain ⟨hP1, _⟩ := hB
  rw [ht] at hP1
  obtain ⟨hP2, hD2⟩ := w_fr2 hP hD is pl hC hk1 hP1 he hf hpl hlt
  skip
  exact kk H1 locs1 hP2 hD2 hS1
theorem callVvs (S : CallFix p m c cc nL s args Ts own) (hM : Met l y wds rm (cP D cy (.ref b :: As) ws H.size) (cQv D cy w1 (va_A ws H.size)) 0 0 (va_A ws H.size)) (cw : CallW R s args own C index y bytes maxL ret wds rm 0 0 n)
    (hN : NW s) (hK : va_K D vwCl (tyW cy) s) (hP : va_P D vwCl ws H) (hD : va_D A0 ws) (hS : va_S A0 H0 H locs) (hA : ∀ q, H0.size ≤ q → A0 q) (hf : w1.map Prod.fst = ws.map Prod.fst) (q0 : Nat) {ci N : Nat} {T : u_T} {fs : List Value} (hr0 : ws[q0]? = some (b, .inr (ci, fs))) (hci : vwCl[ci]? = some (C, T, N))
    (hn : As.length = n) (hsize : ls.size = nL) (hst : st0 = As.reverse ++ .ref b :: rest) (hW : (rest.map fun v => v.category).sum ≤ 8) (hdg : decode cc pc = .ok (.invokevirtual index, 3)) (hcl : cells ≤ R.cells ∧ slots ≤ R.slots)
    (kk : ∀ (H1 : Heap) (locs1 : List Loc), va_P D vwCl w1 H1 → va_D A0 w1 → va_S A0 H0 H1 locs1 → W p l e R s m args below meth c H1 locs1 cells slots Q (F0 m (pc + 3) ls (rest))) : W p l e R s m args below meth c H locs cells slots Q (F0 m pc ls st0) := by
  have hF := va_free1 hD hS hA
  have hPc : va_P D vwCl ws H := hP
  have hDc : va_D (fun _ => True) ws := hD.weaken (fun _ _ _ _ => trivial)
  refine va_callv (va_runV S hM cw ⟨cP_bl, va_recv hK hP hci hr0, fun U hU hWm => ⟨rfl, by rw [hU], by rw [hU]; exact hPc, va_K.moved hWm.alike hK, hDc, NW.warm hWm hN⟩⟩ rfl hn hsize hst (lv_room hW) hdg hcl) hS (fun q _ h => hF q h) hF (fun u t H1 locs1 ht hvm hw hB hz1 hk1 hS1 => ?_)
  obtain ⟨hP1, _⟩ := hB
  rw [ht] at hP1
  obtain ⟨hP2, hD2⟩ := w_fr1 hD hP1 hf
  skip
  exact kk H1 locs1 hP2 hD2 hS1
theorem callSi {r : Int32} (S : CallFix p m c cc nL s args Ts own) (hM : Met l y wds rm (cP D cy (As) wc H.size) (cQi D cy r w1 (va_A wc H.size)) 0 0 (va_A wc H.size)) (cw : CallB R s args own index y bytes maxL ret wds rm 0 0 n ∧ (Cond.static y).before args s = true)
    (hN : NW s) (hK : va_K D vwCl (tyW cy) s) (hP : va_P D vwCl ws H) (hD : va_D A0 ws) (hS : va_S A0 H0 H locs) (hA : ∀ q, H0.size ≤ q → A0 q) (is : List Nat) (pl : List (Option Nat)) (hnd : va_nd is = true) (hC : is.map (fun i => ws[i]?) = wc.map some) (he : wmg w1 ws pl = ws') (hf : ws'.map Prod.fst = ws.map Prod.fst) (hpl : is.all (fun i => (pl.getD i none).isSome) = true) (hlt : pl.all (fun o => match o with | none => true | some j => Nat.blt j w1.length) = true)
    (hn : As.length = n) (hsize : ls.size = nL) (hst : st0 = As.reverse ++ rest) (hW : (rest.map fun v => v.category).sum ≤ 8) (hdg : decode cc pc = .ok (.invokestatic index, 3)) (hcl : cells ≤ R.cells ∧ slots ≤ R.slots)
    (kk : ∀ (H1 : Heap) (locs1 : List Loc), va_P D vwCl ws' H1 → va_D A0 ws' → va_S A0 H0 H1 locs1 → W p l e R s m args below meth c H1 locs1 cells slots Q (F0 m (pc + 3) ls (.int r :: rest))) : W p l e R s m args below meth c H locs cells slots Q (F0 m pc ls st0) := by
  have hF := va_free (wc := wc) hD hS hA is hC
  have hPc : va_P D vwCl wc H := w_sub hP hC
  have hDc : va_D (fun _ => True) wc := (hD.sub is hnd hC).weaken (fun _ _ _ _ => trivial)
  refine va_calli (va_runS S hM cw ⟨cP_bl, fun U hU hWm => ⟨rfl, by rw [hU], by rw [hU]; exact hPc, va_K.moved hWm.alike hK, hDc, NW.warm hWm hN⟩⟩ rfl hn hsize hst (lv_room hW) hdg hcl) hS (fun q _ h => hF q h) hF (fun r2 u t H1 locs1 ht hvm hw hB hz1 hk1 hS1 => ?_)
  obtain ⟨hP1, _⟩ := hB
  rw [ht] at hP1
  obtain ⟨hP2, hD2⟩ := w_fr2 hP hD is pl hC hk1 hP1 he hf hpl hlt
  subst hw
  exact kk H1 locs1 hP2 hD2 hS1
theorem callSis {r : Int32} (S : CallFix p m c cc nL s args Ts own) (hM : Met l y wds rm (cP D cy (As) ws H.size) (cQi D cy r w1 (va_A ws H.size)) 0 0 (va_A ws H.size)) (cw : CallB R s args own index y bytes maxL ret wds rm 0 0 n ∧ (Cond.static y).before args s = true)
    (hN : NW s) (hK : va_K D vwCl (tyW cy) s) (hP : va_P D vwCl ws H) (hD : va_D A0 ws) (hS : va_S A0 H0 H locs) (hA : ∀ q, H0.size ≤ q → A0 q) (hf : w1.map Prod.fst = ws.map Prod.fst)
    (hn : As.length = n) (hsize : ls.size = nL) (hst : st0 = As.reverse ++ rest) (hW : (rest.map fun v => v.category).sum ≤ 8) (hdg : decode cc pc = .ok (.invokestatic index, 3)) (hcl : cells ≤ R.cells ∧ slots ≤ R.slots)
    (kk : ∀ (H1 : Heap) (locs1 : List Loc), va_P D vwCl w1 H1 → va_D A0 w1 → va_S A0 H0 H1 locs1 → W p l e R s m args below meth c H1 locs1 cells slots Q (F0 m (pc + 3) ls (.int r :: rest))) : W p l e R s m args below meth c H locs cells slots Q (F0 m pc ls st0) := by
  have hF := va_free1 hD hS hA
  have hPc : va_P D vwCl ws H := hP
  have hDc : va_D (fun _ => True) ws := hD.weaken (fun _ _ _ _ => trivial)
  refine va_calli (va_runS S hM cw ⟨cP_bl, fun U hU hWm => ⟨rfl, by rw [hU], by rw [hU]; exact hPc, va_K.moved hWm.alike hK, hDc, NW.warm hWm hN⟩⟩ rfl hn hsize hst (lv_room hW) hdg hcl) hS (fun q _ h => hF q h) hF (fun r2 u t H1 locs1 ht hvm hw hB hz1 hk1 hS1 => ?_)
  obtain ⟨hP1, _⟩ := hB
  rw [ht] at hP1
  obtain ⟨hP2, hD2⟩ := w_fr1 hD hP1 hf
  subst hw
  exact kk H1 locs1 hP2 hD2 hS1
theorem callSl {r : Int64} (S : CallFix p m c cc nL s args Ts own) (hM : Met l y wds rm (cP D cy (As) wc H.size) (cQl D cy r w1 (va_A wc H.size)) 0 0 (va_A wc H.size)) (cw : CallB R s args own index y bytes maxL ret wds rm 0 0 n ∧ (Cond.static y).before args s = true)
    (hN : NW s) (hK : va_K D vwCl (tyW cy) s) (hP : va_P D vwCl ws H) (hD : va_D A0 ws) (hS : va_S A0 H0 H locs) (hA : ∀ q, H0.size ≤ q → A0 q) (is : List Nat) (pl : List (Option Nat)) (hnd : va_nd is = true) (hC : is.map (fun i => ws[i]?) = wc.map some) (he : wmg w1 ws pl = ws') (hf : ws'.map Prod.fst = ws.map Prod.fst) (hpl : is.all (fun i => (pl.getD i none).isSome) = true) (hlt : pl.all (fun o => match o with | none => true | some j => Nat.blt j w1.length) = true)
    (hn : As.length = n) (hsize : ls.size = nL) (hst : st0 = As.reverse ++ rest) (hW : (rest.map fun v => v.category).sum ≤ 8) (hdg : decode cc pc = .ok (.invokestatic index, 3)) (hcl : cells ≤ R.cells ∧ slots ≤ R.slots)
    (kk : ∀ (H1 : Heap) (locs1 : List Loc), va_P D vwCl ws' H1 → va_D A0 ws' → va_S A0 H0 H1 locs1 → W p l e R s m args below meth c H1 locs1 cells slots Q (F0 m (pc + 3) ls (.long r :: rest))) : W p l e R s m args below meth c H locs cells slots Q (F0 m pc ls st0) := by
  have hF := va_free (wc := wc) hD hS hA is hC
  have hPc : va_P D vwCl wc H := w_sub hP hC
  have hDc : va_D (fun _ => True) wc := (hD.sub is hnd hC).weaken (fun _ _ _ _ => trivial)
  refine va_calll (va_runS S hM cw ⟨cP_bl, fun U hU hWm => ⟨rfl, by rw [hU], by rw [hU]; exact hPc, va_K.moved hWm.alike hK, hDc, NW.warm hWm hN⟩⟩ rfl hn hsize hst (lv_room hW) hdg hcl) hS (fun q _ h => hF q h) hF (fun r2 u t H1 locs1 ht hvm hw hB hz1 hk1 hS1 => ?_)
  obtain ⟨hP1, _⟩ := hB
  rw [ht] at hP1
  obtain ⟨hP2, hD2⟩ := w_fr2 hP hD is pl hC hk1 hP1 he hf hpl hlt
  subst hw
  exact kk H1 locs1 hP2 hD2 hS1
theorem callSls {r : Int64} (S : CallFix p m c cc nL s args Ts own) (hM : Met l y wds rm (cP D cy (As) ws H.size) (cQl D cy r w1 (va_A ws H.size)) 0 0 (va_A ws H.size)) (cw : CallB R s args own index y bytes maxL ret wds rm 0 0 n ∧ (Cond.static y).before args s = true)
    (hN : NW s) (hK : va_K D vwCl (tyW cy) s) (hP : va_P D vwCl ws H) (hD : va_D A0 ws) (hS : va_S A0 H0 H locs) (hA : ∀ q, H0.size ≤ q → A0 q) (hf : w1.map Prod.fst = ws.map Prod.fst)
    (hn : As.length = n) (hsize : ls.size = nL) (hst : st0 = As.reverse ++ rest) (hW : (rest.map fun v => v.category).sum ≤ 8) (hdg : decode cc pc = .ok (.invokestatic index, 3)) (hcl : cells ≤ R.cells ∧ slots ≤ R.slots)
    (kk : ∀ (H1 : Heap) (locs1 : List Loc), va_P D vwCl w1 H1 → va_D A0 w1 → va_S A0 H0 H1 locs1 → W p l e R s m args below meth c H1 locs1 cells slots Q (F0 m (pc + 3) ls (.long r :: rest))) : W p l e R s m args below meth c H locs cells slots Q (F0 m pc ls st0) := by
  have hF := va_free1 hD hS hA
  have hPc : va_P D vwCl ws H := hP
  have hDc : va_D (fun _ => True) ws := hD.weaken (fun _ _ _ _ => trivial)
  refine va_calll (va_runS S hM cw ⟨cP_bl, fun U hU hWm => ⟨rfl, by rw [hU], by rw [hU]; exact hPc, va_K.moved hWm.alike hK, hDc, NW.warm hWm hN⟩⟩ rfl hn hsize hst (lv_room hW) hdg hcl) hS (fun q _ h => hF q h) hF (fun r2 u t H1 locs1 ht hvm hw hB hz1 hk1 hS1 => ?_)
  obtain ⟨hP1, _⟩ := hB
  rw [ht] at hP1
  obtain ⟨hP2, hD2⟩ := w_fr1 hD hP1 hf
  subst hw
  exact kk H1 locs1 hP2 hD2 hS1
theorem callSv (S : CallFix p m c cc nL s args Ts own) (hM : Met l y wds rm (cP D cy (As) wc H.size) (cQv D cy w1 (va_A wc H.size)) 0 0 (va_A wc H.size)) (cw : CallB R s args own index y bytes maxL ret wds rm 0 0 n ∧ (Cond.static y).before args s = true)
    (hN : NW s) (hK : va_K D vwCl (tyW cy) s) (hP : va_P D vwCl ws H) (hD : va_D A0 ws) (hS : va_S A0 H0 H locs) (hA : ∀ q, H0.size ≤ q → A0 q) (is : List Nat) (pl : List (Option Nat)) (hnd : va_nd is = true) (hC : is.map (fun i => ws[i]?) = wc.map some) (he : wmg w1 ws pl = ws') (hf : ws'.map Prod.fst = ws.map Prod.fst) (hpl : is.all (fun i => (pl.getD i none).isSome) = true) (hlt : pl.all (fun o => match o with | none => true | some j => Nat.blt j w1.length) = true)
    (hn : As.length = n) (hsize : ls.size = nL) (hst : st0 = As.reverse ++ rest) (hW : (rest.map fun v => v.category).sum ≤ 8) (hdg : decode cc pc = .ok (.invokestatic index, 3)) (hcl : cells ≤ R.cells ∧ slots ≤ R.slots)
    (kk : ∀ (H1 : Heap) (locs1 : List Loc), va_P D vwCl ws' H1 → va_D A0 ws' → va_S A0 H0 H1 locs1 → W p l e R s m args below meth c H1 locs1 cells slots Q (F0 m (pc + 3) ls (rest))) : W p l e R s m args below meth c H locs cells slots Q (F0 m pc ls st0) := by
  have hF := va_free (wc := wc) hD hS hA is hC
  have hPc : va_P D vwCl wc H := w_sub hP hC
  have hDc : va_D (fun _ => True) wc := (hD.sub is hnd hC).weaken (fun _ _ _ _ => trivial)
  refine va_callv (va_runS S hM cw ⟨cP_bl, fun U hU hWm => ⟨rfl, by rw [hU], by rw [hU]; exact hPc, va_K.moved hWm.alike hK, hDc, NW.warm hWm hN⟩⟩ rfl hn hsize hst (lv_room hW) hdg hcl) hS (fun q _ h => hF q h) hF (fun u t H1 locs1 ht hvm hw hB hz1 hk1 hS1 => ?_)
  obtain ⟨hP1, _⟩ := hB
  rw [ht] at hP1
  obtain ⟨hP2, hD2⟩ := w_fr2 hP hD is pl hC hk1 hP1 he hf hpl hlt
  skip
  exact kk H1 locs1 hP2 hD2 hS1
theorem callSvs (S : CallFix p m c cc nL s args Ts own) (hM : Met l y wds rm (cP D cy (As) ws H.size) (cQv D cy w1 (va_A ws H.size)) 0 0 (va_A ws H.size)) (cw : CallB R s args own index y bytes maxL ret wds rm 0 0 n ∧ (Cond.static y).before args s = true)
    (hN : NW s) (hK : va_K D vwCl (tyW cy) s) (hP : va_P D vwCl ws H) (hD : va_D A0 ws) (hS : va_S A0 H0 H locs) (hA : ∀ q, H0.size ≤ q → A0 q) (hf : w1.map Prod.fst = ws.map Prod.fst)
    (hn : As.length = n) (hsize : ls.size = nL) (hst : st0 = As.reverse ++ rest) (hW : (rest.map fun v => v.category).sum ≤ 8) (hdg : decode cc pc = .ok (.invokestatic index, 3)) (hcl : cells ≤ R.cells ∧ slots ≤ R.slots)
    (kk : ∀ (H1 : Heap) (locs1 : List Loc), va_P D vwCl w1 H1 → va_D A0 w1 → va_S A0 H0 H1 locs1 → W p l e R s m args below meth c H1 locs1 cells slots Q (F0 m (pc + 3) ls (rest))) : W p l e R s m args below meth c H locs cells slots Q (F0 m pc ls st0) := by
  have hF := va_free1 hD hS hA
  have hPc : va_P D vwCl ws H := hP
  have hDc : va_D (fun _ => True) ws := hD.weaken (fun _ _ _ _ => trivial)
  refine va_callv (va_runS S hM cw ⟨cP_bl, fun U hU hWm => ⟨rfl, by rw [hU], by rw [hU]; exact hPc, va_K.moved hWm.alike hK, hDc, NW.warm hWm hN⟩⟩ rfl hn hsize hst (lv_room hW) hdg hcl) hS (fun q _ h => hF q h) hF (fun u t H1 locs1 ht hvm hw hB hz1 hk1 hS1 => ?_)
  obtain ⟨hP1, _⟩ := hB
  rw [ht] at hP1
  obtain ⟨hP2, hD2⟩ := w_fr1 hD hP1 hf
  skip
  exact kk H1 locs1 hP2 hD2 hS1
theorem newI {S : Type} {post : S → Prop} {wf : S → va_W} {wr : va_W} {mc ms : Nat} {host : String} (S0 : CallFix p m c cc nL s args Ts own) (hM : Met l y wds rm (cP D cy (.ref b :: As) wc H.size) (va_Qv post (fun (u : S) t => va_P D vwCl (wf u) t.heap ∧ va_K D vwCl (tyW cy) t ∧ va_D (va_A wc H.size) (wf u)) (va_A wc H.size)) mc ms (va_A wc H.size)) (cw : CallB R s args own index y bytes maxL none wds rm mc ms n ∧ y.name = "<init>" ∧ (Cond.instanceMethod y).before args s = true)
    (hN : NW s) (hK : va_K D vwCl (tyW cy) s) (hP : va_P D vwCl ws H) (hD : va_D A0 ws) (hS : va_S A0 H0 H locs) (hA : ∀ q, H0.size ≤ q → A0 q) (is isR : List Nat) (hnd : va_nd is = true) (hC : is.map (fun i => ws[i]?) = wc.map some) (hR : isR.map (fun i => ws[i]?) = wr.map some) (hn2 : va_nd isR = true) (hdis : ∀ i ∈ isR, i ∉ is)
    (hn : As.length = n) (hsize : ls.size = nL) (hst : st0 = As.reverse ++ .ref b :: rest) (hW : (rest.map fun v => v.category).sum ≤ 8) (hdg : decode cc pc = .ok (.invokespecial index, 3)) (hcl : cells + mc ≤ R.cells ∧ slots + ms ≤ R.slots)
    (kk : ∀ (u : S) (H1 : Heap) (locs1 : List Loc), post u → va_P D vwCl (wr ++ wf u) H1 → va_D A0 (wr ++ wf u) → va_S A0 H0 H1 locs1 → W p l e R s m args below meth c H1 locs1 (cells + mc) (slots + ms) Q (F0 m (pc + 3) ls rest)) : W p l e R s m args below meth c H locs cells slots Q (F0 m pc ls st0) := by
  have hF := va_free (wc := wc) hD hS hA is hC
  have hPc : va_P D vwCl wc H := w_sub hP hC
  have hDc : va_D (fun _ => True) wc := (hD.sub is hnd hC).weaken (fun _ _ _ _ => trivial)
  refine va_callv (va_runI S0 hM cw ⟨cP_bl, fun U hU hWm => ⟨rfl, by rw [hU], by rw [hU]; exact hPc, va_K.moved hWm.alike hK, hDc, NW.warm hWm hN⟩⟩ rfl hn hsize hst (lv_room hW) hdg hcl) hS (fun q _ h => hF q h) hF (fun u t H1 locs1 ht hvm hw hB hz1 hk1 hS1 => ?_)
  obtain ⟨hP1, _, hD1⟩ := hB
  rw [ht] at hP1
  obtain ⟨hP2, hD2⟩ := va_join (wr := wr) (w1 := wf u) hP hD is isR hC hR hn2 hdis hk1 hF hP1 hD1
  exact kk u H1 locs1 hw hP2 hD2 hS1
theorem newIN {S : Type} {post : S → Prop} {wf : S → va_W} {wr : va_W} {mc ms : Nat} {host : String} (S0 : CallFix p m c cc nL s args Ts own) (hM : Met l y wds rm (cP D cy (.ref b :: As) wc H.size) (va_Qv post (fun (u : S) t => va_P D vwCl (wf u) t.heap ∧ va_K D vwCl (tyW cy) t ∧ va_D (va_A wc H.size) (wf u)) (va_A wc H.size)) mc ms (va_A wc H.size)) (cw : va_CN R s args own index y host bytes maxL none wds rm mc ms n ∧ y.name = "<init>" ∧ (Cond.instanceMethod y).before args s = true)
    (hN : NW s) (hK : va_K D vwCl (tyW cy) s) (hP : va_P D vwCl ws H) (hD : va_D A0 ws) (hS : va_S A0 H0 H locs) (hA : ∀ q, H0.size ≤ q → A0 q) (is isR : List Nat) (hnd : va_nd is = true) (hC : is.map (fun i => ws[i]?) = wc.map some) (hR : isR.map (fun i => ws[i]?) = wr.map some) (hn2 : va_nd isR = true) (hdis : ∀ i ∈ isR, i ∉ is)
    (hn : As.length = n) (hsize : ls.size = nL) (hst : st0 = As.reverse ++ .ref b :: rest) (hW : (rest.map fun v => v.category).sum ≤ 8) (hdg : decode cc pc = .ok (.invokespecial index, 3)) (hcl : cells + mc ≤ R.cells ∧ slots + ms ≤ R.slots)
    (kk : ∀ (u : S) (H1 : Heap) (locs1 : List Loc), post u → va_P D vwCl (wr ++ wf u) H1 → va_D A0 (wr ++ wf u) → va_S A0 H0 H1 locs1 → W p l e R s m args below meth c H1 locs1 (cells + mc) (slots + ms) Q (F0 m (pc + 3) ls rest)) : W p l e R s m args below meth c H locs cells slots Q (F0 m pc ls st0) := by
  have hF := va_free (wc := wc) hD hS hA is hC
  have hPc : va_P D vwCl wc H := w_sub hP hC
  have hDc : va_D (fun _ => True) wc := (hD.sub is hnd hC).weaken (fun _ _ _ _ => trivial)
  refine va_callv (va_runIN S0 hM cw ⟨cP_bl, fun U hU hWm => ⟨rfl, by rw [hU], by rw [hU]; exact hPc, va_K.moved hWm.alike hK, hDc, NW.warm hWm hN⟩⟩ rfl hn hsize hst (lv_room hW) hdg hcl) hS (fun q _ h => hF q h) hF (fun u t H1 locs1 ht hvm hw hB hz1 hk1 hS1 => ?_)
  obtain ⟨hP1, _, hD1⟩ := hB
  rw [ht] at hP1
  obtain ⟨hP2, hD2⟩ := va_join (wr := wr) (w1 := wf u) hP hD is isR hC hR hn2 hdis hk1 hF hP1 hD1
  exact kk u H1 locs1 hw hP2 hD2 hS1
theorem cy_eq {tys : List (ClassId × FieldType)} {cA : ClassId} {ty : FieldType} (hty : ∀ C, ty ≠ .object C) (hK : va_K D vwCl tys s) {i j : Nat} {c1 c2 : ClassId} (h1 : tys[i]? = some (c1, ty)) (h2 : tys[j]? = some (c2, ty)) : c1 = c2 := by
  have e1 := (hK.2 i _ h1).2
  have e2 := (hK.2 j _ h2).2
  cases ty with
  | object C => exact absurd rfl (hty C)
  | _ =>
    have e1 : s.vm.findClass _ = some c1 := e1
    have e2 : s.vm.findClass _ = some c2 := e2
    exact Option.some.inj (e1.symm.trans e2)
end CALLS
