def f_M_areLike_153 (N : Nat) (aM8 : Nat → Int32) (aM9 : Nat → Int32) (aM10 : Nat → Int32) (aM50 : Nat → Int32) (aM51 : Nat → Int32) (k19 : Int32 → Int32 → (Nat → Int32) → (Nat → Int32) → Option (Int32 × (Nat → Int32) × (Nat → Int32))) (v3 : Int32) (v5 : Int32) (v6 : Int32) (s0 : Int32) (x_aM50 : Nat → Int32) (x_aM51 : Nat → Int32) : Option (Int32 × (Nat → Int32) × (Nat → Int32)) := if v5 < 0 ∨ 400 ≤ v5.toNatClampNeg then none else (if v3 < 0 ∨ 400 ≤ v3.toNatClampNeg then none else (if v6 < 0 ∨ 400 ≤ v6.toNatClampNeg then none else (k19 ((v3 + (1 : Int32))) s0 ((upd x_aM50 v3.toNatClampNeg ((aM10 v5.toNatClampNeg)))) ((upd x_aM51 v3.toNatClampNeg ((aM10 v6.toNatClampNeg)))))))
def f_M_areLike_131 (N : Nat) (aM8 : Nat → Int32) (aM9 : Nat → Int32) (aM10 : Nat → Int32) (aM50 : Nat → Int32) (aM51 : Nat → Int32) (k19 : Int32 → Int32 → (Nat → Int32) → (Nat → Int32) → Option (Int32 × (Nat → Int32) × (Nat → Int32))) (v3 : Int32) (v5 : Int32) (v6 : Int32) (x_aM50 : Nat → Int32) (x_aM51 : Nat → Int32) : Option (Int32 × (Nat → Int32) × (Nat → Int32)) := if v5 < 0 ∨ 400 ≤ v5.toNatClampNeg then none else (if v6 < 0 ∨ 400 ≤ v6.toNatClampNeg then none else (if (aM9 v5.toNatClampNeg) = (aM9 v6.toNatClampNeg) then (f_M_areLike_153 N aM8 aM9 aM10 aM50 aM51 k19 v3 v5 v6 ((1 : Int32)) x_aM50 x_aM51) else (f_M_areLike_153 N aM8 aM9 aM10 aM50 aM51 k19 v3 v5 v6 ((0 : Int32)) x_aM50 x_aM51)))
def f_M_areLike_199 (N : Nat) (aM8 : Nat → Int32) (aM9 : Nat → Int32) (aM10 : Nat → Int32) (aM50 : Nat → Int32) (aM51 : Nat → Int32) (k19 : Int32 → Int32 → (Nat → Int32) → (Nat → Int32) → Option (Int32 × (Nat → Int32) × (Nat → Int32))) (v3 : Int32) (v4 : Int32) (v5 : Int32) (v6 : Int32) (v7 : Int32) (x_aM50 : Nat → Int32) (x_aM51 : Nat → Int32) : Option (Int32 × (Nat → Int32) × (Nat → Int32)) := if v5 < 0 ∨ 400 ≤ v5.toNatClampNeg then none else (if v3 < 0 ∨ 400 ≤ v3.toNatClampNeg then none else (if v6 < 0 ∨ 400 ≤ v6.toNatClampNeg then none else (if v7 ≤ (5 : Int32) then (k19 ((v3 + (1 : Int32))) v4 ((upd x_aM50 v3.toNatClampNeg ((aM10 v5.toNatClampNeg)))) ((upd x_aM51 v3.toNatClampNeg ((aM10 v6.toNatClampNeg))))) else (if (v3 + (1 : Int32)) < 0 ∨ 400 ≤ ((v3 + (1 : Int32))).toNatClampNeg then none else (k19 (((v3 + (1 : Int32)) + (1 : Int32))) v4 ((upd ((upd x_aM50 v3.toNatClampNeg ((aM10 v5.toNatClampNeg)))) ((v3 + (1 : Int32))).toNatClampNeg ((aM9 v5.toNatClampNeg)))) ((upd ((upd x_aM51 v3.toNatClampNeg ((aM10 v6.toNatClampNeg)))) ((v3 + (1 : Int32))).toNatClampNeg ((aM9 v6.toNatClampNeg)))))))))
def f_M_areLike_69 (N : Nat) (aM8 : Nat → Int32) (aM9 : Nat → Int32) (aM10 : Nat → Int32) (aM50 : Nat → Int32) (aM51 : Nat → Int32) (k19 : Int32 → Int32 → (Nat → Int32) → (Nat → Int32) → Option (Int32 × (Nat → Int32) × (Nat → Int32))) (v3 : Int32) (v5 : Int32) (v6 : Int32) (s0 : Int32) (x_aM50 : Nat → Int32) (x_aM51 : Nat → Int32) : Option (Int32 × (Nat → Int32) × (Nat → Int32)) := if s0 = 0 then (some ((0 : Int32), x_aM50, x_aM51)) else (if v5 < 0 ∨ 400 ≤ v5.toNatClampNeg then none else (if (aM8 v5.toNatClampNeg) = 0 then (if v6 < 0 ∨ 400 ≤ v6.toNatClampNeg then none else (if (aM9 v5.toNatClampNeg) = (aM9 v6.toNatClampNeg) then (k19 v3 ((1 : Int32)) x_aM50 x_aM51) else (k19 v3 ((0 : Int32)) x_aM50 x_aM51))) else (if (aM8 v5.toNatClampNeg) = (4 : Int32) then (f_M_areLike_131 N aM8 aM9 aM10 aM50 aM51 k19 v3 v5 v6 x_aM50 x_aM51) else (if (aM8 v5.toNatClampNeg) = (5 : Int32) then (f_M_areLike_131 N aM8 aM9 aM10 aM50 aM51 k19 v3 v5 v6 x_aM50 x_aM51) else (if (aM8 v5.toNatClampNeg) = (3 : Int32) then (f_M_areLike_199 N aM8 aM9 aM10 aM50 aM51 k19 v3 s0 v5 v6 ((aM8 v5.toNatClampNeg)) x_aM50 x_aM51) else (if (aM8 v5.toNatClampNeg) ≤ (5 : Int32) then (k19 v3 s0 x_aM50 x_aM51) else (f_M_areLike_199 N aM8 aM9 aM10 aM50 aM51 k19 v3 s0 v5 v6 ((aM8 v5.toNatClampNeg)) x_aM50 x_aM51)))))))
def f_M_areLike_19 (N : Nat) (aM8 : Nat → Int32) (aM9 : Nat → Int32) (aM10 : Nat → Int32) (aM50 : Nat → Int32) (aM51 : Nat → Int32)  : Nat → Int32 → Int32 → (Nat → Int32) → (Nat → Int32) → Option (Int32 × (Nat → Int32) × (Nat → Int32))
  | 0, _, _, _, _ => none
  | n + 1, v3, v4, x_aM50, x_aM51 => if v3 ≤ 0 then (if vp_nar .boolean v4 = v4 then (some (v4, x_aM50, x_aM51)) else none) else (if v4 = 0 then (if vp_nar .boolean v4 = v4 then (some (v4, x_aM50, x_aM51)) else none) else (if (v3 + (-1 : Int32)) < 0 ∨ 400 ≤ ((v3 + (-1 : Int32))).toNatClampNeg then none else (if (x_aM50 ((v3 + (-1 : Int32))).toNatClampNeg) < 0 ∨ 400 ≤ ((x_aM50 ((v3 + (-1 : Int32))).toNatClampNeg)).toNatClampNeg then none else (if (x_aM51 ((v3 + (-1 : Int32))).toNatClampNeg) < 0 ∨ 400 ≤ ((x_aM51 ((v3 + (-1 : Int32))).toNatClampNeg)).toNatClampNeg then none else (if (aM8 ((x_aM50 ((v3 + (-1 : Int32))).toNatClampNeg)).toNatClampNeg) = (aM8 ((x_aM51 ((v3 + (-1 : Int32))).toNatClampNeg)).toNatClampNeg) then (f_M_areLike_69 N aM8 aM9 aM10 aM50 aM51 (f_M_areLike_19 N aM8 aM9 aM10 aM50 aM51 n) ((v3 + (-1 : Int32))) ((x_aM50 ((v3 + (-1 : Int32))).toNatClampNeg)) ((x_aM51 ((v3 + (-1 : Int32))).toNatClampNeg)) ((1 : Int32)) x_aM50 x_aM51) else (f_M_areLike_69 N aM8 aM9 aM10 aM50 aM51 (f_M_areLike_19 N aM8 aM9 aM10 aM50 aM51 n) ((v3 + (-1 : Int32))) ((x_aM50 ((v3 + (-1 : Int32))).toNatClampNeg)) ((x_aM51 ((v3 + (-1 : Int32))).toNatClampNeg)) ((0 : Int32)) x_aM50 x_aM51))))))
def f_M_areLike (N : Nat) (a1 : Int32) (a2 : Int32) (aM8 : Nat → Int32) (aM9 : Nat → Int32) (aM10 : Nat → Int32) (aM50 : Nat → Int32) (aM51 : Nat → Int32) : Option (Int32 × (Nat → Int32) × (Nat → Int32)) := f_M_areLike_19 N aM8 aM9 aM10 aM50 aM51 N ((1 : Int32)) ((1 : Int32)) ((upd aM50 ((0 : Int32)).toNatClampNeg a1)) ((upd aM51 ((0 : Int32)).toNatClampNeg a2))
set_option maxHeartbeats 8000000 in
set_option maxRecDepth 100000 in
theorem c_M_areLike (l : Launch) (dC : Nat → ClassId) (dI : Nat → Nat → Nat) (cy : Nat → ClassId) (ad : Nat → Nat) (sz : Nat) (N : Nat) (a1 : Int32) (a2 : Int32) (iM : Nat → Int32) (aM : Nat → Nat → Int32) (q : Int32 × (Nat → Int32) × (Nat → Int32)) (h : f_M_areLike N a1 a2 (aM 8) (aM 9) (aM 10) (aM 50) (aM 51) = some q) : Met l yX8_areLike wsX8_areLike ({ frames := 0, cells := 0, slots := 0, locals := 0 } : Room) (cP (dC, dI) cy [.ref (ad 0), .int a1, .int a2] (zzM ad cy iM aM) sz) (cQi (dC, dI) cy q.1 (zzM ad cy iM (us aM [(50, q.2.1), (51, q.2.2)])) (va_A (zzM ad cy iM aM) sz)) 0 0 (va_A (zzM ad cy iM aM) sz) := by
  refine Met.ofW (cc := cX8_areLike) (maxL := 8) (ret := (some .boolean)) (by decide) rfl ?_
  intro p e s m args below meth c s₁ B hml hv
  obtain ⟨hav, hsz, hP, hK, hD0, hN⟩ := hv
  have hx := B.exec
  have hb := B.bytes
  have hr := B.returns
  have hts := atoms_spec (ws := wsX8_areLike) B.pre
  have hown : s.vm.findClass RX8 = some m.cls := findClass_of_methodNamed B.named
  have hlocks := B.notSynchronized
  subst hsz
  have hD := hD0.self (sz := s.heap.size)
  generalize hAe : va_A (zzM ad cy iM aM) s.heap.size = A at hD ⊢
  have hA : ∀ q : Nat, s.heap.size ≤ q → A q := fun q h => by rw [← hAe]; exact Or.inr h
  have hS : va_S A s.heap s.heap [] := va_S.rf
  generalize hWQ : (zzM ad cy iM (us aM [(50, q.2.1), (51, q.2.2)])) = WQ
  generalize hQQ : MQ below (cQi (dC, dI) cy q.1 WQ A) args s 0 0 A = QQ
  have hl := lv_entry ([.ref (ad 0), .int a1, .int a2] : List Value) (n := 8) (Nat.le_of_ble_eq_true rfl)
  have hfr := lg_entry_eq m ([.ref (ad 0), .int a1, .int a2] : List Value) 8
  rw [← hav] at hfr
  rw [hfr]
  clear hfr hav
  generalize (lg_sl ([.ref (ad 0), .int a1, .int a2] : List Value) ++ List.replicate (8 - (lg_sl ([.ref (ad 0), .int a1, .int a2] : List Value)).length) Slot.unset).toArray = ls at hl ⊢
  have hl : lv_has ls 8 [(0, .ref (ad 0)), (1, .int a1), (2, .int a2)] := hl
  have kf89 := hts _ (List.mem_cons_of_mem _ m_fl_X8_89)
  have ki8 := (fun w h => List.mem_cons_of_mem _ (i_X8 w h) : ∀ w ∈ u_ws RX8 TX8 78, w ∈ wsX8_areLike)
  have kf24 := hts _ (List.mem_cons_of_mem _ m_fl_X8_24)
  have kf92 := hts _ (List.mem_cons_of_mem _ m_fl_X8_92)
  have kf21 := hts _ (List.mem_cons_of_mem _ m_fl_X8_21)
  have kf17 := hts _ (List.mem_cons_of_mem _ m_fl_X8_17)
  refine (?_ : ∀ (H : Heap) (locs : List Loc), va_P (dC, dI) vwCl (zzM ad cy iM aM) H → va_D A (zzM ad cy iM aM) → va_S A s.heap H locs → W p l e ({ frames := 0, cells := 0, slots := 0, locals := 0 } : Room) s m args below meth c H locs 0 0 QQ (F0 m 0 ls [])) s.heap [] hP hD hS
  clear hP hD hS
  have B153 : ∀ (v3 : Int32) (v5 : Int32) (v6 : Int32) (s0 : Int32) (x_aM50 : Nat → Int32) (x_aM51 : Nat → Int32) (k19 : Int32 → Int32 → (Nat → Int32) → (Nat → Int32) → Option (Int32 × (Nat → Int32) × (Nat → Int32))) (hk19 : ∀ (v3' : Int32) (v4' : Int32) (x_aM50' : Nat → Int32) (x_aM51' : Nat → Int32) (H : Heap) (locs : List Loc) (ls : Array Slot), k19 v3' v4' x_aM50' x_aM51' = some q → va_P (dC, dI) vwCl (zzM ad cy iM (us aM [(50, x_aM50'), (51, x_aM51')])) H → va_D A (zzM ad cy iM (us aM [(50, x_aM50'), (51, x_aM51')])) → va_S A s.heap H locs → lv_has ls 8 [(0, .ref (ad 0)), (3, .int v3'), (4, .int v4')] → W p l e ({ frames := 0, cells := 0, slots := 0, locals := 0 } : Room) s m args below meth c H locs 0 0 QQ (F0 m 19 ls [])) (H : Heap) (locs : List Loc) (ls : Array Slot), f_M_areLike_153 N (aM 8) (aM 9) (aM 10) (aM 50) (aM 51) k19 v3 v5 v6 s0 x_aM50 x_aM51 = some q → va_P (dC, dI) vwCl (zzM ad cy iM (us aM [(50, x_aM50), (51, x_aM51)])) H → va_D A (zzM ad cy iM (us aM [(50, x_aM50), (51, x_aM51)])) → va_S A s.heap H locs → lv_has ls 8 [(0, .ref (ad 0)), (3, .int v3), (5, .int v5), (6, .int v6)] → W p l e ({ frames := 0, cells := 0, slots := 0, locals := 0 } : Room) s m args below meth c H locs 0 0 QQ (F0 m 153 ls [.int s0]) := by
    intro v3 v5 v6 s0 x_aM50 x_aM51 k19 hk19 H locs ls h hP hD hS hl
    unfold f_M_areLike_153 at h
    refine lv_istore (lv' := [(4, .int s0), (0, .ref (ad 0)), (3, .int v3), (5, .int v5), (6, .int v6)]) hx hb dX8_areLike_153 hl (by decide) rfl (fun ls hl => ?_)
    refine lv_aload_n hx hb dX8_areLike_155 rfl (lv_at hl 1 rfl) ?_
    refine va_get (D := (dC, dI)) (ci := 8) (v := .ref (ad 25)) (C := RX8) (T := TX8) (N := 78) hx hb hts ki8 hown hK hP 0 rfl rfl 50 (by decide) kf89 (fun _ h9 => h9) rfl dX8_areLike_156 ?_
    refine lv_iload_n hx hb dX8_areLike_159 rfl (lv_at hl 2 rfl) ?_
    refine lv_aload_n hx hb dX8_areLike_160 rfl (lv_at hl 1 rfl) ?_
    refine va_get (D := (dC, dI)) (ci := 8) (v := .ref (ad 5)) (C := RX8) (T := TX8) (N := 78) hx hb hts ki8 hown hK hP 0 rfl rfl 10 (by decide) kf24 (fun _ h9 => h9) rfl dX8_areLike_161 ?_
    refine lv_iload hx hb dX8_areLike_164 (lv_at hl 3 rfl) ?_
    obtain ⟨g_67, h⟩ := g_n h
    refine va_iald (f := (aM 10)) hx hb hK hP 5 0 rfl rfl g_67 dX8_areLike_166 ?_
    obtain ⟨g_68, h⟩ := g_n h
    refine va_iast (f := x_aM50) hx hb hK hP hD hS 25 0 rfl rfl g_68 dX8_areLike_167 (fun H locs hP hD hS => ?_)
    have hP : va_P (dC, dI) vwCl (zzM ad cy iM (us aM [(50, (upd x_aM50 v3.toNatClampNeg (((aM 10) v5.toNatClampNeg)))), (51, x_aM51)])) H := Eq.mp (congrArg (fun w => va_P (dC, dI) vwCl w H) (stM_aM50 ad cy iM aM [(50, x_aM50), (51, x_aM51)] ((upd x_aM50 v3.toNatClampNeg (((aM 10) v5.toNatClampNeg)))))) hP
    have hD : va_D A (zzM ad cy iM (us aM [(50, (upd x_aM50 v3.toNatClampNeg (((aM 10) v5.toNatClampNeg)))), (51, x_aM51)])) := Eq.mp (congrArg (fun w => va_D A w) (stM_aM50 ad cy iM aM [(50, x_aM50), (51, x_aM51)] ((upd x_aM50 v3.toNatClampNeg (((aM 10) v5.toNatClampNeg)))))) hD
    refine lv_aload_n hx hb dX8_areLike_168 rfl (lv_at hl 1 rfl) ?_
    refine va_get (D := (dC, dI)) (ci := 8) (v := .ref (ad 26)) (C := RX8) (T := TX8) (N := 78) hx hb hts ki8 hown hK hP 0 rfl rfl 51 (by decide) kf92 (fun _ h9 => h9) rfl dX8_areLike_169 ?_
    refine lv_iload_n hx hb dX8_areLike_172 rfl (lv_at hl 2 rfl) ?_
    refine lv_aload_n hx hb dX8_areLike_173 rfl (lv_at hl 1 rfl) ?_
    refine va_get (D := (dC, dI)) (ci := 8) (v := .ref (ad 5)) (C := RX8) (T := TX8) (N := 78) hx hb hts ki8 hown hK hP 0 rfl rfl 10 (by decide) kf24 (fun _ h9 => h9) rfl dX8_areLike_174 ?_
    refine lv_iload hx hb dX8_areLike_177 (lv_at hl 4 rfl) ?_
    obtain ⟨g_69, h⟩ := g_n h
    refine va_iald (f := (aM 10)) hx hb hK hP 5 0 rfl rfl g_69 dX8_areLike_179 ?_
    refine va_iast (f := x_aM51) hx hb hK hP hD hS 26 0 rfl rfl g_68 dX8_areLike_180 (fun H locs hP hD hS => ?_)
    have hP : va_P (dC, dI) vwCl (zzM ad cy iM (us aM [(50, (upd x_aM50 v3.toNatClampNeg (((aM 10) v5.toNatClampNeg)))), (51, (upd x_aM51 v3.toNatClampNeg (((aM 10) v6.toNatClampNeg))))])) H := Eq.mp (congrArg (fun w => va_P (dC, dI) vwCl w H) (stM_aM51 ad cy iM aM [(50, (upd x_aM50 v3.toNatClampNeg (((aM 10) v5.toNatClampNeg)))), (51, x_aM51)] ((upd x_aM51 v3.toNatClampNeg (((aM 10) v6.toNatClampNeg)))))) hP
    have hD : va_D A (zzM ad cy iM (us aM [(50, (upd x_aM50 v3.toNatClampNeg (((aM 10) v5.toNatClampNeg)))), (51, (upd x_aM51 v3.toNatClampNeg (((aM 10) v6.toNatClampNeg))))])) := Eq.mp (congrArg (fun w => va_D A w) (stM_aM51 ad cy iM aM [(50, (upd x_aM50 v3.toNatClampNeg (((aM 10) v5.toNatClampNeg)))), (51, x_aM51)] ((upd x_aM51 v3.toNatClampNeg (((aM 10) v6.toNatClampNeg)))))) hD
    refine lv_iinc (v := (v3 + (1 : Int32))) (lv' := [(3, .int ((v3 + (1 : Int32)))), (4, .int s0), (0, .ref (ad 0)), (5, .int v5), (6, .int v6)]) hx hb dX8_areLike_181 hl (k := 2) rfl rfl (by decide) rfl (fun ls hl => ?_)
    refine lv_goto (tgt := 263) hx hb dX8_areLike_184 (by decide) ?_
    refine lv_goto (tgt := 19) hx hb dX8_areLike_263 (by decide) ?_
    exact hk19 ((v3 + (1 : Int32))) s0 ((upd x_aM50 v3.toNatClampNeg (((aM 10) v5.toNatClampNeg)))) ((upd x_aM51 v3.toNatClampNeg (((aM 10) v6.toNatClampNeg)))) H locs ls h hP hD hS (lv_sub hl [2, 0, 1] rfl)
  have B131 : ∀ (v3 : Int32) (v5 : Int32) (v6 : Int32) (x_aM50 : Nat → Int32) (x_aM51 : Nat → Int32) (k19 : Int32 → Int32 → (Nat → Int32) → (Nat → Int32) → Option (Int32 × (Nat → Int32) × (Nat → Int32))) (hk19 : ∀ (v3' : Int32) (v4' : Int32) (x_aM50' : Nat → Int32) (x_aM51' : Nat → Int32) (H : Heap) (locs : List Loc) (ls : Array Slot), k19 v3' v4' x_aM50' x_aM51' = some q → va_P (dC, dI) vwCl (zzM ad cy iM (us aM [(50, x_aM50'), (51, x_aM51')])) H → va_D A (zzM ad cy iM (us aM [(50, x_aM50'), (51, x_aM51')])) → va_S A s.heap H locs → lv_has ls 8 [(0, .ref (ad 0)), (3, .int v3'), (4, .int v4')] → W p l e ({ frames := 0, cells := 0, slots := 0, locals := 0 } : Room) s m args below meth c H locs 0 0 QQ (F0 m 19 ls [])) (H : Heap) (locs : List Loc) (ls : Array Slot), f_M_areLike_131 N (aM 8) (aM 9) (aM 10) (aM 50) (aM 51) k19 v3 v5 v6 x_aM50 x_aM51 = some q → va_P (dC, dI) vwCl (zzM ad cy iM (us aM [(50, x_aM50), (51, x_aM51)])) H → va_D A (zzM ad cy iM (us aM [(50, x_aM50), (51, x_aM51)])) → va_S A s.heap H locs → lv_has ls 8 [(0, .ref (ad 0)), (3, .int v3), (5, .int v5), (6, .int v6)] → W p l e ({ frames := 0, cells := 0, slots := 0, locals := 0 } : Room) s m args below meth c H locs 0 0 QQ (F0 m 131 ls []) := by
    intro v3 v5 v6 x_aM50 x_aM51 k19 hk19 H locs ls h hP hD hS hl
    unfold f_M_areLike_131 at h
    refine lv_aload_n hx hb dX8_areLike_131 rfl (lv_at hl 0 rfl) ?_
    refine va_get (D := (dC, dI)) (ci := 8) (v := .ref (ad 4)) (C := RX8) (T := TX8) (N := 78) hx hb hts ki8 hown hK hP 0 rfl rfl 9 (by decide) kf21 (fun _ h9 => h9) rfl dX8_areLike_132 ?_
    refine lv_iload hx hb dX8_areLike_135 (lv_at hl 2 rfl) ?_
    obtain ⟨g_67, h⟩ := g_n h
    refine va_iald (f := (aM 9)) hx hb hK hP 4 0 rfl rfl g_67 dX8_areLike_137 ?_
    refine lv_aload_n hx hb dX8_areLike_138 rfl (lv_at hl 0 rfl) ?_
    refine va_get (D := (dC, dI)) (ci := 8) (v := .ref (ad 4)) (C := RX8) (T := TX8) (N := 78) hx hb hts ki8 hown hK hP 0 rfl rfl 9 (by decide) kf21 (fun _ h9 => h9) rfl dX8_areLike_139 ?_
    refine lv_iload hx hb dX8_areLike_142 (lv_at hl 3 rfl) ?_
    obtain ⟨g_69, h⟩ := g_n h
    refine va_iald (f := (aM 9)) hx hb hK hP 4 0 rfl rfl g_69 dX8_areLike_144 ?_
    refine lv_icmp_ne (tgt := 152) hx hb dX8_areLike_145 (by decide) (fun cz => ?_) (fun cz => ?_)
    · have h := g_f h cz
      refine lv_iconst (v := 0) hx hb dX8_areLike_152 (by decide) ?_
      exact B153 v3 v5 v6 ((0 : Int32)) x_aM50 x_aM51 k19 hk19 H locs ls h hP hD hS (lv_sub hl [0, 1, 2, 3] rfl)
    · have h := g_t h cz
      refine lv_iconst (v := 1) hx hb dX8_areLike_148 (by decide) ?_
      refine lv_goto (tgt := 153) hx hb dX8_areLike_149 (by decide) ?_
      exact B153 v3 v5 v6 ((1 : Int32)) x_aM50 x_aM51 k19 hk19 H locs ls h hP hD hS (lv_sub hl [0, 1, 2, 3] rfl)
  have B199 : ∀ (v3 : Int32) (v4 : Int32) (v5 : Int32) (v6 : Int32) (v7 : Int32) (x_aM50 : Nat → Int32) (x_aM51 : Nat → Int32) (k19 : Int32 → Int32 → (Nat → Int32) → (Nat → Int32) → Option (Int32 × (Nat → Int32) × (Nat → Int32))) (hk19 : ∀ (v3' : Int32) (v4' : Int32) (x_aM50' : Nat → Int32) (x_aM51' : Nat → Int32) (H : Heap) (locs : List Loc) (ls : Array Slot), k19 v3' v4' x_aM50' x_aM51' = some q → va_P (dC, dI) vwCl (zzM ad cy iM (us aM [(50, x_aM50'), (51, x_aM51')])) H → va_D A (zzM ad cy iM (us aM [(50, x_aM50'), (51, x_aM51')])) → va_S A s.heap H locs → lv_has ls 8 [(0, .ref (ad 0)), (3, .int v3'), (4, .int v4')] → W p l e ({ frames := 0, cells := 0, slots := 0, locals := 0 } : Room) s m args below meth c H locs 0 0 QQ (F0 m 19 ls [])) (H : Heap) (locs : List Loc) (ls : Array Slot), f_M_areLike_199 N (aM 8) (aM 9) (aM 10) (aM 50) (aM 51) k19 v3 v4 v5 v6 v7 x_aM50 x_aM51 = some q → va_P (dC, dI) vwCl (zzM ad cy iM (us aM [(50, x_aM50), (51, x_aM51)])) H → va_D A (zzM ad cy iM (us aM [(50, x_aM50), (51, x_aM51)])) → va_S A s.heap H locs → lv_has ls 8 [(0, .ref (ad 0)), (3, .int v3), (4, .int v4), (5, .int v5), (6, .int v6), (7, .int v7)] → W p l e ({ frames := 0, cells := 0, slots := 0, locals := 0 } : Room) s m args below meth c H locs 0 0 QQ (F0 m 199 ls []) := by
    intro v3 v4 v5 v6 v7 x_aM50 x_aM51 k19 hk19 H locs ls h hP hD hS hl
    unfold f_M_areLike_199 at h
    refine lv_aload_n hx hb dX8_areLike_199 rfl (lv_at hl 0 rfl) ?_
    refine va_get (D := (dC, dI)) (ci := 8) (v := .ref (ad 25)) (C := RX8) (T := TX8) (N := 78) hx hb hts ki8 hown hK hP 0 rfl rfl 50 (by decide) kf89 (fun _ h9 => h9) rfl dX8_areLike_200 ?_
    refine lv_iload_n hx hb dX8_areLike_203 rfl (lv_at hl 1 rfl) ?_
    refine lv_aload_n hx hb dX8_areLike_204 rfl (lv_at hl 0 rfl) ?_
    refine va_get (D := (dC, dI)) (ci := 8) (v := .ref (ad 5)) (C := RX8) (T := TX8) (N := 78) hx hb hts ki8 hown hK hP 0 rfl rfl 10 (by decide) kf24 (fun _ h9 => h9) rfl dX8_areLike_205 ?_
    refine lv_iload hx hb dX8_areLike_208 (lv_at hl 3 rfl) ?_
    obtain ⟨g_67, h⟩ := g_n h
    refine va_iald (f := (aM 10)) hx hb hK hP 5 0 rfl rfl g_67 dX8_areLike_210 ?_
    obtain ⟨g_68, h⟩ := g_n h
    refine va_iast (f := x_aM50) hx hb hK hP hD hS 25 0 rfl rfl g_68 dX8_areLike_211 (fun H locs hP hD hS => ?_)
    have hP : va_P (dC, dI) vwCl (zzM ad cy iM (us aM [(50, (upd x_aM50 v3.toNatClampNeg (((aM 10) v5.toNatClampNeg)))), (51, x_aM51)])) H := Eq.mp (congrArg (fun w => va_P (dC, dI) vwCl w H) (stM_aM50 ad cy iM aM [(50, x_aM50), (51, x_aM51)] ((upd x_aM50 v3.toNatClampNeg (((aM 10) v5.toNatClampNeg)))))) hP
    have hD : va_D A (zzM ad cy iM (us aM [(50, (upd x_aM50 v3.toNatClampNeg (((aM 10) v5.toNatClampNeg)))), (51, x_aM51)])) := Eq.mp (congrArg (fun w => va_D A w) (stM_aM50 ad cy iM aM [(50, x_aM50), (51, x_aM51)] ((upd x_aM50 v3.toNatClampNeg (((aM 10) v5.toNatClampNeg)))))) hD
    refine lv_aload_n hx hb dX8_areLike_212 rfl (lv_at hl 0 rfl) ?_
    refine va_get (D := (dC, dI)) (ci := 8) (v := .ref (ad 26)) (C := RX8) (T := TX8) (N := 78) hx hb hts ki8 hown hK hP 0 rfl rfl 51 (by decide) kf92 (fun _ h9 => h9) rfl dX8_areLike_213 ?_
    refine lv_iload_n hx hb dX8_areLike_216 rfl (lv_at hl 1 rfl) ?_
    refine lv_aload_n hx hb dX8_areLike_217 rfl (lv_at hl 0 rfl) ?_
    refine va_get (D := (dC, dI)) (ci := 8) (v := .ref (ad 5)) (C := RX8) (T := TX8) (N := 78) hx hb hts ki8 hown hK hP 0 rfl rfl 10 (by decide) kf24 (fun _ h9 => h9) rfl dX8_areLike_218 ?_
    refine lv_iload hx hb dX8_areLike_221 (lv_at hl 4 rfl) ?_
    obtain ⟨g_69, h⟩ := g_n h
    refine va_iald (f := (aM 10)) hx hb hK hP 5 0 rfl rfl g_69 dX8_areLike_223 ?_
    refine va_iast (f := x_aM51) hx hb hK hP hD hS 26 0 rfl rfl g_68 dX8_areLike_224 (fun H locs hP hD hS => ?_)
    have hP : va_P (dC, dI) vwCl (zzM ad cy iM (us aM [(50, (upd x_aM50 v3.toNatClampNeg (((aM 10) v5.toNatClampNeg)))), (51, (upd x_aM51 v3.toNatClampNeg (((aM 10) v6.toNatClampNeg))))])) H := Eq.mp (congrArg (fun w => va_P (dC, dI) vwCl w H) (stM_aM51 ad cy iM aM [(50, (upd x_aM50 v3.toNatClampNeg (((aM 10) v5.toNatClampNeg)))), (51, x_aM51)] ((upd x_aM51 v3.toNatClampNeg (((aM 10) v6.toNatClampNeg)))))) hP
    have hD : va_D A (zzM ad cy iM (us aM [(50, (upd x_aM50 v3.toNatClampNeg (((aM 10) v5.toNatClampNeg)))), (51, (upd x_aM51 v3.toNatClampNeg (((aM 10) v6.toNatClampNeg))))])) := Eq.mp (congrArg (fun w => va_D A w) (stM_aM51 ad cy iM aM [(50, (upd x_aM50 v3.toNatClampNeg (((aM 10) v5.toNatClampNeg)))), (51, x_aM51)] ((upd x_aM51 v3.toNatClampNeg (((aM 10) v6.toNatClampNeg)))))) hD
    refine lv_iinc (v := (v3 + (1 : Int32))) (lv' := [(3, .int ((v3 + (1 : Int32)))), (0, .ref (ad 0)), (4, .int v4), (5, .int v5), (6, .int v6), (7, .int v7)]) hx hb dX8_areLike_225 hl (k := 1) rfl rfl (by decide) rfl (fun ls hl => ?_)
    refine lv_iload hx hb dX8_areLike_228 (lv_at hl 5 rfl) ?_
    refine lv_iconst (v := 5) hx hb dX8_areLike_230 (by decide) ?_
    refine lv_icmp_le (tgt := 263) hx hb dX8_areLike_231 (by decide) (fun cz => ?_) (fun cz => ?_)
    · have h := g_t h cz
      refine lv_goto (tgt := 19) hx hb dX8_areLike_263 (by decide) ?_
      exact hk19 ((v3 + (1 : Int32))) v4 ((upd x_aM50 v3.toNatClampNeg (((aM 10) v5.toNatClampNeg)))) ((upd x_aM51 v3.toNatClampNeg (((aM 10) v6.toNatClampNeg)))) H locs ls h hP hD hS (lv_sub hl [1, 0, 2] rfl)
    · have h := g_f h cz
      refine lv_aload_n hx hb dX8_areLike_234 rfl (lv_at hl 1 rfl) ?_
      refine va_get (D := (dC, dI)) (ci := 8) (v := .ref (ad 25)) (C := RX8) (T := TX8) (N := 78) hx hb hts ki8 hown hK hP 0 rfl rfl 50 (by decide) kf89 (fun _ h9 => h9) rfl dX8_areLike_235 ?_
      refine lv_iload_n hx hb dX8_areLike_238 rfl (lv_at hl 0 rfl) ?_
      refine lv_aload_n hx hb dX8_areLike_239 rfl (lv_at hl 1 rfl) ?_
      refine va_get (D := (dC, dI)) (ci := 8) (v := .ref (ad 4)) (C := RX8) (T := TX8) (N := 78) hx hb hts ki8 hown hK hP 0 rfl rfl 9 (by decide) kf21 (fun _ h9 => h9) rfl dX8_areLike_240 ?_
      refine lv_iload hx hb dX8_areLike_243 (lv_at hl 3 rfl) ?_
      refine va_iald (f := (aM 9)) hx hb hK hP 4 0 rfl rfl g_67 dX8_areLike_245 ?_
      obtain ⟨g_70, h⟩ := g_n h
      refine va_iast (f := (upd x_aM50 v3.toNatClampNeg (((aM 10) v5.toNatClampNeg)))) hx hb hK hP hD hS 25 0 rfl rfl g_70 dX8_areLike_246 (fun H locs hP hD hS => ?_)
      have hP : va_P (dC, dI) vwCl (zzM ad cy iM (us aM [(50, (upd ((upd x_aM50 v3.toNatClampNeg (((aM 10) v5.toNatClampNeg)))) ((v3 + (1 : Int32))).toNatClampNeg (((aM 9) v5.toNatClampNeg)))), (51, (upd x_aM51 v3.toNatClampNeg (((aM 10) v6.toNatClampNeg))))])) H := Eq.mp (congrArg (fun w => va_P (dC, dI) vwCl w H) (stM_aM50 ad cy iM aM [(50, (upd x_aM50 v3.toNatClampNeg (((aM 10) v5.toNatClampNeg)))), (51, (upd x_aM51 v3.toNatClampNeg (((aM 10) v6.toNatClampNeg))))] ((upd ((upd x_aM50 v3.toNatClampNeg (((aM 10) v5.toNatClampNeg)))) ((v3 + (1 : Int32))).toNatClampNeg (((aM 9) v5.toNatClampNeg)))))) hP
      have hD : va_D A (zzM ad cy iM (us aM [(50, (upd ((upd x_aM50 v3.toNatClampNeg (((aM 10) v5.toNatClampNeg)))) ((v3 + (1 : Int32))).toNatClampNeg (((aM 9) v5.toNatClampNeg)))), (51, (upd x_aM51 v3.toNatClampNeg (((aM 10) v6.toNatClampNeg))))])) := Eq.mp (congrArg (fun w => va_D A w) (stM_aM50 ad cy iM aM [(50, (upd x_aM50 v3.toNatClampNeg (((aM 10) v5.toNatClampNeg)))), (51, (upd x_aM51 v3.toNatClampNeg (((aM 10) v6.toNatClampNeg))))] ((upd ((upd x_aM50 v3.toNatClampNeg (((aM 10) v5.toNatClampNeg)))) ((v3 + (1 : Int32))).toNatClampNeg (((aM 9) v5.toNatClampNeg)))))) hD
      refine lv_aload_n hx hb dX8_areLike_247 rfl (lv_at hl 1 rfl) ?_
      refine va_get (D := (dC, dI)) (ci := 8) (v := .ref (ad 26)) (C := RX8) (T := TX8) (N := 78) hx hb hts ki8 hown hK hP 0 rfl rfl 51 (by decide) kf92 (fun _ h9 => h9) rfl dX8_areLike_248 ?_
      refine lv_iload_n hx hb dX8_areLike_251 rfl (lv_at hl 0 rfl) ?_
      refine lv_aload_n hx hb dX8_areLike_252 rfl (lv_at hl 1 rfl) ?_
      refine va_get (D := (dC, dI)) (ci := 8) (v := .ref (ad 4)) (C := RX8) (T := TX8) (N := 78) hx hb hts ki8 hown hK hP 0 rfl rfl 9 (by decide) kf21 (fun _ h9 => h9) rfl dX8_areLike_253 ?_
      refine lv_iload hx hb dX8_areLike_256 (lv_at hl 4 rfl) ?_
      refine va_iald (f := (aM 9)) hx hb hK hP 4 0 rfl rfl g_69 dX8_areLike_258 ?_
      refine va_iast (f := (upd x_aM51 v3.toNatClampNeg (((aM 10) v6.toNatClampNeg)))) hx hb hK hP hD hS 26 0 rfl rfl g_70 dX8_areLike_259 (fun H locs hP hD hS => ?_)
      have hP : va_P (dC, dI) vwCl (zzM ad cy iM (us aM [(50, (upd ((upd x_aM50 v3.toNatClampNeg (((aM 10) v5.toNatClampNeg)))) ((v3 + (1 : Int32))).toNatClampNeg (((aM 9) v5.toNatClampNeg)))), (51, (upd ((upd x_aM51 v3.toNatClampNeg (((aM 10) v6.toNatClampNeg)))) ((v3 + (1 : Int32))).toNatClampNeg (((aM 9) v6.toNatClampNeg))))])) H := Eq.mp (congrArg (fun w => va_P (dC, dI) vwCl w H) (stM_aM51 ad cy iM aM [(50, (upd ((upd x_aM50 v3.toNatClampNeg (((aM 10) v5.toNatClampNeg)))) ((v3 + (1 : Int32))).toNatClampNeg (((aM 9) v5.toNatClampNeg)))), (51, (upd x_aM51 v3.toNatClampNeg (((aM 10) v6.toNatClampNeg))))] ((upd ((upd x_aM51 v3.toNatClampNeg (((aM 10) v6.toNatClampNeg)))) ((v3 + (1 : Int32))).toNatClampNeg (((aM 9) v6.toNatClampNeg)))))) hP
      have hD : va_D A (zzM ad cy iM (us aM [(50, (upd ((upd x_aM50 v3.toNatClampNeg (((aM 10) v5.toNatClampNeg)))) ((v3 + (1 : Int32))).toNatClampNeg (((aM 9) v5.toNatClampNeg)))), (51, (upd ((upd x_aM51 v3.toNatClampNeg (((aM 10) v6.toNatClampNeg)))) ((v3 + (1 : Int32))).toNatClampNeg (((aM 9) v6.toNatClampNeg))))])) := Eq.mp (congrArg (fun w => va_D A w) (stM_aM51 ad cy iM aM [(50, (upd ((upd x_aM50 v3.toNatClampNeg (((aM 10) v5.toNatClampNeg)))) ((v3 + (1 : Int32))).toNatClampNeg (((aM 9) v5.toNatClampNeg)))), (51, (upd x_aM51 v3.toNatClampNeg (((aM 10) v6.toNatClampNeg))))] ((upd ((upd x_aM51 v3.toNatClampNeg (((aM 10) v6.toNatClampNeg)))) ((v3 + (1 : Int32))).toNatClampNeg (((aM 9) v6.toNatClampNeg)))))) hD
      refine lv_iinc (v := ((v3 + (1 : Int32)) + (1 : Int32))) (lv' := [(3, .int (((v3 + (1 : Int32)) + (1 : Int32)))), (0, .ref (ad 0)), (4, .int v4), (5, .int v5), (6, .int v6), (7, .int v7)]) hx hb dX8_areLike_260 hl (k := 0) rfl rfl (by decide) rfl (fun ls hl => ?_)
      refine lv_goto (tgt := 19) hx hb dX8_areLike_263 (by decide) ?_
      exact hk19 (((v3 + (1 : Int32)) + (1 : Int32))) v4 ((upd ((upd x_aM50 v3.toNatClampNeg (((aM 10) v5.toNatClampNeg)))) ((v3 + (1 : Int32))).toNatClampNeg (((aM 9) v5.toNatClampNeg)))) ((upd ((upd x_aM51 v3.toNatClampNeg (((aM 10) v6.toNatClampNeg)))) ((v3 + (1 : Int32))).toNatClampNeg (((aM 9) v6.toNatClampNeg)))) H locs ls h hP hD hS (lv_sub hl [1, 0, 2] rfl)
  have B69 : ∀ (v3 : Int32) (v5 : Int32) (v6 : Int32) (s0 : Int32) (x_aM50 : Nat → Int32) (x_aM51 : Nat → Int32) (k19 : Int32 → Int32 → (Nat → Int32) → (Nat → Int32) → Option (Int32 × (Nat → Int32) × (Nat → Int32))) (hk19 : ∀ (v3' : Int32) (v4' : Int32) (x_aM50' : Nat → Int32) (x_aM51' : Nat → Int32) (H : Heap) (locs : List Loc) (ls : Array Slot), k19 v3' v4' x_aM50' x_aM51' = some q → va_P (dC, dI) vwCl (zzM ad cy iM (us aM [(50, x_aM50'), (51, x_aM51')])) H → va_D A (zzM ad cy iM (us aM [(50, x_aM50'), (51, x_aM51')])) → va_S A s.heap H locs → lv_has ls 8 [(0, .ref (ad 0)), (3, .int v3'), (4, .int v4')] → W p l e ({ frames := 0, cells := 0, slots := 0, locals := 0 } : Room) s m args below meth c H locs 0 0 QQ (F0 m 19 ls [])) (H : Heap) (locs : List Loc) (ls : Array Slot), f_M_areLike_69 N (aM 8) (aM 9) (aM 10) (aM 50) (aM 51) k19 v3 v5 v6 s0 x_aM50 x_aM51 = some q → va_P (dC, dI) vwCl (zzM ad cy iM (us aM [(50, x_aM50), (51, x_aM51)])) H → va_D A (zzM ad cy iM (us aM [(50, x_aM50), (51, x_aM51)])) → va_S A s.heap H locs → lv_has ls 8 [(0, .ref (ad 0)), (3, .int v3), (5, .int v5), (6, .int v6)] → W p l e ({ frames := 0, cells := 0, slots := 0, locals := 0 } : Room) s m args below meth c H locs 0 0 QQ (F0 m 69 ls [.int s0]) := by
    intro v3 v5 v6 s0 x_aM50 x_aM51 k19 hk19 H locs ls h hP hD hS hl
    unfold f_M_areLike_69 at h
    refine lv_istore (lv' := [(4, .int s0), (0, .ref (ad 0)), (3, .int v3), (5, .int v5), (6, .int v6)]) hx hb dX8_areLike_69 hl (by decide) rfl (fun ls hl => ?_)
    refine lv_iload hx hb dX8_areLike_71 (lv_at hl 0 rfl) ?_
    refine lv_if_ne (tgt := 78) hx hb dX8_areLike_73 (by decide) (fun cz => ?_) (fun cz => ?_)
    · have h := g_f h cz
      refine lv_aload_n hx hb dX8_areLike_78 rfl (lv_at hl 1 rfl) ?_
      refine va_get (D := (dC, dI)) (ci := 8) (v := .ref (ad 3)) (C := RX8) (T := TX8) (N := 78) hx hb hts ki8 hown hK hP 0 rfl rfl 8 (by decide) kf17 (fun _ h9 => h9) rfl dX8_areLike_79 ?_
      refine lv_iload hx hb dX8_areLike_82 (lv_at hl 3 rfl) ?_
      obtain ⟨g_67, h⟩ := g_n h
      refine va_iald (f := (aM 8)) hx hb hK hP 3 0 rfl rfl g_67 dX8_areLike_84 ?_
      refine lv_istore (lv' := [(7, .int (((aM 8) v5.toNatClampNeg))), (4, .int s0), (0, .ref (ad 0)), (3, .int v3), (5, .int v5), (6, .int v6)]) hx hb dX8_areLike_85 hl (by decide) rfl (fun ls hl => ?_)
      refine lv_iload hx hb dX8_areLike_87 (lv_at hl 0 rfl) ?_
      refine lv_if_ne (tgt := 119) hx hb dX8_areLike_89 (by decide) (fun cz => ?_) (fun cz => ?_)
      · have h := g_f h cz
        refine lv_iload hx hb dX8_areLike_119 (lv_at hl 0 rfl) ?_
        refine lv_iconst (v := 4) hx hb dX8_areLike_121 (by decide) ?_
        refine lv_icmp_eq (tgt := 131) hx hb dX8_areLike_122 (by decide) (fun cz => ?_) (fun cz => ?_)
        · have h := g_t h cz
          exact B131 v3 v5 v6 x_aM50 x_aM51 k19 hk19 H locs ls h hP hD hS (lv_sub hl [2, 3, 4, 5] rfl)
        · have h := g_f h cz
          refine lv_iload hx hb dX8_areLike_125 (lv_at hl 0 rfl) ?_
          refine lv_iconst (v := 5) hx hb dX8_areLike_127 (by decide) ?_
          refine lv_icmp_ne (tgt := 187) hx hb dX8_areLike_128 (by decide) (fun cz => ?_) (fun cz => ?_)
          · have h := g_f h cz
            refine lv_iload hx hb dX8_areLike_187 (lv_at hl 0 rfl) ?_
            refine lv_iconst (v := 3) hx hb dX8_areLike_189 (by decide) ?_
            refine lv_icmp_eq (tgt := 199) hx hb dX8_areLike_190 (by decide) (fun cz => ?_) (fun cz => ?_)
            · have h := g_t h cz
              exact B199 v3 s0 v5 v6 (((aM 8) v5.toNatClampNeg)) x_aM50 x_aM51 k19 hk19 H locs ls h hP hD hS (lv_sub hl [2, 3, 1, 4, 5, 0] rfl)
            · have h := g_f h cz
              refine lv_iload hx hb dX8_areLike_193 (lv_at hl 0 rfl) ?_
              refine lv_iconst (v := 5) hx hb dX8_areLike_195 (by decide) ?_
              refine lv_icmp_le (tgt := 263) hx hb dX8_areLike_196 (by decide) (fun cz => ?_) (fun cz => ?_)
              · have h := g_t h cz
                refine lv_goto (tgt := 19) hx hb dX8_areLike_263 (by decide) ?_
                exact hk19 v3 s0 x_aM50 x_aM51 H locs ls h hP hD hS (lv_sub hl [2, 3, 1] rfl)
              · have h := g_f h cz
                exact B199 v3 s0 v5 v6 (((aM 8) v5.toNatClampNeg)) x_aM50 x_aM51 k19 hk19 H locs ls h hP hD hS (lv_sub hl [2, 3, 1, 4, 5, 0] rfl)
          · have h := g_t h cz
            exact B131 v3 v5 v6 x_aM50 x_aM51 k19 hk19 H locs ls h hP hD hS (lv_sub hl [2, 3, 4, 5] rfl)
      · have h := g_t h cz
        refine lv_aload_n hx hb dX8_areLike_92 rfl (lv_at hl 2 rfl) ?_
        refine va_get (D := (dC, dI)) (ci := 8) (v := .ref (ad 4)) (C := RX8) (T := TX8) (N := 78) hx hb hts ki8 hown hK hP 0 rfl rfl 9 (by decide) kf21 (fun _ h9 => h9) rfl dX8_areLike_93 ?_
        refine lv_iload hx hb dX8_areLike_96 (lv_at hl 4 rfl) ?_
        refine va_iald (f := (aM 9)) hx hb hK hP 4 0 rfl rfl g_67 dX8_areLike_98 ?_
        refine lv_aload_n hx hb dX8_areLike_99 rfl (lv_at hl 2 rfl) ?_
        refine va_get (D := (dC, dI)) (ci := 8) (v := .ref (ad 4)) (C := RX8) (T := TX8) (N := 78) hx hb hts ki8 hown hK hP 0 rfl rfl 9 (by decide) kf21 (fun _ h9 => h9) rfl dX8_areLike_100 ?_
        refine lv_iload hx hb dX8_areLike_103 (lv_at hl 5 rfl) ?_
        obtain ⟨g_69, h⟩ := g_n h
        refine va_iald (f := (aM 9)) hx hb hK hP 4 0 rfl rfl g_69 dX8_areLike_105 ?_
        refine lv_icmp_ne (tgt := 113) hx hb dX8_areLike_106 (by decide) (fun cz => ?_) (fun cz => ?_)
        · have h := g_f h cz
          refine lv_iconst (v := 0) hx hb dX8_areLike_113 (by decide) ?_
          refine lv_istore (lv' := [(4, .int ((0 : Int32))), (7, .int (((aM 8) v5.toNatClampNeg))), (0, .ref (ad 0)), (3, .int v3), (5, .int v5), (6, .int v6)]) hx hb dX8_areLike_114 hl (by decide) rfl (fun ls hl => ?_)
          refine lv_goto (tgt := 263) hx hb dX8_areLike_116 (by decide) ?_
          refine lv_goto (tgt := 19) hx hb dX8_areLike_263 (by decide) ?_
          exact hk19 v3 ((0 : Int32)) x_aM50 x_aM51 H locs ls h hP hD hS (lv_sub hl [2, 3, 0] rfl)
        · have h := g_t h cz
          refine lv_iconst (v := 1) hx hb dX8_areLike_109 (by decide) ?_
          refine lv_goto (tgt := 114) hx hb dX8_areLike_110 (by decide) ?_
          refine lv_istore (lv' := [(4, .int ((1 : Int32))), (7, .int (((aM 8) v5.toNatClampNeg))), (0, .ref (ad 0)), (3, .int v3), (5, .int v5), (6, .int v6)]) hx hb dX8_areLike_114 hl (by decide) rfl (fun ls hl => ?_)
          refine lv_goto (tgt := 263) hx hb dX8_areLike_116 (by decide) ?_
          refine lv_goto (tgt := 19) hx hb dX8_areLike_263 (by decide) ?_
          exact hk19 v3 ((1 : Int32)) x_aM50 x_aM51 H locs ls h hP hD hS (lv_sub hl [2, 3, 0] rfl)
    · have h := g_t h cz
      refine lv_iconst (v := 0) hx hb dX8_areLike_76 (by decide) ?_
      have h' := Option.some.inj h
      rw [← hQQ]
      exact W.zret (v := (0 : Int32)) hx hb hr rfl (fun t ht hW => ⟨⟨(0 : Int32), (), rfl, by rw [← h'], by rw [← hWQ, ← h', ht]; exact hP, va_K.moved hW.alike hK⟩, hS.F ht⟩) hS.2.2 dX8_areLike_77
  have B19 : ∀ (n : Nat) (v3 : Int32) (v4 : Int32) (x_aM50 : Nat → Int32) (x_aM51 : Nat → Int32) (H : Heap) (locs : List Loc) (ls : Array Slot), f_M_areLike_19 N (aM 8) (aM 9) (aM 10) (aM 50) (aM 51) n v3 v4 x_aM50 x_aM51 = some q → va_P (dC, dI) vwCl (zzM ad cy iM (us aM [(50, x_aM50), (51, x_aM51)])) H → va_D A (zzM ad cy iM (us aM [(50, x_aM50), (51, x_aM51)])) → va_S A s.heap H locs → lv_has ls 8 [(0, .ref (ad 0)), (3, .int v3), (4, .int v4)] → W p l e ({ frames := 0, cells := 0, slots := 0, locals := 0 } : Room) s m args below meth c H locs 0 0 QQ (F0 m 19 ls []) := by
    intro n
    induction n with
    | zero =>
      intro v3 v4 x_aM50 x_aM51 H locs ls h hP hD hS hl
      rw [f_M_areLike_19] at h
      cases h
    | succ n ih =>
      intro v3 v4 x_aM50 x_aM51 H locs ls h hP hD hS hl
      rw [f_M_areLike_19] at h
      refine lv_iload_n hx hb dX8_areLike_19 rfl (lv_at hl 1 rfl) ?_
      refine lv_if_le (tgt := 266) hx hb dX8_areLike_20 (by decide) (fun cz => ?_) (fun cz => ?_)
      · have h := g_t h cz
        refine lv_iload hx hb dX8_areLike_266 (lv_at hl 2 rfl) ?_
        obtain ⟨gz, h⟩ := g_p h
        have h' := Option.some.inj h
        rw [← hQQ]
        exact W.zret (v := v4) hx hb hr (g_zr _ gz) (fun t ht hW => ⟨⟨v4, (), rfl, by rw [← h'], by rw [← hWQ, ← h', ht]; exact hP, va_K.moved hW.alike hK⟩, hS.F ht⟩) hS.2.2 dX8_areLike_268
      · have h := g_f h cz
        refine lv_iload hx hb dX8_areLike_23 (lv_at hl 2 rfl) ?_
        refine lv_if_eq (tgt := 266) hx hb dX8_areLike_25 (by decide) (fun cz => ?_) (fun cz => ?_)
        · have h := g_t h cz
          refine lv_iload hx hb dX8_areLike_266 (lv_at hl 2 rfl) ?_
          obtain ⟨gz, h⟩ := g_p h
          have h' := Option.some.inj h
          rw [← hQQ]
          exact W.zret (v := v4) hx hb hr (g_zr _ gz) (fun t ht hW => ⟨⟨v4, (), rfl, by rw [← h'], by rw [← hWQ, ← h', ht]; exact hP, va_K.moved hW.alike hK⟩, hS.F ht⟩) hS.2.2 dX8_areLike_268
        · have h := g_f h cz
          refine lv_iinc (v := (v3 + (-1 : Int32))) (lv' := [(3, .int ((v3 + (-1 : Int32)))), (0, .ref (ad 0)), (4, .int v4)]) hx hb dX8_areLike_28 hl (k := 1) rfl rfl (by decide) rfl (fun ls hl => ?_)
          refine lv_aload_n hx hb dX8_areLike_31 rfl (lv_at hl 1 rfl) ?_
          refine va_get (D := (dC, dI)) (ci := 8) (v := .ref (ad 25)) (C := RX8) (T := TX8) (N := 78) hx hb hts ki8 hown hK hP 0 rfl rfl 50 (by decide) kf89 (fun _ h9 => h9) rfl dX8_areLike_32 ?_
          refine lv_iload_n hx hb dX8_areLike_35 rfl (lv_at hl 0 rfl) ?_
          obtain ⟨g_71, h⟩ := g_n h
          refine va_iald (f := x_aM50) hx hb hK hP 25 0 rfl rfl g_71 dX8_areLike_36 ?_
          refine lv_istore (lv' := [(5, .int ((x_aM50 ((v3 + (-1 : Int32))).toNatClampNeg))), (3, .int ((v3 + (-1 : Int32)))), (0, .ref (ad 0)), (4, .int v4)]) hx hb dX8_areLike_37 hl (by decide) rfl (fun ls hl => ?_)
          refine lv_aload_n hx hb dX8_areLike_39 rfl (lv_at hl 2 rfl) ?_
          refine va_get (D := (dC, dI)) (ci := 8) (v := .ref (ad 26)) (C := RX8) (T := TX8) (N := 78) hx hb hts ki8 hown hK hP 0 rfl rfl 51 (by decide) kf92 (fun _ h9 => h9) rfl dX8_areLike_40 ?_
          refine lv_iload_n hx hb dX8_areLike_43 rfl (lv_at hl 1 rfl) ?_
          refine va_iald (f := x_aM51) hx hb hK hP 26 0 rfl rfl g_71 dX8_areLike_44 ?_
          refine lv_istore (lv' := [(6, .int ((x_aM51 ((v3 + (-1 : Int32))).toNatClampNeg))), (5, .int ((x_aM50 ((v3 + (-1 : Int32))).toNatClampNeg))), (3, .int ((v3 + (-1 : Int32)))), (0, .ref (ad 0)), (4, .int v4)]) hx hb dX8_areLike_45 hl (by decide) rfl (fun ls hl => ?_)
          refine lv_aload_n hx hb dX8_areLike_47 rfl (lv_at hl 3 rfl) ?_
          refine va_get (D := (dC, dI)) (ci := 8) (v := .ref (ad 3)) (C := RX8) (T := TX8) (N := 78) hx hb hts ki8 hown hK hP 0 rfl rfl 8 (by decide) kf17 (fun _ h9 => h9) rfl dX8_areLike_48 ?_
          refine lv_iload hx hb dX8_areLike_51 (lv_at hl 1 rfl) ?_
          obtain ⟨g_72, h⟩ := g_n h
          refine va_iald (f := (aM 8)) hx hb hK hP 3 0 rfl rfl g_72 dX8_areLike_53 ?_
          refine lv_aload_n hx hb dX8_areLike_54 rfl (lv_at hl 3 rfl) ?_
          refine va_get (D := (dC, dI)) (ci := 8) (v := .ref (ad 3)) (C := RX8) (T := TX8) (N := 78) hx hb hts ki8 hown hK hP 0 rfl rfl 8 (by decide) kf17 (fun _ h9 => h9) rfl dX8_areLike_55 ?_
          refine lv_iload hx hb dX8_areLike_58 (lv_at hl 0 rfl) ?_
          obtain ⟨g_73, h⟩ := g_n h
          refine va_iald (f := (aM 8)) hx hb hK hP 3 0 rfl rfl g_73 dX8_areLike_60 ?_
          refine lv_icmp_ne (tgt := 68) hx hb dX8_areLike_61 (by decide) (fun cz => ?_) (fun cz => ?_)
          · have h := g_f h cz
            refine lv_iconst (v := 0) hx hb dX8_areLike_68 (by decide) ?_
            exact B69 ((v3 + (-1 : Int32))) ((x_aM50 ((v3 + (-1 : Int32))).toNatClampNeg)) ((x_aM51 ((v3 + (-1 : Int32))).toNatClampNeg)) ((0 : Int32)) x_aM50 x_aM51 (f_M_areLike_19 N (aM 8) (aM 9) (aM 10) (aM 50) (aM 51) n) ih H locs ls h hP hD hS (lv_sub hl [3, 2, 1, 0] rfl)
          · have h := g_t h cz
            refine lv_iconst (v := 1) hx hb dX8_areLike_64 (by decide) ?_
            refine lv_goto (tgt := 69) hx hb dX8_areLike_65 (by decide) ?_
            exact B69 ((v3 + (-1 : Int32))) ((x_aM50 ((v3 + (-1 : Int32))).toNatClampNeg)) ((x_aM51 ((v3 + (-1 : Int32))).toNatClampNeg)) ((1 : Int32)) x_aM50 x_aM51 (f_M_areLike_19 N (aM 8) (aM 9) (aM 10) (aM 50) (aM 51) n) ih H locs ls h hP hD hS (lv_sub hl [3, 2, 1, 0] rfl)
  intro H locs hP hD hS
  unfold f_M_areLike at h
  refine lv_iconst (v := 1) hx hb dX8_areLike_0 (by decide) ?_
  refine lv_istore_n (lv' := [(3, .int ((1 : Int32))), (0, .ref (ad 0)), (1, .int a1), (2, .int a2)]) hx hb dX8_areLike_1 rfl hl (by decide) rfl (fun ls hl => ?_)
  refine lv_aload_n hx hb dX8_areLike_2 rfl (lv_at hl 1 rfl) ?_
  refine va_get (D := (dC, dI)) (ci := 8) (v := .ref (ad 25)) (C := RX8) (T := TX8) (N := 78) hx hb hts ki8 hown hK hP 0 rfl rfl 50 (by decide) kf89 (fun _ h9 => h9) rfl dX8_areLike_3 ?_
  refine lv_iconst (v := 0) hx hb dX8_areLike_6 (by decide) ?_
  refine lv_iload_n hx hb dX8_areLike_7 rfl (lv_at hl 2 rfl) ?_
  refine va_iast (f := (aM 50)) hx hb hK hP hD hS 25 0 rfl rfl (by unfold vp_in; decide) dX8_areLike_8 (fun H locs hP hD hS => ?_)
  have hP : va_P (dC, dI) vwCl (zzM ad cy iM (us aM [(50, (upd (aM 50) ((0 : Int32)).toNatClampNeg a1))])) H := Eq.mp (congrArg (fun w => va_P (dC, dI) vwCl w H) (sfM_aM50 ad cy iM aM ((upd (aM 50) ((0 : Int32)).toNatClampNeg a1)))) hP
  have hD : va_D A (zzM ad cy iM (us aM [(50, (upd (aM 50) ((0 : Int32)).toNatClampNeg a1))])) := Eq.mp (congrArg (fun w => va_D A w) (sfM_aM50 ad cy iM aM ((upd (aM 50) ((0 : Int32)).toNatClampNeg a1)))) hD
  refine lv_aload_n hx hb dX8_areLike_9 rfl (lv_at hl 1 rfl) ?_
  refine va_get (D := (dC, dI)) (ci := 8) (v := .ref (ad 26)) (C := RX8) (T := TX8) (N := 78) hx hb hts ki8 hown hK hP 0 rfl rfl 51 (by decide) kf92 (fun _ h9 => h9) rfl dX8_areLike_10 ?_
  refine lv_iconst (v := 0) hx hb dX8_areLike_13 (by decide) ?_
  refine lv_iload_n hx hb dX8_areLike_14 rfl (lv_at hl 3 rfl) ?_
  refine va_iast (f := (aM 51)) hx hb hK hP hD hS 26 0 rfl rfl (by unfold vp_in; decide) dX8_areLike_15 (fun H locs hP hD hS => ?_)
  have hP : va_P (dC, dI) vwCl (zzM ad cy iM (us aM [(50, (upd (aM 50) ((0 : Int32)).toNatClampNeg a1)), (51, (upd (aM 51) ((0 : Int32)).toNatClampNeg a2))])) H := Eq.mp (congrArg (fun w => va_P (dC, dI) vwCl w H) (stM_aM51 ad cy iM aM [(50, (upd (aM 50) ((0 : Int32)).toNatClampNeg a1))] ((upd (aM 51) ((0 : Int32)).toNatClampNeg a2)))) hP
  have hD : va_D A (zzM ad cy iM (us aM [(50, (upd (aM 50) ((0 : Int32)).toNatClampNeg a1)), (51, (upd (aM 51) ((0 : Int32)).toNatClampNeg a2))])) := Eq.mp (congrArg (fun w => va_D A w) (stM_aM51 ad cy iM aM [(50, (upd (aM 50) ((0 : Int32)).toNatClampNeg a1))] ((upd (aM 51) ((0 : Int32)).toNatClampNeg a2)))) hD
  refine lv_iconst (v := 1) hx hb dX8_areLike_16 (by decide) ?_
  refine lv_istore (lv' := [(4, .int ((1 : Int32))), (3, .int ((1 : Int32))), (0, .ref (ad 0)), (1, .int a1), (2, .int a2)]) hx hb dX8_areLike_17 hl (by decide) rfl (fun ls hl => ?_)
  exact B19 N ((1 : Int32)) ((1 : Int32)) ((upd (aM 50) ((0 : Int32)).toNatClampNeg a1)) ((upd (aM 51) ((0 : Int32)).toNatClampNeg a2)) H locs ls h hP hD hS (lv_sub hl [2, 1, 0] rfl)
