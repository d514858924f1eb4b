def f_M_next_247 (N : Nat) (iM1 : Int32) (iM2 : Int32) (iM3 : Int32) (iM4 : Int32) (iM5 : Int32) (iM6 : Int32) (aM0 : Nat → Int32) (v1 : Int32) (x_iM3 : Int32) (x_iM4 : Int32) (x_iM5 : Int32) (x_iM6 : Int32) : Option (Int32 × Int32 × Int32 × Int32 × Int32) := some (v1, x_iM3, x_iM4, x_iM5, x_iM6)
def f_M_next_174 (N : Nat) (iM1 : Int32) (iM2 : Int32) (iM3 : Int32) (iM4 : Int32) (iM5 : Int32) (iM6 : Int32) (aM0 : Nat → Int32) (v1 : Int32) (s1 : Int32) (x_iM4 : Int32) (x_iM5 : Int32) (x_iM6 : Int32) : Option (Int32 × Int32 × Int32 × Int32 × Int32) := f_M_next_247 N iM1 iM2 iM3 iM4 iM5 iM6 aM0 v1 s1 x_iM4 x_iM5 x_iM6
def f_M_next_134 (N : Nat) (iM1 : Int32) (iM2 : Int32) (iM3 : Int32) (iM4 : Int32) (iM5 : Int32) (iM6 : Int32) (aM0 : Nat → Int32) (v1 : Int32) (x_iM4 : Int32) (x_iM5 : Int32) (x_iM6 : Int32) : Option (Int32 × Int32 × Int32 × Int32 × Int32) := if x_iM4 < 0 ∨ 2000 ≤ x_iM4.toNatClampNeg then none else ((f_M_isLetter ((aM0 x_iM4.toNatClampNeg))).bind fun q154 => (if q154 = 0 then (f_M_next_174 N iM1 iM2 iM3 iM4 iM5 iM6 aM0 v1 ((3 : Int32)) x_iM4 ((v1 - x_iM4)) x_iM6) else (if (8 : Int32) < (v1 - x_iM4) then (f_M_next_174 N iM1 iM2 iM3 iM4 iM5 iM6 aM0 v1 ((3 : Int32)) x_iM4 ((v1 - x_iM4)) x_iM6) else (f_M_next_174 N iM1 iM2 iM3 iM4 iM5 iM6 aM0 v1 ((1 : Int32)) x_iM4 ((v1 - x_iM4)) x_iM6))))
def f_M_next_96 (N : Nat) (iM1 : Int32) (iM2 : Int32) (iM3 : Int32) (iM4 : Int32) (iM5 : Int32) (iM6 : Int32) (aM0 : Nat → Int32) (x_iM4 : Int32) (x_iM5 : Int32) (x_iM6 : Int32) : Nat → Int32 → Option (Int32 × Int32 × Int32 × Int32 × Int32)
  | 0, _ => none
  | n + 1, v1 => if iM1 ≤ v1 then (f_M_next_134 N iM1 iM2 iM3 iM4 iM5 iM6 aM0 v1 x_iM4 x_iM5 x_iM6) else (if v1 < 0 ∨ 2000 ≤ v1.toNatClampNeg then none else ((f_M_isLetter ((aM0 v1.toNatClampNeg))).bind fun q110 => (if q110 = 0 then ((f_M_isFigure ((aM0 v1.toNatClampNeg))).bind fun q122 => (if q122 = 0 then (f_M_next_134 N iM1 iM2 iM3 iM4 iM5 iM6 aM0 v1 x_iM4 x_iM5 x_iM6) else (f_M_next_96 N iM1 iM2 iM3 iM4 iM5 iM6 aM0 x_iM4 x_iM5 x_iM6 n ((v1 + (1 : Int32)))))) else (f_M_next_96 N iM1 iM2 iM3 iM4 iM5 iM6 aM0 x_iM4 x_iM5 x_iM6 n ((v1 + (1 : Int32)))))))
def f_M_next_241 (N : Nat) (iM1 : Int32) (iM2 : Int32) (iM3 : Int32) (iM4 : Int32) (iM5 : Int32) (iM6 : Int32) (aM0 : Nat → Int32) (v1 : Int32) (s1 : Int32) (x_iM4 : Int32) (x_iM5 : Int32) (x_iM6 : Int32) : Option (Int32 × Int32 × Int32 × Int32 × Int32) := f_M_next_247 N iM1 iM2 iM3 iM4 iM5 iM6 aM0 ((v1 + (1 : Int32))) s1 x_iM4 x_iM5 x_iM6
def f_M_next_41 (N : Nat) (iM1 : Int32) (iM2 : Int32) (iM3 : Int32) (iM4 : Int32) (iM5 : Int32) (iM6 : Int32) (aM0 : Nat → Int32) (v1 : Int32) : Option (Int32 × Int32 × Int32 × Int32 × Int32) := if v1 = iM1 then (f_M_next_247 N iM1 iM2 iM3 iM4 iM5 iM6 aM0 v1 ((0 : Int32)) v1 ((0 : Int32)) ((0 : Int32))) else (if v1 < 0 ∨ 2000 ≤ v1.toNatClampNeg then none else ((f_M_isLetter ((aM0 v1.toNatClampNeg))).bind fun q78 => (if q78 = 0 then ((f_M_isFigure ((aM0 v1.toNatClampNeg))).bind fun q90 => (if q90 = 0 then (if (aM0 v1.toNatClampNeg) = (60 : Int32) then (f_M_next_241 N iM1 iM2 iM3 iM4 iM5 iM6 aM0 v1 ((2 : Int32)) v1 ((0 : Int32)) ((aM0 v1.toNatClampNeg))) else (if (aM0 v1.toNatClampNeg) = (61 : Int32) then (f_M_next_241 N iM1 iM2 iM3 iM4 iM5 iM6 aM0 v1 ((2 : Int32)) v1 ((0 : Int32)) ((aM0 v1.toNatClampNeg))) else (if (aM0 v1.toNatClampNeg) = (59 : Int32) then (f_M_next_241 N iM1 iM2 iM3 iM4 iM5 iM6 aM0 v1 ((2 : Int32)) v1 ((0 : Int32)) ((aM0 v1.toNatClampNeg))) else (if (aM0 v1.toNatClampNeg) = (40 : Int32) then (f_M_next_241 N iM1 iM2 iM3 iM4 iM5 iM6 aM0 v1 ((2 : Int32)) v1 ((0 : Int32)) ((aM0 v1.toNatClampNeg))) else (if (aM0 v1.toNatClampNeg) = (41 : Int32) then (f_M_next_241 N iM1 iM2 iM3 iM4 iM5 iM6 aM0 v1 ((2 : Int32)) v1 ((0 : Int32)) ((aM0 v1.toNatClampNeg))) else (f_M_next_241 N iM1 iM2 iM3 iM4 iM5 iM6 aM0 v1 ((3 : Int32)) v1 ((0 : Int32)) ((aM0 v1.toNatClampNeg)))))))) else (f_M_next_96 N iM1 iM2 iM3 iM4 iM5 iM6 aM0 v1 ((0 : Int32)) ((0 : Int32)) N v1))) else (f_M_next_96 N iM1 iM2 iM3 iM4 iM5 iM6 aM0 v1 ((0 : Int32)) ((0 : Int32)) N v1))))
def f_M_next_5 (N : Nat) (iM1 : Int32) (iM2 : Int32) (iM3 : Int32) (iM4 : Int32) (iM5 : Int32) (iM6 : Int32) (aM0 : Nat → Int32)  : Nat → Int32 → Option (Int32 × Int32 × Int32 × Int32 × Int32)
  | 0, _ => none
  | n + 1, v1 => if iM1 ≤ v1 then (f_M_next_41 N iM1 iM2 iM3 iM4 iM5 iM6 aM0 v1) else (if v1 < 0 ∨ 2000 ≤ v1.toNatClampNeg then none else (if (aM0 v1.toNatClampNeg) = (32 : Int32) then (f_M_next_5 N iM1 iM2 iM3 iM4 iM5 iM6 aM0 n ((v1 + (1 : Int32)))) else (if (aM0 v1.toNatClampNeg) = (10 : Int32) then (f_M_next_5 N iM1 iM2 iM3 iM4 iM5 iM6 aM0 n ((v1 + (1 : Int32)))) else (f_M_next_41 N iM1 iM2 iM3 iM4 iM5 iM6 aM0 v1))))
def f_M_next (N : Nat) (iM1 : Int32) (iM2 : Int32) (iM3 : Int32) (iM4 : Int32) (iM5 : Int32) (iM6 : Int32) (aM0 : Nat → Int32) : Option (Int32 × Int32 × Int32 × Int32 × Int32) := f_M_next_5 N iM1 iM2 iM3 iM4 iM5 iM6 aM0 N iM2
set_option maxHeartbeats 8000000 in
set_option maxRecDepth 100000 in
theorem c_M_next (l : Launch) (dC : Nat → ClassId) (dI : Nat → Nat → Nat) (cy : Nat → ClassId) (ad : Nat → Nat) (sz : Nat) (N : Nat) (iM : Nat → Int32) (aM : Nat → Nat → Int32) (q : Int32 × Int32 × Int32 × Int32 × Int32) (h : f_M_next N (iM 1) (iM 2) (iM 3) (iM 4) (iM 5) (iM 6) (aM 0) = some q) : Met l yX8_next wsX8_next ({ frames := 2, cells := 0, slots := 0, locals := 45 } : Room) (cP (dC, dI) cy [.ref (ad 0)] (zzM ad cy iM aM) sz) (cQv (dC, dI) cy (zzM ad cy (us iM [(2, q.1), (3, q.2.1), (4, q.2.2.1), (5, q.2.2.2.1), (6, q.2.2.2.2)]) aM) (va_A (zzM ad cy iM aM) sz)) 0 0 (va_A (zzM ad cy iM aM) sz) := by
  refine Met.ofW (cc := cX8_next) (maxL := 2) (ret := none) (by decide) rfl ?_
  intro p e s m args below meth c s₁ B hml hv
  obtain ⟨hav, hsz, hP, hK, hD0, hN⟩ := hv
  have hx := B.exec
  have hb := B.bytes
  have hr := B.returns
  have hts := atoms_spec (ws := wsX8_next) B.pre
  have hown : s.vm.findClass RX8 = some m.cls := findClass_of_methodNamed B.named
  have hlocks := B.notSynchronized
  subst hsz
  have hD := hD0.self (sz := s.heap.size)
  generalize hAe : va_A (zzM ad cy iM aM) s.heap.size = A at hD ⊢
  have hA : ∀ q : Nat, s.heap.size ≤ q → A q := fun q h => by rw [← hAe]; exact Or.inr h
  have hS : va_S A s.heap s.heap [] := va_S.rf
  generalize hWQ : (zzM ad cy (us iM [(2, q.1), (3, q.2.1), (4, q.2.2.1), (5, q.2.2.2.1), (6, q.2.2.2.2)]) aM) = WQ
  generalize hQQ : MQ below (cQv (dC, dI) cy WQ A) args s 0 0 A = QQ
  have hl := lv_entry ([.ref (ad 0)] : List Value) (n := 2) (Nat.le_of_ble_eq_true rfl)
  have hfr := lg_entry_eq m ([.ref (ad 0)] : List Value) 2
  rw [← hav] at hfr
  rw [hfr]
  clear hfr hav
  generalize (lg_sl ([.ref (ad 0)] : List Value) ++ List.replicate (2 - (lg_sl ([.ref (ad 0)] : List Value)).length) Slot.unset).toArray = ls at hl ⊢
  have hl : lv_has ls 2 [(0, .ref (ad 0))] := hl
  have kf166 := hts _ (List.mem_cons_of_mem _ m_fl_X8_166)
  have ki8 := (fun w h => List.mem_cons_of_mem _ (i_X8 w h) : ∀ w ∈ u_ws RX8 TX8 78, w ∈ wsX8_next)
  have kf178 := hts _ (List.mem_cons_of_mem _ m_fl_X8_178)
  have kf169 := hts _ (List.mem_cons_of_mem _ m_fl_X8_169)
  have kf172 := hts _ (List.mem_cons_of_mem _ m_fl_X8_172)
  have kf7 := hts _ (List.mem_cons_of_mem _ m_fl_X8_7)
  have kf147 := hts _ (List.mem_cons_of_mem _ m_fl_X8_147)
  have kf175 := hts _ (List.mem_cons_of_mem _ m_fl_X8_175)
  refine (?_ : ∀ (H : Heap) (locs : List Loc), va_P (dC, dI) vwCl (zzM ad cy iM aM) H → va_D A (zzM ad cy iM aM) → va_S A s.heap H locs → W p l e ({ frames := 2, cells := 0, slots := 0, locals := 45 } : Room) s m args below meth c H locs 0 0 QQ (F0 m 0 ls [])) s.heap [] hP hD hS
  clear hP hD hS
  have B247 : ∀ (v1 : Int32) (x_iM3 : Int32) (x_iM4 : Int32) (x_iM5 : Int32) (x_iM6 : Int32) (H : Heap) (locs : List Loc) (ls : Array Slot), f_M_next_247 N (iM 1) (iM 2) (iM 3) (iM 4) (iM 5) (iM 6) (aM 0) v1 x_iM3 x_iM4 x_iM5 x_iM6 = some q → va_P (dC, dI) vwCl (zzM ad cy (us iM [(3, x_iM3), (4, x_iM4), (5, x_iM5), (6, x_iM6)]) aM) H → va_D A (zzM ad cy (us iM [(3, x_iM3), (4, x_iM4), (5, x_iM5), (6, x_iM6)]) aM) → va_S A s.heap H locs → lv_has ls 2 [(0, .ref (ad 0)), (1, .int v1)] → W p l e ({ frames := 2, cells := 0, slots := 0, locals := 45 } : Room) s m args below meth c H locs 0 0 QQ (F0 m 247 ls []) := by
    intro v1 x_iM3 x_iM4 x_iM5 x_iM6 H locs ls h hP hD hS hl
    unfold f_M_next_247 at h
    refine lv_aload_n hx hb dX8_next_247 rfl (lv_at hl 0 rfl) ?_
    refine lv_iload_n hx hb dX8_next_248 rfl (lv_at hl 1 rfl) ?_
    refine va_put (D := (dC, dI)) (ci := 8) (v := .int v1) (ty := .int) (C := RX8) (T := TX8) (N := 78) hx hb hts ki8 tyX8 tyX8_ok nmX8 hown hK hP hD hS 0 rfl rfl 2 (by decide) kf166 (fun _ h9 => h9) rfl (by decide +kernel) rfl rfl (Nat.le_of_ble_eq_true rfl) dX8_next_249 (fun H locs hP hD hS => ?_)
    have hP : va_P (dC, dI) vwCl (zzM ad cy (us iM [(2, v1), (3, x_iM3), (4, x_iM4), (5, x_iM5), (6, x_iM6)]) aM) H := Eq.mp (congrArg (fun w => va_P (dC, dI) vwCl w H) (stM_iM2 ad cy iM aM [(3, x_iM3), (4, x_iM4), (5, x_iM5), (6, x_iM6)] v1)) hP
    have hD : va_D A (zzM ad cy (us iM [(2, v1), (3, x_iM3), (4, x_iM4), (5, x_iM5), (6, x_iM6)]) aM) := Eq.mp (congrArg (fun w => va_D A w) (stM_iM2 ad cy iM aM [(3, x_iM3), (4, x_iM4), (5, x_iM5), (6, x_iM6)] v1)) hD
    have h' := Option.some.inj h
    rw [← hQQ]
    exact W.vret hx hb hr (fun t ht hW => ⟨⟨(), rfl, trivial, by rw [← hWQ, ← h', ht]; exact hP, va_K.moved hW.alike hK⟩, hS.F ht⟩) hS.2.2 dX8_next_252
  have B174 : ∀ (v1 : Int32) (s1 : Int32) (x_iM4 : Int32) (x_iM5 : Int32) (x_iM6 : Int32) (H : Heap) (locs : List Loc) (ls : Array Slot), f_M_next_174 N (iM 1) (iM 2) (iM 3) (iM 4) (iM 5) (iM 6) (aM 0) v1 s1 x_iM4 x_iM5 x_iM6 = some q → va_P (dC, dI) vwCl (zzM ad cy (us iM [(4, x_iM4), (5, x_iM5), (6, x_iM6)]) aM) H → va_D A (zzM ad cy (us iM [(4, x_iM4), (5, x_iM5), (6, x_iM6)]) aM) → va_S A s.heap H locs → lv_has ls 2 [(0, .ref (ad 0)), (1, .int v1)] → W p l e ({ frames := 2, cells := 0, slots := 0, locals := 45 } : Room) s m args below meth c H locs 0 0 QQ (F0 m 174 ls [.int s1, .ref (ad 0)]) := by
    intro v1 s1 x_iM4 x_iM5 x_iM6 H locs ls h hP hD hS hl
    unfold f_M_next_174 at h
    refine va_put (D := (dC, dI)) (ci := 8) (v := .int s1) (ty := .int) (C := RX8) (T := TX8) (N := 78) hx hb hts ki8 tyX8 tyX8_ok nmX8 hown hK hP hD hS 0 rfl rfl 3 (by decide) kf178 (fun _ h9 => h9) rfl (by decide +kernel) rfl rfl (Nat.le_of_ble_eq_true rfl) dX8_next_174 (fun H locs hP hD hS => ?_)
    have hP : va_P (dC, dI) vwCl (zzM ad cy (us iM [(3, s1), (4, x_iM4), (5, x_iM5), (6, x_iM6)]) aM) H := Eq.mp (congrArg (fun w => va_P (dC, dI) vwCl w H) (stM_iM3 ad cy iM aM [(4, x_iM4), (5, x_iM5), (6, x_iM6)] s1)) hP
    have hD : va_D A (zzM ad cy (us iM [(3, s1), (4, x_iM4), (5, x_iM5), (6, x_iM6)]) aM) := Eq.mp (congrArg (fun w => va_D A w) (stM_iM3 ad cy iM aM [(4, x_iM4), (5, x_iM5), (6, x_iM6)] s1)) hD
    refine lv_goto (tgt := 247) hx hb dX8_next_177 (by decide) ?_
    exact B247 v1 s1 x_iM4 x_iM5 x_iM6 H locs ls h hP hD hS (lv_sub hl [0, 1] rfl)
  have B134 : ∀ (v1 : Int32) (x_iM4 : Int32) (x_iM5 : Int32) (x_iM6 : Int32) (H : Heap) (locs : List Loc) (ls : Array Slot), f_M_next_134 N (iM 1) (iM 2) (iM 3) (iM 4) (iM 5) (iM 6) (aM 0) v1 x_iM4 x_iM5 x_iM6 = some q → va_P (dC, dI) vwCl (zzM ad cy (us iM [(4, x_iM4), (5, x_iM5), (6, x_iM6)]) aM) H → va_D A (zzM ad cy (us iM [(4, x_iM4), (5, x_iM5), (6, x_iM6)]) aM) → va_S A s.heap H locs → lv_has ls 2 [(0, .ref (ad 0)), (1, .int v1)] → W p l e ({ frames := 2, cells := 0, slots := 0, locals := 45 } : Room) s m args below meth c H locs 0 0 QQ (F0 m 134 ls []) := by
    intro v1 x_iM4 x_iM5 x_iM6 H locs ls h hP hD hS hl
    unfold f_M_next_134 at h
    refine lv_aload_n hx hb dX8_next_134 rfl (lv_at hl 0 rfl) ?_
    refine lv_iload_n hx hb dX8_next_135 rfl (lv_at hl 1 rfl) ?_
    refine lv_aload_n hx hb dX8_next_136 rfl (lv_at hl 0 rfl) ?_
    refine va_get (D := (dC, dI)) (ci := 8) (v := .int x_iM4) (C := RX8) (T := TX8) (N := 78) hx hb hts ki8 hown hK hP 0 rfl rfl 4 (by decide) kf169 (fun _ h9 => h9) rfl dX8_next_137 ?_
    refine lv_isub hx hb dX8_next_140 ?_
    refine va_put (D := (dC, dI)) (ci := 8) (v := .int ((v1 - x_iM4))) (ty := .int) (C := RX8) (T := TX8) (N := 78) hx hb hts ki8 tyX8 tyX8_ok nmX8 hown hK hP hD hS 0 rfl rfl 5 (by decide) kf172 (fun _ h9 => h9) rfl (by decide +kernel) rfl rfl (Nat.le_of_ble_eq_true rfl) dX8_next_141 (fun H locs hP hD hS => ?_)
    have hP : va_P (dC, dI) vwCl (zzM ad cy (us iM [(4, x_iM4), (5, (v1 - x_iM4)), (6, x_iM6)]) aM) H := Eq.mp (congrArg (fun w => va_P (dC, dI) vwCl w H) (stM_iM5 ad cy iM aM [(4, x_iM4), (5, x_iM5), (6, x_iM6)] ((v1 - x_iM4)))) hP
    have hD : va_D A (zzM ad cy (us iM [(4, x_iM4), (5, (v1 - x_iM4)), (6, x_iM6)]) aM) := Eq.mp (congrArg (fun w => va_D A w) (stM_iM5 ad cy iM aM [(4, x_iM4), (5, x_iM5), (6, x_iM6)] ((v1 - x_iM4)))) hD
    refine lv_aload_n hx hb dX8_next_144 rfl (lv_at hl 0 rfl) ?_
    refine lv_aload_n hx hb dX8_next_145 rfl (lv_at hl 0 rfl) ?_
    refine va_get (D := (dC, dI)) (ci := 8) (v := .ref (ad 1)) (C := RX8) (T := TX8) (N := 78) hx hb hts ki8 hown hK hP 0 rfl rfl 0 (by decide) kf7 (fun _ h9 => h9) rfl dX8_next_146 ?_
    refine lv_aload_n hx hb dX8_next_149 rfl (lv_at hl 0 rfl) ?_
    refine va_get (D := (dC, dI)) (ci := 8) (v := .int x_iM4) (C := RX8) (T := TX8) (N := 78) hx hb hts ki8 hown hK hP 0 rfl rfl 4 (by decide) kf169 (fun _ h9 => h9) rfl dX8_next_150 ?_
    obtain ⟨g_48, h⟩ := g_n h
    refine va_bald (f := (aM 0)) hx hb hK hP 1 1 rfl rfl g_48 dX8_next_153 ?_
    obtain ⟨q154, e154, h⟩ := g_b h
    refine callSi (cc := cX8_next) (ws' := zzM ad cy (us iM [(4, x_iM4), (5, (v1 - x_iM4)), (6, x_iM6)]) aM) (As := [.int (((aM 0) x_iM4.toNatClampNeg))]) (rest := [.ref (ad 0)]) ⟨hx, hb, hml, hown, hts⟩ (c_M_isLetter l dC dI cy ad H.size (((aM 0) x_iM4.toNatClampNeg)) q154 e154) (va_cwS 1 hts (goodS m_ml_X8_181 m_st_X8_isLetter m_in_X8 m_cd_X8_isLetter) rfl rfl rfl (by decide +kernel) ⟨Nat.le_of_ble_eq_true rfl, Nat.le_of_ble_eq_true rfl⟩) hN hK hP hD hS hA [] [none, none, none, none, none, none, none, none, none, none, none, none, none, none, none, none, none, none, none, none, none, none, none, none, none, none, none, none, none, none, none, none, none, none, none, none, none, none, none, none, none, none, none, none] rfl rfl rfl rfl rfl rfl rfl hl.1 rfl (Nat.le_of_ble_eq_true rfl) dX8_next_154 ⟨Nat.zero_le _, Nat.zero_le _⟩ (fun H locs hP hD hS => ?_)
    refine lv_if_eq (tgt := 173) hx hb dX8_next_157 (by decide) (fun cz => ?_) (fun cz => ?_)
    · have h := g_t h cz
      refine lv_iconst (v := 3) hx hb dX8_next_173 (by decide) ?_
      exact B174 v1 ((3 : Int32)) x_iM4 ((v1 - x_iM4)) x_iM6 H locs ls h hP hD hS (lv_sub hl [0, 1] rfl)
    · have h := g_f h cz
      refine lv_aload_n hx hb dX8_next_160 rfl (lv_at hl 0 rfl) ?_
      refine va_get (D := (dC, dI)) (ci := 8) (v := .int ((v1 - x_iM4))) (C := RX8) (T := TX8) (N := 78) hx hb hts ki8 hown hK hP 0 rfl rfl 5 (by decide) kf172 (fun _ h9 => h9) rfl dX8_next_161 ?_
      refine lv_bipush (v := 8) hx hb dX8_next_164 (by decide) ?_
      refine lv_icmp_gt (tgt := 173) hx hb dX8_next_166 (by decide) (fun cz => ?_) (fun cz => ?_)
      · have h := g_t h cz
        refine lv_iconst (v := 3) hx hb dX8_next_173 (by decide) ?_
        exact B174 v1 ((3 : Int32)) x_iM4 ((v1 - x_iM4)) x_iM6 H locs ls h hP hD hS (lv_sub hl [0, 1] rfl)
      · have h := g_f h cz
        refine lv_iconst (v := 1) hx hb dX8_next_169 (by decide) ?_
        refine lv_goto (tgt := 174) hx hb dX8_next_170 (by decide) ?_
        exact B174 v1 ((1 : Int32)) x_iM4 ((v1 - x_iM4)) x_iM6 H locs ls h hP hD hS (lv_sub hl [0, 1] rfl)
  have B96 : ∀ (n : Nat) (x_iM4 : Int32) (x_iM5 : Int32) (x_iM6 : Int32) (v1 : Int32) (H : Heap) (locs : List Loc) (ls : Array Slot), f_M_next_96 N (iM 1) (iM 2) (iM 3) (iM 4) (iM 5) (iM 6) (aM 0) x_iM4 x_iM5 x_iM6 n v1 = some q → va_P (dC, dI) vwCl (zzM ad cy (us iM [(4, x_iM4), (5, x_iM5), (6, x_iM6)]) aM) H → va_D A (zzM ad cy (us iM [(4, x_iM4), (5, x_iM5), (6, x_iM6)]) aM) → va_S A s.heap H locs → lv_has ls 2 [(0, .ref (ad 0)), (1, .int v1)] → W p l e ({ frames := 2, cells := 0, slots := 0, locals := 45 } : Room) s m args below meth c H locs 0 0 QQ (F0 m 96 ls []) := by
    intro n
    induction n with
    | zero =>
      intro x_iM4 x_iM5 x_iM6 v1 H locs ls h hP hD hS hl
      rw [f_M_next_96] at h
      cases h
    | succ n ih =>
      intro x_iM4 x_iM5 x_iM6 v1 H locs ls h hP hD hS hl
      rw [f_M_next_96] at h
      refine lv_iload_n hx hb dX8_next_96 rfl (lv_at hl 1 rfl) ?_
      refine lv_aload_n hx hb dX8_next_97 rfl (lv_at hl 0 rfl) ?_
      refine va_get (D := (dC, dI)) (ci := 8) (v := .int (iM 1)) (C := RX8) (T := TX8) (N := 78) hx hb hts ki8 hown hK hP 0 rfl rfl 1 (by decide) kf147 (fun _ h9 => h9) rfl dX8_next_98 ?_
      refine lv_icmp_ge (tgt := 134) hx hb dX8_next_101 (by decide) (fun cz => ?_) (fun cz => ?_)
      · have h := g_t h cz
        exact B134 v1 x_iM4 x_iM5 x_iM6 H locs ls h hP hD hS (lv_sub hl [0, 1] rfl)
      · have h := g_f h cz
        refine lv_aload_n hx hb dX8_next_104 rfl (lv_at hl 0 rfl) ?_
        refine va_get (D := (dC, dI)) (ci := 8) (v := .ref (ad 1)) (C := RX8) (T := TX8) (N := 78) hx hb hts ki8 hown hK hP 0 rfl rfl 0 (by decide) kf7 (fun _ h9 => h9) rfl dX8_next_105 ?_
        refine lv_iload_n hx hb dX8_next_108 rfl (lv_at hl 1 rfl) ?_
        obtain ⟨g_49, h⟩ := g_n h
        refine va_bald (f := (aM 0)) hx hb hK hP 1 1 rfl rfl g_49 dX8_next_109 ?_
        obtain ⟨q110, e110, h⟩ := g_b h
        refine callSi (cc := cX8_next) (ws' := zzM ad cy (us iM [(4, x_iM4), (5, x_iM5), (6, x_iM6)]) aM) (As := [.int (((aM 0) v1.toNatClampNeg))]) (rest := []) ⟨hx, hb, hml, hown, hts⟩ (c_M_isLetter l dC dI cy ad H.size (((aM 0) v1.toNatClampNeg)) q110 e110) (va_cwS 1 hts (goodS m_ml_X8_181 m_st_X8_isLetter m_in_X8 m_cd_X8_isLetter) rfl rfl rfl (by decide +kernel) ⟨Nat.le_of_ble_eq_true rfl, Nat.le_of_ble_eq_true rfl⟩) hN hK hP hD hS hA [] [none, none, none, none, none, none, none, none, none, none, none, none, none, none, none, none, none, none, none, none, none, none, none, none, none, none, none, none, none, none, none, none, none, none, none, none, none, none, none, none, none, none, none, none] rfl rfl rfl rfl rfl rfl rfl hl.1 rfl (Nat.le_of_ble_eq_true rfl) dX8_next_110 ⟨Nat.zero_le _, Nat.zero_le _⟩ (fun H locs hP hD hS => ?_)
        refine lv_if_ne (tgt := 128) hx hb dX8_next_113 (by decide) (fun cz => ?_) (fun cz => ?_)
        · have h := g_f h cz
          refine lv_iinc (v := (v1 + (1 : Int32))) (lv' := [(1, .int ((v1 + (1 : Int32)))), (0, .ref (ad 0))]) hx hb dX8_next_128 hl (k := 1) rfl rfl (by decide) rfl (fun ls hl => ?_)
          refine lv_goto (tgt := 96) hx hb dX8_next_131 (by decide) ?_
          exact ih x_iM4 x_iM5 x_iM6 ((v1 + (1 : Int32))) H locs ls h hP hD hS (lv_sub hl [1, 0] rfl)
        · have h := g_t h cz
          refine lv_aload_n hx hb dX8_next_116 rfl (lv_at hl 0 rfl) ?_
          refine va_get (D := (dC, dI)) (ci := 8) (v := .ref (ad 1)) (C := RX8) (T := TX8) (N := 78) hx hb hts ki8 hown hK hP 0 rfl rfl 0 (by decide) kf7 (fun _ h9 => h9) rfl dX8_next_117 ?_
          refine lv_iload_n hx hb dX8_next_120 rfl (lv_at hl 1 rfl) ?_
          refine va_bald (f := (aM 0)) hx hb hK hP 1 1 rfl rfl g_49 dX8_next_121 ?_
          obtain ⟨q122, e122, h⟩ := g_b h
          refine callSi (cc := cX8_next) (ws' := zzM ad cy (us iM [(4, x_iM4), (5, x_iM5), (6, x_iM6)]) aM) (As := [.int (((aM 0) v1.toNatClampNeg))]) (rest := []) ⟨hx, hb, hml, hown, hts⟩ (c_M_isFigure l dC dI cy ad H.size (((aM 0) v1.toNatClampNeg)) q122 e122) (va_cwS 1 hts (goodS m_ml_X8_185 m_st_X8_isFigure m_in_X8 m_cd_X8_isFigure) rfl rfl rfl (by decide +kernel) ⟨Nat.le_of_ble_eq_true rfl, Nat.le_of_ble_eq_true rfl⟩) hN hK hP hD hS hA [] [none, none, none, none, none, none, none, none, none, none, none, none, none, none, none, none, none, none, none, none, none, none, none, none, none, none, none, none, none, none, none, none, none, none, none, none, none, none, none, none, none, none, none, none] rfl rfl rfl rfl rfl rfl rfl hl.1 rfl (Nat.le_of_ble_eq_true rfl) dX8_next_122 ⟨Nat.zero_le _, Nat.zero_le _⟩ (fun H locs hP hD hS => ?_)
          refine lv_if_eq (tgt := 134) hx hb dX8_next_125 (by decide) (fun cz => ?_) (fun cz => ?_)
          · have h := g_t h cz
            exact B134 v1 x_iM4 x_iM5 x_iM6 H locs ls h hP hD hS (lv_sub hl [0, 1] rfl)
          · have h := g_f h cz
            refine lv_iinc (v := (v1 + (1 : Int32))) (lv' := [(1, .int ((v1 + (1 : Int32)))), (0, .ref (ad 0))]) hx hb dX8_next_128 hl (k := 1) rfl rfl (by decide) rfl (fun ls hl => ?_)
            refine lv_goto (tgt := 96) hx hb dX8_next_131 (by decide) ?_
            exact ih x_iM4 x_iM5 x_iM6 ((v1 + (1 : Int32))) H locs ls h hP hD hS (lv_sub hl [1, 0] rfl)
  have B241 : ∀ (v1 : Int32) (s1 : Int32) (x_iM4 : Int32) (x_iM5 : Int32) (x_iM6 : Int32) (H : Heap) (locs : List Loc) (ls : Array Slot), f_M_next_241 N (iM 1) (iM 2) (iM 3) (iM 4) (iM 5) (iM 6) (aM 0) v1 s1 x_iM4 x_iM5 x_iM6 = some q → va_P (dC, dI) vwCl (zzM ad cy (us iM [(4, x_iM4), (5, x_iM5), (6, x_iM6)]) aM) H → va_D A (zzM ad cy (us iM [(4, x_iM4), (5, x_iM5), (6, x_iM6)]) aM) → va_S A s.heap H locs → lv_has ls 2 [(0, .ref (ad 0)), (1, .int v1)] → W p l e ({ frames := 2, cells := 0, slots := 0, locals := 45 } : Room) s m args below meth c H locs 0 0 QQ (F0 m 241 ls [.int s1, .ref (ad 0)]) := by
    intro v1 s1 x_iM4 x_iM5 x_iM6 H locs ls h hP hD hS hl
    unfold f_M_next_241 at h
    refine va_put (D := (dC, dI)) (ci := 8) (v := .int s1) (ty := .int) (C := RX8) (T := TX8) (N := 78) hx hb hts ki8 tyX8 tyX8_ok nmX8 hown hK hP hD hS 0 rfl rfl 3 (by decide) kf178 (fun _ h9 => h9) rfl (by decide +kernel) rfl rfl (Nat.le_of_ble_eq_true rfl) dX8_next_241 (fun H locs hP hD hS => ?_)
    have hP : va_P (dC, dI) vwCl (zzM ad cy (us iM [(3, s1), (4, x_iM4), (5, x_iM5), (6, x_iM6)]) aM) H := Eq.mp (congrArg (fun w => va_P (dC, dI) vwCl w H) (stM_iM3 ad cy iM aM [(4, x_iM4), (5, x_iM5), (6, x_iM6)] s1)) hP
    have hD : va_D A (zzM ad cy (us iM [(3, s1), (4, x_iM4), (5, x_iM5), (6, x_iM6)]) aM) := Eq.mp (congrArg (fun w => va_D A w) (stM_iM3 ad cy iM aM [(4, x_iM4), (5, x_iM5), (6, x_iM6)] s1)) hD
    refine lv_iinc (v := (v1 + (1 : Int32))) (lv' := [(1, .int ((v1 + (1 : Int32)))), (0, .ref (ad 0))]) hx hb dX8_next_244 hl (k := 1) rfl rfl (by decide) rfl (fun ls hl => ?_)
    exact B247 ((v1 + (1 : Int32))) s1 x_iM4 x_iM5 x_iM6 H locs ls h hP hD hS (lv_sub hl [1, 0] rfl)
  have B41 : ∀ (v1 : Int32) (H : Heap) (locs : List Loc) (ls : Array Slot), f_M_next_41 N (iM 1) (iM 2) (iM 3) (iM 4) (iM 5) (iM 6) (aM 0) v1 = some q → va_P (dC, dI) vwCl (zzM ad cy iM aM) H → va_D A (zzM ad cy iM aM) → va_S A s.heap H locs → lv_has ls 2 [(0, .ref (ad 0)), (1, .int v1)] → W p l e ({ frames := 2, cells := 0, slots := 0, locals := 45 } : Room) s m args below meth c H locs 0 0 QQ (F0 m 41 ls []) := by
    intro v1 H locs ls h hP hD hS hl
    unfold f_M_next_41 at h
    refine lv_aload_n hx hb dX8_next_41 rfl (lv_at hl 0 rfl) ?_
    refine lv_iload_n hx hb dX8_next_42 rfl (lv_at hl 1 rfl) ?_
    refine va_put (D := (dC, dI)) (ci := 8) (v := .int v1) (ty := .int) (C := RX8) (T := TX8) (N := 78) hx hb hts ki8 tyX8 tyX8_ok nmX8 hown hK hP hD hS 0 rfl rfl 4 (by decide) kf169 (fun _ h9 => h9) rfl (by decide +kernel) rfl rfl (Nat.le_of_ble_eq_true rfl) dX8_next_43 (fun H locs hP hD hS => ?_)
    have hP : va_P (dC, dI) vwCl (zzM ad cy (us iM [(4, v1)]) aM) H := Eq.mp (congrArg (fun w => va_P (dC, dI) vwCl w H) (sfM_iM4 ad cy iM aM v1)) hP
    have hD : va_D A (zzM ad cy (us iM [(4, v1)]) aM) := Eq.mp (congrArg (fun w => va_D A w) (sfM_iM4 ad cy iM aM v1)) hD
    refine lv_aload_n hx hb dX8_next_46 rfl (lv_at hl 0 rfl) ?_
    refine lv_iconst (v := 0) hx hb dX8_next_47 (by decide) ?_
    refine va_put (D := (dC, dI)) (ci := 8) (v := .int ((0 : Int32))) (ty := .int) (C := RX8) (T := TX8) (N := 78) hx hb hts ki8 tyX8 tyX8_ok nmX8 hown hK hP hD hS 0 rfl rfl 5 (by decide) kf172 (fun _ h9 => h9) rfl (by decide +kernel) rfl rfl (Nat.le_of_ble_eq_true rfl) dX8_next_48 (fun H locs hP hD hS => ?_)
    have hP : va_P (dC, dI) vwCl (zzM ad cy (us iM [(4, v1), (5, (0 : Int32))]) aM) H := Eq.mp (congrArg (fun w => va_P (dC, dI) vwCl w H) (stM_iM5 ad cy iM aM [(4, v1)] ((0 : Int32)))) hP
    have hD : va_D A (zzM ad cy (us iM [(4, v1), (5, (0 : Int32))]) aM) := Eq.mp (congrArg (fun w => va_D A w) (stM_iM5 ad cy iM aM [(4, v1)] ((0 : Int32)))) hD
    refine lv_aload_n hx hb dX8_next_51 rfl (lv_at hl 0 rfl) ?_
    refine lv_iconst (v := 0) hx hb dX8_next_52 (by decide) ?_
    refine va_put (D := (dC, dI)) (ci := 8) (v := .int ((0 : Int32))) (ty := .int) (C := RX8) (T := TX8) (N := 78) hx hb hts ki8 tyX8 tyX8_ok nmX8 hown hK hP hD hS 0 rfl rfl 6 (by decide) kf175 (fun _ h9 => h9) rfl (by decide +kernel) rfl rfl (Nat.le_of_ble_eq_true rfl) dX8_next_53 (fun H locs hP hD hS => ?_)
    have hP : va_P (dC, dI) vwCl (zzM ad cy (us iM [(4, v1), (5, (0 : Int32)), (6, (0 : Int32))]) aM) H := Eq.mp (congrArg (fun w => va_P (dC, dI) vwCl w H) (stM_iM6 ad cy iM aM [(4, v1), (5, (0 : Int32))] ((0 : Int32)))) hP
    have hD : va_D A (zzM ad cy (us iM [(4, v1), (5, (0 : Int32)), (6, (0 : Int32))]) aM) := Eq.mp (congrArg (fun w => va_D A w) (stM_iM6 ad cy iM aM [(4, v1), (5, (0 : Int32))] ((0 : Int32)))) hD
    refine lv_iload_n hx hb dX8_next_56 rfl (lv_at hl 1 rfl) ?_
    refine lv_aload_n hx hb dX8_next_57 rfl (lv_at hl 0 rfl) ?_
    refine va_get (D := (dC, dI)) (ci := 8) (v := .int (iM 1)) (C := RX8) (T := TX8) (N := 78) hx hb hts ki8 hown hK hP 0 rfl rfl 1 (by decide) kf147 (fun _ h9 => h9) rfl dX8_next_58 ?_
    refine lv_icmp_ne (tgt := 72) hx hb dX8_next_61 (by decide) (fun cz => ?_) (fun cz => ?_)
    · have h := g_f h cz
      refine lv_aload_n hx hb dX8_next_72 rfl (lv_at hl 0 rfl) ?_
      refine va_get (D := (dC, dI)) (ci := 8) (v := .ref (ad 1)) (C := RX8) (T := TX8) (N := 78) hx hb hts ki8 hown hK hP 0 rfl rfl 0 (by decide) kf7 (fun _ h9 => h9) rfl dX8_next_73 ?_
      refine lv_iload_n hx hb dX8_next_76 rfl (lv_at hl 1 rfl) ?_
      obtain ⟨g_49, h⟩ := g_n h
      refine va_bald (f := (aM 0)) hx hb hK hP 1 1 rfl rfl g_49 dX8_next_77 ?_
      obtain ⟨q78, e78, h⟩ := g_b h
      refine callSi (cc := cX8_next) (ws' := zzM ad cy (us iM [(4, v1), (5, (0 : Int32)), (6, (0 : Int32))]) aM) (As := [.int (((aM 0) v1.toNatClampNeg))]) (rest := []) ⟨hx, hb, hml, hown, hts⟩ (c_M_isLetter l dC dI cy ad H.size (((aM 0) v1.toNatClampNeg)) q78 e78) (va_cwS 1 hts (goodS m_ml_X8_181 m_st_X8_isLetter m_in_X8 m_cd_X8_isLetter) rfl rfl rfl (by decide +kernel) ⟨Nat.le_of_ble_eq_true rfl, Nat.le_of_ble_eq_true rfl⟩) hN hK hP hD hS hA [] [none, none, none, none, none, none, none, none, none, none, none, none, none, none, none, none, none, none, none, none, none, none, none, none, none, none, none, none, none, none, none, none, none, none, none, none, none, none, none, none, none, none, none, none] rfl rfl rfl rfl rfl rfl rfl hl.1 rfl (Nat.le_of_ble_eq_true rfl) dX8_next_78 ⟨Nat.zero_le _, Nat.zero_le _⟩ (fun H locs hP hD hS => ?_)
      refine lv_if_ne (tgt := 96) hx hb dX8_next_81 (by decide) (fun cz => ?_) (fun cz => ?_)
      · have h := g_f h cz
        exact B96 N v1 ((0 : Int32)) ((0 : Int32)) v1 H locs ls h hP hD hS (lv_sub hl [0, 1] rfl)
      · have h := g_t h cz
        refine lv_aload_n hx hb dX8_next_84 rfl (lv_at hl 0 rfl) ?_
        refine va_get (D := (dC, dI)) (ci := 8) (v := .ref (ad 1)) (C := RX8) (T := TX8) (N := 78) hx hb hts ki8 hown hK hP 0 rfl rfl 0 (by decide) kf7 (fun _ h9 => h9) rfl dX8_next_85 ?_
        refine lv_iload_n hx hb dX8_next_88 rfl (lv_at hl 1 rfl) ?_
        refine va_bald (f := (aM 0)) hx hb hK hP 1 1 rfl rfl g_49 dX8_next_89 ?_
        obtain ⟨q90, e90, h⟩ := g_b h
        refine callSi (cc := cX8_next) (ws' := zzM ad cy (us iM [(4, v1), (5, (0 : Int32)), (6, (0 : Int32))]) aM) (As := [.int (((aM 0) v1.toNatClampNeg))]) (rest := []) ⟨hx, hb, hml, hown, hts⟩ (c_M_isFigure l dC dI cy ad H.size (((aM 0) v1.toNatClampNeg)) q90 e90) (va_cwS 1 hts (goodS m_ml_X8_185 m_st_X8_isFigure m_in_X8 m_cd_X8_isFigure) rfl rfl rfl (by decide +kernel) ⟨Nat.le_of_ble_eq_true rfl, Nat.le_of_ble_eq_true rfl⟩) hN hK hP hD hS hA [] [none, none, none, none, none, none, none, none, none, none, none, none, none, none, none, none, none, none, none, none, none, none, none, none, none, none, none, none, none, none, none, none, none, none, none, none, none, none, none, none, none, none, none, none] rfl rfl rfl rfl rfl rfl rfl hl.1 rfl (Nat.le_of_ble_eq_true rfl) dX8_next_90 ⟨Nat.zero_le _, Nat.zero_le _⟩ (fun H locs hP hD hS => ?_)
        refine lv_if_eq (tgt := 180) hx hb dX8_next_93 (by decide) (fun cz => ?_) (fun cz => ?_)
        · have h := g_t h cz
          refine lv_aload_n hx hb dX8_next_180 rfl (lv_at hl 0 rfl) ?_
          refine lv_aload_n hx hb dX8_next_181 rfl (lv_at hl 0 rfl) ?_
          refine va_get (D := (dC, dI)) (ci := 8) (v := .ref (ad 1)) (C := RX8) (T := TX8) (N := 78) hx hb hts ki8 hown hK hP 0 rfl rfl 0 (by decide) kf7 (fun _ h9 => h9) rfl dX8_next_182 ?_
          refine lv_iload_n hx hb dX8_next_185 rfl (lv_at hl 1 rfl) ?_
          refine va_bald (f := (aM 0)) hx hb hK hP 1 1 rfl rfl g_49 dX8_next_186 ?_
          refine va_put (D := (dC, dI)) (ci := 8) (v := .int (((aM 0) v1.toNatClampNeg))) (ty := .int) (C := RX8) (T := TX8) (N := 78) hx hb hts ki8 tyX8 tyX8_ok nmX8 hown hK hP hD hS 0 rfl rfl 6 (by decide) kf175 (fun _ h9 => h9) rfl (by decide +kernel) rfl rfl (Nat.le_of_ble_eq_true rfl) dX8_next_187 (fun H locs hP hD hS => ?_)
          have hP : va_P (dC, dI) vwCl (zzM ad cy (us iM [(4, v1), (5, (0 : Int32)), (6, ((aM 0) v1.toNatClampNeg))]) aM) H := Eq.mp (congrArg (fun w => va_P (dC, dI) vwCl w H) (stM_iM6 ad cy iM aM [(4, v1), (5, (0 : Int32)), (6, (0 : Int32))] (((aM 0) v1.toNatClampNeg)))) hP
          have hD : va_D A (zzM ad cy (us iM [(4, v1), (5, (0 : Int32)), (6, ((aM 0) v1.toNatClampNeg))]) aM) := Eq.mp (congrArg (fun w => va_D A w) (stM_iM6 ad cy iM aM [(4, v1), (5, (0 : Int32)), (6, (0 : Int32))] (((aM 0) v1.toNatClampNeg)))) hD
          refine lv_aload_n hx hb dX8_next_190 rfl (lv_at hl 0 rfl) ?_
          refine lv_aload_n hx hb dX8_next_191 rfl (lv_at hl 0 rfl) ?_
          refine va_get (D := (dC, dI)) (ci := 8) (v := .int (((aM 0) v1.toNatClampNeg))) (C := RX8) (T := TX8) (N := 78) hx hb hts ki8 hown hK hP 0 rfl rfl 6 (by decide) kf175 (fun _ h9 => h9) rfl dX8_next_192 ?_
          refine lv_bipush (v := 60) hx hb dX8_next_195 (by decide) ?_
          refine lv_icmp_eq (tgt := 236) hx hb dX8_next_197 (by decide) (fun cz => ?_) (fun cz => ?_)
          · have h := g_t h cz
            refine lv_iconst (v := 2) hx hb dX8_next_236 (by decide) ?_
            refine lv_goto (tgt := 241) hx hb dX8_next_237 (by decide) ?_
            exact B241 v1 ((2 : Int32)) v1 ((0 : Int32)) (((aM 0) v1.toNatClampNeg)) H locs ls h hP hD hS (lv_sub hl [0, 1] rfl)
          · have h := g_f h cz
            refine lv_aload_n hx hb dX8_next_200 rfl (lv_at hl 0 rfl) ?_
            refine va_get (D := (dC, dI)) (ci := 8) (v := .int (((aM 0) v1.toNatClampNeg))) (C := RX8) (T := TX8) (N := 78) hx hb hts ki8 hown hK hP 0 rfl rfl 6 (by decide) kf175 (fun _ h9 => h9) rfl dX8_next_201 ?_
            refine lv_bipush (v := 61) hx hb dX8_next_204 (by decide) ?_
            refine lv_icmp_eq (tgt := 236) hx hb dX8_next_206 (by decide) (fun cz => ?_) (fun cz => ?_)
            · have h := g_t h cz
              refine lv_iconst (v := 2) hx hb dX8_next_236 (by decide) ?_
              refine lv_goto (tgt := 241) hx hb dX8_next_237 (by decide) ?_
              exact B241 v1 ((2 : Int32)) v1 ((0 : Int32)) (((aM 0) v1.toNatClampNeg)) H locs ls h hP hD hS (lv_sub hl [0, 1] rfl)
            · have h := g_f h cz
              refine lv_aload_n hx hb dX8_next_209 rfl (lv_at hl 0 rfl) ?_
              refine va_get (D := (dC, dI)) (ci := 8) (v := .int (((aM 0) v1.toNatClampNeg))) (C := RX8) (T := TX8) (N := 78) hx hb hts ki8 hown hK hP 0 rfl rfl 6 (by decide) kf175 (fun _ h9 => h9) rfl dX8_next_210 ?_
              refine lv_bipush (v := 59) hx hb dX8_next_213 (by decide) ?_
              refine lv_icmp_eq (tgt := 236) hx hb dX8_next_215 (by decide) (fun cz => ?_) (fun cz => ?_)
              · have h := g_t h cz
                refine lv_iconst (v := 2) hx hb dX8_next_236 (by decide) ?_
                refine lv_goto (tgt := 241) hx hb dX8_next_237 (by decide) ?_
                exact B241 v1 ((2 : Int32)) v1 ((0 : Int32)) (((aM 0) v1.toNatClampNeg)) H locs ls h hP hD hS (lv_sub hl [0, 1] rfl)
              · have h := g_f h cz
                refine lv_aload_n hx hb dX8_next_218 rfl (lv_at hl 0 rfl) ?_
                refine va_get (D := (dC, dI)) (ci := 8) (v := .int (((aM 0) v1.toNatClampNeg))) (C := RX8) (T := TX8) (N := 78) hx hb hts ki8 hown hK hP 0 rfl rfl 6 (by decide) kf175 (fun _ h9 => h9) rfl dX8_next_219 ?_
                refine lv_bipush (v := 40) hx hb dX8_next_222 (by decide) ?_
                refine lv_icmp_eq (tgt := 236) hx hb dX8_next_224 (by decide) (fun cz => ?_) (fun cz => ?_)
                · have h := g_t h cz
                  refine lv_iconst (v := 2) hx hb dX8_next_236 (by decide) ?_
                  refine lv_goto (tgt := 241) hx hb dX8_next_237 (by decide) ?_
                  exact B241 v1 ((2 : Int32)) v1 ((0 : Int32)) (((aM 0) v1.toNatClampNeg)) H locs ls h hP hD hS (lv_sub hl [0, 1] rfl)
                · have h := g_f h cz
                  refine lv_aload_n hx hb dX8_next_227 rfl (lv_at hl 0 rfl) ?_
                  refine va_get (D := (dC, dI)) (ci := 8) (v := .int (((aM 0) v1.toNatClampNeg))) (C := RX8) (T := TX8) (N := 78) hx hb hts ki8 hown hK hP 0 rfl rfl 6 (by decide) kf175 (fun _ h9 => h9) rfl dX8_next_228 ?_
                  refine lv_bipush (v := 41) hx hb dX8_next_231 (by decide) ?_
                  refine lv_icmp_ne (tgt := 240) hx hb dX8_next_233 (by decide) (fun cz => ?_) (fun cz => ?_)
                  · have h := g_f h cz
                    refine lv_iconst (v := 3) hx hb dX8_next_240 (by decide) ?_
                    exact B241 v1 ((3 : Int32)) v1 ((0 : Int32)) (((aM 0) v1.toNatClampNeg)) H locs ls h hP hD hS (lv_sub hl [0, 1] rfl)
                  · have h := g_t h cz
                    refine lv_iconst (v := 2) hx hb dX8_next_236 (by decide) ?_
                    refine lv_goto (tgt := 241) hx hb dX8_next_237 (by decide) ?_
                    exact B241 v1 ((2 : Int32)) v1 ((0 : Int32)) (((aM 0) v1.toNatClampNeg)) H locs ls h hP hD hS (lv_sub hl [0, 1] rfl)
        · have h := g_f h cz
          exact B96 N v1 ((0 : Int32)) ((0 : Int32)) v1 H locs ls h hP hD hS (lv_sub hl [0, 1] rfl)
    · have h := g_t h cz
      refine lv_aload_n hx hb dX8_next_64 rfl (lv_at hl 0 rfl) ?_
      refine lv_iconst (v := 0) hx hb dX8_next_65 (by decide) ?_
      refine va_put (D := (dC, dI)) (ci := 8) (v := .int ((0 : Int32))) (ty := .int) (C := RX8) (T := TX8) (N := 78) hx hb hts ki8 tyX8 tyX8_ok nmX8 hown hK hP hD hS 0 rfl rfl 3 (by decide) kf178 (fun _ h9 => h9) rfl (by decide +kernel) rfl rfl (Nat.le_of_ble_eq_true rfl) dX8_next_66 (fun H locs hP hD hS => ?_)
      have hP : va_P (dC, dI) vwCl (zzM ad cy (us iM [(3, (0 : Int32)), (4, v1), (5, (0 : Int32)), (6, (0 : Int32))]) aM) H := Eq.mp (congrArg (fun w => va_P (dC, dI) vwCl w H) (stM_iM3 ad cy iM aM [(4, v1), (5, (0 : Int32)), (6, (0 : Int32))] ((0 : Int32)))) hP
      have hD : va_D A (zzM ad cy (us iM [(3, (0 : Int32)), (4, v1), (5, (0 : Int32)), (6, (0 : Int32))]) aM) := Eq.mp (congrArg (fun w => va_D A w) (stM_iM3 ad cy iM aM [(4, v1), (5, (0 : Int32)), (6, (0 : Int32))] ((0 : Int32)))) hD
      refine lv_goto (tgt := 247) hx hb dX8_next_69 (by decide) ?_
      exact B247 v1 ((0 : Int32)) v1 ((0 : Int32)) ((0 : Int32)) H locs ls h hP hD hS (lv_sub hl [0, 1] rfl)
  have B5 : ∀ (n : Nat) (v1 : Int32) (H : Heap) (locs : List Loc) (ls : Array Slot), f_M_next_5 N (iM 1) (iM 2) (iM 3) (iM 4) (iM 5) (iM 6) (aM 0) n v1 = some q → va_P (dC, dI) vwCl (zzM ad cy iM aM) H → va_D A (zzM ad cy iM aM) → va_S A s.heap H locs → lv_has ls 2 [(0, .ref (ad 0)), (1, .int v1)] → W p l e ({ frames := 2, cells := 0, slots := 0, locals := 45 } : Room) s m args below meth c H locs 0 0 QQ (F0 m 5 ls []) := by
    intro n
    induction n with
    | zero =>
      intro v1 H locs ls h hP hD hS hl
      rw [f_M_next_5] at h
      cases h
    | succ n ih =>
      intro v1 H locs ls h hP hD hS hl
      rw [f_M_next_5] at h
      refine lv_iload_n hx hb dX8_next_5 rfl (lv_at hl 1 rfl) ?_
      refine lv_aload_n hx hb dX8_next_6 rfl (lv_at hl 0 rfl) ?_
      refine va_get (D := (dC, dI)) (ci := 8) (v := .int (iM 1)) (C := RX8) (T := TX8) (N := 78) hx hb hts ki8 hown hK hP 0 rfl rfl 1 (by decide) kf147 (fun _ h9 => h9) rfl dX8_next_7 ?_
      refine lv_icmp_ge (tgt := 41) hx hb dX8_next_10 (by decide) (fun cz => ?_) (fun cz => ?_)
      · have h := g_t h cz
        exact B41 v1 H locs ls h hP hD hS (lv_sub hl [0, 1] rfl)
      · have h := g_f h cz
        refine lv_aload_n hx hb dX8_next_13 rfl (lv_at hl 0 rfl) ?_
        refine va_get (D := (dC, dI)) (ci := 8) (v := .ref (ad 1)) (C := RX8) (T := TX8) (N := 78) hx hb hts ki8 hown hK hP 0 rfl rfl 0 (by decide) kf7 (fun _ h9 => h9) rfl dX8_next_14 ?_
        refine lv_iload_n hx hb dX8_next_17 rfl (lv_at hl 1 rfl) ?_
        obtain ⟨g_49, h⟩ := g_n h
        refine va_bald (f := (aM 0)) hx hb hK hP 1 1 rfl rfl g_49 dX8_next_18 ?_
        refine lv_bipush (v := 32) hx hb dX8_next_19 (by decide) ?_
        refine lv_icmp_eq (tgt := 35) hx hb dX8_next_21 (by decide) (fun cz => ?_) (fun cz => ?_)
        · have h := g_t h cz
          refine lv_iinc (v := (v1 + (1 : Int32))) (lv' := [(1, .int ((v1 + (1 : Int32)))), (0, .ref (ad 0))]) hx hb dX8_next_35 hl (k := 1) rfl rfl (by decide) rfl (fun ls hl => ?_)
          refine lv_goto (tgt := 5) hx hb dX8_next_38 (by decide) ?_
          exact ih ((v1 + (1 : Int32))) H locs ls h hP hD hS (lv_sub hl [1, 0] rfl)
        · have h := g_f h cz
          refine lv_aload_n hx hb dX8_next_24 rfl (lv_at hl 0 rfl) ?_
          refine va_get (D := (dC, dI)) (ci := 8) (v := .ref (ad 1)) (C := RX8) (T := TX8) (N := 78) hx hb hts ki8 hown hK hP 0 rfl rfl 0 (by decide) kf7 (fun _ h9 => h9) rfl dX8_next_25 ?_
          refine lv_iload_n hx hb dX8_next_28 rfl (lv_at hl 1 rfl) ?_
          refine va_bald (f := (aM 0)) hx hb hK hP 1 1 rfl rfl g_49 dX8_next_29 ?_
          refine lv_bipush (v := 10) hx hb dX8_next_30 (by decide) ?_
          refine lv_icmp_ne (tgt := 41) hx hb dX8_next_32 (by decide) (fun cz => ?_) (fun cz => ?_)
          · have h := g_f h cz
            exact B41 v1 H locs ls h hP hD hS (lv_sub hl [0, 1] rfl)
          · have h := g_t h cz
            refine lv_iinc (v := (v1 + (1 : Int32))) (lv' := [(1, .int ((v1 + (1 : Int32)))), (0, .ref (ad 0))]) hx hb dX8_next_35 hl (k := 1) rfl rfl (by decide) rfl (fun ls hl => ?_)
            refine lv_goto (tgt := 5) hx hb dX8_next_38 (by decide) ?_
            exact ih ((v1 + (1 : Int32))) H locs ls h hP hD hS (lv_sub hl [1, 0] rfl)
  intro H locs hP hD hS
  unfold f_M_next at h
  refine lv_aload_n hx hb dX8_next_0 rfl (lv_at hl 0 rfl) ?_
  refine va_get (D := (dC, dI)) (ci := 8) (v := .int (iM 2)) (C := RX8) (T := TX8) (N := 78) hx hb hts ki8 hown hK hP 0 rfl rfl 2 (by decide) kf166 (fun _ h9 => h9) rfl dX8_next_1 ?_
  refine lv_istore_n (lv' := [(1, .int (iM 2)), (0, .ref (ad 0))]) hx hb dX8_next_4 rfl hl (by decide) rfl (fun ls hl => ?_)
  exact B5 N (iM 2) H locs ls h hP hD hS (lv_sub hl [1, 0] rfl)
