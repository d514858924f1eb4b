def f_C_make_136 (N : Nat) (iC4 : Int32) (iC9 : Int32) (aC0 : Nat → Int32) (aC1 : Nat → Int32) (aC2 : Nat → Int32) (aC3 : Nat → Int32) (aC5 : Nat → Int32) (aC6 : Nat → Int32) (aC7 : Nat → Int32) (aC8 : Nat → Int32) (v1 : Int32) (v2 : Int32) (v3 : Int32) (v5 : Int32) (x_iC9 : Int32) (x_aC5 : Nat → Int32) (x_aC6 : Nat → Int32) (x_aC7 : Nat → Int32) (x_aC8 : Nat → Int32) : Option (Int32 × Int32 × Int32 × (Nat → Int32) × (Nat → Int32) × (Nat → Int32) × (Nat → Int32) × (Nat → Int32) × (Nat → Int32) × (Nat → Int32) × (Nat → Int32)) := if iC4 < 0 ∨ 200 ≤ iC4.toNatClampNeg then none else (some (((iC4 + (1 : Int32)) - (1 : Int32)), (iC4 + (1 : Int32)), x_iC9, (upd aC0 iC4.toNatClampNeg v1), (upd aC1 iC4.toNatClampNeg v2), (upd aC2 iC4.toNatClampNeg v3), (upd aC3 iC4.toNatClampNeg v5), x_aC5, x_aC6, x_aC7, x_aC8))
def f_C_make_114 (N : Nat) (iC4 : Int32) (iC9 : Int32) (aC0 : Nat → Int32) (aC1 : Nat → Int32) (aC2 : Nat → Int32) (aC3 : Nat → Int32) (aC5 : Nat → Int32) (aC6 : Nat → Int32) (aC7 : Nat → Int32) (aC8 : Nat → Int32) (v1 : Int32) (v2 : Int32) (v3 : Int32) (v5 : Int32) (x_iC9 : Int32) (x_aC5 : Nat → Int32) (x_aC6 : Nat → Int32) (x_aC7 : Nat → Int32) (x_aC8 : Nat → Int32) : Option (Int32 × Int32 × Int32 × (Nat → Int32) × (Nat → Int32) × (Nat → Int32) × (Nat → Int32) × (Nat → Int32) × (Nat → Int32) × (Nat → Int32) × (Nat → Int32)) := if v5 = (-1 : Int32) then (if v1 = 0 then (some ((-1 : Int32), iC4, x_iC9, aC0, aC1, aC2, aC3, x_aC5, x_aC6, x_aC7, x_aC8)) else (if v1 = (4 : Int32) then (some ((-1 : Int32), iC4, x_iC9, aC0, aC1, aC2, aC3, x_aC5, x_aC6, x_aC7, x_aC8)) else (if v1 = (5 : Int32) then (some ((-1 : Int32), iC4, x_iC9, aC0, aC1, aC2, aC3, x_aC5, x_aC6, x_aC7, x_aC8)) else (f_C_make_136 N iC4 iC9 aC0 aC1 aC2 aC3 aC5 aC6 aC7 aC8 v1 v2 v3 v5 x_iC9 x_aC5 x_aC6 x_aC7 x_aC8)))) else (f_C_make_136 N iC4 iC9 aC0 aC1 aC2 aC3 aC5 aC6 aC7 aC8 v1 v2 v3 v5 x_iC9 x_aC5 x_aC6 x_aC7 x_aC8)
def f_C_make_84 (N : Nat) (iC4 : Int32) (iC9 : Int32) (aC0 : Nat → Int32) (aC1 : Nat → Int32) (aC2 : Nat → Int32) (aC3 : Nat → Int32) (aC5 : Nat → Int32) (aC6 : Nat → Int32) (aC7 : Nat → Int32) (aC8 : Nat → Int32) (v1 : Int32) (v2 : Int32) (v3 : Int32) (s0 : Int32) : Option (Int32 × Int32 × Int32 × (Nat → Int32) × (Nat → Int32) × (Nat → Int32) × (Nat → Int32) × (Nat → Int32) × (Nat → Int32) × (Nat → Int32) × (Nat → Int32)) := if s0 = 0 then ((f_C_atomOfRole N v3 v2 ((1 : Int32)) iC4 iC9 aC0 aC1 aC5 aC6 aC7 aC8).bind fun q109 => (f_C_make_114 N iC4 iC9 aC0 aC1 aC2 aC3 aC5 aC6 aC7 aC8 v1 v2 v3 q109.1 q109.2.1 q109.2.2.1 q109.2.2.2.1 q109.2.2.2.2.1 q109.2.2.2.2.2)) else ((f_C_leftOf v2 iC4 aC1).bind fun q95 => ((f_C_atomOfRole N v3 q95 ((0 : Int32)) iC4 iC9 aC0 aC1 aC5 aC6 aC7 aC8).bind fun q99 => (f_C_make_114 N iC4 iC9 aC0 aC1 aC2 aC3 aC5 aC6 aC7 aC8 v1 v2 v3 q99.1 q99.2.1 q99.2.2.1 q99.2.2.2.1 q99.2.2.2.2.1 q99.2.2.2.2.2)))
def f_C_make (N : Nat) (a1 : Int32) (a2 : Int32) (a3 : Int32) (iC4 : Int32) (iC9 : Int32) (aC0 : Nat → Int32) (aC1 : Nat → Int32) (aC2 : Nat → Int32) (aC3 : Nat → Int32) (aC5 : Nat → Int32) (aC6 : Nat → Int32) (aC7 : Nat → Int32) (aC8 : Nat → Int32) : Option (Int32 × Int32 × Int32 × (Nat → Int32) × (Nat → Int32) × (Nat → Int32) × (Nat → Int32) × (Nat → Int32) × (Nat → Int32) × (Nat → Int32) × (Nat → Int32)) := (f_C_find N a1 a2 a3 iC4 aC0 aC1 aC2).bind fun q4 => (if q4 = (-1 : Int32) then (if iC4 < (200 : Int32) then (if a1 = 0 then ((f_C_atomFor N ((-1 : Int32)) a2 ((-1 : Int32)) ((0 : Int32)) iC9 aC5 aC6 aC7 aC8).bind fun q40 => (f_C_make_114 N iC4 iC9 aC0 aC1 aC2 aC3 aC5 aC6 aC7 aC8 a1 a2 a3 q40.1 q40.2.1 q40.2.2.1 q40.2.2.2.1 q40.2.2.2.2.1 q40.2.2.2.2.2)) else (if a1 = (4 : Int32) then ((f_C_atomOfRole N a3 a2 ((0 : Int32)) iC4 iC9 aC0 aC1 aC5 aC6 aC7 aC8).bind fun q57 => (f_C_make_114 N iC4 iC9 aC0 aC1 aC2 aC3 aC5 aC6 aC7 aC8 a1 a2 a3 q57.1 q57.2.1 q57.2.2.1 q57.2.2.2.1 q57.2.2.2.2.1 q57.2.2.2.2.2)) else (if a1 = (5 : Int32) then ((f_C_sortOf a2 iC4 aC0).bind fun q72 => (if q72 = (3 : Int32) then (f_C_make_84 N iC4 iC9 aC0 aC1 aC2 aC3 aC5 aC6 aC7 aC8 a1 a2 a3 ((1 : Int32))) else (f_C_make_84 N iC4 iC9 aC0 aC1 aC2 aC3 aC5 aC6 aC7 aC8 a1 a2 a3 ((0 : Int32))))) else (f_C_make_114 N iC4 iC9 aC0 aC1 aC2 aC3 aC5 aC6 aC7 aC8 a1 a2 a3 ((-1 : Int32)) iC9 aC5 aC6 aC7 aC8)))) else (some (q4, iC4, iC9, aC0, aC1, aC2, aC3, aC5, aC6, aC7, aC8))) else (some (q4, iC4, iC9, aC0, aC1, aC2, aC3, aC5, aC6, aC7, aC8)))
set_option maxHeartbeats 8000000 in
set_option maxRecDepth 100000 in
theorem c_C_make (l : Launch) (dC : Nat → ClassId) (dI : Nat → Nat → Nat) (cy : Nat → ClassId) (ad : Nat → Nat) (sz : Nat) (N : Nat) (a1 : Int32) (a2 : Int32) (a3 : Int32) (iC : Nat → Int32) (aC : Nat → Nat → Int32) (q : Int32 × Int32 × Int32 × (Nat → Int32) × (Nat → Int32) × (Nat → Int32) × (Nat → Int32) × (Nat → Int32) × (Nat → Int32) × (Nat → Int32) × (Nat → Int32)) (h : f_C_make N a1 a2 a3 (iC 4) (iC 9) (aC 0) (aC 1) (aC 2) (aC 3) (aC 5) (aC 6) (aC 7) (aC 8) = some q) : Met l yX1_make wsX1_make ({ frames := 2, cells := 0, slots := 0, locals := 48 } : Room) (cP (dC, dI) cy [.ref (ad 0), .int a1, .int a2, .int a3] (zzC ad cy iC aC) sz) (cQi (dC, dI) cy q.1 (zzC ad cy (us iC [(4, q.2.1), (9, q.2.2.1)]) (us aC [(0, q.2.2.2.1), (1, q.2.2.2.2.1), (2, q.2.2.2.2.2.1), (3, q.2.2.2.2.2.2.1), (5, q.2.2.2.2.2.2.2.1), (6, q.2.2.2.2.2.2.2.2.1), (7, q.2.2.2.2.2.2.2.2.2.1), (8, q.2.2.2.2.2.2.2.2.2.2)])) (va_A (zzC ad cy iC aC) sz)) 0 0 (va_A (zzC ad cy iC aC) sz) := by
  refine Met.ofW (cc := cX1_make) (maxL := 7) (ret := (some .int)) (by decide) rfl ?_
  intro p e s m args below meth c s₁ B hml hv
  obtain ⟨hav, hsz, hP, hK, hD0, hN⟩ := hv
  have hx := B.exec
  have hb := B.bytes
  have hr := B.returns
  have hts := atoms_spec (ws := wsX1_make) B.pre
  have hown : s.vm.findClass RX1 = some m.cls := findClass_of_methodNamed B.named
  have hlocks := B.notSynchronized
  subst hsz
  have hD := hD0.self (sz := s.heap.size)
  generalize hAe : va_A (zzC ad cy iC aC) s.heap.size = A at hD ⊢
  have hA : ∀ q : Nat, s.heap.size ≤ q → A q := fun q h => by rw [← hAe]; exact Or.inr h
  have hS : va_S A s.heap s.heap [] := va_S.rf
  generalize hWQ : (zzC ad cy (us iC [(4, q.2.1), (9, q.2.2.1)]) (us aC [(0, q.2.2.2.1), (1, q.2.2.2.2.1), (2, q.2.2.2.2.2.1), (3, q.2.2.2.2.2.2.1), (5, q.2.2.2.2.2.2.2.1), (6, q.2.2.2.2.2.2.2.2.1), (7, q.2.2.2.2.2.2.2.2.2.1), (8, q.2.2.2.2.2.2.2.2.2.2)])) = WQ
  generalize hQQ : MQ below (cQi (dC, dI) cy q.1 WQ A) args s 0 0 A = QQ
  have hl := lv_entry ([.ref (ad 0), .int a1, .int a2, .int a3] : List Value) (n := 7) (Nat.le_of_ble_eq_true rfl)
  have hfr := lg_entry_eq m ([.ref (ad 0), .int a1, .int a2, .int a3] : List Value) 7
  rw [← hav] at hfr
  rw [hfr]
  clear hfr hav
  generalize (lg_sl ([.ref (ad 0), .int a1, .int a2, .int a3] : List Value) ++ List.replicate (7 - (lg_sl ([.ref (ad 0), .int a1, .int a2, .int a3] : List Value)).length) Slot.unset).toArray = ls at hl ⊢
  have hl : lv_has ls 7 [(0, .ref (ad 0)), (1, .int a1), (2, .int a2), (3, .int a3)] := hl
  have kf9 := hts _ (List.mem_cons_of_mem _ m_fl_X1_9)
  have ki1 := (fun w h => List.mem_cons_of_mem _ (i_X1 w h) : ∀ w ∈ u_ws RX1 TX1 10, w ∈ wsX1_make)
  have kf36 := hts _ (List.mem_cons_of_mem _ m_fl_X1_36)
  have kf15 := hts _ (List.mem_cons_of_mem _ m_fl_X1_15)
  have kf18 := hts _ (List.mem_cons_of_mem _ m_fl_X1_18)
  have kf21 := hts _ (List.mem_cons_of_mem _ m_fl_X1_21)
  refine (?_ : ∀ (H : Heap) (locs : List Loc), va_P (dC, dI) vwCl (zzC ad cy iC aC) H → va_D A (zzC ad cy iC aC) → va_S A s.heap H locs → W p l e ({ frames := 2, cells := 0, slots := 0, locals := 48 } : Room) s m args below meth c H locs 0 0 QQ (F0 m 0 ls [])) s.heap [] hP hD hS
  clear hP hD hS
  have B136 : ∀ (v1 : Int32) (v2 : Int32) (v3 : Int32) (v5 : Int32) (x_iC9 : Int32) (x_aC5 : Nat → Int32) (x_aC6 : Nat → Int32) (x_aC7 : Nat → Int32) (x_aC8 : Nat → Int32) (H : Heap) (locs : List Loc) (ls : Array Slot), f_C_make_136 N (iC 4) (iC 9) (aC 0) (aC 1) (aC 2) (aC 3) (aC 5) (aC 6) (aC 7) (aC 8) v1 v2 v3 v5 x_iC9 x_aC5 x_aC6 x_aC7 x_aC8 = some q → va_P (dC, dI) vwCl (zzC ad cy (us iC [(9, x_iC9)]) (us aC [(5, x_aC5), (6, x_aC6), (7, x_aC7), (8, x_aC8)])) H → va_D A (zzC ad cy (us iC [(9, x_iC9)]) (us aC [(5, x_aC5), (6, x_aC6), (7, x_aC7), (8, x_aC8)])) → va_S A s.heap H locs → lv_has ls 7 [(0, .ref (ad 0)), (1, .int v1), (2, .int v2), (3, .int v3), (5, .int v5)] → W p l e ({ frames := 2, cells := 0, slots := 0, locals := 48 } : Room) s m args below meth c H locs 0 0 QQ (F0 m 136 ls []) := by
    intro v1 v2 v3 v5 x_iC9 x_aC5 x_aC6 x_aC7 x_aC8 H locs ls h hP hD hS hl
    unfold f_C_make_136 at h
    refine lv_aload_n hx hb dX1_make_136 rfl (lv_at hl 0 rfl) ?_
    refine va_get (D := (dC, dI)) (ci := 1) (v := .ref (ad 1)) (C := RX1) (T := TX1) (N := 10) hx hb hts ki1 hown hK hP 0 rfl rfl 0 (by decide) kf9 (fun _ h9 => h9) rfl dX1_make_137 ?_
    refine lv_aload_n hx hb dX1_make_140 rfl (lv_at hl 0 rfl) ?_
    refine va_get (D := (dC, dI)) (ci := 1) (v := .int (iC 4)) (C := RX1) (T := TX1) (N := 10) hx hb hts ki1 hown hK hP 0 rfl rfl 4 (by decide) kf36 (fun _ h9 => h9) rfl dX1_make_141 ?_
    refine lv_iload_n hx hb dX1_make_144 rfl (lv_at hl 1 rfl) ?_
    obtain ⟨g_12, h⟩ := g_n h
    refine va_iast (f := (aC 0)) hx hb hK hP hD hS 1 0 rfl rfl g_12 dX1_make_145 (fun H locs hP hD hS => ?_)
    have hP : va_P (dC, dI) vwCl (zzC ad cy (us iC [(9, x_iC9)]) (us aC [(0, (upd (aC 0) (iC 4).toNatClampNeg v1)), (5, x_aC5), (6, x_aC6), (7, x_aC7), (8, x_aC8)])) H := Eq.mp (congrArg (fun w => va_P (dC, dI) vwCl w H) (stC_aC0 ad cy (us iC [(9, x_iC9)]) aC [(5, x_aC5), (6, x_aC6), (7, x_aC7), (8, x_aC8)] ((upd (aC 0) (iC 4).toNatClampNeg v1)))) hP
    have hD : va_D A (zzC ad cy (us iC [(9, x_iC9)]) (us aC [(0, (upd (aC 0) (iC 4).toNatClampNeg v1)), (5, x_aC5), (6, x_aC6), (7, x_aC7), (8, x_aC8)])) := Eq.mp (congrArg (fun w => va_D A w) (stC_aC0 ad cy (us iC [(9, x_iC9)]) aC [(5, x_aC5), (6, x_aC6), (7, x_aC7), (8, x_aC8)] ((upd (aC 0) (iC 4).toNatClampNeg v1)))) hD
    refine lv_aload_n hx hb dX1_make_146 rfl (lv_at hl 0 rfl) ?_
    refine va_get (D := (dC, dI)) (ci := 1) (v := .ref (ad 2)) (C := RX1) (T := TX1) (N := 10) hx hb hts ki1 hown hK hP 0 rfl rfl 1 (by decide) kf15 (fun _ h9 => h9) rfl dX1_make_147 ?_
    refine lv_aload_n hx hb dX1_make_150 rfl (lv_at hl 0 rfl) ?_
    refine va_get (D := (dC, dI)) (ci := 1) (v := .int (iC 4)) (C := RX1) (T := TX1) (N := 10) hx hb hts ki1 hown hK hP 0 rfl rfl 4 (by decide) kf36 (fun _ h9 => h9) rfl dX1_make_151 ?_
    refine lv_iload_n hx hb dX1_make_154 rfl (lv_at hl 2 rfl) ?_
    refine va_iast (f := (aC 1)) hx hb hK hP hD hS 2 0 rfl rfl g_12 dX1_make_155 (fun H locs hP hD hS => ?_)
    have hP : va_P (dC, dI) vwCl (zzC ad cy (us iC [(9, x_iC9)]) (us aC [(0, (upd (aC 0) (iC 4).toNatClampNeg v1)), (1, (upd (aC 1) (iC 4).toNatClampNeg v2)), (5, x_aC5), (6, x_aC6), (7, x_aC7), (8, x_aC8)])) H := Eq.mp (congrArg (fun w => va_P (dC, dI) vwCl w H) (stC_aC1 ad cy (us iC [(9, x_iC9)]) aC [(0, (upd (aC 0) (iC 4).toNatClampNeg v1)), (5, x_aC5), (6, x_aC6), (7, x_aC7), (8, x_aC8)] ((upd (aC 1) (iC 4).toNatClampNeg v2)))) hP
    have hD : va_D A (zzC ad cy (us iC [(9, x_iC9)]) (us aC [(0, (upd (aC 0) (iC 4).toNatClampNeg v1)), (1, (upd (aC 1) (iC 4).toNatClampNeg v2)), (5, x_aC5), (6, x_aC6), (7, x_aC7), (8, x_aC8)])) := Eq.mp (congrArg (fun w => va_D A w) (stC_aC1 ad cy (us iC [(9, x_iC9)]) aC [(0, (upd (aC 0) (iC 4).toNatClampNeg v1)), (5, x_aC5), (6, x_aC6), (7, x_aC7), (8, x_aC8)] ((upd (aC 1) (iC 4).toNatClampNeg v2)))) hD
    refine lv_aload_n hx hb dX1_make_156 rfl (lv_at hl 0 rfl) ?_
    refine va_get (D := (dC, dI)) (ci := 1) (v := .ref (ad 3)) (C := RX1) (T := TX1) (N := 10) hx hb hts ki1 hown hK hP 0 rfl rfl 2 (by decide) kf18 (fun _ h9 => h9) rfl dX1_make_157 ?_
    refine lv_aload_n hx hb dX1_make_160 rfl (lv_at hl 0 rfl) ?_
    refine va_get (D := (dC, dI)) (ci := 1) (v := .int (iC 4)) (C := RX1) (T := TX1) (N := 10) hx hb hts ki1 hown hK hP 0 rfl rfl 4 (by decide) kf36 (fun _ h9 => h9) rfl dX1_make_161 ?_
    refine lv_iload_n hx hb dX1_make_164 rfl (lv_at hl 3 rfl) ?_
    refine va_iast (f := (aC 2)) hx hb hK hP hD hS 3 0 rfl rfl g_12 dX1_make_165 (fun H locs hP hD hS => ?_)
    have hP : va_P (dC, dI) vwCl (zzC ad cy (us iC [(9, x_iC9)]) (us aC [(0, (upd (aC 0) (iC 4).toNatClampNeg v1)), (1, (upd (aC 1) (iC 4).toNatClampNeg v2)), (2, (upd (aC 2) (iC 4).toNatClampNeg v3)), (5, x_aC5), (6, x_aC6), (7, x_aC7), (8, x_aC8)])) H := Eq.mp (congrArg (fun w => va_P (dC, dI) vwCl w H) (stC_aC2 ad cy (us iC [(9, x_iC9)]) aC [(0, (upd (aC 0) (iC 4).toNatClampNeg v1)), (1, (upd (aC 1) (iC 4).toNatClampNeg v2)), (5, x_aC5), (6, x_aC6), (7, x_aC7), (8, x_aC8)] ((upd (aC 2) (iC 4).toNatClampNeg v3)))) hP
    have hD : va_D A (zzC ad cy (us iC [(9, x_iC9)]) (us aC [(0, (upd (aC 0) (iC 4).toNatClampNeg v1)), (1, (upd (aC 1) (iC 4).toNatClampNeg v2)), (2, (upd (aC 2) (iC 4).toNatClampNeg v3)), (5, x_aC5), (6, x_aC6), (7, x_aC7), (8, x_aC8)])) := Eq.mp (congrArg (fun w => va_D A w) (stC_aC2 ad cy (us iC [(9, x_iC9)]) aC [(0, (upd (aC 0) (iC 4).toNatClampNeg v1)), (1, (upd (aC 1) (iC 4).toNatClampNeg v2)), (5, x_aC5), (6, x_aC6), (7, x_aC7), (8, x_aC8)] ((upd (aC 2) (iC 4).toNatClampNeg v3)))) hD
    refine lv_aload_n hx hb dX1_make_166 rfl (lv_at hl 0 rfl) ?_
    refine va_get (D := (dC, dI)) (ci := 1) (v := .ref (ad 4)) (C := RX1) (T := TX1) (N := 10) hx hb hts ki1 hown hK hP 0 rfl rfl 3 (by decide) kf21 (fun _ h9 => h9) rfl dX1_make_167 ?_
    refine lv_aload_n hx hb dX1_make_170 rfl (lv_at hl 0 rfl) ?_
    refine va_get (D := (dC, dI)) (ci := 1) (v := .int (iC 4)) (C := RX1) (T := TX1) (N := 10) hx hb hts ki1 hown hK hP 0 rfl rfl 4 (by decide) kf36 (fun _ h9 => h9) rfl dX1_make_171 ?_
    refine lv_iload hx hb dX1_make_174 (lv_at hl 4 rfl) ?_
    refine va_iast (f := (aC 3)) hx hb hK hP hD hS 4 0 rfl rfl g_12 dX1_make_176 (fun H locs hP hD hS => ?_)
    have hP : va_P (dC, dI) vwCl (zzC ad cy (us iC [(9, x_iC9)]) (us aC [(0, (upd (aC 0) (iC 4).toNatClampNeg v1)), (1, (upd (aC 1) (iC 4).toNatClampNeg v2)), (2, (upd (aC 2) (iC 4).toNatClampNeg v3)), (3, (upd (aC 3) (iC 4).toNatClampNeg v5)), (5, x_aC5), (6, x_aC6), (7, x_aC7), (8, x_aC8)])) H := Eq.mp (congrArg (fun w => va_P (dC, dI) vwCl w H) (stC_aC3 ad cy (us iC [(9, x_iC9)]) aC [(0, (upd (aC 0) (iC 4).toNatClampNeg v1)), (1, (upd (aC 1) (iC 4).toNatClampNeg v2)), (2, (upd (aC 2) (iC 4).toNatClampNeg v3)), (5, x_aC5), (6, x_aC6), (7, x_aC7), (8, x_aC8)] ((upd (aC 3) (iC 4).toNatClampNeg v5)))) hP
    have hD : va_D A (zzC ad cy (us iC [(9, x_iC9)]) (us aC [(0, (upd (aC 0) (iC 4).toNatClampNeg v1)), (1, (upd (aC 1) (iC 4).toNatClampNeg v2)), (2, (upd (aC 2) (iC 4).toNatClampNeg v3)), (3, (upd (aC 3) (iC 4).toNatClampNeg v5)), (5, x_aC5), (6, x_aC6), (7, x_aC7), (8, x_aC8)])) := Eq.mp (congrArg (fun w => va_D A w) (stC_aC3 ad cy (us iC [(9, x_iC9)]) aC [(0, (upd (aC 0) (iC 4).toNatClampNeg v1)), (1, (upd (aC 1) (iC 4).toNatClampNeg v2)), (2, (upd (aC 2) (iC 4).toNatClampNeg v3)), (5, x_aC5), (6, x_aC6), (7, x_aC7), (8, x_aC8)] ((upd (aC 3) (iC 4).toNatClampNeg v5)))) hD
    refine lv_aload_n hx hb dX1_make_177 rfl (lv_at hl 0 rfl) ?_
    refine lv_dup hx hb dX1_make_178 rfl ?_
    refine va_get (D := (dC, dI)) (ci := 1) (v := .int (iC 4)) (C := RX1) (T := TX1) (N := 10) hx hb hts ki1 hown hK hP 0 rfl rfl 4 (by decide) kf36 (fun _ h9 => h9) rfl dX1_make_179 ?_
    refine lv_iconst (v := 1) hx hb dX1_make_182 (by decide) ?_
    refine lv_iadd hx hb dX1_make_183 ?_
    refine va_put (D := (dC, dI)) (ci := 1) (v := .int (((iC 4) + (1 : Int32)))) (ty := .int) (C := RX1) (T := TX1) (N := 10) hx hb hts ki1 tyX1 tyX1_ok nmX1 hown hK hP hD hS 0 rfl rfl 4 (by decide) kf36 (fun _ h9 => h9) rfl (by decide +kernel) rfl rfl (Nat.le_of_ble_eq_true rfl) dX1_make_184 (fun H locs hP hD hS => ?_)
    have hP : va_P (dC, dI) vwCl (zzC ad cy (us iC [(4, ((iC 4) + (1 : Int32))), (9, x_iC9)]) (us aC [(0, (upd (aC 0) (iC 4).toNatClampNeg v1)), (1, (upd (aC 1) (iC 4).toNatClampNeg v2)), (2, (upd (aC 2) (iC 4).toNatClampNeg v3)), (3, (upd (aC 3) (iC 4).toNatClampNeg v5)), (5, x_aC5), (6, x_aC6), (7, x_aC7), (8, x_aC8)])) H := Eq.mp (congrArg (fun w => va_P (dC, dI) vwCl w H) (stC_iC4 ad cy iC (us aC [(0, (upd (aC 0) (iC 4).toNatClampNeg v1)), (1, (upd (aC 1) (iC 4).toNatClampNeg v2)), (2, (upd (aC 2) (iC 4).toNatClampNeg v3)), (3, (upd (aC 3) (iC 4).toNatClampNeg v5)), (5, x_aC5), (6, x_aC6), (7, x_aC7), (8, x_aC8)]) [(9, x_iC9)] (((iC 4) + (1 : Int32))))) hP
    have hD : va_D A (zzC ad cy (us iC [(4, ((iC 4) + (1 : Int32))), (9, x_iC9)]) (us aC [(0, (upd (aC 0) (iC 4).toNatClampNeg v1)), (1, (upd (aC 1) (iC 4).toNatClampNeg v2)), (2, (upd (aC 2) (iC 4).toNatClampNeg v3)), (3, (upd (aC 3) (iC 4).toNatClampNeg v5)), (5, x_aC5), (6, x_aC6), (7, x_aC7), (8, x_aC8)])) := Eq.mp (congrArg (fun w => va_D A w) (stC_iC4 ad cy iC (us aC [(0, (upd (aC 0) (iC 4).toNatClampNeg v1)), (1, (upd (aC 1) (iC 4).toNatClampNeg v2)), (2, (upd (aC 2) (iC 4).toNatClampNeg v3)), (3, (upd (aC 3) (iC 4).toNatClampNeg v5)), (5, x_aC5), (6, x_aC6), (7, x_aC7), (8, x_aC8)]) [(9, x_iC9)] (((iC 4) + (1 : Int32))))) hD
    refine lv_aload_n hx hb dX1_make_187 rfl (lv_at hl 0 rfl) ?_
    refine va_get (D := (dC, dI)) (ci := 1) (v := .int (((iC 4) + (1 : Int32)))) (C := RX1) (T := TX1) (N := 10) hx hb hts ki1 hown hK hP 0 rfl rfl 4 (by decide) kf36 (fun _ h9 => h9) rfl dX1_make_188 ?_
    refine lv_iconst (v := 1) hx hb dX1_make_191 (by decide) ?_
    refine lv_isub hx hb dX1_make_192 ?_
    have h' := Option.some.inj h
    rw [← hQQ]
    exact W.iret (v := (((iC 4) + (1 : Int32)) - (1 : Int32))) hx hb hr (fun t ht hW => ⟨⟨(((iC 4) + (1 : Int32)) - (1 : Int32)), (), rfl, by rw [← h'], by rw [← hWQ, ← h', ht]; exact hP, va_K.moved hW.alike hK⟩, hS.F ht⟩) hS.2.2 dX1_make_193
  have B114 : ∀ (v1 : Int32) (v2 : Int32) (v3 : Int32) (v5 : Int32) (x_iC9 : Int32) (x_aC5 : Nat → Int32) (x_aC6 : Nat → Int32) (x_aC7 : Nat → Int32) (x_aC8 : Nat → Int32) (H : Heap) (locs : List Loc) (ls : Array Slot), f_C_make_114 N (iC 4) (iC 9) (aC 0) (aC 1) (aC 2) (aC 3) (aC 5) (aC 6) (aC 7) (aC 8) v1 v2 v3 v5 x_iC9 x_aC5 x_aC6 x_aC7 x_aC8 = some q → va_P (dC, dI) vwCl (zzC ad cy (us iC [(9, x_iC9)]) (us aC [(5, x_aC5), (6, x_aC6), (7, x_aC7), (8, x_aC8)])) H → va_D A (zzC ad cy (us iC [(9, x_iC9)]) (us aC [(5, x_aC5), (6, x_aC6), (7, x_aC7), (8, x_aC8)])) → va_S A s.heap H locs → lv_has ls 7 [(0, .ref (ad 0)), (1, .int v1), (2, .int v2), (3, .int v3), (5, .int v5)] → W p l e ({ frames := 2, cells := 0, slots := 0, locals := 48 } : Room) s m args below meth c H locs 0 0 QQ (F0 m 114 ls []) := by
    intro v1 v2 v3 v5 x_iC9 x_aC5 x_aC6 x_aC7 x_aC8 H locs ls h hP hD hS hl
    unfold f_C_make_114 at h
    refine lv_iload hx hb dX1_make_114 (lv_at hl 4 rfl) ?_
    refine lv_iconst (v := (-1)) hx hb dX1_make_116 (by decide) ?_
    refine lv_icmp_ne (tgt := 136) hx hb dX1_make_117 (by decide) (fun cz => ?_) (fun cz => ?_)
    · have h := g_f h cz
      exact B136 v1 v2 v3 v5 x_iC9 x_aC5 x_aC6 x_aC7 x_aC8 H locs ls h hP hD hS (lv_sub hl [0, 1, 2, 3, 4] rfl)
    · have h := g_t h cz
      refine lv_iload_n hx hb dX1_make_120 rfl (lv_at hl 1 rfl) ?_
      refine lv_if_eq (tgt := 134) hx hb dX1_make_121 (by decide) (fun cz => ?_) (fun cz => ?_)
      · have h := g_t h cz
        refine lv_iconst (v := (-1)) hx hb dX1_make_134 (by decide) ?_
        have h' := Option.some.inj h
        rw [← hQQ]
        exact W.iret (v := (-1 : Int32)) hx hb hr (fun t ht hW => ⟨⟨(-1 : Int32), (), rfl, by rw [← h'], by rw [← hWQ, ← h', ht]; exact hP, va_K.moved hW.alike hK⟩, hS.F ht⟩) hS.2.2 dX1_make_135
      · have h := g_f h cz
        refine lv_iload_n hx hb dX1_make_124 rfl (lv_at hl 1 rfl) ?_
        refine lv_iconst (v := 4) hx hb dX1_make_125 (by decide) ?_
        refine lv_icmp_eq (tgt := 134) hx hb dX1_make_126 (by decide) (fun cz => ?_) (fun cz => ?_)
        · have h := g_t h cz
          refine lv_iconst (v := (-1)) hx hb dX1_make_134 (by decide) ?_
          have h' := Option.some.inj h
          rw [← hQQ]
          exact W.iret (v := (-1 : Int32)) hx hb hr (fun t ht hW => ⟨⟨(-1 : Int32), (), rfl, by rw [← h'], by rw [← hWQ, ← h', ht]; exact hP, va_K.moved hW.alike hK⟩, hS.F ht⟩) hS.2.2 dX1_make_135
        · have h := g_f h cz
          refine lv_iload_n hx hb dX1_make_129 rfl (lv_at hl 1 rfl) ?_
          refine lv_iconst (v := 5) hx hb dX1_make_130 (by decide) ?_
          refine lv_icmp_ne (tgt := 136) hx hb dX1_make_131 (by decide) (fun cz => ?_) (fun cz => ?_)
          · have h := g_f h cz
            exact B136 v1 v2 v3 v5 x_iC9 x_aC5 x_aC6 x_aC7 x_aC8 H locs ls h hP hD hS (lv_sub hl [0, 1, 2, 3, 4] rfl)
          · have h := g_t h cz
            refine lv_iconst (v := (-1)) hx hb dX1_make_134 (by decide) ?_
            have h' := Option.some.inj h
            rw [← hQQ]
            exact W.iret (v := (-1 : Int32)) hx hb hr (fun t ht hW => ⟨⟨(-1 : Int32), (), rfl, by rw [← h'], by rw [← hWQ, ← h', ht]; exact hP, va_K.moved hW.alike hK⟩, hS.F ht⟩) hS.2.2 dX1_make_135
  have B84 : ∀ (v1 : Int32) (v2 : Int32) (v3 : Int32) (s0 : Int32) (H : Heap) (locs : List Loc) (ls : Array Slot), f_C_make_84 N (iC 4) (iC 9) (aC 0) (aC 1) (aC 2) (aC 3) (aC 5) (aC 6) (aC 7) (aC 8) v1 v2 v3 s0 = some q → va_P (dC, dI) vwCl (zzC ad cy iC aC) H → va_D A (zzC ad cy iC aC) → va_S A s.heap H locs → lv_has ls 7 [(0, .ref (ad 0)), (1, .int v1), (2, .int v2), (3, .int v3)] → W p l e ({ frames := 2, cells := 0, slots := 0, locals := 48 } : Room) s m args below meth c H locs 0 0 QQ (F0 m 84 ls [.int s0]) := by
    intro v1 v2 v3 s0 H locs ls h hP hD hS hl
    unfold f_C_make_84 at h
    refine lv_istore (lv' := [(6, .int s0), (0, .ref (ad 0)), (1, .int v1), (2, .int v2), (3, .int v3)]) hx hb dX1_make_84 hl (by decide) rfl (fun ls hl => ?_)
    refine lv_iload hx hb dX1_make_86 (lv_at hl 0 rfl) ?_
    refine lv_if_eq (tgt := 105) hx hb dX1_make_88 (by decide) (fun cz => ?_) (fun cz => ?_)
    · have h := g_t h cz
      refine lv_aload_n hx hb dX1_make_105 rfl (lv_at hl 1 rfl) ?_
      refine lv_iload_n hx hb dX1_make_106 rfl (lv_at hl 4 rfl) ?_
      refine lv_iload_n hx hb dX1_make_107 rfl (lv_at hl 3 rfl) ?_
      refine lv_iconst (v := 1) hx hb dX1_make_108 (by decide) ?_
      obtain ⟨q109, e109, h⟩ := g_b h
      refine callVis (cc := cX1_make) (w1 := zzC ad cy (us iC [(9, q109.2.1)]) (us aC [(5, q109.2.2.1), (6, q109.2.2.2.1), (7, q109.2.2.2.2.1), (8, q109.2.2.2.2.2)])) (As := [.int v3, .int v2, .int ((1 : Int32))]) (rest := []) ⟨hx, hb, hml, hown, hts⟩ (c_C_atomOfRole l dC dI cy ad H.size N v3 v2 ((1 : Int32)) iC aC q109 e109) (cwV 3 hts (goodV m_ml_X1_51 m_im_X1_atomOfRole m_se_X1_atomOfRole m_in_X1 m_cd_X1_atomOfRole) rfl rfl rfl (by decide +kernel) ⟨Nat.le_of_ble_eq_true rfl, Nat.le_of_ble_eq_true rfl⟩) hN hK hP hD hS hA rfl 0 rfl rfl rfl hl.1 rfl (Nat.le_of_ble_eq_true rfl) dX1_make_109 ⟨Nat.zero_le _, Nat.zero_le _⟩ (fun H locs hP hD hS => ?_)
      refine lv_istore (lv' := [(5, .int q109.1), (6, .int s0), (0, .ref (ad 0)), (1, .int v1), (2, .int v2), (3, .int v3)]) hx hb dX1_make_112 hl (by decide) rfl (fun ls hl => ?_)
      exact B114 v1 v2 v3 q109.1 q109.2.1 q109.2.2.1 q109.2.2.2.1 q109.2.2.2.2.1 q109.2.2.2.2.2 H locs ls h hP hD hS (lv_sub hl [2, 3, 4, 5, 0] rfl)
    · have h := g_f h cz
      refine lv_aload_n hx hb dX1_make_91 rfl (lv_at hl 1 rfl) ?_
      refine lv_iload_n hx hb dX1_make_92 rfl (lv_at hl 4 rfl) ?_
      refine lv_aload_n hx hb dX1_make_93 rfl (lv_at hl 1 rfl) ?_
      refine lv_iload_n hx hb dX1_make_94 rfl (lv_at hl 3 rfl) ?_
      obtain ⟨q95, e95, h⟩ := g_b h
      refine callVis (cc := cX1_make) (w1 := zzC ad cy iC aC) (As := [.int v2]) (rest := [.int v3, .ref (ad 0)]) ⟨hx, hb, hml, hown, hts⟩ (c_C_leftOf l dC dI cy ad H.size v2 iC aC q95 e95) (cwV 1 hts (goodV m_ml_X1_58 m_im_X1_leftOf m_se_X1_leftOf m_in_X1 m_cd_X1_leftOf) rfl rfl rfl (by decide +kernel) ⟨Nat.le_of_ble_eq_true rfl, Nat.le_of_ble_eq_true rfl⟩) hN hK hP hD hS hA rfl 0 rfl rfl rfl hl.1 rfl (Nat.le_of_ble_eq_true rfl) dX1_make_95 ⟨Nat.zero_le _, Nat.zero_le _⟩ (fun H locs hP hD hS => ?_)
      refine lv_iconst (v := 0) hx hb dX1_make_98 (by decide) ?_
      obtain ⟨q99, e99, h⟩ := g_b h
      refine callVis (cc := cX1_make) (w1 := zzC ad cy (us iC [(9, q99.2.1)]) (us aC [(5, q99.2.2.1), (6, q99.2.2.2.1), (7, q99.2.2.2.2.1), (8, q99.2.2.2.2.2)])) (As := [.int v3, .int q95, .int ((0 : Int32))]) (rest := []) ⟨hx, hb, hml, hown, hts⟩ (c_C_atomOfRole l dC dI cy ad H.size N v3 q95 ((0 : Int32)) iC aC q99 e99) (cwV 3 hts (goodV m_ml_X1_51 m_im_X1_atomOfRole m_se_X1_atomOfRole m_in_X1 m_cd_X1_atomOfRole) rfl rfl rfl (by decide +kernel) ⟨Nat.le_of_ble_eq_true rfl, Nat.le_of_ble_eq_true rfl⟩) hN hK hP hD hS hA rfl 0 rfl rfl rfl hl.1 rfl (Nat.le_of_ble_eq_true rfl) dX1_make_99 ⟨Nat.zero_le _, Nat.zero_le _⟩ (fun H locs hP hD hS => ?_)
      refine lv_goto (tgt := 112) hx hb dX1_make_102 (by decide) ?_
      refine lv_istore (lv' := [(5, .int q99.1), (6, .int s0), (0, .ref (ad 0)), (1, .int v1), (2, .int v2), (3, .int v3)]) hx hb dX1_make_112 hl (by decide) rfl (fun ls hl => ?_)
      exact B114 v1 v2 v3 q99.1 q99.2.1 q99.2.2.1 q99.2.2.2.1 q99.2.2.2.2.1 q99.2.2.2.2.2 H locs ls h hP hD hS (lv_sub hl [2, 3, 4, 5, 0] rfl)
  intro H locs hP hD hS
  unfold f_C_make at h
  refine lv_aload_n hx hb dX1_make_0 rfl (lv_at hl 0 rfl) ?_
  refine lv_iload_n hx hb dX1_make_1 rfl (lv_at hl 1 rfl) ?_
  refine lv_iload_n hx hb dX1_make_2 rfl (lv_at hl 2 rfl) ?_
  refine lv_iload_n hx hb dX1_make_3 rfl (lv_at hl 3 rfl) ?_
  obtain ⟨q4, e4, h⟩ := g_b h
  refine callVis (cc := cX1_make) (w1 := zzC ad cy iC aC) (As := [.int a1, .int a2, .int a3]) (rest := []) ⟨hx, hb, hml, hown, hts⟩ (c_C_find l dC dI cy ad H.size N a1 a2 a3 iC aC q4 e4) (cwV 3 hts (goodV m_ml_X1_43 m_im_X1_find m_se_X1_find m_in_X1 m_cd_X1_find) rfl rfl rfl (by decide +kernel) ⟨Nat.le_of_ble_eq_true rfl, Nat.le_of_ble_eq_true rfl⟩) hN hK hP hD hS hA rfl 0 rfl rfl rfl hl.1 rfl (Nat.le_of_ble_eq_true rfl) dX1_make_4 ⟨Nat.zero_le _, Nat.zero_le _⟩ (fun H locs hP hD hS => ?_)
  refine lv_istore (lv' := [(4, .int q4), (0, .ref (ad 0)), (1, .int a1), (2, .int a2), (3, .int a3)]) hx hb dX1_make_7 hl (by decide) rfl (fun ls hl => ?_)
  refine lv_iload hx hb dX1_make_9 (lv_at hl 0 rfl) ?_
  refine lv_iconst (v := (-1)) hx hb dX1_make_11 (by decide) ?_
  refine lv_icmp_ne (tgt := 25) hx hb dX1_make_12 (by decide) (fun cz => ?_) (fun cz => ?_)
  · have h := g_f h cz
    refine lv_iload hx hb dX1_make_25 (lv_at hl 0 rfl) ?_
    have h' := Option.some.inj h
    rw [← hQQ]
    exact W.iret (v := q4) hx hb hr (fun t ht hW => ⟨⟨q4, (), rfl, by rw [← h'], by rw [← hWQ, ← h', ht]; exact hP, va_K.moved hW.alike hK⟩, hS.F ht⟩) hS.2.2 dX1_make_27
  · have h := g_t h cz
    refine lv_aload_n hx hb dX1_make_15 rfl (lv_at hl 1 rfl) ?_
    refine va_get (D := (dC, dI)) (ci := 1) (v := .int (iC 4)) (C := RX1) (T := TX1) (N := 10) hx hb hts ki1 hown hK hP 0 rfl rfl 4 (by decide) kf36 (fun _ h9 => h9) rfl dX1_make_16 ?_
    refine lv_sipush (v := 200) hx hb dX1_make_19 (by decide) ?_
    refine lv_icmp_lt (tgt := 28) hx hb dX1_make_22 (by decide) (fun cz => ?_) (fun cz => ?_)
    · have h := g_t h cz
      refine lv_iconst (v := (-1)) hx hb dX1_make_28 (by decide) ?_
      refine lv_istore (lv' := [(5, .int ((-1 : Int32))), (4, .int q4), (0, .ref (ad 0)), (1, .int a1), (2, .int a2), (3, .int a3)]) hx hb dX1_make_29 hl (by decide) rfl (fun ls hl => ?_)
      refine lv_iload_n hx hb dX1_make_31 rfl (lv_at hl 3 rfl) ?_
      refine lv_if_ne (tgt := 48) hx hb dX1_make_32 (by decide) (fun cz => ?_) (fun cz => ?_)
      · have h := g_f h cz
        refine lv_iload_n hx hb dX1_make_48 rfl (lv_at hl 3 rfl) ?_
        refine lv_iconst (v := 4) hx hb dX1_make_49 (by decide) ?_
        refine lv_icmp_ne (tgt := 65) hx hb dX1_make_50 (by decide) (fun cz => ?_) (fun cz => ?_)
        · have h := g_f h cz
          refine lv_iload_n hx hb dX1_make_65 rfl (lv_at hl 3 rfl) ?_
          refine lv_iconst (v := 5) hx hb dX1_make_66 (by decide) ?_
          refine lv_icmp_ne (tgt := 114) hx hb dX1_make_67 (by decide) (fun cz => ?_) (fun cz => ?_)
          · have h := g_f h cz
            exact B114 a1 a2 a3 ((-1 : Int32)) (iC 9) (aC 5) (aC 6) (aC 7) (aC 8) H locs ls h hP hD hS (lv_sub hl [2, 3, 4, 5, 0] rfl)
          · have h := g_t h cz
            refine lv_aload_n hx hb dX1_make_70 rfl (lv_at hl 2 rfl) ?_
            refine lv_iload_n hx hb dX1_make_71 rfl (lv_at hl 4 rfl) ?_
            obtain ⟨q72, e72, h⟩ := g_b h
            refine callVis (cc := cX1_make) (w1 := zzC ad cy iC aC) (As := [.int a2]) (rest := []) ⟨hx, hb, hml, hown, hts⟩ (c_C_sortOf l dC dI cy ad H.size a2 iC aC q72 e72) (cwV 1 hts (goodV m_ml_X1_54 m_im_X1_sortOf m_se_X1_sortOf m_in_X1 m_cd_X1_sortOf) rfl rfl rfl (by decide +kernel) ⟨Nat.le_of_ble_eq_true rfl, Nat.le_of_ble_eq_true rfl⟩) hN hK hP hD hS hA rfl 0 rfl rfl rfl hl.1 rfl (Nat.le_of_ble_eq_true rfl) dX1_make_72 ⟨Nat.zero_le _, Nat.zero_le _⟩ (fun H locs hP hD hS => ?_)
            refine lv_iconst (v := 3) hx hb dX1_make_75 (by decide) ?_
            refine lv_icmp_ne (tgt := 83) hx hb dX1_make_76 (by decide) (fun cz => ?_) (fun cz => ?_)
            · have h := g_f h cz
              refine lv_iconst (v := 0) hx hb dX1_make_83 (by decide) ?_
              exact B84 a1 a2 a3 ((0 : Int32)) H locs ls h hP hD hS (lv_sub hl [2, 3, 4, 5] rfl)
            · have h := g_t h cz
              refine lv_iconst (v := 1) hx hb dX1_make_79 (by decide) ?_
              refine lv_goto (tgt := 84) hx hb dX1_make_80 (by decide) ?_
              exact B84 a1 a2 a3 ((1 : Int32)) H locs ls h hP hD hS (lv_sub hl [2, 3, 4, 5] rfl)
        · have h := g_t h cz
          refine lv_aload_n hx hb dX1_make_53 rfl (lv_at hl 2 rfl) ?_
          refine lv_iload_n hx hb dX1_make_54 rfl (lv_at hl 5 rfl) ?_
          refine lv_iload_n hx hb dX1_make_55 rfl (lv_at hl 4 rfl) ?_
          refine lv_iconst (v := 0) hx hb dX1_make_56 (by decide) ?_
          obtain ⟨q57, e57, h⟩ := g_b h
          refine callVis (cc := cX1_make) (w1 := zzC ad cy (us iC [(9, q57.2.1)]) (us aC [(5, q57.2.2.1), (6, q57.2.2.2.1), (7, q57.2.2.2.2.1), (8, q57.2.2.2.2.2)])) (As := [.int a3, .int a2, .int ((0 : Int32))]) (rest := []) ⟨hx, hb, hml, hown, hts⟩ (c_C_atomOfRole l dC dI cy ad H.size N a3 a2 ((0 : Int32)) iC aC q57 e57) (cwV 3 hts (goodV m_ml_X1_51 m_im_X1_atomOfRole m_se_X1_atomOfRole m_in_X1 m_cd_X1_atomOfRole) rfl rfl rfl (by decide +kernel) ⟨Nat.le_of_ble_eq_true rfl, Nat.le_of_ble_eq_true rfl⟩) hN hK hP hD hS hA rfl 0 rfl rfl rfl hl.1 rfl (Nat.le_of_ble_eq_true rfl) dX1_make_57 ⟨Nat.zero_le _, Nat.zero_le _⟩ (fun H locs hP hD hS => ?_)
          refine lv_istore (lv' := [(5, .int q57.1), (4, .int q4), (0, .ref (ad 0)), (1, .int a1), (2, .int a2), (3, .int a3)]) hx hb dX1_make_60 hl (by decide) rfl (fun ls hl => ?_)
          refine lv_goto (tgt := 114) hx hb dX1_make_62 (by decide) ?_
          exact B114 a1 a2 a3 q57.1 q57.2.1 q57.2.2.1 q57.2.2.2.1 q57.2.2.2.2.1 q57.2.2.2.2.2 H locs ls h hP hD hS (lv_sub hl [2, 3, 4, 5, 0] rfl)
      · have h := g_t h cz
        refine lv_aload_n hx hb dX1_make_35 rfl (lv_at hl 2 rfl) ?_
        refine lv_iconst (v := (-1)) hx hb dX1_make_36 (by decide) ?_
        refine lv_iload_n hx hb dX1_make_37 rfl (lv_at hl 4 rfl) ?_
        refine lv_iconst (v := (-1)) hx hb dX1_make_38 (by decide) ?_
        refine lv_iconst (v := 0) hx hb dX1_make_39 (by decide) ?_
        obtain ⟨q40, e40, h⟩ := g_b h
        refine callVis (cc := cX1_make) (w1 := zzC ad cy (us iC [(9, q40.2.1)]) (us aC [(5, q40.2.2.1), (6, q40.2.2.2.1), (7, q40.2.2.2.2.1), (8, q40.2.2.2.2.2)])) (As := [.int ((-1 : Int32)), .int a2, .int ((-1 : Int32)), .int ((0 : Int32))]) (rest := []) ⟨hx, hb, hml, hown, hts⟩ (c_C_atomFor l dC dI cy ad H.size N ((-1 : Int32)) a2 ((-1 : Int32)) ((0 : Int32)) iC aC q40 e40) (cwV 4 hts (goodV m_ml_X1_47 m_im_X1_atomFor m_se_X1_atomFor m_in_X1 m_cd_X1_atomFor) rfl rfl rfl (by decide +kernel) ⟨Nat.le_of_ble_eq_true rfl, Nat.le_of_ble_eq_true rfl⟩) hN hK hP hD hS hA rfl 0 rfl rfl rfl hl.1 rfl (Nat.le_of_ble_eq_true rfl) dX1_make_40 ⟨Nat.zero_le _, Nat.zero_le _⟩ (fun H locs hP hD hS => ?_)
        refine lv_istore (lv' := [(5, .int q40.1), (4, .int q4), (0, .ref (ad 0)), (1, .int a1), (2, .int a2), (3, .int a3)]) hx hb dX1_make_43 hl (by decide) rfl (fun ls hl => ?_)
        refine lv_goto (tgt := 114) hx hb dX1_make_45 (by decide) ?_
        exact B114 a1 a2 a3 q40.1 q40.2.1 q40.2.2.1 q40.2.2.2.1 q40.2.2.2.2.1 q40.2.2.2.2.2 H locs ls h hP hD hS (lv_sub hl [2, 3, 4, 5, 0] rfl)
    · have h := g_f h cz
      refine lv_iload hx hb dX1_make_25 (lv_at hl 0 rfl) ?_
      have h' := Option.some.inj h
      rw [← hQQ]
      exact W.iret (v := q4) hx hb hr (fun t ht hW => ⟨⟨q4, (), rfl, by rw [← h'], by rw [← hWQ, ← h', ht]; exact hP, va_K.moved hW.alike hK⟩, hS.F ht⟩) hS.2.2 dX1_make_27
