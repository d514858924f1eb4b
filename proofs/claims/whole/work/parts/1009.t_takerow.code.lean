def f_T_takeRow_54 (N : Nat) (iT1 : Int32) (iT2 : Int32) (iT3 : Int32) (iT4 : Int32) (wT : Int64) (tx : Nat → Int32) (k13 : Int32 → Int64 → Option (Int32 × Int32 × Int64)) (v1 : Int32) (x_iT2 : Int32) (x_wT : Int64) : Option (Int32 × Int32 × Int64) := if x_iT2 < 0 ∨ 2000 ≤ x_iT2.toNatClampNeg then none else (k13 ((x_iT2 + (1 : Int32))) (((x_wT <<< (((8 : Int32)).toInt64 &&& 63)) ||| ((tx x_iT2.toNatClampNeg)).toInt64)))
def f_T_takeRow_107 (N : Nat) (iT1 : Int32) (iT2 : Int32) (iT3 : Int32) (iT4 : Int32) (wT : Int64) (tx : Nat → Int32) (x_iT2 : Int32) (x_wT : Int64) : Option (Int32 × Int32 × Int64) := some (x_iT2, (0 : Int32), (0 : Int64))
def f_T_takeRow_136 (N : Nat) (iT1 : Int32) (iT2 : Int32) (iT3 : Int32) (iT4 : Int32) (wT : Int64) (tx : Nat → Int32) (s1 : Int32) (x_iT2 : Int32) (x_wT : Int64) : Option (Int32 × Int32 × Int64) := some (x_iT2, s1, x_wT)
def f_T_takeRow_89 (N : Nat) (iT1 : Int32) (iT2 : Int32) (iT3 : Int32) (iT4 : Int32) (wT : Int64) (tx : Nat → Int32) (v1 : Int32) (x_iT2 : Int32) (x_wT : Int64) : Option (Int32 × Int32 × Int64) := if v1 = 0 then (f_T_takeRow_107 N iT1 iT2 iT3 iT4 wT tx x_iT2 x_wT) else (if (x_iT2 - iT3) ≤ (8 : Int32) then ((f_T_isKeyword x_wT).bind fun q125 => (if q125 = 0 then (f_T_takeRow_136 N iT1 iT2 iT3 iT4 wT tx ((4 : Int32)) x_iT2 x_wT) else (f_T_takeRow_136 N iT1 iT2 iT3 iT4 wT tx ((3 : Int32)) x_iT2 x_wT))) else (f_T_takeRow_107 N iT1 iT2 iT3 iT4 wT tx x_iT2 x_wT))
def f_T_takeRow_13 (N : Nat) (iT1 : Int32) (iT2 : Int32) (iT3 : Int32) (iT4 : Int32) (wT : Int64) (tx : Nat → Int32) (v1 : Int32) : Nat → Int32 → Int64 → Option (Int32 × Int32 × Int64)
  | 0, _, _ => none
  | n + 1, x_iT2, x_wT => if iT1 ≤ x_iT2 then (f_T_takeRow_89 N iT1 iT2 iT3 iT4 wT tx v1 x_iT2 x_wT) else (if x_iT2 < 0 ∨ 2000 ≤ x_iT2.toNatClampNeg then none else ((f_T_isLetter ((tx x_iT2.toNatClampNeg))).bind fun q33 => (if q33 = 0 then ((f_T_isDigit ((tx x_iT2.toNatClampNeg))).bind fun q48 => (if q48 = 0 then (f_T_takeRow_89 N iT1 iT2 iT3 iT4 wT tx v1 x_iT2 x_wT) else (f_T_takeRow_54 N iT1 iT2 iT3 iT4 wT tx (f_T_takeRow_13 N iT1 iT2 iT3 iT4 wT tx v1 n) v1 x_iT2 x_wT))) else (f_T_takeRow_54 N iT1 iT2 iT3 iT4 wT tx (f_T_takeRow_13 N iT1 iT2 iT3 iT4 wT tx v1 n) v1 x_iT2 x_wT))))
def f_T_takeRow (N : Nat) (iT1 : Int32) (iT2 : Int32) (iT3 : Int32) (iT4 : Int32) (wT : Int64) (tx : Nat → Int32) : Option (Int32 × Int32 × Int64) := if iT3 < 0 ∨ 2000 ≤ iT3.toNatClampNeg then none else ((f_T_isLetter ((tx iT3.toNatClampNeg))).bind fun q9 => (f_T_takeRow_13 N iT1 iT2 iT3 iT4 wT tx q9 N iT2 wT))
set_option maxHeartbeats 8000000 in
set_option maxRecDepth 100000 in
theorem c_T_takeRow (l : Launch) (dC : Nat → ClassId) (dI : Nat → Nat → Nat) (cy : Nat → ClassId) (ad : Nat → Nat) (sz : Nat) (N : Nat) (iT : Nat → Int32) (wT : Int64) (tx : Nat → Int32) (q : Int32 × Int32 × Int64) (h : f_T_takeRow N (iT 1) (iT 2) (iT 3) (iT 4) wT tx = some q) : Met l yX5_takeRow wsX5_takeRow ({ frames := 1, cells := 0, slots := 0, locals := 21 } : Room) (cP (dC, dI) cy [.ref (ad 0)] (zzT ad cy iT wT tx) sz) (cQv (dC, dI) cy (zzT ad cy (us iT [(2, q.1), (4, q.2.1)]) q.2.2 tx) (va_A (zzT ad cy iT wT tx) sz)) 0 0 (va_A (zzT ad cy iT wT tx) sz) := by
  refine Met.ofW (cc := cX5_takeRow) (maxL := 2) (ret := none) (by decide) rfl ?_
  intro p e s m args below meth c s₁ B hml hv
  obtain ⟨hav, hsz, hP, hK, hD0, hN⟩ := hv
  have hx := B.exec
  have hb := B.bytes
  have hr := B.returns
  have hts := atoms_spec (ws := wsX5_takeRow) B.pre
  have hown : s.vm.findClass RX5 = some m.cls := findClass_of_methodNamed B.named
  have hlocks := B.notSynchronized
  subst hsz
  have hD := hD0.self (sz := s.heap.size)
  generalize hAe : va_A (zzT ad cy iT wT tx) s.heap.size = A at hD ⊢
  have hA : ∀ q : Nat, s.heap.size ≤ q → A q := fun q h => by rw [← hAe]; exact Or.inr h
  have hS : va_S A s.heap s.heap [] := va_S.rf
  generalize hWQ : (zzT ad cy (us iT [(2, q.1), (4, q.2.1)]) q.2.2 tx) = WQ
  generalize hQQ : MQ below (cQv (dC, dI) cy WQ A) args s 0 0 A = QQ
  have hl := lv_entry ([.ref (ad 0)] : List Value) (n := 2) (Nat.le_of_ble_eq_true rfl)
  have hfr := lg_entry_eq m ([.ref (ad 0)] : List Value) 2
  rw [← hav] at hfr
  rw [hfr]
  clear hfr hav
  generalize (lg_sl ([.ref (ad 0)] : List Value) ++ List.replicate (2 - (lg_sl ([.ref (ad 0)] : List Value)).length) Slot.unset).toArray = ls at hl ⊢
  have hl : lv_has ls 2 [(0, .ref (ad 0))] := hl
  have kf37 := hts _ (List.mem_cons_of_mem _ m_fl_X5_37)
  have ki5 := (fun w h => List.mem_cons_of_mem _ (i_X5 w h) : ∀ w ∈ u_ws RX5 TX5 6, w ∈ wsX5_takeRow)
  have kf9 := hts _ (List.mem_cons_of_mem _ m_fl_X5_9)
  have kf25 := hts _ (List.mem_cons_of_mem _ m_fl_X5_25)
  have kf41 := hts _ (List.mem_cons_of_mem _ m_fl_X5_41)
  have kf34 := hts _ (List.mem_cons_of_mem _ m_fl_X5_34)
  have kf21 := hts _ (List.mem_cons_of_mem _ m_fl_X5_21)
  refine (?_ : ∀ (H : Heap) (locs : List Loc), va_P (dC, dI) vwCl (zzT ad cy iT wT tx) H → va_D A (zzT ad cy iT wT tx) → va_S A s.heap H locs → W p l e ({ frames := 1, cells := 0, slots := 0, locals := 21 } : Room) s m args below meth c H locs 0 0 QQ (F0 m 0 ls [])) s.heap [] hP hD hS
  clear hP hD hS
  have B54 : ∀ (v1 : Int32) (x_iT2 : Int32) (x_wT : Int64) (k13 : Int32 → Int64 → Option (Int32 × Int32 × Int64)) (hk13 : ∀ (x_iT2' : Int32) (x_wT' : Int64) (H : Heap) (locs : List Loc) (ls : Array Slot), k13 x_iT2' x_wT' = some q → va_P (dC, dI) vwCl (zzT ad cy (us iT [(2, x_iT2')]) x_wT' tx) H → va_D A (zzT ad cy (us iT [(2, x_iT2')]) x_wT' tx) → va_S A s.heap H locs → lv_has ls 2 [(0, .ref (ad 0)), (1, .int v1)] → W p l e ({ frames := 1, cells := 0, slots := 0, locals := 21 } : Room) s m args below meth c H locs 0 0 QQ (F0 m 13 ls [])) (H : Heap) (locs : List Loc) (ls : Array Slot), f_T_takeRow_54 N (iT 1) (iT 2) (iT 3) (iT 4) wT tx k13 v1 x_iT2 x_wT = some q → va_P (dC, dI) vwCl (zzT ad cy (us iT [(2, x_iT2)]) x_wT tx) H → va_D A (zzT ad cy (us iT [(2, x_iT2)]) x_wT tx) → va_S A s.heap H locs → lv_has ls 2 [(0, .ref (ad 0)), (1, .int v1)] → W p l e ({ frames := 1, cells := 0, slots := 0, locals := 21 } : Room) s m args below meth c H locs 0 0 QQ (F0 m 54 ls []) := by
    intro v1 x_iT2 x_wT k13 hk13 H locs ls h hP hD hS hl
    unfold f_T_takeRow_54 at h
    refine lv_aload_n hx hb dX5_takeRow_54 rfl (lv_at hl 0 rfl) ?_
    refine lv_aload_n hx hb dX5_takeRow_55 rfl (lv_at hl 0 rfl) ?_
    refine va_get (D := (dC, dI)) (ci := 5) (v := .long x_wT) (C := RX5) (T := TX5) (N := 6) hx hb hts ki5 hown hK hP 0 rfl rfl 5 (by decide) kf37 (fun _ h9 => h9) rfl dX5_takeRow_56 ?_
    refine lv_bipush (v := 8) hx hb dX5_takeRow_59 (by decide) ?_
    refine lv_lshl (v := (x_wT <<< (((8 : Int32)).toInt64 &&& 63))) hx hb dX5_takeRow_61 rfl ?_
    refine lv_aload_n hx hb dX5_takeRow_62 rfl (lv_at hl 0 rfl) ?_
    refine va_get (D := (dC, dI)) (ci := 5) (v := .ref (ad 1)) (C := RX5) (T := TX5) (N := 6) hx hb hts ki5 hown hK hP 0 rfl rfl 0 (by decide) kf9 (fun _ h9 => h9) rfl dX5_takeRow_63 ?_
    refine lv_aload_n hx hb dX5_takeRow_66 rfl (lv_at hl 0 rfl) ?_
    refine va_get (D := (dC, dI)) (ci := 5) (v := .int x_iT2) (C := RX5) (T := TX5) (N := 6) hx hb hts ki5 hown hK hP 0 rfl rfl 2 (by decide) kf25 (fun _ h9 => h9) rfl dX5_takeRow_67 ?_
    obtain ⟨g_2, h⟩ := g_n h
    refine va_bald (f := tx) hx hb hK hP 1 1 rfl rfl g_2 dX5_takeRow_70 ?_
    refine lv_i2l (v := ((tx x_iT2.toNatClampNeg)).toInt64) hx hb dX5_takeRow_71 rfl ?_
    refine lv_lor hx hb dX5_takeRow_72 ?_
    refine va_put (D := (dC, dI)) (ci := 5) (v := .long (((x_wT <<< (((8 : Int32)).toInt64 &&& 63)) ||| ((tx x_iT2.toNatClampNeg)).toInt64))) (ty := .long) (C := RX5) (T := TX5) (N := 6) hx hb hts ki5 tyX5 tyX5_ok nmX5 hown hK hP hD hS 0 rfl rfl 5 (by decide) kf37 (fun _ h9 => h9) rfl (by decide +kernel) rfl rfl (Nat.le_of_ble_eq_true rfl) dX5_takeRow_73 (fun H locs hP hD hS => ?_)
    have hP : va_P (dC, dI) vwCl (zzT ad cy (us iT [(2, x_iT2)]) ((x_wT <<< (((8 : Int32)).toInt64 &&& 63)) ||| ((tx x_iT2.toNatClampNeg)).toInt64) tx) H := hP
    have hD : va_D A (zzT ad cy (us iT [(2, x_iT2)]) ((x_wT <<< (((8 : Int32)).toInt64 &&& 63)) ||| ((tx x_iT2.toNatClampNeg)).toInt64) tx) := hD
    refine lv_aload_n hx hb dX5_takeRow_76 rfl (lv_at hl 0 rfl) ?_
    refine lv_dup hx hb dX5_takeRow_77 rfl ?_
    refine va_get (D := (dC, dI)) (ci := 5) (v := .int x_iT2) (C := RX5) (T := TX5) (N := 6) hx hb hts ki5 hown hK hP 0 rfl rfl 2 (by decide) kf25 (fun _ h9 => h9) rfl dX5_takeRow_78 ?_
    refine lv_iconst (v := 1) hx hb dX5_takeRow_81 (by decide) ?_
    refine lv_iadd hx hb dX5_takeRow_82 ?_
    refine va_put (D := (dC, dI)) (ci := 5) (v := .int ((x_iT2 + (1 : Int32)))) (ty := .int) (C := RX5) (T := TX5) (N := 6) hx hb hts ki5 tyX5 tyX5_ok nmX5 hown hK hP hD hS 0 rfl rfl 2 (by decide) kf25 (fun _ h9 => h9) rfl (by decide +kernel) rfl rfl (Nat.le_of_ble_eq_true rfl) dX5_takeRow_83 (fun H locs hP hD hS => ?_)
    have hP : va_P (dC, dI) vwCl (zzT ad cy (us iT [(2, (x_iT2 + (1 : Int32)))]) ((x_wT <<< (((8 : Int32)).toInt64 &&& 63)) ||| ((tx x_iT2.toNatClampNeg)).toInt64) tx) H := Eq.mp (congrArg (fun w => va_P (dC, dI) vwCl w H) (stT_iT2 ad cy iT ((x_wT <<< (((8 : Int32)).toInt64 &&& 63)) ||| ((tx x_iT2.toNatClampNeg)).toInt64) tx [(2, x_iT2)] ((x_iT2 + (1 : Int32))))) hP
    have hD : va_D A (zzT ad cy (us iT [(2, (x_iT2 + (1 : Int32)))]) ((x_wT <<< (((8 : Int32)).toInt64 &&& 63)) ||| ((tx x_iT2.toNatClampNeg)).toInt64) tx) := Eq.mp (congrArg (fun w => va_D A w) (stT_iT2 ad cy iT ((x_wT <<< (((8 : Int32)).toInt64 &&& 63)) ||| ((tx x_iT2.toNatClampNeg)).toInt64) tx [(2, x_iT2)] ((x_iT2 + (1 : Int32))))) hD
    refine lv_goto (tgt := 13) hx hb dX5_takeRow_86 (by decide) ?_
    exact hk13 ((x_iT2 + (1 : Int32))) (((x_wT <<< (((8 : Int32)).toInt64 &&& 63)) ||| ((tx x_iT2.toNatClampNeg)).toInt64)) H locs ls h hP hD hS (lv_sub hl [0, 1] rfl)
  have B107 : ∀ (x_iT2 : Int32) (x_wT : Int64) (H : Heap) (locs : List Loc) (ls : Array Slot), f_T_takeRow_107 N (iT 1) (iT 2) (iT 3) (iT 4) wT tx x_iT2 x_wT = some q → va_P (dC, dI) vwCl (zzT ad cy (us iT [(2, x_iT2)]) x_wT tx) H → va_D A (zzT ad cy (us iT [(2, x_iT2)]) x_wT tx) → va_S A s.heap H locs → lv_has ls 2 [(0, .ref (ad 0))] → W p l e ({ frames := 1, cells := 0, slots := 0, locals := 21 } : Room) s m args below meth c H locs 0 0 QQ (F0 m 107 ls []) := by
    intro x_iT2 x_wT H locs ls h hP hD hS hl
    unfold f_T_takeRow_107 at h
    refine lv_aload_n hx hb dX5_takeRow_107 rfl (lv_at hl 0 rfl) ?_
    refine lv_lconst (v := 0) hx hb dX5_takeRow_108 (by decide) ?_
    refine va_put (D := (dC, dI)) (ci := 5) (v := .long ((0 : Int64))) (ty := .long) (C := RX5) (T := TX5) (N := 6) hx hb hts ki5 tyX5 tyX5_ok nmX5 hown hK hP hD hS 0 rfl rfl 5 (by decide) kf37 (fun _ h9 => h9) rfl (by decide +kernel) rfl rfl (Nat.le_of_ble_eq_true rfl) dX5_takeRow_109 (fun H locs hP hD hS => ?_)
    have hP : va_P (dC, dI) vwCl (zzT ad cy (us iT [(2, x_iT2)]) (0 : Int64) tx) H := hP
    have hD : va_D A (zzT ad cy (us iT [(2, x_iT2)]) (0 : Int64) tx) := hD
    refine lv_aload_n hx hb dX5_takeRow_112 rfl (lv_at hl 0 rfl) ?_
    refine lv_iconst (v := 0) hx hb dX5_takeRow_113 (by decide) ?_
    refine va_put (D := (dC, dI)) (ci := 5) (v := .int ((0 : Int32))) (ty := .int) (C := RX5) (T := TX5) (N := 6) hx hb hts ki5 tyX5 tyX5_ok nmX5 hown hK hP hD hS 0 rfl rfl 4 (by decide) kf41 (fun _ h9 => h9) rfl (by decide +kernel) rfl rfl (Nat.le_of_ble_eq_true rfl) dX5_takeRow_114 (fun H locs hP hD hS => ?_)
    have hP : va_P (dC, dI) vwCl (zzT ad cy (us iT [(2, x_iT2), (4, (0 : Int32))]) (0 : Int64) tx) H := Eq.mp (congrArg (fun w => va_P (dC, dI) vwCl w H) (stT_iT4 ad cy iT (0 : Int64) tx [(2, x_iT2)] ((0 : Int32)))) hP
    have hD : va_D A (zzT ad cy (us iT [(2, x_iT2), (4, (0 : Int32))]) (0 : Int64) tx) := Eq.mp (congrArg (fun w => va_D A w) (stT_iT4 ad cy iT (0 : Int64) tx [(2, x_iT2)] ((0 : Int32)))) hD
    refine lv_goto (tgt := 139) hx hb dX5_takeRow_117 (by decide) ?_
    have h' := Option.some.inj h
    rw [← hQQ]
    exact W.vret hx hb hr (fun t ht hW => ⟨⟨(), rfl, trivial, by rw [← hWQ, ← h', ht]; exact hP, va_K.moved hW.alike hK⟩, hS.F ht⟩) hS.2.2 dX5_takeRow_139
  have B136 : ∀ (s1 : Int32) (x_iT2 : Int32) (x_wT : Int64) (H : Heap) (locs : List Loc) (ls : Array Slot), f_T_takeRow_136 N (iT 1) (iT 2) (iT 3) (iT 4) wT tx s1 x_iT2 x_wT = some q → va_P (dC, dI) vwCl (zzT ad cy (us iT [(2, x_iT2)]) x_wT tx) H → va_D A (zzT ad cy (us iT [(2, x_iT2)]) x_wT tx) → va_S A s.heap H locs → lv_has ls 2 [] → W p l e ({ frames := 1, cells := 0, slots := 0, locals := 21 } : Room) s m args below meth c H locs 0 0 QQ (F0 m 136 ls [.int s1, .ref (ad 0)]) := by
    intro s1 x_iT2 x_wT H locs ls h hP hD hS hl
    unfold f_T_takeRow_136 at h
    refine va_put (D := (dC, dI)) (ci := 5) (v := .int s1) (ty := .int) (C := RX5) (T := TX5) (N := 6) hx hb hts ki5 tyX5 tyX5_ok nmX5 hown hK hP hD hS 0 rfl rfl 4 (by decide) kf41 (fun _ h9 => h9) rfl (by decide +kernel) rfl rfl (Nat.le_of_ble_eq_true rfl) dX5_takeRow_136 (fun H locs hP hD hS => ?_)
    have hP : va_P (dC, dI) vwCl (zzT ad cy (us iT [(2, x_iT2), (4, s1)]) x_wT tx) H := Eq.mp (congrArg (fun w => va_P (dC, dI) vwCl w H) (stT_iT4 ad cy iT x_wT tx [(2, x_iT2)] s1)) hP
    have hD : va_D A (zzT ad cy (us iT [(2, x_iT2), (4, s1)]) x_wT tx) := Eq.mp (congrArg (fun w => va_D A w) (stT_iT4 ad cy iT x_wT tx [(2, x_iT2)] s1)) hD
    have h' := Option.some.inj h
    rw [← hQQ]
    exact W.vret hx hb hr (fun t ht hW => ⟨⟨(), rfl, trivial, by rw [← hWQ, ← h', ht]; exact hP, va_K.moved hW.alike hK⟩, hS.F ht⟩) hS.2.2 dX5_takeRow_139
  have B89 : ∀ (v1 : Int32) (x_iT2 : Int32) (x_wT : Int64) (H : Heap) (locs : List Loc) (ls : Array Slot), f_T_takeRow_89 N (iT 1) (iT 2) (iT 3) (iT 4) wT tx v1 x_iT2 x_wT = some q → va_P (dC, dI) vwCl (zzT ad cy (us iT [(2, x_iT2)]) x_wT tx) H → va_D A (zzT ad cy (us iT [(2, x_iT2)]) x_wT tx) → va_S A s.heap H locs → lv_has ls 2 [(0, .ref (ad 0)), (1, .int v1)] → W p l e ({ frames := 1, cells := 0, slots := 0, locals := 21 } : Room) s m args below meth c H locs 0 0 QQ (F0 m 89 ls []) := by
    intro v1 x_iT2 x_wT H locs ls h hP hD hS hl
    unfold f_T_takeRow_89 at h
    refine lv_iload_n hx hb dX5_takeRow_89 rfl (lv_at hl 1 rfl) ?_
    refine lv_if_eq (tgt := 107) hx hb dX5_takeRow_90 (by decide) (fun cz => ?_) (fun cz => ?_)
    · have h := g_t h cz
      exact B107 x_iT2 x_wT H locs ls h hP hD hS (lv_sub hl [0] rfl)
    · have h := g_f h cz
      refine lv_aload_n hx hb dX5_takeRow_93 rfl (lv_at hl 0 rfl) ?_
      refine va_get (D := (dC, dI)) (ci := 5) (v := .int x_iT2) (C := RX5) (T := TX5) (N := 6) hx hb hts ki5 hown hK hP 0 rfl rfl 2 (by decide) kf25 (fun _ h9 => h9) rfl dX5_takeRow_94 ?_
      refine lv_aload_n hx hb dX5_takeRow_97 rfl (lv_at hl 0 rfl) ?_
      refine va_get (D := (dC, dI)) (ci := 5) (v := .int (iT 3)) (C := RX5) (T := TX5) (N := 6) hx hb hts ki5 hown hK hP 0 rfl rfl 3 (by decide) kf34 (fun _ h9 => h9) rfl dX5_takeRow_98 ?_
      refine lv_isub hx hb dX5_takeRow_101 ?_
      refine lv_bipush (v := 8) hx hb dX5_takeRow_102 (by decide) ?_
      refine lv_icmp_le (tgt := 120) hx hb dX5_takeRow_104 (by decide) (fun cz => ?_) (fun cz => ?_)
      · have h := g_t h cz
        refine lv_aload_n hx hb dX5_takeRow_120 rfl (lv_at hl 0 rfl) ?_
        refine lv_aload_n hx hb dX5_takeRow_121 rfl (lv_at hl 0 rfl) ?_
        refine va_get (D := (dC, dI)) (ci := 5) (v := .long x_wT) (C := RX5) (T := TX5) (N := 6) hx hb hts ki5 hown hK hP 0 rfl rfl 5 (by decide) kf37 (fun _ h9 => h9) rfl dX5_takeRow_122 ?_
        obtain ⟨q125, e125, h⟩ := g_b h
        refine callSi (cc := cX5_takeRow) (ws' := zzT ad cy (us iT [(2, x_iT2)]) x_wT tx) (As := [.long x_wT]) (rest := [.ref (ad 0)]) ⟨hx, hb, hml, hown, hts⟩ (c_T_isKeyword l dC dI cy ad H.size x_wT q125 e125) (va_cwS 1 hts (goodS m_ml_X5_57 m_st_X5_isKeyword m_in_X5 m_cd_X5_isKeyword) rfl rfl rfl (by decide +kernel) ⟨Nat.le_of_ble_eq_true rfl, Nat.le_of_ble_eq_true rfl⟩) hN hK hP hD hS hA [] [none, none] rfl rfl rfl rfl rfl rfl rfl hl.1 rfl (Nat.le_of_ble_eq_true rfl) dX5_takeRow_125 ⟨Nat.zero_le _, Nat.zero_le _⟩ (fun H locs hP hD hS => ?_)
        refine lv_if_eq (tgt := 135) hx hb dX5_takeRow_128 (by decide) (fun cz => ?_) (fun cz => ?_)
        · have h := g_t h cz
          refine lv_iconst (v := 4) hx hb dX5_takeRow_135 (by decide) ?_
          exact B136 ((4 : Int32)) x_iT2 x_wT H locs ls h hP hD hS (lv_sub hl [] rfl)
        · have h := g_f h cz
          refine lv_iconst (v := 3) hx hb dX5_takeRow_131 (by decide) ?_
          refine lv_goto (tgt := 136) hx hb dX5_takeRow_132 (by decide) ?_
          exact B136 ((3 : Int32)) x_iT2 x_wT H locs ls h hP hD hS (lv_sub hl [] rfl)
      · have h := g_f h cz
        exact B107 x_iT2 x_wT H locs ls h hP hD hS (lv_sub hl [0] rfl)
  have B13 : ∀ (n : Nat) (v1 : Int32) (x_iT2 : Int32) (x_wT : Int64) (H : Heap) (locs : List Loc) (ls : Array Slot), f_T_takeRow_13 N (iT 1) (iT 2) (iT 3) (iT 4) wT tx v1 n x_iT2 x_wT = some q → va_P (dC, dI) vwCl (zzT ad cy (us iT [(2, x_iT2)]) x_wT tx) H → va_D A (zzT ad cy (us iT [(2, x_iT2)]) x_wT tx) → va_S A s.heap H locs → lv_has ls 2 [(0, .ref (ad 0)), (1, .int v1)] → W p l e ({ frames := 1, cells := 0, slots := 0, locals := 21 } : Room) s m args below meth c H locs 0 0 QQ (F0 m 13 ls []) := by
    intro n
    induction n with
    | zero =>
      intro v1 x_iT2 x_wT H locs ls h hP hD hS hl
      rw [f_T_takeRow_13] at h
      cases h
    | succ n ih =>
      intro v1 x_iT2 x_wT H locs ls h hP hD hS hl
      rw [f_T_takeRow_13] at h
      refine lv_aload_n hx hb dX5_takeRow_13 rfl (lv_at hl 0 rfl) ?_
      refine va_get (D := (dC, dI)) (ci := 5) (v := .int x_iT2) (C := RX5) (T := TX5) (N := 6) hx hb hts ki5 hown hK hP 0 rfl rfl 2 (by decide) kf25 (fun _ h9 => h9) rfl dX5_takeRow_14 ?_
      refine lv_aload_n hx hb dX5_takeRow_17 rfl (lv_at hl 0 rfl) ?_
      refine va_get (D := (dC, dI)) (ci := 5) (v := .int (iT 1)) (C := RX5) (T := TX5) (N := 6) hx hb hts ki5 hown hK hP 0 rfl rfl 1 (by decide) kf21 (fun _ h9 => h9) rfl dX5_takeRow_18 ?_
      refine lv_icmp_ge (tgt := 89) hx hb dX5_takeRow_21 (by decide) (fun cz => ?_) (fun cz => ?_)
      · have h := g_t h cz
        exact B89 v1 x_iT2 x_wT H locs ls h hP hD hS (lv_sub hl [0, 1] rfl)
      · have h := g_f h cz
        refine lv_aload_n hx hb dX5_takeRow_24 rfl (lv_at hl 0 rfl) ?_
        refine va_get (D := (dC, dI)) (ci := 5) (v := .ref (ad 1)) (C := RX5) (T := TX5) (N := 6) hx hb hts ki5 hown hK hP 0 rfl rfl 0 (by decide) kf9 (fun _ h9 => h9) rfl dX5_takeRow_25 ?_
        refine lv_aload_n hx hb dX5_takeRow_28 rfl (lv_at hl 0 rfl) ?_
        refine va_get (D := (dC, dI)) (ci := 5) (v := .int x_iT2) (C := RX5) (T := TX5) (N := 6) hx hb hts ki5 hown hK hP 0 rfl rfl 2 (by decide) kf25 (fun _ h9 => h9) rfl dX5_takeRow_29 ?_
        obtain ⟨g_2, h⟩ := g_n h
        refine va_bald (f := tx) hx hb hK hP 1 1 rfl rfl g_2 dX5_takeRow_32 ?_
        obtain ⟨q33, e33, h⟩ := g_b h
        refine callSi (cc := cX5_takeRow) (ws' := zzT ad cy (us iT [(2, x_iT2)]) x_wT tx) (As := [.int ((tx x_iT2.toNatClampNeg))]) (rest := []) ⟨hx, hb, hml, hown, hts⟩ (c_T_isLetter l dC dI cy ad H.size ((tx x_iT2.toNatClampNeg)) q33 e33) (va_cwS 1 hts (goodS m_ml_X5_44 m_st_X5_isLetter m_in_X5 m_cd_X5_isLetter) rfl rfl rfl (by decide +kernel) ⟨Nat.le_of_ble_eq_true rfl, Nat.le_of_ble_eq_true rfl⟩) hN hK hP hD hS hA [] [none, none] rfl rfl rfl rfl rfl rfl rfl hl.1 rfl (Nat.le_of_ble_eq_true rfl) dX5_takeRow_33 ⟨Nat.zero_le _, Nat.zero_le _⟩ (fun H locs hP hD hS => ?_)
        refine lv_if_ne (tgt := 54) hx hb dX5_takeRow_36 (by decide) (fun cz => ?_) (fun cz => ?_)
        · have h := g_f h cz
          exact B54 v1 x_iT2 x_wT (f_T_takeRow_13 N (iT 1) (iT 2) (iT 3) (iT 4) wT tx v1 n) (ih v1) H locs ls h hP hD hS (lv_sub hl [0, 1] rfl)
        · have h := g_t h cz
          refine lv_aload_n hx hb dX5_takeRow_39 rfl (lv_at hl 0 rfl) ?_
          refine va_get (D := (dC, dI)) (ci := 5) (v := .ref (ad 1)) (C := RX5) (T := TX5) (N := 6) hx hb hts ki5 hown hK hP 0 rfl rfl 0 (by decide) kf9 (fun _ h9 => h9) rfl dX5_takeRow_40 ?_
          refine lv_aload_n hx hb dX5_takeRow_43 rfl (lv_at hl 0 rfl) ?_
          refine va_get (D := (dC, dI)) (ci := 5) (v := .int x_iT2) (C := RX5) (T := TX5) (N := 6) hx hb hts ki5 hown hK hP 0 rfl rfl 2 (by decide) kf25 (fun _ h9 => h9) rfl dX5_takeRow_44 ?_
          refine va_bald (f := tx) hx hb hK hP 1 1 rfl rfl g_2 dX5_takeRow_47 ?_
          obtain ⟨q48, e48, h⟩ := g_b h
          refine callSi (cc := cX5_takeRow) (ws' := zzT ad cy (us iT [(2, x_iT2)]) x_wT tx) (As := [.int ((tx x_iT2.toNatClampNeg))]) (rest := []) ⟨hx, hb, hml, hown, hts⟩ (c_T_isDigit l dC dI cy ad H.size ((tx x_iT2.toNatClampNeg)) q48 e48) (va_cwS 1 hts (goodS m_ml_X5_48 m_st_X5_isDigit m_in_X5 m_cd_X5_isDigit) rfl rfl rfl (by decide +kernel) ⟨Nat.le_of_ble_eq_true rfl, Nat.le_of_ble_eq_true rfl⟩) hN hK hP hD hS hA [] [none, none] rfl rfl rfl rfl rfl rfl rfl hl.1 rfl (Nat.le_of_ble_eq_true rfl) dX5_takeRow_48 ⟨Nat.zero_le _, Nat.zero_le _⟩ (fun H locs hP hD hS => ?_)
          refine lv_if_eq (tgt := 89) hx hb dX5_takeRow_51 (by decide) (fun cz => ?_) (fun cz => ?_)
          · have h := g_t h cz
            exact B89 v1 x_iT2 x_wT H locs ls h hP hD hS (lv_sub hl [0, 1] rfl)
          · have h := g_f h cz
            exact B54 v1 x_iT2 x_wT (f_T_takeRow_13 N (iT 1) (iT 2) (iT 3) (iT 4) wT tx v1 n) (ih v1) H locs ls h hP hD hS (lv_sub hl [0, 1] rfl)
  intro H locs hP hD hS
  unfold f_T_takeRow at h
  refine lv_aload_n hx hb dX5_takeRow_0 rfl (lv_at hl 0 rfl) ?_
  refine va_get (D := (dC, dI)) (ci := 5) (v := .ref (ad 1)) (C := RX5) (T := TX5) (N := 6) hx hb hts ki5 hown hK hP 0 rfl rfl 0 (by decide) kf9 (fun _ h9 => h9) rfl dX5_takeRow_1 ?_
  refine lv_aload_n hx hb dX5_takeRow_4 rfl (lv_at hl 0 rfl) ?_
  refine va_get (D := (dC, dI)) (ci := 5) (v := .int (iT 3)) (C := RX5) (T := TX5) (N := 6) hx hb hts ki5 hown hK hP 0 rfl rfl 3 (by decide) kf34 (fun _ h9 => h9) rfl dX5_takeRow_5 ?_
  obtain ⟨g_3, h⟩ := g_n h
  refine va_bald (f := tx) hx hb hK hP 1 1 rfl rfl g_3 dX5_takeRow_8 ?_
  obtain ⟨q9, e9, h⟩ := g_b h
  refine callSi (cc := cX5_takeRow) (ws' := zzT ad cy iT wT tx) (As := [.int ((tx (iT 3).toNatClampNeg))]) (rest := []) ⟨hx, hb, hml, hown, hts⟩ (c_T_isLetter l dC dI cy ad H.size ((tx (iT 3).toNatClampNeg)) q9 e9) (va_cwS 1 hts (goodS m_ml_X5_44 m_st_X5_isLetter m_in_X5 m_cd_X5_isLetter) rfl rfl rfl (by decide +kernel) ⟨Nat.le_of_ble_eq_true rfl, Nat.le_of_ble_eq_true rfl⟩) hN hK hP hD hS hA [] [none, none] rfl rfl rfl rfl rfl rfl rfl hl.1 rfl (Nat.le_of_ble_eq_true rfl) dX5_takeRow_9 ⟨Nat.zero_le _, Nat.zero_le _⟩ (fun H locs hP hD hS => ?_)
  refine lv_istore_n (lv' := [(1, .int q9), (0, .ref (ad 0))]) hx hb dX5_takeRow_12 rfl hl (by decide) rfl (fun ls hl => ?_)
  exact B13 N q9 (iT 2) wT H locs ls h hP hD hS (lv_sub hl [1, 0] rfl)
