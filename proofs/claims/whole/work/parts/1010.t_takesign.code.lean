def f_T_takeSign_65 (iT2 : Int32) (iT4 : Int32) (wT : Int64) (tx : Nat → Int32) (v1 : Int32) (x_iT2 : Int32) : Option (Int32 × Int32 × Int64) := some (x_iT2, (2 : Int32), (v1).toInt64)
def f_T_takeSign (iT2 : Int32) (iT4 : Int32) (wT : Int64) (tx : Nat → Int32) : Option (Int32 × Int32 × Int64) := if iT2 < 0 ∨ 2000 ≤ iT2.toNatClampNeg then none else (if ((tx iT2.toNatClampNeg)).toInt64 = (60 : Int64) then (f_T_takeSign_65 iT2 iT4 wT tx ((tx iT2.toNatClampNeg)) ((iT2 + (1 : Int32)))) else (if ((tx iT2.toNatClampNeg)).toInt64 = (61 : Int64) then (f_T_takeSign_65 iT2 iT4 wT tx ((tx iT2.toNatClampNeg)) ((iT2 + (1 : Int32)))) else (if ((tx iT2.toNatClampNeg)).toInt64 = (59 : Int64) then (f_T_takeSign_65 iT2 iT4 wT tx ((tx iT2.toNatClampNeg)) ((iT2 + (1 : Int32)))) else (if ((tx iT2.toNatClampNeg)).toInt64 = (40 : Int64) then (f_T_takeSign_65 iT2 iT4 wT tx ((tx iT2.toNatClampNeg)) ((iT2 + (1 : Int32)))) else (if ((tx iT2.toNatClampNeg)).toInt64 = (41 : Int64) then (f_T_takeSign_65 iT2 iT4 wT tx ((tx iT2.toNatClampNeg)) ((iT2 + (1 : Int32)))) else (some ((iT2 + (1 : Int32)), (0 : Int32), wT)))))))
set_option maxHeartbeats 8000000 in
set_option maxRecDepth 100000 in
theorem c_T_takeSign (l : Launch) (dC : Nat → ClassId) (dI : Nat → Nat → Nat) (cy : Nat → ClassId) (ad : Nat → Nat) (sz : Nat) (iT : Nat → Int32) (wT : Int64) (tx : Nat → Int32) (q : Int32 × Int32 × Int64) (h : f_T_takeSign (iT 2) (iT 4) wT tx = some q) : Met l yX5_takeSign wsX5_takeSign ({ frames := 0, cells := 0, slots := 0, locals := 0 } : Room) (cP (dC, dI) cy [.ref (ad 0)] (zzT ad cy iT wT tx) sz) (cQv (dC, dI) cy (zzT ad cy (us iT [(2, q.1), (4, q.2.1)]) q.2.2 tx) (va_A (zzT ad cy iT wT tx) sz)) 0 0 (va_A (zzT ad cy iT wT tx) sz) := by
  refine Met.ofW (cc := cX5_takeSign) (maxL := 2) (ret := none) (by decide) rfl ?_
  intro p e s m args below meth c s₁ B hml hv
  obtain ⟨hav, hsz, hP, hK, hD0, hN⟩ := hv
  have hx := B.exec
  have hb := B.bytes
  have hr := B.returns
  have hts := atoms_spec (ws := wsX5_takeSign) B.pre
  have hown : s.vm.findClass RX5 = some m.cls := findClass_of_methodNamed B.named
  have hlocks := B.notSynchronized
  subst hsz
  have hD := hD0.self (sz := s.heap.size)
  generalize hAe : va_A (zzT ad cy iT wT tx) s.heap.size = A at hD ⊢
  have hA : ∀ q : Nat, s.heap.size ≤ q → A q := fun q h => by rw [← hAe]; exact Or.inr h
  have hS : va_S A s.heap s.heap [] := va_S.rf
  generalize hWQ : (zzT ad cy (us iT [(2, q.1), (4, q.2.1)]) q.2.2 tx) = WQ
  generalize hQQ : MQ below (cQv (dC, dI) cy WQ A) args s 0 0 A = QQ
  have hl := lv_entry ([.ref (ad 0)] : List Value) (n := 2) (Nat.le_of_ble_eq_true rfl)
  have hfr := lg_entry_eq m ([.ref (ad 0)] : List Value) 2
  rw [← hav] at hfr
  rw [hfr]
  clear hfr hav
  generalize (lg_sl ([.ref (ad 0)] : List Value) ++ List.replicate (2 - (lg_sl ([.ref (ad 0)] : List Value)).length) Slot.unset).toArray = ls at hl ⊢
  have hl : lv_has ls 2 [(0, .ref (ad 0))] := hl
  have kf37 := hts _ (List.mem_cons_of_mem _ m_fl_X5_37)
  have ki5 := (fun w h => List.mem_cons_of_mem _ (i_X5 w h) : ∀ w ∈ u_ws RX5 TX5 6, w ∈ wsX5_takeSign)
  have kf41 := hts _ (List.mem_cons_of_mem _ m_fl_X5_41)
  have kf9 := hts _ (List.mem_cons_of_mem _ m_fl_X5_9)
  have kf25 := hts _ (List.mem_cons_of_mem _ m_fl_X5_25)
  have kc61 := hts _ (List.mem_cons_of_mem _ m_kl_X5_61)
  have kc63 := hts _ (List.mem_cons_of_mem _ m_kl_X5_63)
  have kc65 := hts _ (List.mem_cons_of_mem _ m_kl_X5_65)
  have kc67 := hts _ (List.mem_cons_of_mem _ m_kl_X5_67)
  have kc69 := hts _ (List.mem_cons_of_mem _ m_kl_X5_69)
  refine (?_ : ∀ (H : Heap) (locs : List Loc), va_P (dC, dI) vwCl (zzT ad cy iT wT tx) H → va_D A (zzT ad cy iT wT tx) → va_S A s.heap H locs → W p l e ({ frames := 0, cells := 0, slots := 0, locals := 0 } : Room) s m args below meth c H locs 0 0 QQ (F0 m 0 ls [])) s.heap [] hP hD hS
  clear hP hD hS
  have B65 : ∀ (v1 : Int32) (x_iT2 : Int32) (H : Heap) (locs : List Loc) (ls : Array Slot), f_T_takeSign_65 (iT 2) (iT 4) wT tx v1 x_iT2 = some q → va_P (dC, dI) vwCl (zzT ad cy (us iT [(2, x_iT2)]) wT tx) H → va_D A (zzT ad cy (us iT [(2, x_iT2)]) wT tx) → va_S A s.heap H locs → lv_has ls 2 [(0, .ref (ad 0)), (1, .int v1)] → W p l e ({ frames := 0, cells := 0, slots := 0, locals := 0 } : Room) s m args below meth c H locs 0 0 QQ (F0 m 65 ls []) := by
    intro v1 x_iT2 H locs ls h hP hD hS hl
    unfold f_T_takeSign_65 at h
    refine lv_aload_n hx hb dX5_takeSign_65 rfl (lv_at hl 0 rfl) ?_
    refine lv_iload_n hx hb dX5_takeSign_66 rfl (lv_at hl 1 rfl) ?_
    refine lv_i2l (v := (v1).toInt64) hx hb dX5_takeSign_67 rfl ?_
    refine va_put (D := (dC, dI)) (ci := 5) (v := .long (v1).toInt64) (ty := .long) (C := RX5) (T := TX5) (N := 6) hx hb hts ki5 tyX5 tyX5_ok nmX5 hown hK hP hD hS 0 rfl rfl 5 (by decide) kf37 (fun _ h9 => h9) rfl (by decide +kernel) rfl rfl (Nat.le_of_ble_eq_true rfl) dX5_takeSign_68 (fun H locs hP hD hS => ?_)
    have hP : va_P (dC, dI) vwCl (zzT ad cy (us iT [(2, x_iT2)]) (v1).toInt64 tx) H := hP
    have hD : va_D A (zzT ad cy (us iT [(2, x_iT2)]) (v1).toInt64 tx) := hD
    refine lv_aload_n hx hb dX5_takeSign_71 rfl (lv_at hl 0 rfl) ?_
    refine lv_iconst (v := 2) hx hb dX5_takeSign_72 (by decide) ?_
    refine va_put (D := (dC, dI)) (ci := 5) (v := .int ((2 : Int32))) (ty := .int) (C := RX5) (T := TX5) (N := 6) hx hb hts ki5 tyX5 tyX5_ok nmX5 hown hK hP hD hS 0 rfl rfl 4 (by decide) kf41 (fun _ h9 => h9) rfl (by decide +kernel) rfl rfl (Nat.le_of_ble_eq_true rfl) dX5_takeSign_73 (fun H locs hP hD hS => ?_)
    have hP : va_P (dC, dI) vwCl (zzT ad cy (us iT [(2, x_iT2), (4, (2 : Int32))]) (v1).toInt64 tx) H := Eq.mp (congrArg (fun w => va_P (dC, dI) vwCl w H) (stT_iT4 ad cy iT (v1).toInt64 tx [(2, x_iT2)] ((2 : Int32)))) hP
    have hD : va_D A (zzT ad cy (us iT [(2, x_iT2), (4, (2 : Int32))]) (v1).toInt64 tx) := Eq.mp (congrArg (fun w => va_D A w) (stT_iT4 ad cy iT (v1).toInt64 tx [(2, x_iT2)] ((2 : Int32)))) hD
    refine lv_goto (tgt := 84) hx hb dX5_takeSign_76 (by decide) ?_
    have h' := Option.some.inj h
    rw [← hQQ]
    exact W.vret hx hb hr (fun t ht hW => ⟨⟨(), rfl, trivial, by rw [← hWQ, ← h', ht]; exact hP, va_K.moved hW.alike hK⟩, hS.F ht⟩) hS.2.2 dX5_takeSign_84
  intro H locs hP hD hS
  unfold f_T_takeSign at h
  refine lv_aload_n hx hb dX5_takeSign_0 rfl (lv_at hl 0 rfl) ?_
  refine va_get (D := (dC, dI)) (ci := 5) (v := .ref (ad 1)) (C := RX5) (T := TX5) (N := 6) hx hb hts ki5 hown hK hP 0 rfl rfl 0 (by decide) kf9 (fun _ h9 => h9) rfl dX5_takeSign_1 ?_
  refine lv_aload_n hx hb dX5_takeSign_4 rfl (lv_at hl 0 rfl) ?_
  refine va_get (D := (dC, dI)) (ci := 5) (v := .int (iT 2)) (C := RX5) (T := TX5) (N := 6) hx hb hts ki5 hown hK hP 0 rfl rfl 2 (by decide) kf25 (fun _ h9 => h9) rfl dX5_takeSign_5 ?_
  obtain ⟨g_4, h⟩ := g_n h
  refine va_bald (f := tx) hx hb hK hP 1 1 rfl rfl g_4 dX5_takeSign_8 ?_
  refine lv_istore_n (lv' := [(1, .int ((tx (iT 2).toNatClampNeg))), (0, .ref (ad 0))]) hx hb dX5_takeSign_9 rfl hl (by decide) rfl (fun ls hl => ?_)
  refine lv_aload_n hx hb dX5_takeSign_10 rfl (lv_at hl 1 rfl) ?_
  refine lv_dup hx hb dX5_takeSign_11 rfl ?_
  refine va_get (D := (dC, dI)) (ci := 5) (v := .int (iT 2)) (C := RX5) (T := TX5) (N := 6) hx hb hts ki5 hown hK hP 0 rfl rfl 2 (by decide) kf25 (fun _ h9 => h9) rfl dX5_takeSign_12 ?_
  refine lv_iconst (v := 1) hx hb dX5_takeSign_15 (by decide) ?_
  refine lv_iadd hx hb dX5_takeSign_16 ?_
  refine va_put (D := (dC, dI)) (ci := 5) (v := .int (((iT 2) + (1 : Int32)))) (ty := .int) (C := RX5) (T := TX5) (N := 6) hx hb hts ki5 tyX5 tyX5_ok nmX5 hown hK hP hD hS 0 rfl rfl 2 (by decide) kf25 (fun _ h9 => h9) rfl (by decide +kernel) rfl rfl (Nat.le_of_ble_eq_true rfl) dX5_takeSign_17 (fun H locs hP hD hS => ?_)
  have hP : va_P (dC, dI) vwCl (zzT ad cy (us iT [(2, ((iT 2) + (1 : Int32)))]) wT tx) H := Eq.mp (congrArg (fun w => va_P (dC, dI) vwCl w H) (sfT_iT2 ad cy iT wT tx (((iT 2) + (1 : Int32))))) hP
  have hD : va_D A (zzT ad cy (us iT [(2, ((iT 2) + (1 : Int32)))]) wT tx) := Eq.mp (congrArg (fun w => va_D A w) (sfT_iT2 ad cy iT wT tx (((iT 2) + (1 : Int32))))) hD
  refine lv_iload_n hx hb dX5_takeSign_20 rfl (lv_at hl 0 rfl) ?_
  refine lv_i2l (v := ((tx (iT 2).toNatClampNeg)).toInt64) hx hb dX5_takeSign_21 rfl ?_
  refine lv_ldc2 (v := 60) hx hb hown kc61 dX5_takeSign_22 ?_
  refine W.lcmp hx hb dX5_takeSign_25 ?_
  refine lv_if_eq (tgt := 65) hx hb dX5_takeSign_26 (by decide) (fun cz => ?_) (fun cz => ?_)
  · have h := g_t h (lg_cmp0.mp cz)
    exact B65 ((tx (iT 2).toNatClampNeg)) (((iT 2) + (1 : Int32))) H locs ls h hP hD hS (lv_sub hl [1, 0] rfl)
  · have h := g_f h (fun z => cz (lg_cmp0.mpr z))
    refine lv_iload_n hx hb dX5_takeSign_29 rfl (lv_at hl 0 rfl) ?_
    refine lv_i2l (v := ((tx (iT 2).toNatClampNeg)).toInt64) hx hb dX5_takeSign_30 rfl ?_
    refine lv_ldc2 (v := 61) hx hb hown kc63 dX5_takeSign_31 ?_
    refine W.lcmp hx hb dX5_takeSign_34 ?_
    refine lv_if_eq (tgt := 65) hx hb dX5_takeSign_35 (by decide) (fun cz => ?_) (fun cz => ?_)
    · have h := g_t h (lg_cmp0.mp cz)
      exact B65 ((tx (iT 2).toNatClampNeg)) (((iT 2) + (1 : Int32))) H locs ls h hP hD hS (lv_sub hl [1, 0] rfl)
    · have h := g_f h (fun z => cz (lg_cmp0.mpr z))
      refine lv_iload_n hx hb dX5_takeSign_38 rfl (lv_at hl 0 rfl) ?_
      refine lv_i2l (v := ((tx (iT 2).toNatClampNeg)).toInt64) hx hb dX5_takeSign_39 rfl ?_
      refine lv_ldc2 (v := 59) hx hb hown kc65 dX5_takeSign_40 ?_
      refine W.lcmp hx hb dX5_takeSign_43 ?_
      refine lv_if_eq (tgt := 65) hx hb dX5_takeSign_44 (by decide) (fun cz => ?_) (fun cz => ?_)
      · have h := g_t h (lg_cmp0.mp cz)
        exact B65 ((tx (iT 2).toNatClampNeg)) (((iT 2) + (1 : Int32))) H locs ls h hP hD hS (lv_sub hl [1, 0] rfl)
      · have h := g_f h (fun z => cz (lg_cmp0.mpr z))
        refine lv_iload_n hx hb dX5_takeSign_47 rfl (lv_at hl 0 rfl) ?_
        refine lv_i2l (v := ((tx (iT 2).toNatClampNeg)).toInt64) hx hb dX5_takeSign_48 rfl ?_
        refine lv_ldc2 (v := 40) hx hb hown kc67 dX5_takeSign_49 ?_
        refine W.lcmp hx hb dX5_takeSign_52 ?_
        refine lv_if_eq (tgt := 65) hx hb dX5_takeSign_53 (by decide) (fun cz => ?_) (fun cz => ?_)
        · have h := g_t h (lg_cmp0.mp cz)
          exact B65 ((tx (iT 2).toNatClampNeg)) (((iT 2) + (1 : Int32))) H locs ls h hP hD hS (lv_sub hl [1, 0] rfl)
        · have h := g_f h (fun z => cz (lg_cmp0.mpr z))
          refine lv_iload_n hx hb dX5_takeSign_56 rfl (lv_at hl 0 rfl) ?_
          refine lv_i2l (v := ((tx (iT 2).toNatClampNeg)).toInt64) hx hb dX5_takeSign_57 rfl ?_
          refine lv_ldc2 (v := 41) hx hb hown kc69 dX5_takeSign_58 ?_
          refine W.lcmp hx hb dX5_takeSign_61 ?_
          refine lv_if_ne (tgt := 79) hx hb dX5_takeSign_62 (by decide) (fun cz => ?_) (fun cz => ?_)
          · have h := g_f h (fun z => cz (lg_cmp0.mpr z))
            refine lv_aload_n hx hb dX5_takeSign_79 rfl (lv_at hl 1 rfl) ?_
            refine lv_iconst (v := 0) hx hb dX5_takeSign_80 (by decide) ?_
            refine va_put (D := (dC, dI)) (ci := 5) (v := .int ((0 : Int32))) (ty := .int) (C := RX5) (T := TX5) (N := 6) hx hb hts ki5 tyX5 tyX5_ok nmX5 hown hK hP hD hS 0 rfl rfl 4 (by decide) kf41 (fun _ h9 => h9) rfl (by decide +kernel) rfl rfl (Nat.le_of_ble_eq_true rfl) dX5_takeSign_81 (fun H locs hP hD hS => ?_)
            have hP : va_P (dC, dI) vwCl (zzT ad cy (us iT [(2, ((iT 2) + (1 : Int32))), (4, (0 : Int32))]) wT tx) H := Eq.mp (congrArg (fun w => va_P (dC, dI) vwCl w H) (stT_iT4 ad cy iT wT tx [(2, ((iT 2) + (1 : Int32)))] ((0 : Int32)))) hP
            have hD : va_D A (zzT ad cy (us iT [(2, ((iT 2) + (1 : Int32))), (4, (0 : Int32))]) wT tx) := Eq.mp (congrArg (fun w => va_D A w) (stT_iT4 ad cy iT wT tx [(2, ((iT 2) + (1 : Int32)))] ((0 : Int32)))) hD
            have h' := Option.some.inj h
            rw [← hQQ]
            exact W.vret hx hb hr (fun t ht hW => ⟨⟨(), rfl, trivial, by rw [← hWQ, ← h', ht]; exact hP, va_K.moved hW.alike hK⟩, hS.F ht⟩) hS.2.2 dX5_takeSign_84
          · have h := g_t h (lg_cmp0.mp cz)
            exact B65 ((tx (iT 2).toNatClampNeg)) (((iT 2) + (1 : Int32))) H locs ls h hP hD hS (lv_sub hl [1, 0] rfl)
