set_option maxHeartbeats 8000000 in
set_option maxRecDepth 100000 in
theorem c_M_newAtom (l : Launch) (dC : Nat → ClassId) (dI : Nat → Nat → Nat) (cy : Nat → ClassId) (ad : Nat → Nat) (sz : Nat) (a1 : Int32) (a2 : Int32) (a3 : Int32) (a4 : Int32) (a5 : Int32) (iM : Nat → Int32) (aM : Nat → Nat → Int32) (q : Int32 × Int32 × Int32 × (Nat → Int32) × (Nat → Int32) × (Nat → Int32) × (Nat → Int32) × (Nat → Int32)) (h : f_M_newAtom a1 a2 a3 a4 a5 (iM 45) (iM 46) (iM 47) (aM 11) (aM 12) (aM 32) (aM 33) (aM 34) (aM 35) = some q) : Met l yX8_newAtom wsX8_newAtom ({ frames := 1, cells := 0, slots := 0, locals := 22 } : Room) (cP (dC, dI) cy [.ref (ad 0), .int a1, .int a2, .int a3, .int a4, .int a5] (zzM ad cy iM aM) sz) (cQv (dC, dI) cy (zzM ad cy (us iM [(45, q.1), (46, q.2.1), (47, q.2.2.1)]) (us aM [(11, q.2.2.2.1), (32, q.2.2.2.2.1), (33, q.2.2.2.2.2.1), (34, q.2.2.2.2.2.2.1), (35, q.2.2.2.2.2.2.2)])) (va_A (zzM ad cy iM aM) sz)) 0 0 (va_A (zzM ad cy iM aM) sz) := by
  refine Met.ofW (cc := cX8_newAtom) (maxL := 6) (ret := none) (by decide) rfl ?_
  intro p e s m args below meth c s₁ B hml hv
  obtain ⟨hav, hsz, hP, hK, hD0, hN⟩ := hv
  have hx := B.exec
  have hb := B.bytes
  have hr := B.returns
  have hts := atoms_spec (ws := wsX8_newAtom) B.pre
  have hown : s.vm.findClass RX8 = some m.cls := findClass_of_methodNamed B.named
  have hlocks := B.notSynchronized
  subst hsz
  have hD := hD0.self (sz := s.heap.size)
  generalize hAe : va_A (zzM ad cy iM aM) s.heap.size = A at hD ⊢
  have hA : ∀ q : Nat, s.heap.size ≤ q → A q := fun q h => by rw [← hAe]; exact Or.inr h
  have hS : va_S A s.heap s.heap [] := va_S.rf
  generalize hWQ : (zzM ad cy (us iM [(45, q.1), (46, q.2.1), (47, q.2.2.1)]) (us aM [(11, q.2.2.2.1), (32, q.2.2.2.2.1), (33, q.2.2.2.2.2.1), (34, q.2.2.2.2.2.2.1), (35, q.2.2.2.2.2.2.2)])) = WQ
  generalize hQQ : MQ below (cQv (dC, dI) cy WQ A) args s 0 0 A = QQ
  have hl := lv_entry ([.ref (ad 0), .int a1, .int a2, .int a3, .int a4, .int a5] : List Value) (n := 6) (Nat.le_of_ble_eq_true rfl)
  have hfr := lg_entry_eq m ([.ref (ad 0), .int a1, .int a2, .int a3, .int a4, .int a5] : List Value) 6
  rw [← hav] at hfr
  rw [hfr]
  clear hfr hav
  generalize (lg_sl ([.ref (ad 0), .int a1, .int a2, .int a3, .int a4, .int a5] : List Value) ++ List.replicate (6 - (lg_sl ([.ref (ad 0), .int a1, .int a2, .int a3, .int a4, .int a5] : List Value)).length) Slot.unset).toArray = ls at hl ⊢
  have hl : lv_has ls 6 [(0, .ref (ad 0)), (1, .int a1), (2, .int a2), (3, .int a3), (4, .int a4), (5, .int a5)] := hl
  have kf234 := hts _ (List.mem_cons_of_mem _ m_fl_X8_234)
  have ki8 := (fun w h => List.mem_cons_of_mem _ (i_X8 w h) : ∀ w ∈ u_ws RX8 TX8 78, w ∈ wsX8_newAtom)
  have kf27 := hts _ (List.mem_cons_of_mem _ m_fl_X8_27)
  have kf73 := hts _ (List.mem_cons_of_mem _ m_fl_X8_73)
  have kf76 := hts _ (List.mem_cons_of_mem _ m_fl_X8_76)
  have kf79 := hts _ (List.mem_cons_of_mem _ m_fl_X8_79)
  have kf82 := hts _ (List.mem_cons_of_mem _ m_fl_X8_82)
  have kf30 := hts _ (List.mem_cons_of_mem _ m_fl_X8_30)
  refine (?_ : ∀ (H : Heap) (locs : List Loc), va_P (dC, dI) vwCl (zzM ad cy iM aM) H → va_D A (zzM ad cy iM aM) → va_S A s.heap H locs → W p l e ({ frames := 1, cells := 0, slots := 0, locals := 22 } : Room) s m args below meth c H locs 0 0 QQ (F0 m 0 ls [])) s.heap [] hP hD hS
  clear hP hD hS
  intro H locs hP hD hS
  unfold f_M_newAtom at h
  refine lv_aload_n hx hb dX8_newAtom_0 rfl (lv_at hl 0 rfl) ?_
  refine va_get (D := (dC, dI)) (ci := 8) (v := .int (iM 45)) (C := RX8) (T := TX8) (N := 78) hx hb hts ki8 hown hK hP 0 rfl rfl 45 (by decide) kf234 (fun _ h9 => h9) rfl dX8_newAtom_1 ?_
  refine lv_bipush (v := 9) hx hb dX8_newAtom_4 (by decide) ?_
  refine lv_icmp_ne (tgt := 21) hx hb dX8_newAtom_6 (by decide) (fun cz => ?_) (fun cz => ?_)
  · have h := g_f h cz
    refine lv_aload_n hx hb dX8_newAtom_21 rfl (lv_at hl 0 rfl) ?_
    refine va_get (D := (dC, dI)) (ci := 8) (v := .ref (ad 6)) (C := RX8) (T := TX8) (N := 78) hx hb hts ki8 hown hK hP 0 rfl rfl 11 (by decide) kf27 (fun _ h9 => h9) rfl dX8_newAtom_22 ?_
    refine lv_iload_n hx hb dX8_newAtom_25 rfl (lv_at hl 1 rfl) ?_
    refine lv_aload_n hx hb dX8_newAtom_26 rfl (lv_at hl 0 rfl) ?_
    refine va_get (D := (dC, dI)) (ci := 8) (v := .int (iM 45)) (C := RX8) (T := TX8) (N := 78) hx hb hts ki8 hown hK hP 0 rfl rfl 45 (by decide) kf234 (fun _ h9 => h9) rfl dX8_newAtom_27 ?_
    obtain ⟨g_60, h⟩ := g_n h
    refine va_iast (f := (aM 11)) hx hb hK hP hD hS 6 0 rfl rfl g_60 dX8_newAtom_30 (fun H locs hP hD hS => ?_)
    have hP : va_P (dC, dI) vwCl (zzM ad cy iM (us aM [(11, (upd (aM 11) a1.toNatClampNeg (iM 45)))])) H := Eq.mp (congrArg (fun w => va_P (dC, dI) vwCl w H) (sfM_aM11 ad cy iM aM ((upd (aM 11) a1.toNatClampNeg (iM 45))))) hP
    have hD : va_D A (zzM ad cy iM (us aM [(11, (upd (aM 11) a1.toNatClampNeg (iM 45)))])) := Eq.mp (congrArg (fun w => va_D A w) (sfM_aM11 ad cy iM aM ((upd (aM 11) a1.toNatClampNeg (iM 45))))) hD
    refine lv_aload_n hx hb dX8_newAtom_31 rfl (lv_at hl 0 rfl) ?_
    refine va_get (D := (dC, dI)) (ci := 8) (v := .ref (ad 21)) (C := RX8) (T := TX8) (N := 78) hx hb hts ki8 hown hK hP 0 rfl rfl 32 (by decide) kf73 (fun _ h9 => h9) rfl dX8_newAtom_32 ?_
    refine lv_bipush (v := 9) hx hb dX8_newAtom_35 (by decide) ?_
    refine lv_aload_n hx hb dX8_newAtom_37 rfl (lv_at hl 0 rfl) ?_
    refine va_get (D := (dC, dI)) (ci := 8) (v := .int (iM 45)) (C := RX8) (T := TX8) (N := 78) hx hb hts ki8 hown hK hP 0 rfl rfl 45 (by decide) kf234 (fun _ h9 => h9) rfl dX8_newAtom_38 ?_
    refine lv_iadd hx hb dX8_newAtom_41 ?_
    refine lv_iload_n hx hb dX8_newAtom_42 rfl (lv_at hl 2 rfl) ?_
    obtain ⟨g_61, h⟩ := g_n h
    refine va_iast (f := (aM 32)) hx hb hK hP hD hS 21 0 rfl rfl g_61 dX8_newAtom_43 (fun H locs hP hD hS => ?_)
    have hP : va_P (dC, dI) vwCl (zzM ad cy iM (us aM [(11, (upd (aM 11) a1.toNatClampNeg (iM 45))), (32, (upd (aM 32) (((9 : Int32) + (iM 45))).toNatClampNeg a2))])) H := Eq.mp (congrArg (fun w => va_P (dC, dI) vwCl w H) (stM_aM32 ad cy iM aM [(11, (upd (aM 11) a1.toNatClampNeg (iM 45)))] ((upd (aM 32) (((9 : Int32) + (iM 45))).toNatClampNeg a2)))) hP
    have hD : va_D A (zzM ad cy iM (us aM [(11, (upd (aM 11) a1.toNatClampNeg (iM 45))), (32, (upd (aM 32) (((9 : Int32) + (iM 45))).toNatClampNeg a2))])) := Eq.mp (congrArg (fun w => va_D A w) (stM_aM32 ad cy iM aM [(11, (upd (aM 11) a1.toNatClampNeg (iM 45)))] ((upd (aM 32) (((9 : Int32) + (iM 45))).toNatClampNeg a2)))) hD
    refine lv_aload_n hx hb dX8_newAtom_44 rfl (lv_at hl 0 rfl) ?_
    refine va_get (D := (dC, dI)) (ci := 8) (v := .ref (ad 22)) (C := RX8) (T := TX8) (N := 78) hx hb hts ki8 hown hK hP 0 rfl rfl 33 (by decide) kf76 (fun _ h9 => h9) rfl dX8_newAtom_45 ?_
    refine lv_bipush (v := 9) hx hb dX8_newAtom_48 (by decide) ?_
    refine lv_aload_n hx hb dX8_newAtom_50 rfl (lv_at hl 0 rfl) ?_
    refine va_get (D := (dC, dI)) (ci := 8) (v := .int (iM 45)) (C := RX8) (T := TX8) (N := 78) hx hb hts ki8 hown hK hP 0 rfl rfl 45 (by decide) kf234 (fun _ h9 => h9) rfl dX8_newAtom_51 ?_
    refine lv_iadd hx hb dX8_newAtom_54 ?_
    refine lv_iload_n hx hb dX8_newAtom_55 rfl (lv_at hl 3 rfl) ?_
    refine va_iast (f := (aM 33)) hx hb hK hP hD hS 22 0 rfl rfl g_61 dX8_newAtom_56 (fun H locs hP hD hS => ?_)
    have hP : va_P (dC, dI) vwCl (zzM ad cy iM (us aM [(11, (upd (aM 11) a1.toNatClampNeg (iM 45))), (32, (upd (aM 32) (((9 : Int32) + (iM 45))).toNatClampNeg a2)), (33, (upd (aM 33) (((9 : Int32) + (iM 45))).toNatClampNeg a3))])) H := Eq.mp (congrArg (fun w => va_P (dC, dI) vwCl w H) (stM_aM33 ad cy iM aM [(11, (upd (aM 11) a1.toNatClampNeg (iM 45))), (32, (upd (aM 32) (((9 : Int32) + (iM 45))).toNatClampNeg a2))] ((upd (aM 33) (((9 : Int32) + (iM 45))).toNatClampNeg a3)))) hP
    have hD : va_D A (zzM ad cy iM (us aM [(11, (upd (aM 11) a1.toNatClampNeg (iM 45))), (32, (upd (aM 32) (((9 : Int32) + (iM 45))).toNatClampNeg a2)), (33, (upd (aM 33) (((9 : Int32) + (iM 45))).toNatClampNeg a3))])) := Eq.mp (congrArg (fun w => va_D A w) (stM_aM33 ad cy iM aM [(11, (upd (aM 11) a1.toNatClampNeg (iM 45))), (32, (upd (aM 32) (((9 : Int32) + (iM 45))).toNatClampNeg a2))] ((upd (aM 33) (((9 : Int32) + (iM 45))).toNatClampNeg a3)))) hD
    refine lv_aload_n hx hb dX8_newAtom_57 rfl (lv_at hl 0 rfl) ?_
    refine va_get (D := (dC, dI)) (ci := 8) (v := .ref (ad 23)) (C := RX8) (T := TX8) (N := 78) hx hb hts ki8 hown hK hP 0 rfl rfl 34 (by decide) kf79 (fun _ h9 => h9) rfl dX8_newAtom_58 ?_
    refine lv_bipush (v := 9) hx hb dX8_newAtom_61 (by decide) ?_
    refine lv_aload_n hx hb dX8_newAtom_63 rfl (lv_at hl 0 rfl) ?_
    refine va_get (D := (dC, dI)) (ci := 8) (v := .int (iM 45)) (C := RX8) (T := TX8) (N := 78) hx hb hts ki8 hown hK hP 0 rfl rfl 45 (by decide) kf234 (fun _ h9 => h9) rfl dX8_newAtom_64 ?_
    refine lv_iadd hx hb dX8_newAtom_67 ?_
    refine lv_iload hx hb dX8_newAtom_68 (lv_at hl 4 rfl) ?_
    refine va_iast (f := (aM 34)) hx hb hK hP hD hS 23 0 rfl rfl g_61 dX8_newAtom_70 (fun H locs hP hD hS => ?_)
    have hP : va_P (dC, dI) vwCl (zzM ad cy iM (us aM [(11, (upd (aM 11) a1.toNatClampNeg (iM 45))), (32, (upd (aM 32) (((9 : Int32) + (iM 45))).toNatClampNeg a2)), (33, (upd (aM 33) (((9 : Int32) + (iM 45))).toNatClampNeg a3)), (34, (upd (aM 34) (((9 : Int32) + (iM 45))).toNatClampNeg a4))])) H := Eq.mp (congrArg (fun w => va_P (dC, dI) vwCl w H) (stM_aM34 ad cy iM aM [(11, (upd (aM 11) a1.toNatClampNeg (iM 45))), (32, (upd (aM 32) (((9 : Int32) + (iM 45))).toNatClampNeg a2)), (33, (upd (aM 33) (((9 : Int32) + (iM 45))).toNatClampNeg a3))] ((upd (aM 34) (((9 : Int32) + (iM 45))).toNatClampNeg a4)))) hP
    have hD : va_D A (zzM ad cy iM (us aM [(11, (upd (aM 11) a1.toNatClampNeg (iM 45))), (32, (upd (aM 32) (((9 : Int32) + (iM 45))).toNatClampNeg a2)), (33, (upd (aM 33) (((9 : Int32) + (iM 45))).toNatClampNeg a3)), (34, (upd (aM 34) (((9 : Int32) + (iM 45))).toNatClampNeg a4))])) := Eq.mp (congrArg (fun w => va_D A w) (stM_aM34 ad cy iM aM [(11, (upd (aM 11) a1.toNatClampNeg (iM 45))), (32, (upd (aM 32) (((9 : Int32) + (iM 45))).toNatClampNeg a2)), (33, (upd (aM 33) (((9 : Int32) + (iM 45))).toNatClampNeg a3))] ((upd (aM 34) (((9 : Int32) + (iM 45))).toNatClampNeg a4)))) hD
    refine lv_aload_n hx hb dX8_newAtom_71 rfl (lv_at hl 0 rfl) ?_
    refine va_get (D := (dC, dI)) (ci := 8) (v := .ref (ad 24)) (C := RX8) (T := TX8) (N := 78) hx hb hts ki8 hown hK hP 0 rfl rfl 35 (by decide) kf82 (fun _ h9 => h9) rfl dX8_newAtom_72 ?_
    refine lv_bipush (v := 9) hx hb dX8_newAtom_75 (by decide) ?_
    refine lv_aload_n hx hb dX8_newAtom_77 rfl (lv_at hl 0 rfl) ?_
    refine va_get (D := (dC, dI)) (ci := 8) (v := .int (iM 45)) (C := RX8) (T := TX8) (N := 78) hx hb hts ki8 hown hK hP 0 rfl rfl 45 (by decide) kf234 (fun _ h9 => h9) rfl dX8_newAtom_78 ?_
    refine lv_iadd hx hb dX8_newAtom_81 ?_
    refine lv_iload hx hb dX8_newAtom_82 (lv_at hl 5 rfl) ?_
    refine va_zast (f := (aM 35)) hx hb hK hP hD hS 24 4 rfl rfl g_61 dX8_newAtom_84 (fun H locs hP hD hS => ?_)
    have hP : va_P (dC, dI) vwCl (zzM ad cy iM (us aM [(11, (upd (aM 11) a1.toNatClampNeg (iM 45))), (32, (upd (aM 32) (((9 : Int32) + (iM 45))).toNatClampNeg a2)), (33, (upd (aM 33) (((9 : Int32) + (iM 45))).toNatClampNeg a3)), (34, (upd (aM 34) (((9 : Int32) + (iM 45))).toNatClampNeg a4)), (35, (upd (aM 35) (((9 : Int32) + (iM 45))).toNatClampNeg (vp_nar .boolean a5)))])) H := Eq.mp (congrArg (fun w => va_P (dC, dI) vwCl w H) (stM_aM35 ad cy iM aM [(11, (upd (aM 11) a1.toNatClampNeg (iM 45))), (32, (upd (aM 32) (((9 : Int32) + (iM 45))).toNatClampNeg a2)), (33, (upd (aM 33) (((9 : Int32) + (iM 45))).toNatClampNeg a3)), (34, (upd (aM 34) (((9 : Int32) + (iM 45))).toNatClampNeg a4))] ((upd (aM 35) (((9 : Int32) + (iM 45))).toNatClampNeg (vp_nar .boolean a5))))) hP
    have hD : va_D A (zzM ad cy iM (us aM [(11, (upd (aM 11) a1.toNatClampNeg (iM 45))), (32, (upd (aM 32) (((9 : Int32) + (iM 45))).toNatClampNeg a2)), (33, (upd (aM 33) (((9 : Int32) + (iM 45))).toNatClampNeg a3)), (34, (upd (aM 34) (((9 : Int32) + (iM 45))).toNatClampNeg a4)), (35, (upd (aM 35) (((9 : Int32) + (iM 45))).toNatClampNeg (vp_nar .boolean a5)))])) := Eq.mp (congrArg (fun w => va_D A w) (stM_aM35 ad cy iM aM [(11, (upd (aM 11) a1.toNatClampNeg (iM 45))), (32, (upd (aM 32) (((9 : Int32) + (iM 45))).toNatClampNeg a2)), (33, (upd (aM 33) (((9 : Int32) + (iM 45))).toNatClampNeg a3)), (34, (upd (aM 34) (((9 : Int32) + (iM 45))).toNatClampNeg a4))] ((upd (aM 35) (((9 : Int32) + (iM 45))).toNatClampNeg (vp_nar .boolean a5))))) hD
    refine lv_aload_n hx hb dX8_newAtom_85 rfl (lv_at hl 0 rfl) ?_
    refine lv_dup hx hb dX8_newAtom_86 rfl ?_
    refine va_get (D := (dC, dI)) (ci := 8) (v := .int (iM 45)) (C := RX8) (T := TX8) (N := 78) hx hb hts ki8 hown hK hP 0 rfl rfl 45 (by decide) kf234 (fun _ h9 => h9) rfl dX8_newAtom_87 ?_
    refine lv_iconst (v := 1) hx hb dX8_newAtom_90 (by decide) ?_
    refine lv_iadd hx hb dX8_newAtom_91 ?_
    refine va_put (D := (dC, dI)) (ci := 8) (v := .int (((iM 45) + (1 : Int32)))) (ty := .int) (C := RX8) (T := TX8) (N := 78) hx hb hts ki8 tyX8 tyX8_ok nmX8 hown hK hP hD hS 0 rfl rfl 45 (by decide) kf234 (fun _ h9 => h9) rfl (by decide +kernel) rfl rfl (Nat.le_of_ble_eq_true rfl) dX8_newAtom_92 (fun H locs hP hD hS => ?_)
    have hP : va_P (dC, dI) vwCl (zzM ad cy (us iM [(45, ((iM 45) + (1 : Int32)))]) (us aM [(11, (upd (aM 11) a1.toNatClampNeg (iM 45))), (32, (upd (aM 32) (((9 : Int32) + (iM 45))).toNatClampNeg a2)), (33, (upd (aM 33) (((9 : Int32) + (iM 45))).toNatClampNeg a3)), (34, (upd (aM 34) (((9 : Int32) + (iM 45))).toNatClampNeg a4)), (35, (upd (aM 35) (((9 : Int32) + (iM 45))).toNatClampNeg (vp_nar .boolean a5)))])) H := Eq.mp (congrArg (fun w => va_P (dC, dI) vwCl w H) (sfM_iM45 ad cy iM (us aM [(11, (upd (aM 11) a1.toNatClampNeg (iM 45))), (32, (upd (aM 32) (((9 : Int32) + (iM 45))).toNatClampNeg a2)), (33, (upd (aM 33) (((9 : Int32) + (iM 45))).toNatClampNeg a3)), (34, (upd (aM 34) (((9 : Int32) + (iM 45))).toNatClampNeg a4)), (35, (upd (aM 35) (((9 : Int32) + (iM 45))).toNatClampNeg (vp_nar .boolean a5)))]) (((iM 45) + (1 : Int32))))) hP
    have hD : va_D A (zzM ad cy (us iM [(45, ((iM 45) + (1 : Int32)))]) (us aM [(11, (upd (aM 11) a1.toNatClampNeg (iM 45))), (32, (upd (aM 32) (((9 : Int32) + (iM 45))).toNatClampNeg a2)), (33, (upd (aM 33) (((9 : Int32) + (iM 45))).toNatClampNeg a3)), (34, (upd (aM 34) (((9 : Int32) + (iM 45))).toNatClampNeg a4)), (35, (upd (aM 35) (((9 : Int32) + (iM 45))).toNatClampNeg (vp_nar .boolean a5)))])) := Eq.mp (congrArg (fun w => va_D A w) (sfM_iM45 ad cy iM (us aM [(11, (upd (aM 11) a1.toNatClampNeg (iM 45))), (32, (upd (aM 32) (((9 : Int32) + (iM 45))).toNatClampNeg a2)), (33, (upd (aM 33) (((9 : Int32) + (iM 45))).toNatClampNeg a3)), (34, (upd (aM 34) (((9 : Int32) + (iM 45))).toNatClampNeg a4)), (35, (upd (aM 35) (((9 : Int32) + (iM 45))).toNatClampNeg (vp_nar .boolean a5)))]) (((iM 45) + (1 : Int32))))) hD
    have h' := Option.some.inj h
    rw [← hQQ]
    exact W.vret hx hb hr (fun t ht hW => ⟨⟨(), rfl, trivial, by rw [← hWQ, ← h', ht]; exact hP, va_K.moved hW.alike hK⟩, hS.F ht⟩) hS.2.2 dX8_newAtom_95
  · have h := g_t h cz
    refine lv_aload_n hx hb dX8_newAtom_9 rfl (lv_at hl 0 rfl) ?_
    refine lv_iconst (v := 5) hx hb dX8_newAtom_10 (by decide) ?_
    refine lv_aload_n hx hb dX8_newAtom_11 rfl (lv_at hl 0 rfl) ?_
    refine va_get (D := (dC, dI)) (ci := 8) (v := .ref (ad 7)) (C := RX8) (T := TX8) (N := 78) hx hb hts ki8 hown hK hP 0 rfl rfl 12 (by decide) kf30 (fun _ h9 => h9) rfl dX8_newAtom_12 ?_
    refine lv_iload_n hx hb dX8_newAtom_15 rfl (lv_at hl 1 rfl) ?_
    obtain ⟨g_60, h⟩ := g_n h
    refine va_iald (f := (aM 12)) hx hb hK hP 7 0 rfl rfl g_60 dX8_newAtom_16 ?_
    obtain ⟨q17, e17, h⟩ := g_b h
    refine callVvs (cc := cX8_newAtom) (w1 := zzM ad cy (us iM [(46, q17.1), (47, q17.2)]) aM) (As := [.int ((5 : Int32)), .int (((aM 12) a1.toNatClampNeg))]) (rest := []) ⟨hx, hb, hml, hown, hts⟩ (c_M_wrong l dC dI cy ad H.size ((5 : Int32)) (((aM 12) a1.toNatClampNeg)) iM aM q17 e17) (cwV 2 hts (goodV m_ml_X8_194 m_im_X8_wrong m_se_X8_wrong m_in_X8 m_cd_X8_wrong) rfl rfl rfl (by decide +kernel) ⟨Nat.le_of_ble_eq_true rfl, Nat.le_of_ble_eq_true rfl⟩) hN hK hP hD hS hA rfl 0 rfl rfl rfl hl.1 rfl (Nat.le_of_ble_eq_true rfl) dX8_newAtom_17 ⟨Nat.zero_le _, Nat.zero_le _⟩ (fun H locs hP hD hS => ?_)
    have h' := Option.some.inj h
    rw [← hQQ]
    exact W.vret hx hb hr (fun t ht hW => ⟨⟨(), rfl, trivial, by rw [← hWQ, ← h', ht]; exact hP, va_K.moved hW.alike hK⟩, hS.F ht⟩) hS.2.2 dX8_newAtom_20
set_option maxHeartbeats 8000000 in
set_option maxRecDepth 100000 in
theorem c_M_readName (l : Launch) (dC : Nat → ClassId) (dI : Nat → Nat → Nat) (cy : Nat → ClassId) (ad : Nat → Nat) (sz : Nat) (N : Nat) (a1 : Int32) (iM : Nat → Int32) (aM : Nat → Nat → Int32) (q : Int32 × Int32 × Int32 × Int32 × (Nat → Int32) × (Nat → Int32) × (Nat → Int32) × (Nat → Int32) × (Nat → Int32) × (Nat → Int32) × (Nat → Int32) × (Nat → Int32)) (h : f_M_readName N a1 (iM 4) (iM 5) (iM 43) (iM 44) (iM 45) (iM 46) (iM 47) (aM 0) (aM 9) (aM 11) (aM 12) (aM 23) (aM 24) (aM 26) (aM 27) (aM 32) (aM 33) (aM 34) (aM 35) = some q) : Met l yX8_readName wsX8_readName ({ frames := 2, cells := 0, slots := 0, locals := 47 } : Room) (cP (dC, dI) cy [.ref (ad 0), .int a1] (zzM ad cy iM aM) sz) (cQv (dC, dI) cy (zzM ad cy (us iM [(43, q.1), (45, q.2.1), (46, q.2.2.1), (47, q.2.2.2.1)]) (us aM [(9, q.2.2.2.2.1), (11, q.2.2.2.2.2.1), (23, q.2.2.2.2.2.2.1), (24, q.2.2.2.2.2.2.2.1), (32, q.2.2.2.2.2.2.2.2.1), (33, q.2.2.2.2.2.2.2.2.2.1), (34, q.2.2.2.2.2.2.2.2.2.2.1), (35, q.2.2.2.2.2.2.2.2.2.2.2)])) (va_A (zzM ad cy iM aM) sz)) 0 0 (va_A (zzM ad cy iM aM) sz) := by
  refine Met.ofW (cc := cX8_readName) (maxL := 4) (ret := none) (by decide) rfl ?_
  intro p e s m args below meth c s₁ B hml hv
  obtain ⟨hav, hsz, hP, hK, hD0, hN⟩ := hv
  have hx := B.exec
  have hb := B.bytes
  have hr := B.returns
  have hts := atoms_spec (ws := wsX8_readName) B.pre
  have hown : s.vm.findClass RX8 = some m.cls := findClass_of_methodNamed B.named
  have hlocks := B.notSynchronized
  subst hsz
  have hD := hD0.self (sz := s.heap.size)
  generalize hAe : va_A (zzM ad cy iM aM) s.heap.size = A at hD ⊢
  have hA : ∀ q : Nat, s.heap.size ≤ q → A q := fun q h => by rw [← hAe]; exact Or.inr h
  have hS : va_S A s.heap s.heap [] := va_S.rf
  generalize hWQ : (zzM ad cy (us iM [(43, q.1), (45, q.2.1), (46, q.2.2.1), (47, q.2.2.2.1)]) (us aM [(9, q.2.2.2.2.1), (11, q.2.2.2.2.2.1), (23, q.2.2.2.2.2.2.1), (24, q.2.2.2.2.2.2.2.1), (32, q.2.2.2.2.2.2.2.2.1), (33, q.2.2.2.2.2.2.2.2.2.1), (34, q.2.2.2.2.2.2.2.2.2.2.1), (35, q.2.2.2.2.2.2.2.2.2.2.2)])) = WQ
  generalize hQQ : MQ below (cQv (dC, dI) cy WQ A) args s 0 0 A = QQ
  have hl := lv_entry ([.ref (ad 0), .int a1] : List Value) (n := 4) (Nat.le_of_ble_eq_true rfl)
  have hfr := lg_entry_eq m ([.ref (ad 0), .int a1] : List Value) 4
  rw [← hav] at hfr
  rw [hfr]
  clear hfr hav
  generalize (lg_sl ([.ref (ad 0), .int a1] : List Value) ++ List.replicate (4 - (lg_sl ([.ref (ad 0), .int a1] : List Value)).length) Slot.unset).toArray = ls at hl ⊢
  have hl : lv_has ls 4 [(0, .ref (ad 0)), (1, .int a1)] := hl
  have kf234 := hts _ (List.mem_cons_of_mem _ m_fl_X8_234)
  have ki8 := (fun w h => List.mem_cons_of_mem _ (i_X8 w h) : ∀ w ∈ u_ws RX8 TX8 78, w ∈ wsX8_readName)
  have kf27 := hts _ (List.mem_cons_of_mem _ m_fl_X8_27)
  have kf76 := hts _ (List.mem_cons_of_mem _ m_fl_X8_76)
  have kf21 := hts _ (List.mem_cons_of_mem _ m_fl_X8_21)
  have kf172 := hts _ (List.mem_cons_of_mem _ m_fl_X8_172)
  have kf54 := hts _ (List.mem_cons_of_mem _ m_fl_X8_54)
  have kf214 := hts _ (List.mem_cons_of_mem _ m_fl_X8_214)
  have kf51 := hts _ (List.mem_cons_of_mem _ m_fl_X8_51)
  have kf7 := hts _ (List.mem_cons_of_mem _ m_fl_X8_7)
  have kf169 := hts _ (List.mem_cons_of_mem _ m_fl_X8_169)
  refine (?_ : ∀ (H : Heap) (locs : List Loc), va_P (dC, dI) vwCl (zzM ad cy iM aM) H → va_D A (zzM ad cy iM aM) → va_S A s.heap H locs → W p l e ({ frames := 2, cells := 0, slots := 0, locals := 47 } : Room) s m args below meth c H locs 0 0 QQ (F0 m 0 ls [])) s.heap [] hP hD hS
  clear hP hD hS
  have B128 : ∀ (n : Nat) (v1 : Int32) (v2 : Int32) (x_iM43 : Int32) (x_aM9 : Nat → Int32) (x_aM23 : Nat → Int32) (x_aM24 : Nat → Int32) (v3 : Int32) (x_aM11 : Nat → Int32) (H : Heap) (locs : List Loc) (ls : Array Slot), f_M_readName_128 N (iM 4) (iM 5) (iM 43) (iM 44) (iM 45) (iM 46) (iM 47) (aM 0) (aM 9) (aM 11) (aM 12) (aM 23) (aM 24) (aM 26) (aM 27) (aM 32) (aM 33) (aM 34) (aM 35) v1 v2 x_iM43 x_aM9 x_aM23 x_aM24 n v3 x_aM11 = some q → va_P (dC, dI) vwCl (zzM ad cy (us iM [(43, x_iM43)]) (us aM [(9, x_aM9), (11, x_aM11), (23, x_aM23), (24, x_aM24)])) H → va_D A (zzM ad cy (us iM [(43, x_iM43)]) (us aM [(9, x_aM9), (11, x_aM11), (23, x_aM23), (24, x_aM24)])) → va_S A s.heap H locs → lv_has ls 4 [(0, .ref (ad 0)), (1, .int v1), (2, .int v2), (3, .int v3)] → W p l e ({ frames := 2, cells := 0, slots := 0, locals := 47 } : Room) s m args below meth c H locs 0 0 QQ (F0 m 128 ls []) := by
    intro n
    induction n with
    | zero =>
      intro v1 v2 x_iM43 x_aM9 x_aM23 x_aM24 v3 x_aM11 H locs ls h hP hD hS hl
      rw [f_M_readName_128] at h
      cases h
    | succ n ih =>
      intro v1 v2 x_iM43 x_aM9 x_aM23 x_aM24 v3 x_aM11 H locs ls h hP hD hS hl
      rw [f_M_readName_128] at h
      refine lv_iload_n hx hb dX8_readName_128 rfl (lv_at hl 3 rfl) ?_
      refine lv_aload_n hx hb dX8_readName_129 rfl (lv_at hl 0 rfl) ?_
      refine va_get (D := (dC, dI)) (ci := 8) (v := .int (iM 45)) (C := RX8) (T := TX8) (N := 78) hx hb hts ki8 hown hK hP 0 rfl rfl 45 (by decide) kf234 (fun _ h9 => h9) rfl dX8_readName_130 ?_
      refine lv_icmp_ge (tgt := 162) hx hb dX8_readName_133 (by decide) (fun cz => ?_) (fun cz => ?_)
      · have h := g_t h cz
        refine lv_aload_n hx hb dX8_readName_162 rfl (lv_at hl 0 rfl) ?_
        refine va_get (D := (dC, dI)) (ci := 8) (v := .ref (ad 6)) (C := RX8) (T := TX8) (N := 78) hx hb hts ki8 hown hK hP 0 rfl rfl 11 (by decide) kf27 (fun _ h9 => h9) rfl dX8_readName_163 ?_
        refine lv_iload_n hx hb dX8_readName_166 rfl (lv_at hl 1 rfl) ?_
        obtain ⟨g_62, h⟩ := g_n h
        refine va_iald (f := x_aM11) hx hb hK hP 6 0 rfl rfl g_62 dX8_readName_167 ?_
        refine lv_if_ge (tgt := 180) hx hb dX8_readName_168 (by decide) (fun cz => ?_) (fun cz => ?_)
        · have h := g_t h cz
          have h' := Option.some.inj h
          rw [← hQQ]
          exact W.vret hx hb hr (fun t ht hW => ⟨⟨(), rfl, trivial, by rw [← hWQ, ← h', ht]; exact hP, va_K.moved hW.alike hK⟩, hS.F ht⟩) hS.2.2 dX8_readName_180
        · have h := g_f h cz
          refine lv_aload_n hx hb dX8_readName_171 rfl (lv_at hl 0 rfl) ?_
          refine lv_iload_n hx hb dX8_readName_172 rfl (lv_at hl 1 rfl) ?_
          refine lv_iconst (v := (-1)) hx hb dX8_readName_173 (by decide) ?_
          refine lv_iload_n hx hb dX8_readName_174 rfl (lv_at hl 2 rfl) ?_
          refine lv_iconst (v := (-1)) hx hb dX8_readName_175 (by decide) ?_
          refine lv_iconst (v := 0) hx hb dX8_readName_176 (by decide) ?_
          obtain ⟨q177, e177, h⟩ := g_b h
          refine callVvs (cc := cX8_readName) (w1 := zzM ad cy (us iM [(43, x_iM43), (45, q177.1), (46, q177.2.1), (47, q177.2.2.1)]) (us aM [(9, x_aM9), (11, q177.2.2.2.1), (23, x_aM23), (24, x_aM24), (32, q177.2.2.2.2.1), (33, q177.2.2.2.2.2.1), (34, q177.2.2.2.2.2.2.1), (35, q177.2.2.2.2.2.2.2)])) (As := [.int v1, .int ((-1 : Int32)), .int v2, .int ((-1 : Int32)), .int ((0 : Int32))]) (rest := []) ⟨hx, hb, hml, hown, hts⟩ (c_M_newAtom l dC dI cy ad H.size v1 ((-1 : Int32)) v2 ((-1 : Int32)) ((0 : Int32)) ((us iM [(43, x_iM43)])) ((us aM [(9, x_aM9), (11, x_aM11), (23, x_aM23), (24, x_aM24)])) q177 e177) (cwV 5 hts (goodV m_ml_X8_237 m_im_X8_newAtom m_se_X8_newAtom m_in_X8 m_cd_X8_newAtom) rfl rfl rfl (by decide +kernel) ⟨Nat.le_of_ble_eq_true rfl, Nat.le_of_ble_eq_true rfl⟩) hN hK hP hD hS hA rfl 0 rfl rfl rfl hl.1 rfl (Nat.le_of_ble_eq_true rfl) dX8_readName_177 ⟨Nat.zero_le _, Nat.zero_le _⟩ (fun H locs hP hD hS => ?_)
          have h' := Option.some.inj h
          rw [← hQQ]
          exact W.vret hx hb hr (fun t ht hW => ⟨⟨(), rfl, trivial, by rw [← hWQ, ← h', ht]; exact hP, va_K.moved hW.alike hK⟩, hS.F ht⟩) hS.2.2 dX8_readName_180
      · have h := g_f h cz
        refine lv_aload_n hx hb dX8_readName_136 rfl (lv_at hl 0 rfl) ?_
        refine va_get (D := (dC, dI)) (ci := 8) (v := .ref (ad 22)) (C := RX8) (T := TX8) (N := 78) hx hb hts ki8 hown hK hP 0 rfl rfl 33 (by decide) kf76 (fun _ h9 => h9) rfl dX8_readName_137 ?_
        refine lv_bipush (v := 9) hx hb dX8_readName_140 (by decide) ?_
        refine lv_iload_n hx hb dX8_readName_142 rfl (lv_at hl 3 rfl) ?_
        refine lv_iadd hx hb dX8_readName_143 ?_
        obtain ⟨g_63, h⟩ := g_n h
        refine va_iald (f := (aM 33)) hx hb hK hP 22 0 rfl rfl g_63 dX8_readName_144 ?_
        refine lv_iload_n hx hb dX8_readName_145 rfl (lv_at hl 2 rfl) ?_
        refine lv_icmp_ne (tgt := 156) hx hb dX8_readName_146 (by decide) (fun cz => ?_) (fun cz => ?_)
        · have h := g_f h cz
          refine lv_iinc (v := (v3 + (1 : Int32))) (lv' := [(3, .int ((v3 + (1 : Int32)))), (0, .ref (ad 0)), (1, .int v1), (2, .int v2)]) hx hb dX8_readName_156 hl (k := 3) rfl rfl (by decide) rfl (fun ls hl => ?_)
          refine lv_goto (tgt := 128) hx hb dX8_readName_159 (by decide) ?_
          exact ih v1 v2 x_iM43 x_aM9 x_aM23 x_aM24 ((v3 + (1 : Int32))) x_aM11 H locs ls h hP hD hS (lv_sub hl [1, 2, 3, 0] rfl)
        · have h := g_t h cz
          refine lv_aload_n hx hb dX8_readName_149 rfl (lv_at hl 0 rfl) ?_
          refine va_get (D := (dC, dI)) (ci := 8) (v := .ref (ad 6)) (C := RX8) (T := TX8) (N := 78) hx hb hts ki8 hown hK hP 0 rfl rfl 11 (by decide) kf27 (fun _ h9 => h9) rfl dX8_readName_150 ?_
          refine lv_iload_n hx hb dX8_readName_153 rfl (lv_at hl 1 rfl) ?_
          refine lv_iload_n hx hb dX8_readName_154 rfl (lv_at hl 3 rfl) ?_
          obtain ⟨g_62, h⟩ := g_n h
          refine va_iast (f := x_aM11) hx hb hK hP hD hS 6 0 rfl rfl g_62 dX8_readName_155 (fun H locs hP hD hS => ?_)
          have hP : va_P (dC, dI) vwCl (zzM ad cy (us iM [(43, x_iM43)]) (us aM [(9, x_aM9), (11, (upd x_aM11 v1.toNatClampNeg v3)), (23, x_aM23), (24, x_aM24)])) H := Eq.mp (congrArg (fun w => va_P (dC, dI) vwCl w H) (stM_aM11 ad cy (us iM [(43, x_iM43)]) aM [(9, x_aM9), (11, x_aM11), (23, x_aM23), (24, x_aM24)] ((upd x_aM11 v1.toNatClampNeg v3)))) hP
          have hD : va_D A (zzM ad cy (us iM [(43, x_iM43)]) (us aM [(9, x_aM9), (11, (upd x_aM11 v1.toNatClampNeg v3)), (23, x_aM23), (24, x_aM24)])) := Eq.mp (congrArg (fun w => va_D A w) (stM_aM11 ad cy (us iM [(43, x_iM43)]) aM [(9, x_aM9), (11, x_aM11), (23, x_aM23), (24, x_aM24)] ((upd x_aM11 v1.toNatClampNeg v3)))) hD
          refine lv_iinc (v := (v3 + (1 : Int32))) (lv' := [(3, .int ((v3 + (1 : Int32)))), (0, .ref (ad 0)), (1, .int v1), (2, .int v2)]) hx hb dX8_readName_156 hl (k := 3) rfl rfl (by decide) rfl (fun ls hl => ?_)
          refine lv_goto (tgt := 128) hx hb dX8_readName_159 (by decide) ?_
          exact ih v1 v2 x_iM43 x_aM9 x_aM23 x_aM24 ((v3 + (1 : Int32))) ((upd x_aM11 v1.toNatClampNeg v3)) H locs ls h hP hD hS (lv_sub hl [1, 2, 3, 0] rfl)
  have B119 : ∀ (v1 : Int32) (v2 : Int32) (x_iM43 : Int32) (x_aM23 : Nat → Int32) (x_aM24 : Nat → Int32) (H : Heap) (locs : List Loc) (ls : Array Slot), f_M_readName_119 N (iM 4) (iM 5) (iM 43) (iM 44) (iM 45) (iM 46) (iM 47) (aM 0) (aM 9) (aM 11) (aM 12) (aM 23) (aM 24) (aM 26) (aM 27) (aM 32) (aM 33) (aM 34) (aM 35) v1 v2 x_iM43 x_aM23 x_aM24 = some q → va_P (dC, dI) vwCl (zzM ad cy (us iM [(43, x_iM43)]) (us aM [(23, x_aM23), (24, x_aM24)])) H → va_D A (zzM ad cy (us iM [(43, x_iM43)]) (us aM [(23, x_aM23), (24, x_aM24)])) → va_S A s.heap H locs → lv_has ls 4 [(0, .ref (ad 0)), (1, .int v1), (2, .int v2)] → W p l e ({ frames := 2, cells := 0, slots := 0, locals := 47 } : Room) s m args below meth c H locs 0 0 QQ (F0 m 119 ls []) := by
    intro v1 v2 x_iM43 x_aM23 x_aM24 H locs ls h hP hD hS hl
    unfold f_M_readName_119 at h
    refine lv_aload_n hx hb dX8_readName_119 rfl (lv_at hl 0 rfl) ?_
    refine va_get (D := (dC, dI)) (ci := 8) (v := .ref (ad 4)) (C := RX8) (T := TX8) (N := 78) hx hb hts ki8 hown hK hP 0 rfl rfl 9 (by decide) kf21 (fun _ h9 => h9) rfl dX8_readName_120 ?_
    refine lv_iload_n hx hb dX8_readName_123 rfl (lv_at hl 1 rfl) ?_
    refine lv_iload_n hx hb dX8_readName_124 rfl (lv_at hl 2 rfl) ?_
    obtain ⟨g_62, h⟩ := g_n h
    refine va_iast (f := (aM 9)) hx hb hK hP hD hS 4 0 rfl rfl g_62 dX8_readName_125 (fun H locs hP hD hS => ?_)
    have hP : va_P (dC, dI) vwCl (zzM ad cy (us iM [(43, x_iM43)]) (us aM [(9, (upd (aM 9) v1.toNatClampNeg v2)), (23, x_aM23), (24, x_aM24)])) H := Eq.mp (congrArg (fun w => va_P (dC, dI) vwCl w H) (stM_aM9 ad cy (us iM [(43, x_iM43)]) aM [(23, x_aM23), (24, x_aM24)] ((upd (aM 9) v1.toNatClampNeg v2)))) hP
    have hD : va_D A (zzM ad cy (us iM [(43, x_iM43)]) (us aM [(9, (upd (aM 9) v1.toNatClampNeg v2)), (23, x_aM23), (24, x_aM24)])) := Eq.mp (congrArg (fun w => va_D A w) (stM_aM9 ad cy (us iM [(43, x_iM43)]) aM [(23, x_aM23), (24, x_aM24)] ((upd (aM 9) v1.toNatClampNeg v2)))) hD
    refine lv_iconst (v := 0) hx hb dX8_readName_126 (by decide) ?_
    refine lv_istore_n (lv' := [(3, .int ((0 : Int32))), (0, .ref (ad 0)), (1, .int v1), (2, .int v2)]) hx hb dX8_readName_127 rfl hl (by decide) rfl (fun ls hl => ?_)
    exact B128 N v1 v2 x_iM43 ((upd (aM 9) v1.toNatClampNeg v2)) x_aM23 x_aM24 ((0 : Int32)) (aM 11) H locs ls h hP hD hS (lv_sub hl [1, 2, 3, 0] rfl)
  have B59 : ∀ (n : Nat) (v1 : Int32) (v2 : Int32) (v3 : Int32) (x_aM23 : Nat → Int32) (H : Heap) (locs : List Loc) (ls : Array Slot), f_M_readName_59 N (iM 4) (iM 5) (iM 43) (iM 44) (iM 45) (iM 46) (iM 47) (aM 0) (aM 9) (aM 11) (aM 12) (aM 23) (aM 24) (aM 26) (aM 27) (aM 32) (aM 33) (aM 34) (aM 35) v1 v2 n v3 x_aM23 = some q → va_P (dC, dI) vwCl (zzM ad cy iM (us aM [(23, x_aM23)])) H → va_D A (zzM ad cy iM (us aM [(23, x_aM23)])) → va_S A s.heap H locs → lv_has ls 4 [(0, .ref (ad 0)), (1, .int v1), (2, .int v2), (3, .int v3)] → W p l e ({ frames := 2, cells := 0, slots := 0, locals := 47 } : Room) s m args below meth c H locs 0 0 QQ (F0 m 59 ls []) := by
    intro n
    induction n with
    | zero =>
      intro v1 v2 v3 x_aM23 H locs ls h hP hD hS hl
      rw [f_M_readName_59] at h
      cases h
    | succ n ih =>
      intro v1 v2 v3 x_aM23 H locs ls h hP hD hS hl
      rw [f_M_readName_59] at h
      refine lv_iload_n hx hb dX8_readName_59 rfl (lv_at hl 3 rfl) ?_
      refine lv_aload_n hx hb dX8_readName_60 rfl (lv_at hl 0 rfl) ?_
      refine va_get (D := (dC, dI)) (ci := 8) (v := .int (iM 5)) (C := RX8) (T := TX8) (N := 78) hx hb hts ki8 hown hK hP 0 rfl rfl 5 (by decide) kf172 (fun _ h9 => h9) rfl dX8_readName_61 ?_
      refine lv_icmp_ge (tgt := 97) hx hb dX8_readName_64 (by decide) (fun cz => ?_) (fun cz => ?_)
      · have h := g_t h cz
        refine lv_aload_n hx hb dX8_readName_97 rfl (lv_at hl 0 rfl) ?_
        refine va_get (D := (dC, dI)) (ci := 8) (v := .ref (ad 15)) (C := RX8) (T := TX8) (N := 78) hx hb hts ki8 hown hK hP 0 rfl rfl 24 (by decide) kf54 (fun _ h9 => h9) rfl dX8_readName_98 ?_
        refine lv_iconst (v := 5) hx hb dX8_readName_101 (by decide) ?_
        refine lv_iload_n hx hb dX8_readName_102 rfl (lv_at hl 2 rfl) ?_
        refine lv_iadd hx hb dX8_readName_103 ?_
        refine lv_aload_n hx hb dX8_readName_104 rfl (lv_at hl 0 rfl) ?_
        refine va_get (D := (dC, dI)) (ci := 8) (v := .int (iM 5)) (C := RX8) (T := TX8) (N := 78) hx hb hts ki8 hown hK hP 0 rfl rfl 5 (by decide) kf172 (fun _ h9 => h9) rfl dX8_readName_105 ?_
        obtain ⟨g_64, h⟩ := g_n h
        refine va_iast (f := (aM 24)) hx hb hK hP hD hS 15 0 rfl rfl g_64 dX8_readName_108 (fun H locs hP hD hS => ?_)
        have hP : va_P (dC, dI) vwCl (zzM ad cy iM (us aM [(23, x_aM23), (24, (upd (aM 24) (((5 : Int32) + v2)).toNatClampNeg (iM 5)))])) H := Eq.mp (congrArg (fun w => va_P (dC, dI) vwCl w H) (stM_aM24 ad cy iM aM [(23, x_aM23)] ((upd (aM 24) (((5 : Int32) + v2)).toNatClampNeg (iM 5))))) hP
        have hD : va_D A (zzM ad cy iM (us aM [(23, x_aM23), (24, (upd (aM 24) (((5 : Int32) + v2)).toNatClampNeg (iM 5)))])) := Eq.mp (congrArg (fun w => va_D A w) (stM_aM24 ad cy iM aM [(23, x_aM23)] ((upd (aM 24) (((5 : Int32) + v2)).toNatClampNeg (iM 5))))) hD
        refine lv_aload_n hx hb dX8_readName_109 rfl (lv_at hl 0 rfl) ?_
        refine lv_dup hx hb dX8_readName_110 rfl ?_
        refine va_get (D := (dC, dI)) (ci := 8) (v := .int (iM 43)) (C := RX8) (T := TX8) (N := 78) hx hb hts ki8 hown hK hP 0 rfl rfl 43 (by decide) kf214 (fun _ h9 => h9) rfl dX8_readName_111 ?_
        refine lv_iconst (v := 1) hx hb dX8_readName_114 (by decide) ?_
        refine lv_iadd hx hb dX8_readName_115 ?_
        refine va_put (D := (dC, dI)) (ci := 8) (v := .int (((iM 43) + (1 : Int32)))) (ty := .int) (C := RX8) (T := TX8) (N := 78) hx hb hts ki8 tyX8 tyX8_ok nmX8 hown hK hP hD hS 0 rfl rfl 43 (by decide) kf214 (fun _ h9 => h9) rfl (by decide +kernel) rfl rfl (Nat.le_of_ble_eq_true rfl) dX8_readName_116 (fun H locs hP hD hS => ?_)
        have hP : va_P (dC, dI) vwCl (zzM ad cy (us iM [(43, ((iM 43) + (1 : Int32)))]) (us aM [(23, x_aM23), (24, (upd (aM 24) (((5 : Int32) + v2)).toNatClampNeg (iM 5)))])) H := Eq.mp (congrArg (fun w => va_P (dC, dI) vwCl w H) (sfM_iM43 ad cy iM (us aM [(23, x_aM23), (24, (upd (aM 24) (((5 : Int32) + v2)).toNatClampNeg (iM 5)))]) (((iM 43) + (1 : Int32))))) hP
        have hD : va_D A (zzM ad cy (us iM [(43, ((iM 43) + (1 : Int32)))]) (us aM [(23, x_aM23), (24, (upd (aM 24) (((5 : Int32) + v2)).toNatClampNeg (iM 5)))])) := Eq.mp (congrArg (fun w => va_D A w) (sfM_iM43 ad cy iM (us aM [(23, x_aM23), (24, (upd (aM 24) (((5 : Int32) + v2)).toNatClampNeg (iM 5)))]) (((iM 43) + (1 : Int32))))) hD
        exact B119 v1 v2 (((iM 43) + (1 : Int32))) x_aM23 ((upd (aM 24) (((5 : Int32) + v2)).toNatClampNeg (iM 5))) H locs ls h hP hD hS (lv_sub hl [0, 1, 2] rfl)
      · have h := g_f h cz
        refine lv_aload_n hx hb dX8_readName_67 rfl (lv_at hl 0 rfl) ?_
        refine va_get (D := (dC, dI)) (ci := 8) (v := .ref (ad 14)) (C := RX8) (T := TX8) (N := 78) hx hb hts ki8 hown hK hP 0 rfl rfl 23 (by decide) kf51 (fun _ h9 => h9) rfl dX8_readName_68 ?_
        refine lv_bipush (v := 8) hx hb dX8_readName_71 (by decide) ?_
        refine lv_iconst (v := 5) hx hb dX8_readName_73 (by decide) ?_
        refine lv_iload_n hx hb dX8_readName_74 rfl (lv_at hl 2 rfl) ?_
        refine lv_iadd hx hb dX8_readName_75 ?_
        refine lv_imul hx hb dX8_readName_76 ?_
        refine lv_iload_n hx hb dX8_readName_77 rfl (lv_at hl 3 rfl) ?_
        refine lv_iadd hx hb dX8_readName_78 ?_
        refine lv_aload_n hx hb dX8_readName_79 rfl (lv_at hl 0 rfl) ?_
        refine va_get (D := (dC, dI)) (ci := 8) (v := .ref (ad 1)) (C := RX8) (T := TX8) (N := 78) hx hb hts ki8 hown hK hP 0 rfl rfl 0 (by decide) kf7 (fun _ h9 => h9) rfl dX8_readName_80 ?_
        refine lv_aload_n hx hb dX8_readName_83 rfl (lv_at hl 0 rfl) ?_
        refine va_get (D := (dC, dI)) (ci := 8) (v := .int (iM 4)) (C := RX8) (T := TX8) (N := 78) hx hb hts ki8 hown hK hP 0 rfl rfl 4 (by decide) kf169 (fun _ h9 => h9) rfl dX8_readName_84 ?_
        refine lv_iload_n hx hb dX8_readName_87 rfl (lv_at hl 3 rfl) ?_
        refine lv_iadd hx hb dX8_readName_88 ?_
        obtain ⟨g_65, h⟩ := g_n h
        refine va_bald (f := (aM 0)) hx hb hK hP 1 1 rfl rfl g_65 dX8_readName_89 ?_
        obtain ⟨g_66, h⟩ := g_n h
        refine va_bast (f := x_aM23) hx hb hK hP hD hS 14 1 rfl rfl g_66 dX8_readName_90 (fun H locs hP hD hS => ?_)
        have hP : va_P (dC, dI) vwCl (zzM ad cy iM (us aM [(23, (upd x_aM23 ((((8 : Int32) * ((5 : Int32) + v2)) + v3)).toNatClampNeg (vp_nar .byte (((aM 0) (((iM 4) + v3)).toNatClampNeg)))))])) H := Eq.mp (congrArg (fun w => va_P (dC, dI) vwCl w H) (stM_aM23 ad cy iM aM [(23, x_aM23)] ((upd x_aM23 ((((8 : Int32) * ((5 : Int32) + v2)) + v3)).toNatClampNeg (vp_nar .byte (((aM 0) (((iM 4) + v3)).toNatClampNeg))))))) hP
        have hD : va_D A (zzM ad cy iM (us aM [(23, (upd x_aM23 ((((8 : Int32) * ((5 : Int32) + v2)) + v3)).toNatClampNeg (vp_nar .byte (((aM 0) (((iM 4) + v3)).toNatClampNeg)))))])) := Eq.mp (congrArg (fun w => va_D A w) (stM_aM23 ad cy iM aM [(23, x_aM23)] ((upd x_aM23 ((((8 : Int32) * ((5 : Int32) + v2)) + v3)).toNatClampNeg (vp_nar .byte (((aM 0) (((iM 4) + v3)).toNatClampNeg))))))) hD
        refine lv_iinc (v := (v3 + (1 : Int32))) (lv' := [(3, .int ((v3 + (1 : Int32)))), (0, .ref (ad 0)), (1, .int v1), (2, .int v2)]) hx hb dX8_readName_91 hl (k := 3) rfl rfl (by decide) rfl (fun ls hl => ?_)
        refine lv_goto (tgt := 59) hx hb dX8_readName_94 (by decide) ?_
        exact ih v1 v2 ((v3 + (1 : Int32))) ((upd x_aM23 ((((8 : Int32) * ((5 : Int32) + v2)) + v3)).toNatClampNeg (vp_nar .byte (((aM 0) (((iM 4) + v3)).toNatClampNeg))))) H locs ls h hP hD hS (lv_sub hl [1, 2, 3, 0] rfl)
  have B48 : ∀ (v1 : Int32) (v2 : Int32) (H : Heap) (locs : List Loc) (ls : Array Slot), f_M_readName_48 N (iM 4) (iM 5) (iM 43) (iM 44) (iM 45) (iM 46) (iM 47) (aM 0) (aM 9) (aM 11) (aM 12) (aM 23) (aM 24) (aM 26) (aM 27) (aM 32) (aM 33) (aM 34) (aM 35) v1 v2 = some q → va_P (dC, dI) vwCl (zzM ad cy iM aM) H → va_D A (zzM ad cy iM aM) → va_S A s.heap H locs → lv_has ls 4 [(0, .ref (ad 0)), (1, .int v1), (2, .int v2)] → W p l e ({ frames := 2, cells := 0, slots := 0, locals := 47 } : Room) s m args below meth c H locs 0 0 QQ (F0 m 48 ls []) := by
    intro v1 v2 H locs ls h hP hD hS hl
    unfold f_M_readName_48 at h
    refine lv_iload_n hx hb dX8_readName_48 rfl (lv_at hl 2 rfl) ?_
    refine lv_if_ge (tgt := 119) hx hb dX8_readName_49 (by decide) (fun cz => ?_) (fun cz => ?_)
    · have h := g_t h cz
      exact B119 v1 v2 (iM 43) (aM 23) (aM 24) H locs ls h hP hD hS (lv_sub hl [0, 1, 2] rfl)
    · have h := g_f h cz
      refine lv_aload_n hx hb dX8_readName_52 rfl (lv_at hl 0 rfl) ?_
      refine va_get (D := (dC, dI)) (ci := 8) (v := .int (iM 43)) (C := RX8) (T := TX8) (N := 78) hx hb hts ki8 hown hK hP 0 rfl rfl 43 (by decide) kf214 (fun _ h9 => h9) rfl dX8_readName_53 ?_
      refine lv_istore_n (lv' := [(2, .int (iM 43)), (0, .ref (ad 0)), (1, .int v1)]) hx hb dX8_readName_56 rfl hl (by decide) rfl (fun ls hl => ?_)
      refine lv_iconst (v := 0) hx hb dX8_readName_57 (by decide) ?_
      refine lv_istore_n (lv' := [(3, .int ((0 : Int32))), (2, .int (iM 43)), (0, .ref (ad 0)), (1, .int v1)]) hx hb dX8_readName_58 rfl hl (by decide) rfl (fun ls hl => ?_)
      exact B59 N v1 (iM 43) ((0 : Int32)) (aM 23) H locs ls h hP hD hS (lv_sub hl [2, 3, 1, 0] rfl)
  have B26 : ∀ (v1 : Int32) (v2 : Int32) (H : Heap) (locs : List Loc) (ls : Array Slot), f_M_readName_26 N (iM 4) (iM 5) (iM 43) (iM 44) (iM 45) (iM 46) (iM 47) (aM 0) (aM 9) (aM 11) (aM 12) (aM 23) (aM 24) (aM 26) (aM 27) (aM 32) (aM 33) (aM 34) (aM 35) v1 v2 = some q → va_P (dC, dI) vwCl (zzM ad cy iM aM) H → va_D A (zzM ad cy iM aM) → va_S A s.heap H locs → lv_has ls 4 [(0, .ref (ad 0)), (1, .int v1), (2, .int v2)] → W p l e ({ frames := 2, cells := 0, slots := 0, locals := 47 } : Room) s m args below meth c H locs 0 0 QQ (F0 m 26 ls []) := by
    intro v1 v2 H locs ls h hP hD hS hl
    unfold f_M_readName_26 at h
    refine lv_iload_n hx hb dX8_readName_26 rfl (lv_at hl 2 rfl) ?_
    refine lv_if_ge (tgt := 48) hx hb dX8_readName_27 (by decide) (fun cz => ?_) (fun cz => ?_)
    · have h := g_t h cz
      exact B48 v1 v2 H locs ls h hP hD hS (lv_sub hl [0, 1, 2] rfl)
    · have h := g_f h cz
      refine lv_aload_n hx hb dX8_readName_30 rfl (lv_at hl 0 rfl) ?_
      refine va_get (D := (dC, dI)) (ci := 8) (v := .int (iM 43)) (C := RX8) (T := TX8) (N := 78) hx hb hts ki8 hown hK hP 0 rfl rfl 43 (by decide) kf214 (fun _ h9 => h9) rfl dX8_readName_31 ?_
      refine lv_iconst (v := 5) hx hb dX8_readName_34 (by decide) ?_
      refine lv_icmp_ne (tgt := 48) hx hb dX8_readName_35 (by decide) (fun cz => ?_) (fun cz => ?_)
      · have h := g_f h cz
        exact B48 v1 v2 H locs ls h hP hD hS (lv_sub hl [0, 1, 2] rfl)
      · have h := g_t h cz
        refine lv_aload_n hx hb dX8_readName_38 rfl (lv_at hl 0 rfl) ?_
        refine lv_iconst (v := 3) hx hb dX8_readName_39 (by decide) ?_
        refine lv_aload_n hx hb dX8_readName_40 rfl (lv_at hl 0 rfl) ?_
        refine va_get (D := (dC, dI)) (ci := 8) (v := .int (iM 4)) (C := RX8) (T := TX8) (N := 78) hx hb hts ki8 hown hK hP 0 rfl rfl 4 (by decide) kf169 (fun _ h9 => h9) rfl dX8_readName_41 ?_
        obtain ⟨q44, e44, h⟩ := g_b h
        refine callVvs (cc := cX8_readName) (w1 := zzM ad cy (us iM [(46, q44.1), (47, q44.2)]) aM) (As := [.int ((3 : Int32)), .int (iM 4)]) (rest := []) ⟨hx, hb, hml, hown, hts⟩ (c_M_wrong l dC dI cy ad H.size ((3 : Int32)) (iM 4) iM aM q44 e44) (cwV 2 hts (goodV m_ml_X8_194 m_im_X8_wrong m_se_X8_wrong m_in_X8 m_cd_X8_wrong) rfl rfl rfl (by decide +kernel) ⟨Nat.le_of_ble_eq_true rfl, Nat.le_of_ble_eq_true rfl⟩) hN hK hP hD hS hA rfl 0 rfl rfl rfl hl.1 rfl (Nat.le_of_ble_eq_true rfl) dX8_readName_44 ⟨Nat.zero_le _, Nat.zero_le _⟩ (fun H locs hP hD hS => ?_)
        have h' := Option.some.inj h
        rw [← hQQ]
        exact W.vret hx hb hr (fun t ht hW => ⟨⟨(), rfl, trivial, by rw [← hWQ, ← h', ht]; exact hP, va_K.moved hW.alike hK⟩, hS.F ht⟩) hS.2.2 dX8_readName_47
  intro H locs hP hD hS
  unfold f_M_readName at h
  refine lv_aload_n hx hb dX8_readName_0 rfl (lv_at hl 0 rfl) ?_
  obtain ⟨q1, e1, h⟩ := g_b h
  refine callVis (cc := cX8_readName) (w1 := zzM ad cy iM aM) (As := []) (rest := []) ⟨hx, hb, hml, hown, hts⟩ (c_M_nameHere l dC dI cy ad H.size N iM aM q1 e1) (cwV 0 hts (goodV m_ml_X8_231 m_im_X8_nameHere m_se_X8_nameHere m_in_X8 m_cd_X8_nameHere) rfl rfl rfl (by decide +kernel) ⟨Nat.le_of_ble_eq_true rfl, Nat.le_of_ble_eq_true rfl⟩) hN hK hP hD hS hA rfl 0 rfl rfl rfl hl.1 rfl (Nat.le_of_ble_eq_true rfl) dX8_readName_1 ⟨Nat.zero_le _, Nat.zero_le _⟩ (fun H locs hP hD hS => ?_)
  refine lv_istore_n (lv' := [(2, .int q1), (0, .ref (ad 0)), (1, .int a1)]) hx hb dX8_readName_4 rfl hl (by decide) rfl (fun ls hl => ?_)
  refine lv_iload_n hx hb dX8_readName_5 rfl (lv_at hl 0 rfl) ?_
  refine lv_if_ge (tgt := 26) hx hb dX8_readName_6 (by decide) (fun cz => ?_) (fun cz => ?_)
  · have h := g_t h cz
    exact B26 a1 q1 H locs ls h hP hD hS (lv_sub hl [1, 2, 0] rfl)
  · have h := g_f h cz
    refine lv_aload_n hx hb dX8_readName_9 rfl (lv_at hl 1 rfl) ?_
    obtain ⟨q10, e10, h⟩ := g_b h
    refine callVis (cc := cX8_readName) (w1 := zzM ad cy iM aM) (As := []) (rest := []) ⟨hx, hb, hml, hown, hts⟩ (c_M_roleHere l dC dI cy ad H.size N iM aM q10 e10) (cwV 0 hts (goodV m_ml_X8_228 m_im_X8_roleHere m_se_X8_roleHere m_in_X8 m_cd_X8_roleHere) rfl rfl rfl (by decide +kernel) ⟨Nat.le_of_ble_eq_true rfl, Nat.le_of_ble_eq_true rfl⟩) hN hK hP hD hS hA rfl 0 rfl rfl rfl hl.1 rfl (Nat.le_of_ble_eq_true rfl) dX8_readName_10 ⟨Nat.zero_le _, Nat.zero_le _⟩ (fun H locs hP hD hS => ?_)
    refine lv_if_lt (tgt := 26) hx hb dX8_readName_13 (by decide) (fun cz => ?_) (fun cz => ?_)
    · have h := g_t h cz
      exact B26 a1 q1 H locs ls h hP hD hS (lv_sub hl [1, 2, 0] rfl)
    · have h := g_f h cz
      refine lv_aload_n hx hb dX8_readName_16 rfl (lv_at hl 1 rfl) ?_
      refine lv_iconst (v := 4) hx hb dX8_readName_17 (by decide) ?_
      refine lv_aload_n hx hb dX8_readName_18 rfl (lv_at hl 1 rfl) ?_
      refine va_get (D := (dC, dI)) (ci := 8) (v := .int (iM 4)) (C := RX8) (T := TX8) (N := 78) hx hb hts ki8 hown hK hP 0 rfl rfl 4 (by decide) kf169 (fun _ h9 => h9) rfl dX8_readName_19 ?_
      obtain ⟨q22, e22, h⟩ := g_b h
      refine callVvs (cc := cX8_readName) (w1 := zzM ad cy (us iM [(46, q22.1), (47, q22.2)]) aM) (As := [.int ((4 : Int32)), .int (iM 4)]) (rest := []) ⟨hx, hb, hml, hown, hts⟩ (c_M_wrong l dC dI cy ad H.size ((4 : Int32)) (iM 4) iM aM q22 e22) (cwV 2 hts (goodV m_ml_X8_194 m_im_X8_wrong m_se_X8_wrong m_in_X8 m_cd_X8_wrong) rfl rfl rfl (by decide +kernel) ⟨Nat.le_of_ble_eq_true rfl, Nat.le_of_ble_eq_true rfl⟩) hN hK hP hD hS hA rfl 0 rfl rfl rfl hl.1 rfl (Nat.le_of_ble_eq_true rfl) dX8_readName_22 ⟨Nat.zero_le _, Nat.zero_le _⟩ (fun H locs hP hD hS => ?_)
      have h' := Option.some.inj h
      rw [← hQQ]
      exact W.vret hx hb hr (fun t ht hW => ⟨⟨(), rfl, trivial, by rw [← hWQ, ← h', ht]; exact hP, va_K.moved hW.alike hK⟩, hS.F ht⟩) hS.2.2 dX8_readName_25
set_option maxHeartbeats 8000000 in
set_option maxRecDepth 100000 in
theorem c_M_areLike (l : Launch) (dC : Nat → ClassId) (dI : Nat → Nat → Nat) (cy : Nat → ClassId) (ad : Nat → Nat) (sz : Nat) (N : Nat) (a1 : Int32) (a2 : Int32) (iM : Nat → Int32) (aM : Nat → Nat → Int32) (q : Int32 × (Nat → Int32) × (Nat → Int32)) (h : f_M_areLike N a1 a2 (aM 8) (aM 9) (aM 10) (aM 50) (aM 51) = some q) : Met l yX8_areLike wsX8_areLike ({ frames := 0, cells := 0, slots := 0, locals := 0 } : Room) (cP (dC, dI) cy [.ref (ad 0), .int a1, .int a2] (zzM ad cy iM aM) sz) (cQi (dC, dI) cy q.1 (zzM ad cy iM (us aM [(50, q.2.1), (51, q.2.2)])) (va_A (zzM ad cy iM aM) sz)) 0 0 (va_A (zzM ad cy iM aM) sz) := by
  refine Met.ofW (cc := cX8_areLike) (maxL := 8) (ret := (some .boolean)) (by decide) rfl ?_
  intro p e s m args below meth c s₁ B hml hv
  obtain ⟨hav, hsz, hP, hK, hD0, hN⟩ := hv
  have hx := B.exec
  have hb := B.bytes
  have hr := B.returns
  have hts := atoms_spec (ws := wsX8_areLike) B.pre
  have hown : s.vm.findClass RX8 = some m.cls := findClass_of_methodNamed B.named
  have hlocks := B.notSynchronized
  subst hsz
  have hD := hD0.self (sz := s.heap.size)
  generalize hAe : va_A (zzM ad cy iM aM) s.heap.size = A at hD ⊢
  have hA : ∀ q : Nat, s.heap.size ≤ q → A q := fun q h => by rw [← hAe]; exact Or.inr h
  have hS : va_S A s.heap s.heap [] := va_S.rf
  generalize hWQ : (zzM ad cy iM (us aM [(50, q.2.1), (51, q.2.2)])) = WQ
  generalize hQQ : MQ below (cQi (dC, dI) cy q.1 WQ A) args s 0 0 A = QQ
  have hl := lv_entry ([.ref (ad 0), .int a1, .int a2] : List Value) (n := 8) (Nat.le_of_ble_eq_true rfl)
  have hfr := lg_entry_eq m ([.ref (ad 0), .int a1, .int a2] : List Value) 8
  rw [← hav] at hfr
  rw [hfr]
  clear hfr hav
  generalize (lg_sl ([.ref (ad 0), .int a1, .int a2] : List Value) ++ List.replicate (8 - (lg_sl ([.ref (ad 0), .int a1, .int a2] : List Value)).length) Slot.unset).toArray = ls at hl ⊢
  have hl : lv_has ls 8 [(0, .ref (ad 0)), (1, .int a1), (2, .int a2)] := hl
  have kf89 := hts _ (List.mem_cons_of_mem _ m_fl_X8_89)
  have ki8 := (fun w h => List.mem_cons_of_mem _ (i_X8 w h) : ∀ w ∈ u_ws RX8 TX8 78, w ∈ wsX8_areLike)
  have kf24 := hts _ (List.mem_cons_of_mem _ m_fl_X8_24)
  have kf92 := hts _ (List.mem_cons_of_mem _ m_fl_X8_92)
  have kf21 := hts _ (List.mem_cons_of_mem _ m_fl_X8_21)
  have kf17 := hts _ (List.mem_cons_of_mem _ m_fl_X8_17)
  refine (?_ : ∀ (H : Heap) (locs : List Loc), va_P (dC, dI) vwCl (zzM ad cy iM aM) H → va_D A (zzM ad cy iM aM) → va_S A s.heap H locs → W p l e ({ frames := 0, cells := 0, slots := 0, locals := 0 } : Room) s m args below meth c H locs 0 0 QQ (F0 m 0 ls [])) s.heap [] hP hD hS
  clear hP hD hS
  have B153 : ∀ (v3 : Int32) (v5 : Int32) (v6 : Int32) (s0 : Int32) (x_aM50 : Nat → Int32) (x_aM51 : Nat → Int32) (k19 : Int32 → Int32 → (Nat → Int32) → (Nat → Int32) → Option (Int32 × (Nat → Int32) × (Nat → Int32))) (hk19 : ∀ (v3' : Int32) (v4' : Int32) (x_aM50' : Nat → Int32) (x_aM51' : Nat → Int32) (H : Heap) (locs : List Loc) (ls : Array Slot), k19 v3' v4' x_aM50' x_aM51' = some q → va_P (dC, dI) vwCl (zzM ad cy iM (us aM [(50, x_aM50'), (51, x_aM51')])) H → va_D A (zzM ad cy iM (us aM [(50, x_aM50'), (51, x_aM51')])) → va_S A s.heap H locs → lv_has ls 8 [(0, .ref (ad 0)), (3, .int v3'), (4, .int v4')] → W p l e ({ frames := 0, cells := 0, slots := 0, locals := 0 } : Room) s m args below meth c H locs 0 0 QQ (F0 m 19 ls [])) (H : Heap) (locs : List Loc) (ls : Array Slot), f_M_areLike_153 N (aM 8) (aM 9) (aM 10) (aM 50) (aM 51) k19 v3 v5 v6 s0 x_aM50 x_aM51 = some q → va_P (dC, dI) vwCl (zzM ad cy iM (us aM [(50, x_aM50), (51, x_aM51)])) H → va_D A (zzM ad cy iM (us aM [(50, x_aM50), (51, x_aM51)])) → va_S A s.heap H locs → lv_has ls 8 [(0, .ref (ad 0)), (3, .int v3), (5, .int v5), (6, .int v6)] → W p l e ({ frames := 0, cells := 0, slots := 0, locals := 0 } : Room) s m args below meth c H locs 0 0 QQ (F0 m 153 ls [.int s0]) := by
    intro v3 v5 v6 s0 x_aM50 x_aM51 k19 hk19 H locs ls h hP hD hS hl
    unfold f_M_areLike_153 at h
    refine lv_istore (lv' := [(4, .int s0), (0, .ref (ad 0)), (3, .int v3), (5, .int v5), (6, .int v6)]) hx hb dX8_areLike_153 hl (by decide) rfl (fun ls hl => ?_)
    refine lv_aload_n hx hb dX8_areLike_155 rfl (lv_at hl 1 rfl) ?_
    refine va_get (D := (dC, dI)) (ci := 8) (v := .ref (ad 25)) (C := RX8) (T := TX8) (N := 78) hx hb hts ki8 hown hK hP 0 rfl rfl 50 (by decide) kf89 (fun _ h9 => h9) rfl dX8_areLike_156 ?_
    refine lv_iload_n hx hb dX8_areLike_159 rfl (lv_at hl 2 rfl) ?_
    refine lv_aload_n hx hb dX8_areLike_160 rfl (lv_at hl 1 rfl) ?_
    refine va_get (D := (dC, dI)) (ci := 8) (v := .ref (ad 5)) (C := RX8) (T := TX8) (N := 78) hx hb hts ki8 hown hK hP 0 rfl rfl 10 (by decide) kf24 (fun _ h9 => h9) rfl dX8_areLike_161 ?_
    refine lv_iload hx hb dX8_areLike_164 (lv_at hl 3 rfl) ?_
    obtain ⟨g_67, h⟩ := g_n h
    refine va_iald (f := (aM 10)) hx hb hK hP 5 0 rfl rfl g_67 dX8_areLike_166 ?_
    obtain ⟨g_68, h⟩ := g_n h
    refine va_iast (f := x_aM50) hx hb hK hP hD hS 25 0 rfl rfl g_68 dX8_areLike_167 (fun H locs hP hD hS => ?_)
    have hP : va_P (dC, dI) vwCl (zzM ad cy iM (us aM [(50, (upd x_aM50 v3.toNatClampNeg (((aM 10) v5.toNatClampNeg)))), (51, x_aM51)])) H := Eq.mp (congrArg (fun w => va_P (dC, dI) vwCl w H) (stM_aM50 ad cy iM aM [(50, x_aM50), (51, x_aM51)] ((upd x_aM50 v3.toNatClampNeg (((aM 10) v5.toNatClampNeg)))))) hP
    have hD : va_D A (zzM ad cy iM (us aM [(50, (upd x_aM50 v3.toNatClampNeg (((aM 10) v5.toNatClampNeg)))), (51, x_aM51)])) := Eq.mp (congrArg (fun w => va_D A w) (stM_aM50 ad cy iM aM [(50, x_aM50), (51, x_aM51)] ((upd x_aM50 v3.toNatClampNeg (((aM 10) v5.toNatClampNeg)))))) hD
    refine lv_aload_n hx hb dX8_areLike_168 rfl (lv_at hl 1 rfl) ?_
    refine va_get (D := (dC, dI)) (ci := 8) (v := .ref (ad 26)) (C := RX8) (T := TX8) (N := 78) hx hb hts ki8 hown hK hP 0 rfl rfl 51 (by decide) kf92 (fun _ h9 => h9) rfl dX8_areLike_169 ?_
    refine lv_iload_n hx hb dX8_areLike_172 rfl (lv_at hl 2 rfl) ?_
    refine lv_aload_n hx hb dX8_areLike_173 rfl (lv_at hl 1 rfl) ?_
    refine va_get (D := (dC, dI)) (ci := 8) (v := .ref (ad 5)) (C := RX8) (T := TX8) (N := 78) hx hb hts ki8 hown hK hP 0 rfl rfl 10 (by decide) kf24 (fun _ h9 => h9) rfl dX8_areLike_174 ?_
    refine lv_iload hx hb dX8_areLike_177 (lv_at hl 4 rfl) ?_
    obtain ⟨g_69, h⟩ := g_n h
    refine va_iald (f := (aM 10)) hx hb hK hP 5 0 rfl rfl g_69 dX8_areLike_179 ?_
    refine va_iast (f := x_aM51) hx hb hK hP hD hS 26 0 rfl rfl g_68 dX8_areLike_180 (fun H locs hP hD hS => ?_)
    have hP : va_P (dC, dI) vwCl (zzM ad cy iM (us aM [(50, (upd x_aM50 v3.toNatClampNeg (((aM 10) v5.toNatClampNeg)))), (51, (upd x_aM51 v3.toNatClampNeg (((aM 10) v6.toNatClampNeg))))])) H := Eq.mp (congrArg (fun w => va_P (dC, dI) vwCl w H) (stM_aM51 ad cy iM aM [(50, (upd x_aM50 v3.toNatClampNeg (((aM 10) v5.toNatClampNeg)))), (51, x_aM51)] ((upd x_aM51 v3.toNatClampNeg (((aM 10) v6.toNatClampNeg)))))) hP
    have hD : va_D A (zzM ad cy iM (us aM [(50, (upd x_aM50 v3.toNatClampNeg (((aM 10) v5.toNatClampNeg)))), (51, (upd x_aM51 v3.toNatClampNeg (((aM 10) v6.toNatClampNeg))))])) := Eq.mp (congrArg (fun w => va_D A w) (stM_aM51 ad cy iM aM [(50, (upd x_aM50 v3.toNatClampNeg (((aM 10) v5.toNatClampNeg)))), (51, x_aM51)] ((upd x_aM51 v3.toNatClampNeg (((aM 10) v6.toNatClampNeg)))))) hD
    refine lv_iinc (v := (v3 + (1 : Int32))) (lv' := [(3, .int ((v3 + (1 : Int32)))), (4, .int s0), (0, .ref (ad 0)), (5, .int v5), (6, .int v6)]) hx hb dX8_areLike_181 hl (k := 2) rfl rfl (by decide) rfl (fun ls hl => ?_)
    refine lv_goto (tgt := 263) hx hb dX8_areLike_184 (by decide) ?_
    refine lv_goto (tgt := 19) hx hb dX8_areLike_263 (by decide) ?_
    exact hk19 ((v3 + (1 : Int32))) s0 ((upd x_aM50 v3.toNatClampNeg (((aM 10) v5.toNatClampNeg)))) ((upd x_aM51 v3.toNatClampNeg (((aM 10) v6.toNatClampNeg)))) H locs ls h hP hD hS (lv_sub hl [2, 0, 1] rfl)
  have B131 : ∀ (v3 : Int32) (v5 : Int32) (v6 : Int32) (x_aM50 : Nat → Int32) (x_aM51 : Nat → Int32) (k19 : Int32 → Int32 → (Nat → Int32) → (Nat → Int32) → Option (Int32 × (Nat → Int32) × (Nat → Int32))) (hk19 : ∀ (v3' : Int32) (v4' : Int32) (x_aM50' : Nat → Int32) (x_aM51' : Nat → Int32) (H : Heap) (locs : List Loc) (ls : Array Slot), k19 v3' v4' x_aM50' x_aM51' = some q → va_P (dC, dI) vwCl (zzM ad cy iM (us aM [(50, x_aM50'), (51, x_aM51')])) H → va_D A (zzM ad cy iM (us aM [(50, x_aM50'), (51, x_aM51')])) → va_S A s.heap H locs → lv_has ls 8 [(0, .ref (ad 0)), (3, .int v3'), (4, .int v4')] → W p l e ({ frames := 0, cells := 0, slots := 0, locals := 0 } : Room) s m args below meth c H locs 0 0 QQ (F0 m 19 ls [])) (H : Heap) (locs : List Loc) (ls : Array Slot), f_M_areLike_131 N (aM 8) (aM 9) (aM 10) (aM 50) (aM 51) k19 v3 v5 v6 x_aM50 x_aM51 = some q → va_P (dC, dI) vwCl (zzM ad cy iM (us aM [(50, x_aM50), (51, x_aM51)])) H → va_D A (zzM ad cy iM (us aM [(50, x_aM50), (51, x_aM51)])) → va_S A s.heap H locs → lv_has ls 8 [(0, .ref (ad 0)), (3, .int v3), (5, .int v5), (6, .int v6)] → W p l e ({ frames := 0, cells := 0, slots := 0, locals := 0 } : Room) s m args below meth c H locs 0 0 QQ (F0 m 131 ls []) := by
    intro v3 v5 v6 x_aM50 x_aM51 k19 hk19 H locs ls h hP hD hS hl
    unfold f_M_areLike_131 at h
    refine lv_aload_n hx hb dX8_areLike_131 rfl (lv_at hl 0 rfl) ?_
    refine va_get (D := (dC, dI)) (ci := 8) (v := .ref (ad 4)) (C := RX8) (T := TX8) (N := 78) hx hb hts ki8 hown hK hP 0 rfl rfl 9 (by decide) kf21 (fun _ h9 => h9) rfl dX8_areLike_132 ?_
    refine lv_iload hx hb dX8_areLike_135 (lv_at hl 2 rfl) ?_
    obtain ⟨g_67, h⟩ := g_n h
    refine va_iald (f := (aM 9)) hx hb hK hP 4 0 rfl rfl g_67 dX8_areLike_137 ?_
    refine lv_aload_n hx hb dX8_areLike_138 rfl (lv_at hl 0 rfl) ?_
    refine va_get (D := (dC, dI)) (ci := 8) (v := .ref (ad 4)) (C := RX8) (T := TX8) (N := 78) hx hb hts ki8 hown hK hP 0 rfl rfl 9 (by decide) kf21 (fun _ h9 => h9) rfl dX8_areLike_139 ?_
    refine lv_iload hx hb dX8_areLike_142 (lv_at hl 3 rfl) ?_
    obtain ⟨g_69, h⟩ := g_n h
    refine va_iald (f := (aM 9)) hx hb hK hP 4 0 rfl rfl g_69 dX8_areLike_144 ?_
    refine lv_icmp_ne (tgt := 152) hx hb dX8_areLike_145 (by decide) (fun cz => ?_) (fun cz => ?_)
    · have h := g_f h cz
      refine lv_iconst (v := 0) hx hb dX8_areLike_152 (by decide) ?_
      exact B153 v3 v5 v6 ((0 : Int32)) x_aM50 x_aM51 k19 hk19 H locs ls h hP hD hS (lv_sub hl [0, 1, 2, 3] rfl)
    · have h := g_t h cz
      refine lv_iconst (v := 1) hx hb dX8_areLike_148 (by decide) ?_
      refine lv_goto (tgt := 153) hx hb dX8_areLike_149 (by decide) ?_
      exact B153 v3 v5 v6 ((1 : Int32)) x_aM50 x_aM51 k19 hk19 H locs ls h hP hD hS (lv_sub hl [0, 1, 2, 3] rfl)
  have B199 : ∀ (v3 : Int32) (v4 : Int32) (v5 : Int32) (v6 : Int32) (v7 : Int32) (x_aM50 : Nat → Int32) (x_aM51 : Nat → Int32) (k19 : Int32 → Int32 → (Nat → Int32) → (Nat → Int32) → Option (Int32 × (Nat → Int32) × (Nat → Int32))) (hk19 : ∀ (v3' : Int32) (v4' : Int32) (x_aM50' : Nat → Int32) (x_aM51' : Nat → Int32) (H : Heap) (locs : List Loc) (ls : Array Slot), k19 v3' v4' x_aM50' x_aM51' = some q → va_P (dC, dI) vwCl (zzM ad cy iM (us aM [(50, x_aM50'), (51, x_aM51')])) H → va_D A (zzM ad cy iM (us aM [(50, x_aM50'), (51, x_aM51')])) → va_S A s.heap H locs → lv_has ls 8 [(0, .ref (ad 0)), (3, .int v3'), (4, .int v4')] → W p l e ({ frames := 0, cells := 0, slots := 0, locals := 0 } : Room) s m args below meth c H locs 0 0 QQ (F0 m 19 ls [])) (H : Heap) (locs : List Loc) (ls : Array Slot), f_M_areLike_199 N (aM 8) (aM 9) (aM 10) (aM 50) (aM 51) k19 v3 v4 v5 v6 v7 x_aM50 x_aM51 = some q → va_P (dC, dI) vwCl (zzM ad cy iM (us aM [(50, x_aM50), (51, x_aM51)])) H → va_D A (zzM ad cy iM (us aM [(50, x_aM50), (51, x_aM51)])) → va_S A s.heap H locs → lv_has ls 8 [(0, .ref (ad 0)), (3, .int v3), (4, .int v4), (5, .int v5), (6, .int v6), (7, .int v7)] → W p l e ({ frames := 0, cells := 0, slots := 0, locals := 0 } : Room) s m args below meth c H locs 0 0 QQ (F0 m 199 ls []) := by
    intro v3 v4 v5 v6 v7 x_aM50 x_aM51 k19 hk19 H locs ls h hP hD hS hl
    unfold f_M_areLike_199 at h
    refine lv_aload_n hx hb dX8_areLike_199 rfl (lv_at hl 0 rfl) ?_
    refine va_get (D := (dC, dI)) (ci := 8) (v := .ref (ad 25)) (C := RX8) (T := TX8) (N := 78) hx hb hts ki8 hown hK hP 0 rfl rfl 50 (by decide) kf89 (fun _ h9 => h9) rfl dX8_areLike_200 ?_
    refine lv_iload_n hx hb dX8_areLike_203 rfl (lv_at hl 1 rfl) ?_
    refine lv_aload_n hx hb dX8_areLike_204 rfl (lv_at hl 0 rfl) ?_
    refine va_get (D := (dC, dI)) (ci := 8) (v := .ref (ad 5)) (C := RX8) (T := TX8) (N := 78) hx hb hts ki8 hown hK hP 0 rfl rfl 10 (by decide) kf24 (fun _ h9 => h9) rfl dX8_areLike_205 ?_
    refine lv_iload hx hb dX8_areLike_208 (lv_at hl 3 rfl) ?_
    obtain ⟨g_67, h⟩ := g_n h
    refine va_iald (f := (aM 10)) hx hb hK hP 5 0 rfl rfl g_67 dX8_areLike_210 ?_
    obtain ⟨g_68, h⟩ := g_n h
    refine va_iast (f := x_aM50) hx hb hK hP hD hS 25 0 rfl rfl g_68 dX8_areLike_211 (fun H locs hP hD hS => ?_)
    have hP : va_P (dC, dI) vwCl (zzM ad cy iM (us aM [(50, (upd x_aM50 v3.toNatClampNeg (((aM 10) v5.toNatClampNeg)))), (51, x_aM51)])) H := Eq.mp (congrArg (fun w => va_P (dC, dI) vwCl w H) (stM_aM50 ad cy iM aM [(50, x_aM50), (51, x_aM51)] ((upd x_aM50 v3.toNatClampNeg (((aM 10) v5.toNatClampNeg)))))) hP
    have hD : va_D A (zzM ad cy iM (us aM [(50, (upd x_aM50 v3.toNatClampNeg (((aM 10) v5.toNatClampNeg)))), (51, x_aM51)])) := Eq.mp (congrArg (fun w => va_D A w) (stM_aM50 ad cy iM aM [(50, x_aM50), (51, x_aM51)] ((upd x_aM50 v3.toNatClampNeg (((aM 10) v5.toNatClampNeg)))))) hD
    refine lv_aload_n hx hb dX8_areLike_212 rfl (lv_at hl 0 rfl) ?_
    refine va_get (D := (dC, dI)) (ci := 8) (v := .ref (ad 26)) (C := RX8) (T := TX8) (N := 78) hx hb hts ki8 hown hK hP 0 rfl rfl 51 (by decide) kf92 (fun _ h9 => h9) rfl dX8_areLike_213 ?_
    refine lv_iload_n hx hb dX8_areLike_216 rfl (lv_at hl 1 rfl) ?_
    refine lv_aload_n hx hb dX8_areLike_217 rfl (lv_at hl 0 rfl) ?_
    refine va_get (D := (dC, dI)) (ci := 8) (v := .ref (ad 5)) (C := RX8) (T := TX8) (N := 78) hx hb hts ki8 hown hK hP 0 rfl rfl 10 (by decide) kf24 (fun _ h9 => h9) rfl dX8_areLike_218 ?_
    refine lv_iload hx hb dX8_areLike_221 (lv_at hl 4 rfl) ?_
    obtain ⟨g_69, h⟩ := g_n h
    refine va_iald (f := (aM 10)) hx hb hK hP 5 0 rfl rfl g_69 dX8_areLike_223 ?_
    refine va_iast (f := x_aM51) hx hb hK hP hD hS 26 0 rfl rfl g_68 dX8_areLike_224 (fun H locs hP hD hS => ?_)
    have hP : va_P (dC, dI) vwCl (zzM ad cy iM (us aM [(50, (upd x_aM50 v3.toNatClampNeg (((aM 10) v5.toNatClampNeg)))), (51, (upd x_aM51 v3.toNatClampNeg (((aM 10) v6.toNatClampNeg))))])) H := Eq.mp (congrArg (fun w => va_P (dC, dI) vwCl w H) (stM_aM51 ad cy iM aM [(50, (upd x_aM50 v3.toNatClampNeg (((aM 10) v5.toNatClampNeg)))), (51, x_aM51)] ((upd x_aM51 v3.toNatClampNeg (((aM 10) v6.toNatClampNeg)))))) hP
    have hD : va_D A (zzM ad cy iM (us aM [(50, (upd x_aM50 v3.toNatClampNeg (((aM 10) v5.toNatClampNeg)))), (51, (upd x_aM51 v3.toNatClampNeg (((aM 10) v6.toNatClampNeg))))])) := Eq.mp (congrArg (fun w => va_D A w) (stM_aM51 ad cy iM aM [(50, (upd x_aM50 v3.toNatClampNeg (((aM 10) v5.toNatClampNeg)))), (51, x_aM51)] ((upd x_aM51 v3.toNatClampNeg (((aM 10) v6.toNatClampNeg)))))) hD
    refine lv_iinc (v := (v3 + (1 : Int32))) (lv' := [(3, .int ((v3 + (1 : Int32)))), (0, .ref (ad 0)), (4, .int v4), (5, .int v5), (6, .int v6), (7, .int v7)]) hx hb dX8_areLike_225 hl (k := 1) rfl rfl (by decide) rfl (fun ls hl => ?_)
    refine lv_iload hx hb dX8_areLike_228 (lv_at hl 5 rfl) ?_
    refine lv_iconst (v := 5) hx hb dX8_areLike_230 (by decide) ?_
    refine lv_icmp_le (tgt := 263) hx hb dX8_areLike_231 (by decide) (fun cz => ?_) (fun cz => ?_)
    · have h := g_t h cz
      refine lv_goto (tgt := 19) hx hb dX8_areLike_263 (by decide) ?_
      exact hk19 ((v3 + (1 : Int32))) v4 ((upd x_aM50 v3.toNatClampNeg (((aM 10) v5.toNatClampNeg)))) ((upd x_aM51 v3.toNatClampNeg (((aM 10) v6.toNatClampNeg)))) H locs ls h hP hD hS (lv_sub hl [1, 0, 2] rfl)
    · have h := g_f h cz
      refine lv_aload_n hx hb dX8_areLike_234 rfl (lv_at hl 1 rfl) ?_
      refine va_get (D := (dC, dI)) (ci := 8) (v := .ref (ad 25)) (C := RX8) (T := TX8) (N := 78) hx hb hts ki8 hown hK hP 0 rfl rfl 50 (by decide) kf89 (fun _ h9 => h9) rfl dX8_areLike_235 ?_
      refine lv_iload_n hx hb dX8_areLike_238 rfl (lv_at hl 0 rfl) ?_
      refine lv_aload_n hx hb dX8_areLike_239 rfl (lv_at hl 1 rfl) ?_
      refine va_get (D := (dC, dI)) (ci := 8) (v := .ref (ad 4)) (C := RX8) (T := TX8) (N := 78) hx hb hts ki8 hown hK hP 0 rfl rfl 9 (by decide) kf21 (fun _ h9 => h9) rfl dX8_areLike_240 ?_
      refine lv_iload hx hb dX8_areLike_243 (lv_at hl 3 rfl) ?_
      refine va_iald (f := (aM 9)) hx hb hK hP 4 0 rfl rfl g_67 dX8_areLike_245 ?_
      obtain ⟨g_70, h⟩ := g_n h
      refine va_iast (f := (upd x_aM50 v3.toNatClampNeg (((aM 10) v5.toNatClampNeg)))) hx hb hK hP hD hS 25 0 rfl rfl g_70 dX8_areLike_246 (fun H locs hP hD hS => ?_)
      have hP : va_P (dC, dI) vwCl (zzM ad cy iM (us aM [(50, (upd ((upd x_aM50 v3.toNatClampNeg (((aM 10) v5.toNatClampNeg)))) ((v3 + (1 : Int32))).toNatClampNeg (((aM 9) v5.toNatClampNeg)))), (51, (upd x_aM51 v3.toNatClampNeg (((aM 10) v6.toNatClampNeg))))])) H := Eq.mp (congrArg (fun w => va_P (dC, dI) vwCl w H) (stM_aM50 ad cy iM aM [(50, (upd x_aM50 v3.toNatClampNeg (((aM 10) v5.toNatClampNeg)))), (51, (upd x_aM51 v3.toNatClampNeg (((aM 10) v6.toNatClampNeg))))] ((upd ((upd x_aM50 v3.toNatClampNeg (((aM 10) v5.toNatClampNeg)))) ((v3 + (1 : Int32))).toNatClampNeg (((aM 9) v5.toNatClampNeg)))))) hP
      have hD : va_D A (zzM ad cy iM (us aM [(50, (upd ((upd x_aM50 v3.toNatClampNeg (((aM 10) v5.toNatClampNeg)))) ((v3 + (1 : Int32))).toNatClampNeg (((aM 9) v5.toNatClampNeg)))), (51, (upd x_aM51 v3.toNatClampNeg (((aM 10) v6.toNatClampNeg))))])) := Eq.mp (congrArg (fun w => va_D A w) (stM_aM50 ad cy iM aM [(50, (upd x_aM50 v3.toNatClampNeg (((aM 10) v5.toNatClampNeg)))), (51, (upd x_aM51 v3.toNatClampNeg (((aM 10) v6.toNatClampNeg))))] ((upd ((upd x_aM50 v3.toNatClampNeg (((aM 10) v5.toNatClampNeg)))) ((v3 + (1 : Int32))).toNatClampNeg (((aM 9) v5.toNatClampNeg)))))) hD
      refine lv_aload_n hx hb dX8_areLike_247 rfl (lv_at hl 1 rfl) ?_
      refine va_get (D := (dC, dI)) (ci := 8) (v := .ref (ad 26)) (C := RX8) (T := TX8) (N := 78) hx hb hts ki8 hown hK hP 0 rfl rfl 51 (by decide) kf92 (fun _ h9 => h9) rfl dX8_areLike_248 ?_
      refine lv_iload_n hx hb dX8_areLike_251 rfl (lv_at hl 0 rfl) ?_
      refine lv_aload_n hx hb dX8_areLike_252 rfl (lv_at hl 1 rfl) ?_
      refine va_get (D := (dC, dI)) (ci := 8) (v := .ref (ad 4)) (C := RX8) (T := TX8) (N := 78) hx hb hts ki8 hown hK hP 0 rfl rfl 9 (by decide) kf21 (fun _ h9 => h9) rfl dX8_areLike_253 ?_
      refine lv_iload hx hb dX8_areLike_256 (lv_at hl 4 rfl) ?_
      refine va_iald (f := (aM 9)) hx hb hK hP 4 0 rfl rfl g_69 dX8_areLike_258 ?_
      refine va_iast (f := (upd x_aM51 v3.toNatClampNeg (((aM 10) v6.toNatClampNeg)))) hx hb hK hP hD hS 26 0 rfl rfl g_70 dX8_areLike_259 (fun H locs hP hD hS => ?_)
      have hP : va_P (dC, dI) vwCl (zzM ad cy iM (us aM [(50, (upd ((upd x_aM50 v3.toNatClampNeg (((aM 10) v5.toNatClampNeg)))) ((v3 + (1 : Int32))).toNatClampNeg (((aM 9) v5.toNatClampNeg)))), (51, (upd ((upd x_aM51 v3.toNatClampNeg (((aM 10) v6.toNatClampNeg)))) ((v3 + (1 : Int32))).toNatClampNeg (((aM 9) v6.toNatClampNeg))))])) H := Eq.mp (congrArg (fun w => va_P (dC, dI) vwCl w H) (stM_aM51 ad cy iM aM [(50, (upd ((upd x_aM50 v3.toNatClampNeg (((aM 10) v5.toNatClampNeg)))) ((v3 + (1 : Int32))).toNatClampNeg (((aM 9) v5.toNatClampNeg)))), (51, (upd x_aM51 v3.toNatClampNeg (((aM 10) v6.toNatClampNeg))))] ((upd ((upd x_aM51 v3.toNatClampNeg (((aM 10) v6.toNatClampNeg)))) ((v3 + (1 : Int32))).toNatClampNeg (((aM 9) v6.toNatClampNeg)))))) hP
      have hD : va_D A (zzM ad cy iM (us aM [(50, (upd ((upd x_aM50 v3.toNatClampNeg (((aM 10) v5.toNatClampNeg)))) ((v3 + (1 : Int32))).toNatClampNeg (((aM 9) v5.toNatClampNeg)))), (51, (upd ((upd x_aM51 v3.toNatClampNeg (((aM 10) v6.toNatClampNeg)))) ((v3 + (1 : Int32))).toNatClampNeg (((aM 9) v6.toNatClampNeg))))])) := Eq.mp (congrArg (fun w => va_D A w) (stM_aM51 ad cy iM aM [(50, (upd ((upd x_aM50 v3.toNatClampNeg (((aM 10) v5.toNatClampNeg)))) ((v3 + (1 : Int32))).toNatClampNeg (((aM 9) v5.toNatClampNeg)))), (51, (upd x_aM51 v3.toNatClampNeg (((aM 10) v6.toNatClampNeg))))] ((upd ((upd x_aM51 v3.toNatClampNeg (((aM 10) v6.toNatClampNeg)))) ((v3 + (1 : Int32))).toNatClampNeg (((aM 9) v6.toNatClampNeg)))))) hD
      refine lv_iinc (v := ((v3 + (1 : Int32)) + (1 : Int32))) (lv' := [(3, .int (((v3 + (1 : Int32)) + (1 : Int32)))), (0, .ref (ad 0)), (4, .int v4), (5, .int v5), (6, .int v6), (7, .int v7)]) hx hb dX8_areLike_260 hl (k := 0) rfl rfl (by decide) rfl (fun ls hl => ?_)
      refine lv_goto (tgt := 19) hx hb dX8_areLike_263 (by decide) ?_
      exact hk19 (((v3 + (1 : Int32)) + (1 : Int32))) v4 ((upd ((upd x_aM50 v3.toNatClampNeg (((aM 10) v5.toNatClampNeg)))) ((v3 + (1 : Int32))).toNatClampNeg (((aM 9) v5.toNatClampNeg)))) ((upd ((upd x_aM51 v3.toNatClampNeg (((aM 10) v6.toNatClampNeg)))) ((v3 + (1 : Int32))).toNatClampNeg (((aM 9) v6.toNatClampNeg)))) H locs ls h hP hD hS (lv_sub hl [1, 0, 2] rfl)
  have B69 : ∀ (v3 : Int32) (v5 : Int32) (v6 : Int32) (s0 : Int32) (x_aM50 : Nat → Int32) (x_aM51 : Nat → Int32) (k19 : Int32 → Int32 → (Nat → Int32) → (Nat → Int32) → Option (Int32 × (Nat → Int32) × (Nat → Int32))) (hk19 : ∀ (v3' : Int32) (v4' : Int32) (x_aM50' : Nat → Int32) (x_aM51' : Nat → Int32) (H : Heap) (locs : List Loc) (ls : Array Slot), k19 v3' v4' x_aM50' x_aM51' = some q → va_P (dC, dI) vwCl (zzM ad cy iM (us aM [(50, x_aM50'), (51, x_aM51')])) H → va_D A (zzM ad cy iM (us aM [(50, x_aM50'), (51, x_aM51')])) → va_S A s.heap H locs → lv_has ls 8 [(0, .ref (ad 0)), (3, .int v3'), (4, .int v4')] → W p l e ({ frames := 0, cells := 0, slots := 0, locals := 0 } : Room) s m args below meth c H locs 0 0 QQ (F0 m 19 ls [])) (H : Heap) (locs : List Loc) (ls : Array Slot), f_M_areLike_69 N (aM 8) (aM 9) (aM 10) (aM 50) (aM 51) k19 v3 v5 v6 s0 x_aM50 x_aM51 = some q → va_P (dC, dI) vwCl (zzM ad cy iM (us aM [(50, x_aM50), (51, x_aM51)])) H → va_D A (zzM ad cy iM (us aM [(50, x_aM50), (51, x_aM51)])) → va_S A s.heap H locs → lv_has ls 8 [(0, .ref (ad 0)), (3, .int v3), (5, .int v5), (6, .int v6)] → W p l e ({ frames := 0, cells := 0, slots := 0, locals := 0 } : Room) s m args below meth c H locs 0 0 QQ (F0 m 69 ls [.int s0]) := by
    intro v3 v5 v6 s0 x_aM50 x_aM51 k19 hk19 H locs ls h hP hD hS hl
    unfold f_M_areLike_69 at h
    refine lv_istore (lv' := [(4, .int s0), (0, .ref (ad 0)), (3, .int v3), (5, .int v5), (6, .int v6)]) hx hb dX8_areLike_69 hl (by decide) rfl (fun ls hl => ?_)
    refine lv_iload hx hb dX8_areLike_71 (lv_at hl 0 rfl) ?_
    refine lv_if_ne (tgt := 78) hx hb dX8_areLike_73 (by decide) (fun cz => ?_) (fun cz => ?_)
    · have h := g_f h cz
      refine lv_aload_n hx hb dX8_areLike_78 rfl (lv_at hl 1 rfl) ?_
      refine va_get (D := (dC, dI)) (ci := 8) (v := .ref (ad 3)) (C := RX8) (T := TX8) (N := 78) hx hb hts ki8 hown hK hP 0 rfl rfl 8 (by decide) kf17 (fun _ h9 => h9) rfl dX8_areLike_79 ?_
      refine lv_iload hx hb dX8_areLike_82 (lv_at hl 3 rfl) ?_
      obtain ⟨g_67, h⟩ := g_n h
      refine va_iald (f := (aM 8)) hx hb hK hP 3 0 rfl rfl g_67 dX8_areLike_84 ?_
      refine lv_istore (lv' := [(7, .int (((aM 8) v5.toNatClampNeg))), (4, .int s0), (0, .ref (ad 0)), (3, .int v3), (5, .int v5), (6, .int v6)]) hx hb dX8_areLike_85 hl (by decide) rfl (fun ls hl => ?_)
      refine lv_iload hx hb dX8_areLike_87 (lv_at hl 0 rfl) ?_
      refine lv_if_ne (tgt := 119) hx hb dX8_areLike_89 (by decide) (fun cz => ?_) (fun cz => ?_)
      · have h := g_f h cz
        refine lv_iload hx hb dX8_areLike_119 (lv_at hl 0 rfl) ?_
        refine lv_iconst (v := 4) hx hb dX8_areLike_121 (by decide) ?_
        refine lv_icmp_eq (tgt := 131) hx hb dX8_areLike_122 (by decide) (fun cz => ?_) (fun cz => ?_)
        · have h := g_t h cz
          exact B131 v3 v5 v6 x_aM50 x_aM51 k19 hk19 H locs ls h hP hD hS (lv_sub hl [2, 3, 4, 5] rfl)
        · have h := g_f h cz
          refine lv_iload hx hb dX8_areLike_125 (lv_at hl 0 rfl) ?_
          refine lv_iconst (v := 5) hx hb dX8_areLike_127 (by decide) ?_
          refine lv_icmp_ne (tgt := 187) hx hb dX8_areLike_128 (by decide) (fun cz => ?_) (fun cz => ?_)
          · have h := g_f h cz
            refine lv_iload hx hb dX8_areLike_187 (lv_at hl 0 rfl) ?_
            refine lv_iconst (v := 3) hx hb dX8_areLike_189 (by decide) ?_
            refine lv_icmp_eq (tgt := 199) hx hb dX8_areLike_190 (by decide) (fun cz => ?_) (fun cz => ?_)
            · have h := g_t h cz
              exact B199 v3 s0 v5 v6 (((aM 8) v5.toNatClampNeg)) x_aM50 x_aM51 k19 hk19 H locs ls h hP hD hS (lv_sub hl [2, 3, 1, 4, 5, 0] rfl)
            · have h := g_f h cz
              refine lv_iload hx hb dX8_areLike_193 (lv_at hl 0 rfl) ?_
              refine lv_iconst (v := 5) hx hb dX8_areLike_195 (by decide) ?_
              refine lv_icmp_le (tgt := 263) hx hb dX8_areLike_196 (by decide) (fun cz => ?_) (fun cz => ?_)
              · have h := g_t h cz
                refine lv_goto (tgt := 19) hx hb dX8_areLike_263 (by decide) ?_
                exact hk19 v3 s0 x_aM50 x_aM51 H locs ls h hP hD hS (lv_sub hl [2, 3, 1] rfl)
              · have h := g_f h cz
                exact B199 v3 s0 v5 v6 (((aM 8) v5.toNatClampNeg)) x_aM50 x_aM51 k19 hk19 H locs ls h hP hD hS (lv_sub hl [2, 3, 1, 4, 5, 0] rfl)
          · have h := g_t h cz
            exact B131 v3 v5 v6 x_aM50 x_aM51 k19 hk19 H locs ls h hP hD hS (lv_sub hl [2, 3, 4, 5] rfl)
      · have h := g_t h cz
        refine lv_aload_n hx hb dX8_areLike_92 rfl (lv_at hl 2 rfl) ?_
        refine va_get (D := (dC, dI)) (ci := 8) (v := .ref (ad 4)) (C := RX8) (T := TX8) (N := 78) hx hb hts ki8 hown hK hP 0 rfl rfl 9 (by decide) kf21 (fun _ h9 => h9) rfl dX8_areLike_93 ?_
        refine lv_iload hx hb dX8_areLike_96 (lv_at hl 4 rfl) ?_
        refine va_iald (f := (aM 9)) hx hb hK hP 4 0 rfl rfl g_67 dX8_areLike_98 ?_
        refine lv_aload_n hx hb dX8_areLike_99 rfl (lv_at hl 2 rfl) ?_
        refine va_get (D := (dC, dI)) (ci := 8) (v := .ref (ad 4)) (C := RX8) (T := TX8) (N := 78) hx hb hts ki8 hown hK hP 0 rfl rfl 9 (by decide) kf21 (fun _ h9 => h9) rfl dX8_areLike_100 ?_
        refine lv_iload hx hb dX8_areLike_103 (lv_at hl 5 rfl) ?_
        obtain ⟨g_69, h⟩ := g_n h
        refine va_iald (f := (aM 9)) hx hb hK hP 4 0 rfl rfl g_69 dX8_areLike_105 ?_
        refine lv_icmp_ne (tgt := 113) hx hb dX8_areLike_106 (by decide) (fun cz => ?_) (fun cz => ?_)
        · have h := g_f h cz
          refine lv_iconst (v := 0) hx hb dX8_areLike_113 (by decide) ?_
          refine lv_istore (lv' := [(4, .int ((0 : Int32))), (7, .int (((aM 8) v5.toNatClampNeg))), (0, .ref (ad 0)), (3, .int v3), (5, .int v5), (6, .int v6)]) hx hb dX8_areLike_114 hl (by decide) rfl (fun ls hl => ?_)
          refine lv_goto (tgt := 263) hx hb dX8_areLike_116 (by decide) ?_
          refine lv_goto (tgt := 19) hx hb dX8_areLike_263 (by decide) ?_
          exact hk19 v3 ((0 : Int32)) x_aM50 x_aM51 H locs ls h hP hD hS (lv_sub hl [2, 3, 0] rfl)
        · have h := g_t h cz
          refine lv_iconst (v := 1) hx hb dX8_areLike_109 (by decide) ?_
          refine lv_goto (tgt := 114) hx hb dX8_areLike_110 (by decide) ?_
          refine lv_istore (lv' := [(4, .int ((1 : Int32))), (7, .int (((aM 8) v5.toNatClampNeg))), (0, .ref (ad 0)), (3, .int v3), (5, .int v5), (6, .int v6)]) hx hb dX8_areLike_114 hl (by decide) rfl (fun ls hl => ?_)
          refine lv_goto (tgt := 263) hx hb dX8_areLike_116 (by decide) ?_
          refine lv_goto (tgt := 19) hx hb dX8_areLike_263 (by decide) ?_
          exact hk19 v3 ((1 : Int32)) x_aM50 x_aM51 H locs ls h hP hD hS (lv_sub hl [2, 3, 0] rfl)
    · have h := g_t h cz
      refine lv_iconst (v := 0) hx hb dX8_areLike_76 (by decide) ?_
      have h' := Option.some.inj h
      rw [← hQQ]
      exact W.zret (v := (0 : Int32)) hx hb hr rfl (fun t ht hW => ⟨⟨(0 : Int32), (), rfl, by rw [← h'], by rw [← hWQ, ← h', ht]; exact hP, va_K.moved hW.alike hK⟩, hS.F ht⟩) hS.2.2 dX8_areLike_77
  have B19 : ∀ (n : Nat) (v3 : Int32) (v4 : Int32) (x_aM50 : Nat → Int32) (x_aM51 : Nat → Int32) (H : Heap) (locs : List Loc) (ls : Array Slot), f_M_areLike_19 N (aM 8) (aM 9) (aM 10) (aM 50) (aM 51) n v3 v4 x_aM50 x_aM51 = some q → va_P (dC, dI) vwCl (zzM ad cy iM (us aM [(50, x_aM50), (51, x_aM51)])) H → va_D A (zzM ad cy iM (us aM [(50, x_aM50), (51, x_aM51)])) → va_S A s.heap H locs → lv_has ls 8 [(0, .ref (ad 0)), (3, .int v3), (4, .int v4)] → W p l e ({ frames := 0, cells := 0, slots := 0, locals := 0 } : Room) s m args below meth c H locs 0 0 QQ (F0 m 19 ls []) := by
    intro n
    induction n with
    | zero =>
      intro v3 v4 x_aM50 x_aM51 H locs ls h hP hD hS hl
      rw [f_M_areLike_19] at h
      cases h
    | succ n ih =>
      intro v3 v4 x_aM50 x_aM51 H locs ls h hP hD hS hl
      rw [f_M_areLike_19] at h
      refine lv_iload_n hx hb dX8_areLike_19 rfl (lv_at hl 1 rfl) ?_
      refine lv_if_le (tgt := 266) hx hb dX8_areLike_20 (by decide) (fun cz => ?_) (fun cz => ?_)
      · have h := g_t h cz
        refine lv_iload hx hb dX8_areLike_266 (lv_at hl 2 rfl) ?_
        obtain ⟨gz, h⟩ := g_p h
        have h' := Option.some.inj h
        rw [← hQQ]
        exact W.zret (v := v4) hx hb hr (g_zr _ gz) (fun t ht hW => ⟨⟨v4, (), rfl, by rw [← h'], by rw [← hWQ, ← h', ht]; exact hP, va_K.moved hW.alike hK⟩, hS.F ht⟩) hS.2.2 dX8_areLike_268
      · have h := g_f h cz
        refine lv_iload hx hb dX8_areLike_23 (lv_at hl 2 rfl) ?_
        refine lv_if_eq (tgt := 266) hx hb dX8_areLike_25 (by decide) (fun cz => ?_) (fun cz => ?_)
        · have h := g_t h cz
          refine lv_iload hx hb dX8_areLike_266 (lv_at hl 2 rfl) ?_
          obtain ⟨gz, h⟩ := g_p h
          have h' := Option.some.inj h
          rw [← hQQ]
          exact W.zret (v := v4) hx hb hr (g_zr _ gz) (fun t ht hW => ⟨⟨v4, (), rfl, by rw [← h'], by rw [← hWQ, ← h', ht]; exact hP, va_K.moved hW.alike hK⟩, hS.F ht⟩) hS.2.2 dX8_areLike_268
        · have h := g_f h cz
          refine lv_iinc (v := (v3 + (-1 : Int32))) (lv' := [(3, .int ((v3 + (-1 : Int32)))), (0, .ref (ad 0)), (4, .int v4)]) hx hb dX8_areLike_28 hl (k := 1) rfl rfl (by decide) rfl (fun ls hl => ?_)
          refine lv_aload_n hx hb dX8_areLike_31 rfl (lv_at hl 1 rfl) ?_
          refine va_get (D := (dC, dI)) (ci := 8) (v := .ref (ad 25)) (C := RX8) (T := TX8) (N := 78) hx hb hts ki8 hown hK hP 0 rfl rfl 50 (by decide) kf89 (fun _ h9 => h9) rfl dX8_areLike_32 ?_
          refine lv_iload_n hx hb dX8_areLike_35 rfl (lv_at hl 0 rfl) ?_
          obtain ⟨g_71, h⟩ := g_n h
          refine va_iald (f := x_aM50) hx hb hK hP 25 0 rfl rfl g_71 dX8_areLike_36 ?_
          refine lv_istore (lv' := [(5, .int ((x_aM50 ((v3 + (-1 : Int32))).toNatClampNeg))), (3, .int ((v3 + (-1 : Int32)))), (0, .ref (ad 0)), (4, .int v4)]) hx hb dX8_areLike_37 hl (by decide) rfl (fun ls hl => ?_)
          refine lv_aload_n hx hb dX8_areLike_39 rfl (lv_at hl 2 rfl) ?_
          refine va_get (D := (dC, dI)) (ci := 8) (v := .ref (ad 26)) (C := RX8) (T := TX8) (N := 78) hx hb hts ki8 hown hK hP 0 rfl rfl 51 (by decide) kf92 (fun _ h9 => h9) rfl dX8_areLike_40 ?_
          refine lv_iload_n hx hb dX8_areLike_43 rfl (lv_at hl 1 rfl) ?_
          refine va_iald (f := x_aM51) hx hb hK hP 26 0 rfl rfl g_71 dX8_areLike_44 ?_
          refine lv_istore (lv' := [(6, .int ((x_aM51 ((v3 + (-1 : Int32))).toNatClampNeg))), (5, .int ((x_aM50 ((v3 + (-1 : Int32))).toNatClampNeg))), (3, .int ((v3 + (-1 : Int32)))), (0, .ref (ad 0)), (4, .int v4)]) hx hb dX8_areLike_45 hl (by decide) rfl (fun ls hl => ?_)
          refine lv_aload_n hx hb dX8_areLike_47 rfl (lv_at hl 3 rfl) ?_
          refine va_get (D := (dC, dI)) (ci := 8) (v := .ref (ad 3)) (C := RX8) (T := TX8) (N := 78) hx hb hts ki8 hown hK hP 0 rfl rfl 8 (by decide) kf17 (fun _ h9 => h9) rfl dX8_areLike_48 ?_
          refine lv_iload hx hb dX8_areLike_51 (lv_at hl 1 rfl) ?_
          obtain ⟨g_72, h⟩ := g_n h
          refine va_iald (f := (aM 8)) hx hb hK hP 3 0 rfl rfl g_72 dX8_areLike_53 ?_
          refine lv_aload_n hx hb dX8_areLike_54 rfl (lv_at hl 3 rfl) ?_
          refine va_get (D := (dC, dI)) (ci := 8) (v := .ref (ad 3)) (C := RX8) (T := TX8) (N := 78) hx hb hts ki8 hown hK hP 0 rfl rfl 8 (by decide) kf17 (fun _ h9 => h9) rfl dX8_areLike_55 ?_
          refine lv_iload hx hb dX8_areLike_58 (lv_at hl 0 rfl) ?_
          obtain ⟨g_73, h⟩ := g_n h
          refine va_iald (f := (aM 8)) hx hb hK hP 3 0 rfl rfl g_73 dX8_areLike_60 ?_
          refine lv_icmp_ne (tgt := 68) hx hb dX8_areLike_61 (by decide) (fun cz => ?_) (fun cz => ?_)
          · have h := g_f h cz
            refine lv_iconst (v := 0) hx hb dX8_areLike_68 (by decide) ?_
            exact B69 ((v3 + (-1 : Int32))) ((x_aM50 ((v3 + (-1 : Int32))).toNatClampNeg)) ((x_aM51 ((v3 + (-1 : Int32))).toNatClampNeg)) ((0 : Int32)) x_aM50 x_aM51 (f_M_areLike_19 N (aM 8) (aM 9) (aM 10) (aM 50) (aM 51) n) ih H locs ls h hP hD hS (lv_sub hl [3, 2, 1, 0] rfl)
          · have h := g_t h cz
            refine lv_iconst (v := 1) hx hb dX8_areLike_64 (by decide) ?_
            refine lv_goto (tgt := 69) hx hb dX8_areLike_65 (by decide) ?_
            exact B69 ((v3 + (-1 : Int32))) ((x_aM50 ((v3 + (-1 : Int32))).toNatClampNeg)) ((x_aM51 ((v3 + (-1 : Int32))).toNatClampNeg)) ((1 : Int32)) x_aM50 x_aM51 (f_M_areLike_19 N (aM 8) (aM 9) (aM 10) (aM 50) (aM 51) n) ih H locs ls h hP hD hS (lv_sub hl [3, 2, 1, 0] rfl)
  intro H locs hP hD hS
  unfold f_M_areLike at h
  refine lv_iconst (v := 1) hx hb dX8_areLike_0 (by decide) ?_
  refine lv_istore_n (lv' := [(3, .int ((1 : Int32))), (0, .ref (ad 0)), (1, .int a1), (2, .int a2)]) hx hb dX8_areLike_1 rfl hl (by decide) rfl (fun ls hl => ?_)
  refine lv_aload_n hx hb dX8_areLike_2 rfl (lv_at hl 1 rfl) ?_
  refine va_get (D := (dC, dI)) (ci := 8) (v := .ref (ad 25)) (C := RX8) (T := TX8) (N := 78) hx hb hts ki8 hown hK hP 0 rfl rfl 50 (by decide) kf89 (fun _ h9 => h9) rfl dX8_areLike_3 ?_
  refine lv_iconst (v := 0) hx hb dX8_areLike_6 (by decide) ?_
  refine lv_iload_n hx hb dX8_areLike_7 rfl (lv_at hl 2 rfl) ?_
  refine va_iast (f := (aM 50)) hx hb hK hP hD hS 25 0 rfl rfl (by unfold vp_in; decide) dX8_areLike_8 (fun H locs hP hD hS => ?_)
  have hP : va_P (dC, dI) vwCl (zzM ad cy iM (us aM [(50, (upd (aM 50) ((0 : Int32)).toNatClampNeg a1))])) H := Eq.mp (congrArg (fun w => va_P (dC, dI) vwCl w H) (sfM_aM50 ad cy iM aM ((upd (aM 50) ((0 : Int32)).toNatClampNeg a1)))) hP
  have hD : va_D A (zzM ad cy iM (us aM [(50, (upd (aM 50) ((0 : Int32)).toNatClampNeg a1))])) := Eq.mp (congrArg (fun w => va_D A w) (sfM_aM50 ad cy iM aM ((upd (aM 50) ((0 : Int32)).toNatClampNeg a1)))) hD
  refine lv_aload_n hx hb dX8_areLike_9 rfl (lv_at hl 1 rfl) ?_
  refine va_get (D := (dC, dI)) (ci := 8) (v := .ref (ad 26)) (C := RX8) (T := TX8) (N := 78) hx hb hts ki8 hown hK hP 0 rfl rfl 51 (by decide) kf92 (fun _ h9 => h9) rfl dX8_areLike_10 ?_
  refine lv_iconst (v := 0) hx hb dX8_areLike_13 (by decide) ?_
  refine lv_iload_n hx hb dX8_areLike_14 rfl (lv_at hl 3 rfl) ?_
  refine va_iast (f := (aM 51)) hx hb hK hP hD hS 26 0 rfl rfl (by unfold vp_in; decide) dX8_areLike_15 (fun H locs hP hD hS => ?_)
  have hP : va_P (dC, dI) vwCl (zzM ad cy iM (us aM [(50, (upd (aM 50) ((0 : Int32)).toNatClampNeg a1)), (51, (upd (aM 51) ((0 : Int32)).toNatClampNeg a2))])) H := Eq.mp (congrArg (fun w => va_P (dC, dI) vwCl w H) (stM_aM51 ad cy iM aM [(50, (upd (aM 50) ((0 : Int32)).toNatClampNeg a1))] ((upd (aM 51) ((0 : Int32)).toNatClampNeg a2)))) hP
  have hD : va_D A (zzM ad cy iM (us aM [(50, (upd (aM 50) ((0 : Int32)).toNatClampNeg a1)), (51, (upd (aM 51) ((0 : Int32)).toNatClampNeg a2))])) := Eq.mp (congrArg (fun w => va_D A w) (stM_aM51 ad cy iM aM [(50, (upd (aM 50) ((0 : Int32)).toNatClampNeg a1))] ((upd (aM 51) ((0 : Int32)).toNatClampNeg a2)))) hD
  refine lv_iconst (v := 1) hx hb dX8_areLike_16 (by decide) ?_
  refine lv_istore (lv' := [(4, .int ((1 : Int32))), (3, .int ((1 : Int32))), (0, .ref (ad 0)), (1, .int a1), (2, .int a2)]) hx hb dX8_areLike_17 hl (by decide) rfl (fun ls hl => ?_)
  exact B19 N ((1 : Int32)) ((1 : Int32)) ((upd (aM 50) ((0 : Int32)).toNatClampNeg a1)) ((upd (aM 51) ((0 : Int32)).toNatClampNeg a2)) H locs ls h hP hD hS (lv_sub hl [2, 1, 0] rfl)
set_option maxHeartbeats 8000000 in
set_option maxRecDepth 100000 in
theorem c_M_findAtom (l : Launch) (dC : Nat → ClassId) (dI : Nat → Nat → Nat) (cy : Nat → ClassId) (ad : Nat → Nat) (sz : Nat) (N : Nat) (a1 : Int32) (iM : Nat → Int32) (aM : Nat → Nat → Int32) (q : Int32 × Int32 × Int32 × (Nat → Int32) × (Nat → Int32) × (Nat → Int32) × (Nat → Int32) × (Nat → Int32) × (Nat → Int32) × (Nat → Int32)) (h : f_M_findAtom N a1 (iM 45) (iM 46) (iM 47) (aM 8) (aM 9) (aM 10) (aM 11) (aM 12) (aM 32) (aM 33) (aM 34) (aM 35) (aM 50) (aM 51) = some q) : Met l yX8_findAtom wsX8_findAtom ({ frames := 2, cells := 0, slots := 0, locals := 47 } : Room) (cP (dC, dI) cy [.ref (ad 0), .int a1] (zzM ad cy iM aM) sz) (cQv (dC, dI) cy (zzM ad cy (us iM [(45, q.1), (46, q.2.1), (47, q.2.2.1)]) (us aM [(11, q.2.2.2.1), (32, q.2.2.2.2.1), (33, q.2.2.2.2.2.1), (34, q.2.2.2.2.2.2.1), (35, q.2.2.2.2.2.2.2.1), (50, q.2.2.2.2.2.2.2.2.1), (51, q.2.2.2.2.2.2.2.2.2)])) (va_A (zzM ad cy iM aM) sz)) 0 0 (va_A (zzM ad cy iM aM) sz) := by
  refine Met.ofW (cc := cX8_findAtom) (maxL := 5) (ret := none) (by decide) rfl ?_
  intro p e s m args below meth c s₁ B hml hv
  obtain ⟨hav, hsz, hP, hK, hD0, hN⟩ := hv
  have hx := B.exec
  have hb := B.bytes
  have hr := B.returns
  have hts := atoms_spec (ws := wsX8_findAtom) B.pre
  have hown : s.vm.findClass RX8 = some m.cls := findClass_of_methodNamed B.named
  have hlocks := B.notSynchronized
  subst hsz
  have hD := hD0.self (sz := s.heap.size)
  generalize hAe : va_A (zzM ad cy iM aM) s.heap.size = A at hD ⊢
  have hA : ∀ q : Nat, s.heap.size ≤ q → A q := fun q h => by rw [← hAe]; exact Or.inr h
  have hS : va_S A s.heap s.heap [] := va_S.rf
  generalize hWQ : (zzM ad cy (us iM [(45, q.1), (46, q.2.1), (47, q.2.2.1)]) (us aM [(11, q.2.2.2.1), (32, q.2.2.2.2.1), (33, q.2.2.2.2.2.1), (34, q.2.2.2.2.2.2.1), (35, q.2.2.2.2.2.2.2.1), (50, q.2.2.2.2.2.2.2.2.1), (51, q.2.2.2.2.2.2.2.2.2)])) = WQ
  generalize hQQ : MQ below (cQv (dC, dI) cy WQ A) args s 0 0 A = QQ
  have hl := lv_entry ([.ref (ad 0), .int a1] : List Value) (n := 5) (Nat.le_of_ble_eq_true rfl)
  have hfr := lg_entry_eq m ([.ref (ad 0), .int a1] : List Value) 5
  rw [← hav] at hfr
  rw [hfr]
  clear hfr hav
  generalize (lg_sl ([.ref (ad 0), .int a1] : List Value) ++ List.replicate (5 - (lg_sl ([.ref (ad 0), .int a1] : List Value)).length) Slot.unset).toArray = ls at hl ⊢
  have hl : lv_has ls 5 [(0, .ref (ad 0)), (1, .int a1)] := hl
  have kf234 := hts _ (List.mem_cons_of_mem _ m_fl_X8_234)
  have ki8 := (fun w h => List.mem_cons_of_mem _ (i_X8 w h) : ∀ w ∈ u_ws RX8 TX8 78, w ∈ wsX8_findAtom)
  have kf27 := hts _ (List.mem_cons_of_mem _ m_fl_X8_27)
  have kf21 := hts _ (List.mem_cons_of_mem _ m_fl_X8_21)
  have kf73 := hts _ (List.mem_cons_of_mem _ m_fl_X8_73)
  have kf82 := hts _ (List.mem_cons_of_mem _ m_fl_X8_82)
  have kf79 := hts _ (List.mem_cons_of_mem _ m_fl_X8_79)
  have kf17 := hts _ (List.mem_cons_of_mem _ m_fl_X8_17)
  have kf24 := hts _ (List.mem_cons_of_mem _ m_fl_X8_24)
  refine (?_ : ∀ (H : Heap) (locs : List Loc), va_P (dC, dI) vwCl (zzM ad cy iM aM) H → va_D A (zzM ad cy iM aM) → va_S A s.heap H locs → W p l e ({ frames := 2, cells := 0, slots := 0, locals := 47 } : Room) s m args below meth c H locs 0 0 QQ (F0 m 0 ls [])) s.heap [] hP hD hS
  clear hP hD hS
  have B72 : ∀ (n : Nat) (v1 : Int32) (v2 : Int32) (v3 : Int32) (v4 : Int32) (x_aM11 : Nat → Int32) (x_aM50 : Nat → Int32) (x_aM51 : Nat → Int32) (H : Heap) (locs : List Loc) (ls : Array Slot), f_M_findAtom_72 N (iM 45) (iM 46) (iM 47) (aM 8) (aM 9) (aM 10) (aM 11) (aM 12) (aM 32) (aM 33) (aM 34) (aM 35) (aM 50) (aM 51) v1 v2 v3 n v4 x_aM11 x_aM50 x_aM51 = some q → va_P (dC, dI) vwCl (zzM ad cy iM (us aM [(11, x_aM11), (50, x_aM50), (51, x_aM51)])) H → va_D A (zzM ad cy iM (us aM [(11, x_aM11), (50, x_aM50), (51, x_aM51)])) → va_S A s.heap H locs → lv_has ls 5 [(0, .ref (ad 0)), (1, .int v1), (2, .int v2), (3, .int v3), (4, .int v4)] → W p l e ({ frames := 2, cells := 0, slots := 0, locals := 47 } : Room) s m args below meth c H locs 0 0 QQ (F0 m 72 ls []) := by
    intro n
    induction n with
    | zero =>
      intro v1 v2 v3 v4 x_aM11 x_aM50 x_aM51 H locs ls h hP hD hS hl
      rw [f_M_findAtom_72] at h
      cases h
    | succ n ih =>
      intro v1 v2 v3 v4 x_aM11 x_aM50 x_aM51 H locs ls h hP hD hS hl
      rw [f_M_findAtom_72] at h
      refine lv_iload hx hb dX8_findAtom_72 (lv_at hl 4 rfl) ?_
      refine lv_aload_n hx hb dX8_findAtom_74 rfl (lv_at hl 0 rfl) ?_
      refine va_get (D := (dC, dI)) (ci := 8) (v := .int (iM 45)) (C := RX8) (T := TX8) (N := 78) hx hb hts ki8 hown hK hP 0 rfl rfl 45 (by decide) kf234 (fun _ h9 => h9) rfl dX8_findAtom_75 ?_
      refine lv_icmp_ge (tgt := 146) hx hb dX8_findAtom_78 (by decide) (fun cz => ?_) (fun cz => ?_)
      · have h := g_t h cz
        refine lv_aload_n hx hb dX8_findAtom_146 rfl (lv_at hl 0 rfl) ?_
        refine va_get (D := (dC, dI)) (ci := 8) (v := .ref (ad 6)) (C := RX8) (T := TX8) (N := 78) hx hb hts ki8 hown hK hP 0 rfl rfl 11 (by decide) kf27 (fun _ h9 => h9) rfl dX8_findAtom_147 ?_
        refine lv_iload_n hx hb dX8_findAtom_150 rfl (lv_at hl 1 rfl) ?_
        obtain ⟨g_62, h⟩ := g_n h
        refine va_iald (f := x_aM11) hx hb hK hP 6 0 rfl rfl g_62 dX8_findAtom_151 ?_
        refine lv_if_ge (tgt := 169) hx hb dX8_findAtom_152 (by decide) (fun cz => ?_) (fun cz => ?_)
        · have h := g_t h cz
          have h' := Option.some.inj h
          rw [← hQQ]
          exact W.vret hx hb hr (fun t ht hW => ⟨⟨(), rfl, trivial, by rw [← hWQ, ← h', ht]; exact hP, va_K.moved hW.alike hK⟩, hS.F ht⟩) hS.2.2 dX8_findAtom_169
        · have h := g_f h cz
          refine lv_aload_n hx hb dX8_findAtom_155 rfl (lv_at hl 0 rfl) ?_
          refine lv_iload_n hx hb dX8_findAtom_156 rfl (lv_at hl 1 rfl) ?_
          refine lv_aload_n hx hb dX8_findAtom_157 rfl (lv_at hl 0 rfl) ?_
          refine va_get (D := (dC, dI)) (ci := 8) (v := .ref (ad 4)) (C := RX8) (T := TX8) (N := 78) hx hb hts ki8 hown hK hP 0 rfl rfl 9 (by decide) kf21 (fun _ h9 => h9) rfl dX8_findAtom_158 ?_
          refine lv_iload_n hx hb dX8_findAtom_161 rfl (lv_at hl 1 rfl) ?_
          refine va_iald (f := (aM 9)) hx hb hK hP 4 0 rfl rfl g_62 dX8_findAtom_162 ?_
          refine lv_iconst (v := (-1)) hx hb dX8_findAtom_163 (by decide) ?_
          refine lv_iload_n hx hb dX8_findAtom_164 rfl (lv_at hl 3 rfl) ?_
          refine lv_iload_n hx hb dX8_findAtom_165 rfl (lv_at hl 2 rfl) ?_
          obtain ⟨q166, e166, h⟩ := g_b h
          refine callVvs (cc := cX8_findAtom) (w1 := zzM ad cy (us iM [(45, q166.1), (46, q166.2.1), (47, q166.2.2.1)]) (us aM [(11, q166.2.2.2.1), (32, q166.2.2.2.2.1), (33, q166.2.2.2.2.2.1), (34, q166.2.2.2.2.2.2.1), (35, q166.2.2.2.2.2.2.2), (50, x_aM50), (51, x_aM51)])) (As := [.int v1, .int (((aM 9) v1.toNatClampNeg)), .int ((-1 : Int32)), .int v3, .int v2]) (rest := []) ⟨hx, hb, hml, hown, hts⟩ (c_M_newAtom l dC dI cy ad H.size v1 (((aM 9) v1.toNatClampNeg)) ((-1 : Int32)) v3 v2 iM ((us aM [(11, x_aM11), (50, x_aM50), (51, x_aM51)])) q166 e166) (cwV 5 hts (goodV m_ml_X8_237 m_im_X8_newAtom m_se_X8_newAtom m_in_X8 m_cd_X8_newAtom) rfl rfl rfl (by decide +kernel) ⟨Nat.le_of_ble_eq_true rfl, Nat.le_of_ble_eq_true rfl⟩) hN hK hP hD hS hA rfl 0 rfl rfl rfl hl.1 rfl (Nat.le_of_ble_eq_true rfl) dX8_findAtom_166 ⟨Nat.zero_le _, Nat.zero_le _⟩ (fun H locs hP hD hS => ?_)
          have h' := Option.some.inj h
          rw [← hQQ]
          exact W.vret hx hb hr (fun t ht hW => ⟨⟨(), rfl, trivial, by rw [← hWQ, ← h', ht]; exact hP, va_K.moved hW.alike hK⟩, hS.F ht⟩) hS.2.2 dX8_findAtom_169
      · have h := g_f h cz
        refine lv_aload_n hx hb dX8_findAtom_81 rfl (lv_at hl 0 rfl) ?_
        refine va_get (D := (dC, dI)) (ci := 8) (v := .ref (ad 21)) (C := RX8) (T := TX8) (N := 78) hx hb hts ki8 hown hK hP 0 rfl rfl 32 (by decide) kf73 (fun _ h9 => h9) rfl dX8_findAtom_82 ?_
        refine lv_bipush (v := 9) hx hb dX8_findAtom_85 (by decide) ?_
        refine lv_iload hx hb dX8_findAtom_87 (lv_at hl 4 rfl) ?_
        refine lv_iadd hx hb dX8_findAtom_89 ?_
        obtain ⟨g_74, h⟩ := g_n h
        refine va_iald (f := (aM 32)) hx hb hK hP 21 0 rfl rfl g_74 dX8_findAtom_90 ?_
        refine lv_aload_n hx hb dX8_findAtom_91 rfl (lv_at hl 0 rfl) ?_
        refine va_get (D := (dC, dI)) (ci := 8) (v := .ref (ad 4)) (C := RX8) (T := TX8) (N := 78) hx hb hts ki8 hown hK hP 0 rfl rfl 9 (by decide) kf21 (fun _ h9 => h9) rfl dX8_findAtom_92 ?_
        refine lv_iload_n hx hb dX8_findAtom_95 rfl (lv_at hl 1 rfl) ?_
        obtain ⟨g_62, h⟩ := g_n h
        refine va_iald (f := (aM 9)) hx hb hK hP 4 0 rfl rfl g_62 dX8_findAtom_96 ?_
        refine lv_icmp_ne (tgt := 140) hx hb dX8_findAtom_97 (by decide) (fun cz => ?_) (fun cz => ?_)
        · have h := g_f h cz
          refine lv_iinc (v := (v4 + (1 : Int32))) (lv' := [(4, .int ((v4 + (1 : Int32)))), (0, .ref (ad 0)), (1, .int v1), (2, .int v2), (3, .int v3)]) hx hb dX8_findAtom_140 hl (k := 4) rfl rfl (by decide) rfl (fun ls hl => ?_)
          refine lv_goto (tgt := 72) hx hb dX8_findAtom_143 (by decide) ?_
          exact ih v1 v2 v3 ((v4 + (1 : Int32))) x_aM11 x_aM50 x_aM51 H locs ls h hP hD hS (lv_sub hl [1, 2, 3, 4, 0] rfl)
        · have h := g_t h cz
          refine lv_aload_n hx hb dX8_findAtom_100 rfl (lv_at hl 0 rfl) ?_
          refine va_get (D := (dC, dI)) (ci := 8) (v := .ref (ad 24)) (C := RX8) (T := TX8) (N := 78) hx hb hts ki8 hown hK hP 0 rfl rfl 35 (by decide) kf82 (fun _ h9 => h9) rfl dX8_findAtom_101 ?_
          refine lv_bipush (v := 9) hx hb dX8_findAtom_104 (by decide) ?_
          refine lv_iload hx hb dX8_findAtom_106 (lv_at hl 4 rfl) ?_
          refine lv_iadd hx hb dX8_findAtom_108 ?_
          refine va_zald (f := (aM 35)) hx hb hK hP 24 4 rfl rfl g_74 dX8_findAtom_109 ?_
          refine lv_iload_n hx hb dX8_findAtom_110 rfl (lv_at hl 2 rfl) ?_
          refine lv_icmp_ne (tgt := 140) hx hb dX8_findAtom_111 (by decide) (fun cz => ?_) (fun cz => ?_)
          · have h := g_f h cz
            refine lv_iinc (v := (v4 + (1 : Int32))) (lv' := [(4, .int ((v4 + (1 : Int32)))), (0, .ref (ad 0)), (1, .int v1), (2, .int v2), (3, .int v3)]) hx hb dX8_findAtom_140 hl (k := 4) rfl rfl (by decide) rfl (fun ls hl => ?_)
            refine lv_goto (tgt := 72) hx hb dX8_findAtom_143 (by decide) ?_
            exact ih v1 v2 v3 ((v4 + (1 : Int32))) x_aM11 x_aM50 x_aM51 H locs ls h hP hD hS (lv_sub hl [1, 2, 3, 4, 0] rfl)
          · have h := g_t h cz
            refine lv_aload_n hx hb dX8_findAtom_114 rfl (lv_at hl 0 rfl) ?_
            refine lv_aload_n hx hb dX8_findAtom_115 rfl (lv_at hl 0 rfl) ?_
            refine va_get (D := (dC, dI)) (ci := 8) (v := .ref (ad 23)) (C := RX8) (T := TX8) (N := 78) hx hb hts ki8 hown hK hP 0 rfl rfl 34 (by decide) kf79 (fun _ h9 => h9) rfl dX8_findAtom_116 ?_
            refine lv_bipush (v := 9) hx hb dX8_findAtom_119 (by decide) ?_
            refine lv_iload hx hb dX8_findAtom_121 (lv_at hl 4 rfl) ?_
            refine lv_iadd hx hb dX8_findAtom_123 ?_
            refine va_iald (f := (aM 34)) hx hb hK hP 23 0 rfl rfl g_74 dX8_findAtom_124 ?_
            refine lv_iload_n hx hb dX8_findAtom_125 rfl (lv_at hl 3 rfl) ?_
            obtain ⟨q126, e126, h⟩ := g_b h
            refine callVis (cc := cX8_findAtom) (w1 := zzM ad cy iM (us aM [(11, x_aM11), (50, q126.2.1), (51, q126.2.2)])) (As := [.int (((aM 34) (((9 : Int32) + v4)).toNatClampNeg)), .int v3]) (rest := []) ⟨hx, hb, hml, hown, hts⟩ (c_M_areLike l dC dI cy ad H.size N (((aM 34) (((9 : Int32) + v4)).toNatClampNeg)) v3 iM ((us aM [(11, x_aM11), (50, x_aM50), (51, x_aM51)])) q126 e126) (cwV 2 hts (goodV m_ml_X8_241 m_im_X8_areLike m_se_X8_areLike m_in_X8 m_cd_X8_areLike) rfl rfl rfl (by decide +kernel) ⟨Nat.le_of_ble_eq_true rfl, Nat.le_of_ble_eq_true rfl⟩) hN hK hP hD hS hA rfl 0 rfl rfl rfl hl.1 rfl (Nat.le_of_ble_eq_true rfl) dX8_findAtom_126 ⟨Nat.zero_le _, Nat.zero_le _⟩ (fun H locs hP hD hS => ?_)
            refine lv_if_eq (tgt := 140) hx hb dX8_findAtom_129 (by decide) (fun cz => ?_) (fun cz => ?_)
            · have h := g_t h cz
              refine lv_iinc (v := (v4 + (1 : Int32))) (lv' := [(4, .int ((v4 + (1 : Int32)))), (0, .ref (ad 0)), (1, .int v1), (2, .int v2), (3, .int v3)]) hx hb dX8_findAtom_140 hl (k := 4) rfl rfl (by decide) rfl (fun ls hl => ?_)
              refine lv_goto (tgt := 72) hx hb dX8_findAtom_143 (by decide) ?_
              exact ih v1 v2 v3 ((v4 + (1 : Int32))) x_aM11 q126.2.1 q126.2.2 H locs ls h hP hD hS (lv_sub hl [1, 2, 3, 4, 0] rfl)
            · have h := g_f h cz
              refine lv_aload_n hx hb dX8_findAtom_132 rfl (lv_at hl 0 rfl) ?_
              refine va_get (D := (dC, dI)) (ci := 8) (v := .ref (ad 6)) (C := RX8) (T := TX8) (N := 78) hx hb hts ki8 hown hK hP 0 rfl rfl 11 (by decide) kf27 (fun _ h9 => h9) rfl dX8_findAtom_133 ?_
              refine lv_iload_n hx hb dX8_findAtom_136 rfl (lv_at hl 1 rfl) ?_
              refine lv_iload hx hb dX8_findAtom_137 (lv_at hl 4 rfl) ?_
              refine va_iast (f := x_aM11) hx hb hK hP hD hS 6 0 rfl rfl g_62 dX8_findAtom_139 (fun H locs hP hD hS => ?_)
              have hP : va_P (dC, dI) vwCl (zzM ad cy iM (us aM [(11, (upd x_aM11 v1.toNatClampNeg v4)), (50, q126.2.1), (51, q126.2.2)])) H := Eq.mp (congrArg (fun w => va_P (dC, dI) vwCl w H) (stM_aM11 ad cy iM aM [(11, x_aM11), (50, q126.2.1), (51, q126.2.2)] ((upd x_aM11 v1.toNatClampNeg v4)))) hP
              have hD : va_D A (zzM ad cy iM (us aM [(11, (upd x_aM11 v1.toNatClampNeg v4)), (50, q126.2.1), (51, q126.2.2)])) := Eq.mp (congrArg (fun w => va_D A w) (stM_aM11 ad cy iM aM [(11, x_aM11), (50, q126.2.1), (51, q126.2.2)] ((upd x_aM11 v1.toNatClampNeg v4)))) hD
              refine lv_iinc (v := (v4 + (1 : Int32))) (lv' := [(4, .int ((v4 + (1 : Int32)))), (0, .ref (ad 0)), (1, .int v1), (2, .int v2), (3, .int v3)]) hx hb dX8_findAtom_140 hl (k := 4) rfl rfl (by decide) rfl (fun ls hl => ?_)
              refine lv_goto (tgt := 72) hx hb dX8_findAtom_143 (by decide) ?_
              exact ih v1 v2 v3 ((v4 + (1 : Int32))) ((upd x_aM11 v1.toNatClampNeg v4)) q126.2.1 q126.2.2 H locs ls h hP hD hS (lv_sub hl [1, 2, 3, 4, 0] rfl)
  have B46 : ∀ (v1 : Int32) (v2 : Int32) (v3 : Int32) (H : Heap) (locs : List Loc) (ls : Array Slot), f_M_findAtom_46 N (iM 45) (iM 46) (iM 47) (aM 8) (aM 9) (aM 10) (aM 11) (aM 12) (aM 32) (aM 33) (aM 34) (aM 35) (aM 50) (aM 51) v1 v2 v3 = some q → va_P (dC, dI) vwCl (zzM ad cy iM aM) H → va_D A (zzM ad cy iM aM) → va_S A s.heap H locs → lv_has ls 5 [(0, .ref (ad 0)), (1, .int v1), (2, .int v2), (3, .int v3)] → W p l e ({ frames := 2, cells := 0, slots := 0, locals := 47 } : Room) s m args below meth c H locs 0 0 QQ (F0 m 46 ls []) := by
    intro v1 v2 v3 H locs ls h hP hD hS hl
    unfold f_M_findAtom_46 at h
    refine lv_iload_n hx hb dX8_findAtom_46 rfl (lv_at hl 2 rfl) ?_
    refine lv_if_ne (tgt := 69) hx hb dX8_findAtom_47 (by decide) (fun cz => ?_) (fun cz => ?_)
    · have h := g_f h cz
      refine lv_iconst (v := 0) hx hb dX8_findAtom_69 (by decide) ?_
      refine lv_istore (lv' := [(4, .int ((0 : Int32))), (0, .ref (ad 0)), (1, .int v1), (2, .int v2), (3, .int v3)]) hx hb dX8_findAtom_70 hl (by decide) rfl (fun ls hl => ?_)
      exact B72 N v1 v2 v3 ((0 : Int32)) (aM 11) (aM 50) (aM 51) H locs ls h hP hD hS (lv_sub hl [1, 2, 3, 4, 0] rfl)
    · have h := g_t h cz
      refine lv_aload_n hx hb dX8_findAtom_50 rfl (lv_at hl 0 rfl) ?_
      refine va_get (D := (dC, dI)) (ci := 8) (v := .ref (ad 3)) (C := RX8) (T := TX8) (N := 78) hx hb hts ki8 hown hK hP 0 rfl rfl 8 (by decide) kf17 (fun _ h9 => h9) rfl dX8_findAtom_51 ?_
      refine lv_iload_n hx hb dX8_findAtom_54 rfl (lv_at hl 3 rfl) ?_
      obtain ⟨g_68, h⟩ := g_n h
      refine va_iald (f := (aM 8)) hx hb hK hP 3 0 rfl rfl g_68 dX8_findAtom_55 ?_
      refine lv_iconst (v := 3) hx hb dX8_findAtom_56 (by decide) ?_
      refine lv_icmp_ne (tgt := 69) hx hb dX8_findAtom_57 (by decide) (fun cz => ?_) (fun cz => ?_)
      · have h := g_f h cz
        refine lv_iconst (v := 0) hx hb dX8_findAtom_69 (by decide) ?_
        refine lv_istore (lv' := [(4, .int ((0 : Int32))), (0, .ref (ad 0)), (1, .int v1), (2, .int v2), (3, .int v3)]) hx hb dX8_findAtom_70 hl (by decide) rfl (fun ls hl => ?_)
        exact B72 N v1 v2 v3 ((0 : Int32)) (aM 11) (aM 50) (aM 51) H locs ls h hP hD hS (lv_sub hl [1, 2, 3, 4, 0] rfl)
      · have h := g_t h cz
        refine lv_iconst (v := 1) hx hb dX8_findAtom_60 (by decide) ?_
        refine lv_istore_n (lv' := [(2, .int ((1 : Int32))), (0, .ref (ad 0)), (1, .int v1), (3, .int v3)]) hx hb dX8_findAtom_61 rfl hl (by decide) rfl (fun ls hl => ?_)
        refine lv_aload_n hx hb dX8_findAtom_62 rfl (lv_at hl 1 rfl) ?_
        refine va_get (D := (dC, dI)) (ci := 8) (v := .ref (ad 5)) (C := RX8) (T := TX8) (N := 78) hx hb hts ki8 hown hK hP 0 rfl rfl 10 (by decide) kf24 (fun _ h9 => h9) rfl dX8_findAtom_63 ?_
        refine lv_iload_n hx hb dX8_findAtom_66 rfl (lv_at hl 3 rfl) ?_
        refine va_iald (f := (aM 10)) hx hb hK hP 5 0 rfl rfl g_68 dX8_findAtom_67 ?_
        refine lv_istore_n (lv' := [(3, .int (((aM 10) v3.toNatClampNeg))), (2, .int ((1 : Int32))), (0, .ref (ad 0)), (1, .int v1)]) hx hb dX8_findAtom_68 rfl hl (by decide) rfl (fun ls hl => ?_)
        refine lv_iconst (v := 0) hx hb dX8_findAtom_69 (by decide) ?_
        refine lv_istore (lv' := [(4, .int ((0 : Int32))), (3, .int (((aM 10) v3.toNatClampNeg))), (2, .int ((1 : Int32))), (0, .ref (ad 0)), (1, .int v1)]) hx hb dX8_findAtom_70 hl (by decide) rfl (fun ls hl => ?_)
        exact B72 N v1 ((1 : Int32)) (((aM 10) v3.toNatClampNeg)) ((0 : Int32)) (aM 11) (aM 50) (aM 51) H locs ls h hP hD hS (lv_sub hl [3, 4, 2, 1, 0] rfl)
  have B15 : ∀ (v1 : Int32) (s0 : Int32) (H : Heap) (locs : List Loc) (ls : Array Slot), f_M_findAtom_15 N (iM 45) (iM 46) (iM 47) (aM 8) (aM 9) (aM 10) (aM 11) (aM 12) (aM 32) (aM 33) (aM 34) (aM 35) (aM 50) (aM 51) v1 s0 = some q → va_P (dC, dI) vwCl (zzM ad cy iM aM) H → va_D A (zzM ad cy iM aM) → va_S A s.heap H locs → lv_has ls 5 [(0, .ref (ad 0)), (1, .int v1)] → W p l e ({ frames := 2, cells := 0, slots := 0, locals := 47 } : Room) s m args below meth c H locs 0 0 QQ (F0 m 15 ls [.int s0]) := by
    intro v1 s0 H locs ls h hP hD hS hl
    unfold f_M_findAtom_15 at h
    refine lv_istore_n (lv' := [(2, .int s0), (0, .ref (ad 0)), (1, .int v1)]) hx hb dX8_findAtom_15 rfl hl (by decide) rfl (fun ls hl => ?_)
    refine lv_aload_n hx hb dX8_findAtom_16 rfl (lv_at hl 1 rfl) ?_
    refine va_get (D := (dC, dI)) (ci := 8) (v := .ref (ad 5)) (C := RX8) (T := TX8) (N := 78) hx hb hts ki8 hown hK hP 0 rfl rfl 10 (by decide) kf24 (fun _ h9 => h9) rfl dX8_findAtom_17 ?_
    refine lv_iload_n hx hb dX8_findAtom_20 rfl (lv_at hl 2 rfl) ?_
    obtain ⟨g_62, h⟩ := g_n h
    refine va_iald (f := (aM 10)) hx hb hK hP 5 0 rfl rfl g_62 dX8_findAtom_21 ?_
    refine lv_istore_n (lv' := [(3, .int (((aM 10) v1.toNatClampNeg))), (2, .int s0), (0, .ref (ad 0)), (1, .int v1)]) hx hb dX8_findAtom_22 rfl hl (by decide) rfl (fun ls hl => ?_)
    refine lv_iload_n hx hb dX8_findAtom_23 rfl (lv_at hl 1 rfl) ?_
    refine lv_if_eq (tgt := 46) hx hb dX8_findAtom_24 (by decide) (fun cz => ?_) (fun cz => ?_)
    · have h := g_t h cz
      exact B46 v1 s0 (((aM 10) v1.toNatClampNeg)) H locs ls h hP hD hS (lv_sub hl [2, 3, 1, 0] rfl)
    · have h := g_f h cz
      refine lv_aload_n hx hb dX8_findAtom_27 rfl (lv_at hl 2 rfl) ?_
      refine va_get (D := (dC, dI)) (ci := 8) (v := .ref (ad 3)) (C := RX8) (T := TX8) (N := 78) hx hb hts ki8 hown hK hP 0 rfl rfl 8 (by decide) kf17 (fun _ h9 => h9) rfl dX8_findAtom_28 ?_
      refine lv_iload_n hx hb dX8_findAtom_31 rfl (lv_at hl 0 rfl) ?_
      obtain ⟨g_75, h⟩ := g_n h
      refine va_iald (f := (aM 8)) hx hb hK hP 3 0 rfl rfl g_75 dX8_findAtom_32 ?_
      refine lv_iconst (v := 3) hx hb dX8_findAtom_33 (by decide) ?_
      refine lv_icmp_ne (tgt := 46) hx hb dX8_findAtom_34 (by decide) (fun cz => ?_) (fun cz => ?_)
      · have h := g_f h cz
        exact B46 v1 s0 (((aM 10) v1.toNatClampNeg)) H locs ls h hP hD hS (lv_sub hl [2, 3, 1, 0] rfl)
      · have h := g_t h cz
        refine lv_iconst (v := 0) hx hb dX8_findAtom_37 (by decide) ?_
        refine lv_istore_n (lv' := [(2, .int ((0 : Int32))), (3, .int (((aM 10) v1.toNatClampNeg))), (0, .ref (ad 0)), (1, .int v1)]) hx hb dX8_findAtom_38 rfl hl (by decide) rfl (fun ls hl => ?_)
        refine lv_aload_n hx hb dX8_findAtom_39 rfl (lv_at hl 2 rfl) ?_
        refine va_get (D := (dC, dI)) (ci := 8) (v := .ref (ad 5)) (C := RX8) (T := TX8) (N := 78) hx hb hts ki8 hown hK hP 0 rfl rfl 10 (by decide) kf24 (fun _ h9 => h9) rfl dX8_findAtom_40 ?_
        refine lv_iload_n hx hb dX8_findAtom_43 rfl (lv_at hl 1 rfl) ?_
        refine va_iald (f := (aM 10)) hx hb hK hP 5 0 rfl rfl g_75 dX8_findAtom_44 ?_
        refine lv_istore_n (lv' := [(3, .int (((aM 10) (((aM 10) v1.toNatClampNeg)).toNatClampNeg))), (2, .int ((0 : Int32))), (0, .ref (ad 0)), (1, .int v1)]) hx hb dX8_findAtom_45 rfl hl (by decide) rfl (fun ls hl => ?_)
        exact B46 v1 ((0 : Int32)) (((aM 10) (((aM 10) v1.toNatClampNeg)).toNatClampNeg)) H locs ls h hP hD hS (lv_sub hl [2, 3, 1, 0] rfl)
  intro H locs hP hD hS
  unfold f_M_findAtom at h
  refine lv_aload_n hx hb dX8_findAtom_0 rfl (lv_at hl 0 rfl) ?_
  refine va_get (D := (dC, dI)) (ci := 8) (v := .ref (ad 3)) (C := RX8) (T := TX8) (N := 78) hx hb hts ki8 hown hK hP 0 rfl rfl 8 (by decide) kf17 (fun _ h9 => h9) rfl dX8_findAtom_1 ?_
  refine lv_iload_n hx hb dX8_findAtom_4 rfl (lv_at hl 1 rfl) ?_
  obtain ⟨g_60, h⟩ := g_n h
  refine va_iald (f := (aM 8)) hx hb hK hP 3 0 rfl rfl g_60 dX8_findAtom_5 ?_
  refine lv_iconst (v := 5) hx hb dX8_findAtom_6 (by decide) ?_
  refine lv_icmp_ne (tgt := 14) hx hb dX8_findAtom_7 (by decide) (fun cz => ?_) (fun cz => ?_)
  · have h := g_f h cz
    refine lv_iconst (v := 0) hx hb dX8_findAtom_14 (by decide) ?_
    exact B15 a1 ((0 : Int32)) H locs ls h hP hD hS (lv_sub hl [0, 1] rfl)
  · have h := g_t h cz
    refine lv_iconst (v := 1) hx hb dX8_findAtom_10 (by decide) ?_
    refine lv_goto (tgt := 15) hx hb dX8_findAtom_11 (by decide) ?_
    exact B15 a1 ((1 : Int32)) H locs ls h hP hD hS (lv_sub hl [0, 1] rfl)
set_option maxHeartbeats 8000000 in
set_option maxRecDepth 100000 in
theorem c_M_ended (l : Launch) (dC : Nat → ClassId) (dI : Nat → Nat → Nat) (cy : Nat → ClassId) (ad : Nat → Nat) (sz : Nat) (a1 : Int32) (iM : Nat → Int32) (aM : Nat → Nat → Int32) (q : Int32 × (Nat → Int32)) (h : f_M_ended a1 (iM 39) (aM 13) = some q) : Met l yX8_ended wsX8_ended ({ frames := 0, cells := 0, slots := 0, locals := 0 } : Room) (cP (dC, dI) cy [.ref (ad 0), .int a1] (zzM ad cy iM aM) sz) (cQv (dC, dI) cy (zzM ad cy (us iM [(39, q.1)]) (us aM [(13, q.2)])) (va_A (zzM ad cy iM aM) sz)) 0 0 (va_A (zzM ad cy iM aM) sz) := by
  refine Met.ofW (cc := cX8_ended) (maxL := 2) (ret := none) (by decide) rfl ?_
  intro p e s m args below meth c s₁ B hml hv
  obtain ⟨hav, hsz, hP, hK, hD0, hN⟩ := hv
  have hx := B.exec
  have hb := B.bytes
  have hr := B.returns
  have hts := atoms_spec (ws := wsX8_ended) B.pre
  have hown : s.vm.findClass RX8 = some m.cls := findClass_of_methodNamed B.named
  have hlocks := B.notSynchronized
  subst hsz
  have hD := hD0.self (sz := s.heap.size)
  generalize hAe : va_A (zzM ad cy iM aM) s.heap.size = A at hD ⊢
  have hA : ∀ q : Nat, s.heap.size ≤ q → A q := fun q h => by rw [← hAe]; exact Or.inr h
  have hS : va_S A s.heap s.heap [] := va_S.rf
  generalize hWQ : (zzM ad cy (us iM [(39, q.1)]) (us aM [(13, q.2)])) = WQ
  generalize hQQ : MQ below (cQv (dC, dI) cy WQ A) args s 0 0 A = QQ
  have hl := lv_entry ([.ref (ad 0), .int a1] : List Value) (n := 2) (Nat.le_of_ble_eq_true rfl)
  have hfr := lg_entry_eq m ([.ref (ad 0), .int a1] : List Value) 2
  rw [← hav] at hfr
  rw [hfr]
  clear hfr hav
  generalize (lg_sl ([.ref (ad 0), .int a1] : List Value) ++ List.replicate (2 - (lg_sl ([.ref (ad 0), .int a1] : List Value)).length) Slot.unset).toArray = ls at hl ⊢
  have hl : lv_has ls 2 [(0, .ref (ad 0)), (1, .int a1)] := hl
  have kf33 := hts _ (List.mem_cons_of_mem _ m_fl_X8_33)
  have ki8 := (fun w h => List.mem_cons_of_mem _ (i_X8 w h) : ∀ w ∈ u_ws RX8 TX8 78, w ∈ wsX8_ended)
  have kf245 := hts _ (List.mem_cons_of_mem _ m_fl_X8_245)
  refine (?_ : ∀ (H : Heap) (locs : List Loc), va_P (dC, dI) vwCl (zzM ad cy iM aM) H → va_D A (zzM ad cy iM aM) → va_S A s.heap H locs → W p l e ({ frames := 0, cells := 0, slots := 0, locals := 0 } : Room) s m args below meth c H locs 0 0 QQ (F0 m 0 ls [])) s.heap [] hP hD hS
  clear hP hD hS
  intro H locs hP hD hS
  unfold f_M_ended at h
  refine lv_aload_n hx hb dX8_ended_0 rfl (lv_at hl 0 rfl) ?_
  refine va_get (D := (dC, dI)) (ci := 8) (v := .ref (ad 8)) (C := RX8) (T := TX8) (N := 78) hx hb hts ki8 hown hK hP 0 rfl rfl 13 (by decide) kf33 (fun _ h9 => h9) rfl dX8_ended_1 ?_
  refine lv_sipush (v := 200) hx hb dX8_ended_4 (by decide) ?_
  refine lv_aload_n hx hb dX8_ended_7 rfl (lv_at hl 0 rfl) ?_
  refine va_get (D := (dC, dI)) (ci := 8) (v := .int (iM 39)) (C := RX8) (T := TX8) (N := 78) hx hb hts ki8 hown hK hP 0 rfl rfl 39 (by decide) kf245 (fun _ h9 => h9) rfl dX8_ended_8 ?_
  refine lv_iadd hx hb dX8_ended_11 ?_
  refine lv_iload_n hx hb dX8_ended_12 rfl (lv_at hl 1 rfl) ?_
  obtain ⟨g_76, h⟩ := g_n h
  refine va_iast (f := (aM 13)) hx hb hK hP hD hS 8 0 rfl rfl g_76 dX8_ended_13 (fun H locs hP hD hS => ?_)
  have hP : va_P (dC, dI) vwCl (zzM ad cy iM (us aM [(13, (upd (aM 13) (((200 : Int32) + (iM 39))).toNatClampNeg a1))])) H := Eq.mp (congrArg (fun w => va_P (dC, dI) vwCl w H) (sfM_aM13 ad cy iM aM ((upd (aM 13) (((200 : Int32) + (iM 39))).toNatClampNeg a1)))) hP
  have hD : va_D A (zzM ad cy iM (us aM [(13, (upd (aM 13) (((200 : Int32) + (iM 39))).toNatClampNeg a1))])) := Eq.mp (congrArg (fun w => va_D A w) (sfM_aM13 ad cy iM aM ((upd (aM 13) (((200 : Int32) + (iM 39))).toNatClampNeg a1)))) hD
  refine lv_aload_n hx hb dX8_ended_14 rfl (lv_at hl 0 rfl) ?_
  refine lv_dup hx hb dX8_ended_15 rfl ?_
  refine va_get (D := (dC, dI)) (ci := 8) (v := .int (iM 39)) (C := RX8) (T := TX8) (N := 78) hx hb hts ki8 hown hK hP 0 rfl rfl 39 (by decide) kf245 (fun _ h9 => h9) rfl dX8_ended_16 ?_
  refine lv_iconst (v := 1) hx hb dX8_ended_19 (by decide) ?_
  refine lv_iadd hx hb dX8_ended_20 ?_
  refine va_put (D := (dC, dI)) (ci := 8) (v := .int (((iM 39) + (1 : Int32)))) (ty := .int) (C := RX8) (T := TX8) (N := 78) hx hb hts ki8 tyX8 tyX8_ok nmX8 hown hK hP hD hS 0 rfl rfl 39 (by decide) kf245 (fun _ h9 => h9) rfl (by decide +kernel) rfl rfl (Nat.le_of_ble_eq_true rfl) dX8_ended_21 (fun H locs hP hD hS => ?_)
  have hP : va_P (dC, dI) vwCl (zzM ad cy (us iM [(39, ((iM 39) + (1 : Int32)))]) (us aM [(13, (upd (aM 13) (((200 : Int32) + (iM 39))).toNatClampNeg a1))])) H := Eq.mp (congrArg (fun w => va_P (dC, dI) vwCl w H) (sfM_iM39 ad cy iM (us aM [(13, (upd (aM 13) (((200 : Int32) + (iM 39))).toNatClampNeg a1))]) (((iM 39) + (1 : Int32))))) hP
  have hD : va_D A (zzM ad cy (us iM [(39, ((iM 39) + (1 : Int32)))]) (us aM [(13, (upd (aM 13) (((200 : Int32) + (iM 39))).toNatClampNeg a1))])) := Eq.mp (congrArg (fun w => va_D A w) (sfM_iM39 ad cy iM (us aM [(13, (upd (aM 13) (((200 : Int32) + (iM 39))).toNatClampNeg a1))]) (((iM 39) + (1 : Int32))))) hD
  have h' := Option.some.inj h
  rw [← hQQ]
  exact W.vret hx hb hr (fun t ht hW => ⟨⟨(), rfl, trivial, by rw [← hWQ, ← h', ht]; exact hP, va_K.moved hW.alike hK⟩, hS.F ht⟩) hS.2.2 dX8_ended_24
set_option maxHeartbeats 8000000 in
set_option maxRecDepth 100000 in
theorem c_M_wait (l : Launch) (dC : Nat → ClassId) (dI : Nat → Nat → Nat) (cy : Nat → ClassId) (ad : Nat → Nat) (sz : Nat) (a1 : Int32) (a2 : Int32) (iM : Nat → Int32) (aM : Nat → Nat → Int32) (q : Int32 × (Nat → Int32) × (Nat → Int32)) (h : f_M_wait a1 a2 (iM 54) (aM 52) (aM 53) = some q) : Met l yX8_wait wsX8_wait ({ frames := 0, cells := 0, slots := 0, locals := 0 } : Room) (cP (dC, dI) cy [.ref (ad 0), .int a1, .int a2] (zzM ad cy iM aM) sz) (cQv (dC, dI) cy (zzM ad cy (us iM [(54, q.1)]) (us aM [(52, q.2.1), (53, q.2.2)])) (va_A (zzM ad cy iM aM) sz)) 0 0 (va_A (zzM ad cy iM aM) sz) := by
  refine Met.ofW (cc := cX8_wait) (maxL := 3) (ret := none) (by decide) rfl ?_
  intro p e s m args below meth c s₁ B hml hv
  obtain ⟨hav, hsz, hP, hK, hD0, hN⟩ := hv
  have hx := B.exec
  have hb := B.bytes
  have hr := B.returns
  have hts := atoms_spec (ws := wsX8_wait) B.pre
  have hown : s.vm.findClass RX8 = some m.cls := findClass_of_methodNamed B.named
  have hlocks := B.notSynchronized
  subst hsz
  have hD := hD0.self (sz := s.heap.size)
  generalize hAe : va_A (zzM ad cy iM aM) s.heap.size = A at hD ⊢
  have hA : ∀ q : Nat, s.heap.size ≤ q → A q := fun q h => by rw [← hAe]; exact Or.inr h
  have hS : va_S A s.heap s.heap [] := va_S.rf
  generalize hWQ : (zzM ad cy (us iM [(54, q.1)]) (us aM [(52, q.2.1), (53, q.2.2)])) = WQ
  generalize hQQ : MQ below (cQv (dC, dI) cy WQ A) args s 0 0 A = QQ
  have hl := lv_entry ([.ref (ad 0), .int a1, .int a2] : List Value) (n := 3) (Nat.le_of_ble_eq_true rfl)
  have hfr := lg_entry_eq m ([.ref (ad 0), .int a1, .int a2] : List Value) 3
  rw [← hav] at hfr
  rw [hfr]
  clear hfr hav
  generalize (lg_sl ([.ref (ad 0), .int a1, .int a2] : List Value) ++ List.replicate (3 - (lg_sl ([.ref (ad 0), .int a1, .int a2] : List Value)).length) Slot.unset).toArray = ls at hl ⊢
  have hl : lv_has ls 3 [(0, .ref (ad 0)), (1, .int a1), (2, .int a2)] := hl
  have kf95 := hts _ (List.mem_cons_of_mem _ m_fl_X8_95)
  have ki8 := (fun w h => List.mem_cons_of_mem _ (i_X8 w h) : ∀ w ∈ u_ws RX8 TX8 78, w ∈ wsX8_wait)
  have kf248 := hts _ (List.mem_cons_of_mem _ m_fl_X8_248)
  have kf98 := hts _ (List.mem_cons_of_mem _ m_fl_X8_98)
  refine (?_ : ∀ (H : Heap) (locs : List Loc), va_P (dC, dI) vwCl (zzM ad cy iM aM) H → va_D A (zzM ad cy iM aM) → va_S A s.heap H locs → W p l e ({ frames := 0, cells := 0, slots := 0, locals := 0 } : Room) s m args below meth c H locs 0 0 QQ (F0 m 0 ls [])) s.heap [] hP hD hS
  clear hP hD hS
  intro H locs hP hD hS
  unfold f_M_wait at h
  refine lv_aload_n hx hb dX8_wait_0 rfl (lv_at hl 0 rfl) ?_
  refine va_get (D := (dC, dI)) (ci := 8) (v := .ref (ad 27)) (C := RX8) (T := TX8) (N := 78) hx hb hts ki8 hown hK hP 0 rfl rfl 52 (by decide) kf95 (fun _ h9 => h9) rfl dX8_wait_1 ?_
  refine lv_aload_n hx hb dX8_wait_4 rfl (lv_at hl 0 rfl) ?_
  refine va_get (D := (dC, dI)) (ci := 8) (v := .int (iM 54)) (C := RX8) (T := TX8) (N := 78) hx hb hts ki8 hown hK hP 0 rfl rfl 54 (by decide) kf248 (fun _ h9 => h9) rfl dX8_wait_5 ?_
  refine lv_iload_n hx hb dX8_wait_8 rfl (lv_at hl 1 rfl) ?_
  obtain ⟨g_77, h⟩ := g_n h
  refine va_iast (f := (aM 52)) hx hb hK hP hD hS 27 0 rfl rfl g_77 dX8_wait_9 (fun H locs hP hD hS => ?_)
  have hP : va_P (dC, dI) vwCl (zzM ad cy iM (us aM [(52, (upd (aM 52) (iM 54).toNatClampNeg a1))])) H := Eq.mp (congrArg (fun w => va_P (dC, dI) vwCl w H) (sfM_aM52 ad cy iM aM ((upd (aM 52) (iM 54).toNatClampNeg a1)))) hP
  have hD : va_D A (zzM ad cy iM (us aM [(52, (upd (aM 52) (iM 54).toNatClampNeg a1))])) := Eq.mp (congrArg (fun w => va_D A w) (sfM_aM52 ad cy iM aM ((upd (aM 52) (iM 54).toNatClampNeg a1)))) hD
  refine lv_aload_n hx hb dX8_wait_10 rfl (lv_at hl 0 rfl) ?_
  refine va_get (D := (dC, dI)) (ci := 8) (v := .ref (ad 28)) (C := RX8) (T := TX8) (N := 78) hx hb hts ki8 hown hK hP 0 rfl rfl 53 (by decide) kf98 (fun _ h9 => h9) rfl dX8_wait_11 ?_
  refine lv_aload_n hx hb dX8_wait_14 rfl (lv_at hl 0 rfl) ?_
  refine va_get (D := (dC, dI)) (ci := 8) (v := .int (iM 54)) (C := RX8) (T := TX8) (N := 78) hx hb hts ki8 hown hK hP 0 rfl rfl 54 (by decide) kf248 (fun _ h9 => h9) rfl dX8_wait_15 ?_
  refine lv_iload_n hx hb dX8_wait_18 rfl (lv_at hl 2 rfl) ?_
  refine va_iast (f := (aM 53)) hx hb hK hP hD hS 28 0 rfl rfl g_77 dX8_wait_19 (fun H locs hP hD hS => ?_)
  have hP : va_P (dC, dI) vwCl (zzM ad cy iM (us aM [(52, (upd (aM 52) (iM 54).toNatClampNeg a1)), (53, (upd (aM 53) (iM 54).toNatClampNeg a2))])) H := Eq.mp (congrArg (fun w => va_P (dC, dI) vwCl w H) (stM_aM53 ad cy iM aM [(52, (upd (aM 52) (iM 54).toNatClampNeg a1))] ((upd (aM 53) (iM 54).toNatClampNeg a2)))) hP
  have hD : va_D A (zzM ad cy iM (us aM [(52, (upd (aM 52) (iM 54).toNatClampNeg a1)), (53, (upd (aM 53) (iM 54).toNatClampNeg a2))])) := Eq.mp (congrArg (fun w => va_D A w) (stM_aM53 ad cy iM aM [(52, (upd (aM 52) (iM 54).toNatClampNeg a1))] ((upd (aM 53) (iM 54).toNatClampNeg a2)))) hD
  refine lv_aload_n hx hb dX8_wait_20 rfl (lv_at hl 0 rfl) ?_
  refine lv_dup hx hb dX8_wait_21 rfl ?_
  refine va_get (D := (dC, dI)) (ci := 8) (v := .int (iM 54)) (C := RX8) (T := TX8) (N := 78) hx hb hts ki8 hown hK hP 0 rfl rfl 54 (by decide) kf248 (fun _ h9 => h9) rfl dX8_wait_22 ?_
  refine lv_iconst (v := 1) hx hb dX8_wait_25 (by decide) ?_
  refine lv_iadd hx hb dX8_wait_26 ?_
  refine va_put (D := (dC, dI)) (ci := 8) (v := .int (((iM 54) + (1 : Int32)))) (ty := .int) (C := RX8) (T := TX8) (N := 78) hx hb hts ki8 tyX8 tyX8_ok nmX8 hown hK hP hD hS 0 rfl rfl 54 (by decide) kf248 (fun _ h9 => h9) rfl (by decide +kernel) rfl rfl (Nat.le_of_ble_eq_true rfl) dX8_wait_27 (fun H locs hP hD hS => ?_)
  have hP : va_P (dC, dI) vwCl (zzM ad cy (us iM [(54, ((iM 54) + (1 : Int32)))]) (us aM [(52, (upd (aM 52) (iM 54).toNatClampNeg a1)), (53, (upd (aM 53) (iM 54).toNatClampNeg a2))])) H := Eq.mp (congrArg (fun w => va_P (dC, dI) vwCl w H) (sfM_iM54 ad cy iM (us aM [(52, (upd (aM 52) (iM 54).toNatClampNeg a1)), (53, (upd (aM 53) (iM 54).toNatClampNeg a2))]) (((iM 54) + (1 : Int32))))) hP
  have hD : va_D A (zzM ad cy (us iM [(54, ((iM 54) + (1 : Int32)))]) (us aM [(52, (upd (aM 52) (iM 54).toNatClampNeg a1)), (53, (upd (aM 53) (iM 54).toNatClampNeg a2))])) := Eq.mp (congrArg (fun w => va_D A w) (sfM_iM54 ad cy iM (us aM [(52, (upd (aM 52) (iM 54).toNatClampNeg a1)), (53, (upd (aM 53) (iM 54).toNatClampNeg a2))]) (((iM 54) + (1 : Int32))))) hD
  have h' := Option.some.inj h
  rw [← hQQ]
  exact W.vret hx hb hr (fun t ht hW => ⟨⟨(), rfl, trivial, by rw [← hWQ, ← h', ht]; exact hP, va_K.moved hW.alike hK⟩, hS.F ht⟩) hS.2.2 dX8_wait_30
set_option maxHeartbeats 8000000 in
set_option maxRecDepth 100000 in
theorem c_M_stand (l : Launch) (dC : Nat → ClassId) (dI : Nat → Nat → Nat) (cy : Nat → ClassId) (ad : Nat → Nat) (sz : Nat) (N : Nat) (a1 : Int32) (iM : Nat → Int32) (aM : Nat → Nat → Int32) (q : (Nat → Int32) × (Nat → Nat → Int32)) (h : f_M_stand N a1 iM aM = some q) : Met l yX8_stand wsX8_stand ({ frames := 3, cells := 0, slots := 0, locals := 71 } : Room) (cP (dC, dI) cy [.ref (ad 0), .int a1] (zzM ad cy iM aM) sz) (cQv (dC, dI) cy (zzM ad cy q.1 q.2) (va_A (zzM ad cy iM aM) sz)) 0 0 (va_A (zzM ad cy iM aM) sz) := by
  refine Met.ofW (cc := cX8_stand) (maxL := 3) (ret := none) (by decide) rfl ?_
  intro p e s m args below meth c s₁ B hml hv
  obtain ⟨hav, hsz, hP, hK, hD0, hN⟩ := hv
  have hx := B.exec
  have hb := B.bytes
  have hr := B.returns
  have hts := atoms_spec (ws := wsX8_stand) B.pre
  have hown : s.vm.findClass RX8 = some m.cls := findClass_of_methodNamed B.named
  have hlocks := B.notSynchronized
  subst hsz
  have hD := hD0.self (sz := s.heap.size)
  generalize hAe : va_A (zzM ad cy iM aM) s.heap.size = A at hD ⊢
  have hA : ∀ q : Nat, s.heap.size ≤ q → A q := fun q h => by rw [← hAe]; exact Or.inr h
  have hS : va_S A s.heap s.heap [] := va_S.rf
  generalize hWQ : (zzM ad cy q.1 q.2) = WQ
  generalize hQQ : MQ below (cQv (dC, dI) cy WQ A) args s 0 0 A = QQ
  have hl := lv_entry ([.ref (ad 0), .int a1] : List Value) (n := 3) (Nat.le_of_ble_eq_true rfl)
  have hfr := lg_entry_eq m ([.ref (ad 0), .int a1] : List Value) 3
  rw [← hav] at hfr
  rw [hfr]
  clear hfr hav
  generalize (lg_sl ([.ref (ad 0), .int a1] : List Value) ++ List.replicate (3 - (lg_sl ([.ref (ad 0), .int a1] : List Value)).length) Slot.unset).toArray = ls at hl ⊢
  have hl : lv_has ls 3 [(0, .ref (ad 0)), (1, .int a1)] := hl
  have kf251 := hts _ (List.mem_cons_of_mem _ m_fl_X8_251)
  have ki8 := (fun w h => List.mem_cons_of_mem _ (i_X8 w h) : ∀ w ∈ u_ws RX8 TX8 78, w ∈ wsX8_stand)
  have kf263 := hts _ (List.mem_cons_of_mem _ m_fl_X8_263)
  have kf95 := hts _ (List.mem_cons_of_mem _ m_fl_X8_95)
  have kf248 := hts _ (List.mem_cons_of_mem _ m_fl_X8_248)
  have kf254 := hts _ (List.mem_cons_of_mem _ m_fl_X8_254)
  have kf98 := hts _ (List.mem_cons_of_mem _ m_fl_X8_98)
  have kf24 := hts _ (List.mem_cons_of_mem _ m_fl_X8_24)
  have kf17 := hts _ (List.mem_cons_of_mem _ m_fl_X8_17)
  refine (?_ : ∀ (H : Heap) (locs : List Loc), va_P (dC, dI) vwCl (zzM ad cy iM aM) H → va_D A (zzM ad cy iM aM) → va_S A s.heap H locs → W p l e ({ frames := 3, cells := 0, slots := 0, locals := 71 } : Room) s m args below meth c H locs 0 0 QQ (F0 m 0 ls [])) s.heap [] hP hD hS
  clear hP hD hS
  have B87 : ∀ (v2 : Int32) (x_iM : Nat → Int32) (x_aM : Nat → Nat → Int32) (k5 : (Nat → Int32) → (Nat → Nat → Int32) → Option ((Nat → Int32) × (Nat → Nat → Int32))) (hk5 : ∀ (x_iM' : Nat → Int32) (x_aM' : Nat → Nat → Int32) (H : Heap) (locs : List Loc) (ls : Array Slot), k5 x_iM' x_aM' = some q → va_P (dC, dI) vwCl (zzM ad cy x_iM' x_aM') H → va_D A (zzM ad cy x_iM' x_aM') → va_S A s.heap H locs → lv_has ls 3 [(0, .ref (ad 0))] → W p l e ({ frames := 3, cells := 0, slots := 0, locals := 71 } : Room) s m args below meth c H locs 0 0 QQ (F0 m 5 ls [])) (H : Heap) (locs : List Loc) (ls : Array Slot), f_M_stand_87 N iM aM k5 v2 x_iM x_aM = some q → va_P (dC, dI) vwCl (zzM ad cy x_iM x_aM) H → va_D A (zzM ad cy x_iM x_aM) → va_S A s.heap H locs → lv_has ls 3 [(0, .ref (ad 0)), (2, .int v2)] → W p l e ({ frames := 3, cells := 0, slots := 0, locals := 71 } : Room) s m args below meth c H locs 0 0 QQ (F0 m 87 ls []) := by
    intro v2 x_iM x_aM k5 hk5 H locs ls h hP hD hS hl
    unfold f_M_stand_87 at h
    refine lv_aload_n hx hb dX8_stand_87 rfl (lv_at hl 0 rfl) ?_
    refine lv_iload_n hx hb dX8_stand_88 rfl (lv_at hl 1 rfl) ?_
    refine va_put (D := (dC, dI)) (ci := 8) (v := .int v2) (ty := .int) (C := RX8) (T := TX8) (N := 78) hx hb hts ki8 tyX8 tyX8_ok nmX8 hown hK hP hD hS 0 rfl rfl 55 (by decide) kf251 (fun _ h9 => h9) rfl (by decide +kernel) rfl rfl (Nat.le_of_ble_eq_true rfl) dX8_stand_89 (fun H locs hP hD hS => ?_)
    have hP : va_P (dC, dI) vwCl (zzM ad cy (us x_iM [(55, v2)]) x_aM) H := Eq.mp (congrArg (fun w => va_P (dC, dI) vwCl w H) (sfM_iM55 ad cy x_iM x_aM v2)) hP
    have hD : va_D A (zzM ad cy (us x_iM [(55, v2)]) x_aM) := Eq.mp (congrArg (fun w => va_D A w) (sfM_iM55 ad cy x_iM x_aM v2)) hD
    refine lv_goto (tgt := 5) hx hb dX8_stand_92 (by decide) ?_
    exact hk5 ((us x_iM [(55, v2)])) x_aM H locs ls h hP hD hS (lv_sub hl [0] rfl)
  have B95 : ∀ (x_iM : Nat → Int32) (x_aM : Nat → Nat → Int32) (H : Heap) (locs : List Loc) (ls : Array Slot), f_M_stand_95 N iM aM x_iM x_aM = some q → va_P (dC, dI) vwCl (zzM ad cy x_iM x_aM) H → va_D A (zzM ad cy x_iM x_aM) → va_S A s.heap H locs → lv_has ls 3 [(0, .ref (ad 0))] → W p l e ({ frames := 3, cells := 0, slots := 0, locals := 71 } : Room) s m args below meth c H locs 0 0 QQ (F0 m 95 ls []) := by
    intro x_iM x_aM H locs ls h hP hD hS hl
    unfold f_M_stand_95 at h
    refine lv_aload_n hx hb dX8_stand_95 rfl (lv_at hl 0 rfl) ?_
    refine lv_iconst (v := 0) hx hb dX8_stand_96 (by decide) ?_
    refine va_put (D := (dC, dI)) (ci := 8) (v := .int ((0 : Int32))) (ty := .boolean) (C := RX8) (T := TX8) (N := 78) hx hb hts ki8 tyX8 tyX8_ok nmX8 hown hK hP hD hS 0 rfl rfl 56 (by decide) kf263 (fun _ h9 => h9) rfl (by decide +kernel) rfl rfl (Nat.le_of_ble_eq_true rfl) dX8_stand_97 (fun H locs hP hD hS => ?_)
    have hP : va_P (dC, dI) vwCl (zzM ad cy (us x_iM [(56, (0 : Int32))]) x_aM) H := Eq.mp (congrArg (fun w => va_P (dC, dI) vwCl w H) (sfM_iM56 ad cy x_iM x_aM ((0 : Int32)))) hP
    have hD : va_D A (zzM ad cy (us x_iM [(56, (0 : Int32))]) x_aM) := Eq.mp (congrArg (fun w => va_D A w) (sfM_iM56 ad cy x_iM x_aM ((0 : Int32)))) hD
    have h' := Option.some.inj h
    rw [← hQQ]
    exact W.vret hx hb hr (fun t ht hW => ⟨⟨(), rfl, trivial, by rw [← hWQ, ← h', ht]; exact hP, va_K.moved hW.alike hK⟩, hS.F ht⟩) hS.2.2 dX8_stand_100
  have B5 : ∀ (n : Nat) (x_iM : Nat → Int32) (x_aM : Nat → Nat → Int32) (H : Heap) (locs : List Loc) (ls : Array Slot), f_M_stand_5 N iM aM n x_iM x_aM = some q → va_P (dC, dI) vwCl (zzM ad cy x_iM x_aM) H → va_D A (zzM ad cy x_iM x_aM) → va_S A s.heap H locs → lv_has ls 3 [(0, .ref (ad 0))] → W p l e ({ frames := 3, cells := 0, slots := 0, locals := 71 } : Room) s m args below meth c H locs 0 0 QQ (F0 m 5 ls []) := by
    intro n
    induction n with
    | zero =>
      intro x_iM x_aM H locs ls h hP hD hS hl
      rw [f_M_stand_5] at h
      cases h
    | succ n ih =>
      intro x_iM x_aM H locs ls h hP hD hS hl
      rw [f_M_stand_5] at h
      refine lv_aload_n hx hb dX8_stand_5 rfl (lv_at hl 0 rfl) ?_
      obtain ⟨q6, e6, h⟩ := g_b h
      refine callVis (cc := cX8_stand) (w1 := zzM ad cy x_iM x_aM) (As := []) (rest := []) ⟨hx, hb, hml, hown, hts⟩ (c_M_fine l dC dI cy ad H.size x_iM x_aM q6 e6) (cwV 0 hts (goodV m_ml_X8_198 m_im_X8_fine m_se_X8_fine m_in_X8 m_cd_X8_fine) rfl rfl rfl (by decide +kernel) ⟨Nat.le_of_ble_eq_true rfl, Nat.le_of_ble_eq_true rfl⟩) hN hK hP hD hS hA rfl 0 rfl rfl rfl hl.1 rfl (Nat.le_of_ble_eq_true rfl) dX8_stand_6 ⟨Nat.zero_le _, Nat.zero_le _⟩ (fun H locs hP hD hS => ?_)
      refine lv_if_eq (tgt := 95) hx hb dX8_stand_9 (by decide) (fun cz => ?_) (fun cz => ?_)
      · have h := g_t h cz
        exact B95 x_iM x_aM H locs ls h hP hD hS (lv_sub hl [0] rfl)
      · have h := g_f h cz
        refine lv_aload_n hx hb dX8_stand_12 rfl (lv_at hl 0 rfl) ?_
        refine va_get (D := (dC, dI)) (ci := 8) (v := .ref (ad 27)) (C := RX8) (T := TX8) (N := 78) hx hb hts ki8 hown hK hP 0 rfl rfl 52 (by decide) kf95 (fun _ h9 => h9) rfl dX8_stand_13 ?_
        refine lv_aload_n hx hb dX8_stand_16 rfl (lv_at hl 0 rfl) ?_
        refine va_get (D := (dC, dI)) (ci := 8) (v := .int ((x_iM 54))) (C := RX8) (T := TX8) (N := 78) hx hb hts ki8 hown hK hP 0 rfl rfl 54 (by decide) kf248 (fun _ h9 => h9) rfl dX8_stand_17 ?_
        refine lv_iconst (v := 1) hx hb dX8_stand_20 (by decide) ?_
        refine lv_isub hx hb dX8_stand_21 ?_
        obtain ⟨g_78, h⟩ := g_n h
        refine va_iald (f := (x_aM 52)) hx hb hK hP 27 0 rfl rfl g_78 dX8_stand_22 ?_
        refine lv_iconst (v := 2) hx hb dX8_stand_23 (by decide) ?_
        refine lv_icmp_ne (tgt := 95) hx hb dX8_stand_24 (by decide) (fun cz => ?_) (fun cz => ?_)
        · have h := g_f h cz
          exact B95 x_iM x_aM H locs ls h hP hD hS (lv_sub hl [0] rfl)
        · have h := g_t h cz
          refine lv_aload_n hx hb dX8_stand_27 rfl (lv_at hl 0 rfl) ?_
          refine lv_dup hx hb dX8_stand_28 rfl ?_
          refine va_get (D := (dC, dI)) (ci := 8) (v := .int ((x_iM 54))) (C := RX8) (T := TX8) (N := 78) hx hb hts ki8 hown hK hP 0 rfl rfl 54 (by decide) kf248 (fun _ h9 => h9) rfl dX8_stand_29 ?_
          refine lv_iconst (v := 1) hx hb dX8_stand_32 (by decide) ?_
          refine lv_isub hx hb dX8_stand_33 ?_
          refine va_put (D := (dC, dI)) (ci := 8) (v := .int (((x_iM 54) - (1 : Int32)))) (ty := .int) (C := RX8) (T := TX8) (N := 78) hx hb hts ki8 tyX8 tyX8_ok nmX8 hown hK hP hD hS 0 rfl rfl 54 (by decide) kf248 (fun _ h9 => h9) rfl (by decide +kernel) rfl rfl (Nat.le_of_ble_eq_true rfl) dX8_stand_34 (fun H locs hP hD hS => ?_)
          have hP : va_P (dC, dI) vwCl (zzM ad cy (us x_iM [(54, ((x_iM 54) - (1 : Int32)))]) x_aM) H := Eq.mp (congrArg (fun w => va_P (dC, dI) vwCl w H) (sfM_iM54 ad cy x_iM x_aM (((x_iM 54) - (1 : Int32))))) hP
          have hD : va_D A (zzM ad cy (us x_iM [(54, ((x_iM 54) - (1 : Int32)))]) x_aM) := Eq.mp (congrArg (fun w => va_D A w) (sfM_iM54 ad cy x_iM x_aM (((x_iM 54) - (1 : Int32))))) hD
          refine lv_aload_n hx hb dX8_stand_37 rfl (lv_at hl 0 rfl) ?_
          refine lv_dup hx hb dX8_stand_38 rfl ?_
          refine va_get (D := (dC, dI)) (ci := 8) (v := .int ((x_iM 49))) (C := RX8) (T := TX8) (N := 78) hx hb hts ki8 hown hK hP 0 rfl rfl 49 (by decide) kf254 (fun _ h9 => h9) rfl dX8_stand_39 ?_
          refine lv_iconst (v := 1) hx hb dX8_stand_42 (by decide) ?_
          refine lv_isub hx hb dX8_stand_43 ?_
          refine va_put (D := (dC, dI)) (ci := 8) (v := .int (((x_iM 49) - (1 : Int32)))) (ty := .int) (C := RX8) (T := TX8) (N := 78) hx hb hts ki8 tyX8 tyX8_ok nmX8 hown hK hP hD hS 0 rfl rfl 49 (by decide) kf254 (fun _ h9 => h9) rfl (by decide +kernel) rfl rfl (Nat.le_of_ble_eq_true rfl) dX8_stand_44 (fun H locs hP hD hS => ?_)
          have hP : va_P (dC, dI) vwCl (zzM ad cy (us x_iM [(49, ((x_iM 49) - (1 : Int32))), (54, ((x_iM 54) - (1 : Int32)))]) x_aM) H := Eq.mp (congrArg (fun w => va_P (dC, dI) vwCl w H) (stM_iM49 ad cy x_iM x_aM [(54, ((x_iM 54) - (1 : Int32)))] (((x_iM 49) - (1 : Int32))))) hP
          have hD : va_D A (zzM ad cy (us x_iM [(49, ((x_iM 49) - (1 : Int32))), (54, ((x_iM 54) - (1 : Int32)))]) x_aM) := Eq.mp (congrArg (fun w => va_D A w) (stM_iM49 ad cy x_iM x_aM [(54, ((x_iM 54) - (1 : Int32)))] (((x_iM 49) - (1 : Int32))))) hD
          refine lv_aload_n hx hb dX8_stand_47 rfl (lv_at hl 0 rfl) ?_
          refine va_get (D := (dC, dI)) (ci := 8) (v := .ref (ad 28)) (C := RX8) (T := TX8) (N := 78) hx hb hts ki8 hown hK hP 0 rfl rfl 53 (by decide) kf98 (fun _ h9 => h9) rfl dX8_stand_48 ?_
          refine lv_aload_n hx hb dX8_stand_51 rfl (lv_at hl 0 rfl) ?_
          refine va_get (D := (dC, dI)) (ci := 8) (v := .int (((x_iM 54) - (1 : Int32)))) (C := RX8) (T := TX8) (N := 78) hx hb hts ki8 hown hK hP 0 rfl rfl 54 (by decide) kf248 (fun _ h9 => h9) rfl dX8_stand_52 ?_
          refine va_iald (f := (x_aM 53)) hx hb hK hP 28 0 rfl rfl g_78 dX8_stand_55 ?_
          refine lv_istore_n (lv' := [(2, .int ((((x_aM 53)) (((x_iM 54) - (1 : Int32))).toNatClampNeg))), (0, .ref (ad 0))]) hx hb dX8_stand_56 rfl hl (by decide) rfl (fun ls hl => ?_)
          refine lv_aload_n hx hb dX8_stand_57 rfl (lv_at hl 1 rfl) ?_
          refine va_get (D := (dC, dI)) (ci := 8) (v := .ref (ad 5)) (C := RX8) (T := TX8) (N := 78) hx hb hts ki8 hown hK hP 0 rfl rfl 10 (by decide) kf24 (fun _ h9 => h9) rfl dX8_stand_58 ?_
          refine lv_iload_n hx hb dX8_stand_61 rfl (lv_at hl 0 rfl) ?_
          refine lv_aload_n hx hb dX8_stand_62 rfl (lv_at hl 1 rfl) ?_
          refine va_get (D := (dC, dI)) (ci := 8) (v := .int ((x_iM 55))) (C := RX8) (T := TX8) (N := 78) hx hb hts ki8 hown hK hP 0 rfl rfl 55 (by decide) kf251 (fun _ h9 => h9) rfl dX8_stand_63 ?_
          obtain ⟨g_79, h⟩ := g_n h
          refine va_iast (f := (x_aM 10)) hx hb hK hP hD hS 5 0 rfl rfl g_79 dX8_stand_66 (fun H locs hP hD hS => ?_)
          have hP : va_P (dC, dI) vwCl (zzM ad cy (us x_iM [(49, ((x_iM 49) - (1 : Int32))), (54, ((x_iM 54) - (1 : Int32)))]) (us x_aM [(10, (upd ((x_aM 10)) ((((x_aM 53)) (((x_iM 54) - (1 : Int32))).toNatClampNeg)).toNatClampNeg ((x_iM 55))))])) H := Eq.mp (congrArg (fun w => va_P (dC, dI) vwCl w H) (sfM_aM10 ad cy (us x_iM [(49, ((x_iM 49) - (1 : Int32))), (54, ((x_iM 54) - (1 : Int32)))]) x_aM ((upd ((x_aM 10)) ((((x_aM 53)) (((x_iM 54) - (1 : Int32))).toNatClampNeg)).toNatClampNeg ((x_iM 55)))))) hP
          have hD : va_D A (zzM ad cy (us x_iM [(49, ((x_iM 49) - (1 : Int32))), (54, ((x_iM 54) - (1 : Int32)))]) (us x_aM [(10, (upd ((x_aM 10)) ((((x_aM 53)) (((x_iM 54) - (1 : Int32))).toNatClampNeg)).toNatClampNeg ((x_iM 55))))])) := Eq.mp (congrArg (fun w => va_D A w) (sfM_aM10 ad cy (us x_iM [(49, ((x_iM 49) - (1 : Int32))), (54, ((x_iM 54) - (1 : Int32)))]) x_aM ((upd ((x_aM 10)) ((((x_aM 53)) (((x_iM 54) - (1 : Int32))).toNatClampNeg)).toNatClampNeg ((x_iM 55)))))) hD
          refine lv_aload_n hx hb dX8_stand_67 rfl (lv_at hl 1 rfl) ?_
          refine lv_iload_n hx hb dX8_stand_68 rfl (lv_at hl 0 rfl) ?_
          obtain ⟨q69, e69, h⟩ := g_b h
          refine callVvs (cc := cX8_stand) (w1 := zzM ad cy (us x_iM [(39, q69.1), (49, ((x_iM 49) - (1 : Int32))), (54, ((x_iM 54) - (1 : Int32)))]) (us x_aM [(10, (upd ((x_aM 10)) ((((x_aM 53)) (((x_iM 54) - (1 : Int32))).toNatClampNeg)).toNatClampNeg ((x_iM 55)))), (13, q69.2)])) (As := [.int ((((x_aM 53)) (((x_iM 54) - (1 : Int32))).toNatClampNeg))]) (rest := []) ⟨hx, hb, hml, hown, hts⟩ (c_M_ended l dC dI cy ad H.size ((((x_aM 53)) (((x_iM 54) - (1 : Int32))).toNatClampNeg)) ((us x_iM [(49, ((x_iM 49) - (1 : Int32))), (54, ((x_iM 54) - (1 : Int32)))])) ((us x_aM [(10, (upd ((x_aM 10)) ((((x_aM 53)) (((x_iM 54) - (1 : Int32))).toNatClampNeg)).toNatClampNeg ((x_iM 55))))])) q69 e69) (cwV 1 hts (goodV m_ml_X8_257 m_im_X8_ended m_se_X8_ended m_in_X8 m_cd_X8_ended) rfl rfl rfl (by decide +kernel) ⟨Nat.le_of_ble_eq_true rfl, Nat.le_of_ble_eq_true rfl⟩) hN hK hP hD hS hA rfl 0 rfl rfl rfl hl.1 rfl (Nat.le_of_ble_eq_true rfl) dX8_stand_69 ⟨Nat.zero_le _, Nat.zero_le _⟩ (fun H locs hP hD hS => ?_)
          refine lv_aload_n hx hb dX8_stand_72 rfl (lv_at hl 1 rfl) ?_
          refine va_get (D := (dC, dI)) (ci := 8) (v := .ref (ad 3)) (C := RX8) (T := TX8) (N := 78) hx hb hts ki8 hown hK hP 0 rfl rfl 8 (by decide) kf17 (fun _ h9 => h9) rfl dX8_stand_73 ?_
          refine lv_iload_n hx hb dX8_stand_76 rfl (lv_at hl 0 rfl) ?_
          refine va_iald (f := (x_aM 8)) hx hb hK hP 3 0 rfl rfl g_79 dX8_stand_77 ?_
          refine lv_iconst (v := 3) hx hb dX8_stand_78 (by decide) ?_
          refine lv_icmp_eq (tgt := 87) hx hb dX8_stand_79 (by decide) (fun cz => ?_) (fun cz => ?_)
          · have h := g_t h cz
            exact B87 ((((x_aM 53)) (((x_iM 54) - (1 : Int32))).toNatClampNeg)) ((us x_iM [(39, q69.1), (49, ((x_iM 49) - (1 : Int32))), (54, ((x_iM 54) - (1 : Int32)))])) ((us x_aM [(10, (upd ((x_aM 10)) ((((x_aM 53)) (((x_iM 54) - (1 : Int32))).toNatClampNeg)).toNatClampNeg ((x_iM 55)))), (13, q69.2)])) (f_M_stand_5 N iM aM n) ih H locs ls h hP hD hS (lv_sub hl [1, 0] rfl)
          · have h := g_f h cz
            refine lv_aload_n hx hb dX8_stand_82 rfl (lv_at hl 1 rfl) ?_
            refine lv_iload_n hx hb dX8_stand_83 rfl (lv_at hl 0 rfl) ?_
            obtain ⟨q84, e84, h⟩ := g_b h
            refine callVvs (cc := cX8_stand) (w1 := zzM ad cy (us x_iM [(39, q69.1), (45, q84.1), (46, q84.2.1), (47, q84.2.2.1), (49, ((x_iM 49) - (1 : Int32))), (54, ((x_iM 54) - (1 : Int32)))]) (us x_aM [(10, (upd ((x_aM 10)) ((((x_aM 53)) (((x_iM 54) - (1 : Int32))).toNatClampNeg)).toNatClampNeg ((x_iM 55)))), (11, q84.2.2.2.1), (13, q69.2), (32, q84.2.2.2.2.1), (33, q84.2.2.2.2.2.1), (34, q84.2.2.2.2.2.2.1), (35, q84.2.2.2.2.2.2.2.1), (50, q84.2.2.2.2.2.2.2.2.1), (51, q84.2.2.2.2.2.2.2.2.2)])) (As := [.int ((((x_aM 53)) (((x_iM 54) - (1 : Int32))).toNatClampNeg))]) (rest := []) ⟨hx, hb, hml, hown, hts⟩ (c_M_findAtom l dC dI cy ad H.size N ((((x_aM 53)) (((x_iM 54) - (1 : Int32))).toNatClampNeg)) ((us x_iM [(39, q69.1), (49, ((x_iM 49) - (1 : Int32))), (54, ((x_iM 54) - (1 : Int32)))])) ((us x_aM [(10, (upd ((x_aM 10)) ((((x_aM 53)) (((x_iM 54) - (1 : Int32))).toNatClampNeg)).toNatClampNeg ((x_iM 55)))), (13, q69.2)])) q84 e84) (cwV 1 hts (goodV m_ml_X8_260 m_im_X8_findAtom m_se_X8_findAtom m_in_X8 m_cd_X8_findAtom) rfl rfl rfl (by decide +kernel) ⟨Nat.le_of_ble_eq_true rfl, Nat.le_of_ble_eq_true rfl⟩) hN hK hP hD hS hA rfl 0 rfl rfl rfl hl.1 rfl (Nat.le_of_ble_eq_true rfl) dX8_stand_84 ⟨Nat.zero_le _, Nat.zero_le _⟩ (fun H locs hP hD hS => ?_)
            exact B87 ((((x_aM 53)) (((x_iM 54) - (1 : Int32))).toNatClampNeg)) ((us x_iM [(39, q69.1), (45, q84.1), (46, q84.2.1), (47, q84.2.2.1), (49, ((x_iM 49) - (1 : Int32))), (54, ((x_iM 54) - (1 : Int32)))])) ((us x_aM [(10, (upd ((x_aM 10)) ((((x_aM 53)) (((x_iM 54) - (1 : Int32))).toNatClampNeg)).toNatClampNeg ((x_iM 55)))), (11, q84.2.2.2.1), (13, q69.2), (32, q84.2.2.2.2.1), (33, q84.2.2.2.2.2.1), (34, q84.2.2.2.2.2.2.1), (35, q84.2.2.2.2.2.2.2.1), (50, q84.2.2.2.2.2.2.2.2.1), (51, q84.2.2.2.2.2.2.2.2.2)])) (f_M_stand_5 N iM aM n) ih H locs ls h hP hD hS (lv_sub hl [1, 0] rfl)
  intro H locs hP hD hS
  unfold f_M_stand at h
  refine lv_aload_n hx hb dX8_stand_0 rfl (lv_at hl 0 rfl) ?_
  refine lv_iload_n hx hb dX8_stand_1 rfl (lv_at hl 1 rfl) ?_
  refine va_put (D := (dC, dI)) (ci := 8) (v := .int a1) (ty := .int) (C := RX8) (T := TX8) (N := 78) hx hb hts ki8 tyX8 tyX8_ok nmX8 hown hK hP hD hS 0 rfl rfl 55 (by decide) kf251 (fun _ h9 => h9) rfl (by decide +kernel) rfl rfl (Nat.le_of_ble_eq_true rfl) dX8_stand_2 (fun H locs hP hD hS => ?_)
  have hP : va_P (dC, dI) vwCl (zzM ad cy (us iM [(55, a1)]) aM) H := Eq.mp (congrArg (fun w => va_P (dC, dI) vwCl w H) (sfM_iM55 ad cy iM aM a1)) hP
  have hD : va_D A (zzM ad cy (us iM [(55, a1)]) aM) := Eq.mp (congrArg (fun w => va_D A w) (sfM_iM55 ad cy iM aM a1)) hD
  exact B5 N ((us iM [(55, a1)])) aM H locs ls h hP hD hS (lv_sub hl [0] rfl)
set_option maxHeartbeats 8000000 in
set_option maxRecDepth 100000 in
theorem c_M_close (l : Launch) (dC : Nat → ClassId) (dI : Nat → Nat → Nat) (cy : Nat → ClassId) (ad : Nat → Nat) (sz : Nat) (N : Nat) (a1 : Int32) (iM : Nat → Int32) (aM : Nat → Nat → Int32) (q : Int32 × Int32 × Int32 × (Nat → Int32) × (Nat → Int32)) (h : f_M_close N a1 (iM 39) (iM 54) (iM 55) (aM 8) (aM 10) (aM 13) (aM 52) (aM 53) = some q) : Met l yX8_close wsX8_close ({ frames := 1, cells := 0, slots := 0, locals := 21 } : Room) (cP (dC, dI) cy [.ref (ad 0), .int a1] (zzM ad cy iM aM) sz) (cQv (dC, dI) cy (zzM ad cy (us iM [(39, q.1), (54, q.2.1), (55, q.2.2.1)]) (us aM [(10, q.2.2.2.1), (13, q.2.2.2.2)])) (va_A (zzM ad cy iM aM) sz)) 0 0 (va_A (zzM ad cy iM aM) sz) := by
  refine Met.ofW (cc := cX8_close) (maxL := 3) (ret := none) (by decide) rfl ?_
  intro p e s m args below meth c s₁ B hml hv
  obtain ⟨hav, hsz, hP, hK, hD0, hN⟩ := hv
  have hx := B.exec
  have hb := B.bytes
  have hr := B.returns
  have hts := atoms_spec (ws := wsX8_close) B.pre
  have hown : s.vm.findClass RX8 = some m.cls := findClass_of_methodNamed B.named
  have hlocks := B.notSynchronized
  subst hsz
  have hD := hD0.self (sz := s.heap.size)
  generalize hAe : va_A (zzM ad cy iM aM) s.heap.size = A at hD ⊢
  have hA : ∀ q : Nat, s.heap.size ≤ q → A q := fun q h => by rw [← hAe]; exact Or.inr h
  have hS : va_S A s.heap s.heap [] := va_S.rf
  generalize hWQ : (zzM ad cy (us iM [(39, q.1), (54, q.2.1), (55, q.2.2.1)]) (us aM [(10, q.2.2.2.1), (13, q.2.2.2.2)])) = WQ
  generalize hQQ : MQ below (cQv (dC, dI) cy WQ A) args s 0 0 A = QQ
  have hl := lv_entry ([.ref (ad 0), .int a1] : List Value) (n := 3) (Nat.le_of_ble_eq_true rfl)
  have hfr := lg_entry_eq m ([.ref (ad 0), .int a1] : List Value) 3
  rw [← hav] at hfr
  rw [hfr]
  clear hfr hav
  generalize (lg_sl ([.ref (ad 0), .int a1] : List Value) ++ List.replicate (3 - (lg_sl ([.ref (ad 0), .int a1] : List Value)).length) Slot.unset).toArray = ls at hl ⊢
  have hl : lv_has ls 3 [(0, .ref (ad 0)), (1, .int a1)] := hl
  have kf95 := hts _ (List.mem_cons_of_mem _ m_fl_X8_95)
  have ki8 := (fun w h => List.mem_cons_of_mem _ (i_X8 w h) : ∀ w ∈ u_ws RX8 TX8 78, w ∈ wsX8_close)
  have kf248 := hts _ (List.mem_cons_of_mem _ m_fl_X8_248)
  have kf17 := hts _ (List.mem_cons_of_mem _ m_fl_X8_17)
  have kf98 := hts _ (List.mem_cons_of_mem _ m_fl_X8_98)
  have kf24 := hts _ (List.mem_cons_of_mem _ m_fl_X8_24)
  have kf251 := hts _ (List.mem_cons_of_mem _ m_fl_X8_251)
  refine (?_ : ∀ (H : Heap) (locs : List Loc), va_P (dC, dI) vwCl (zzM ad cy iM aM) H → va_D A (zzM ad cy iM aM) → va_S A s.heap H locs → W p l e ({ frames := 1, cells := 0, slots := 0, locals := 21 } : Room) s m args below meth c H locs 0 0 QQ (F0 m 0 ls [])) s.heap [] hP hD hS
  clear hP hD hS
  have B0 : ∀ (n : Nat) (v1 : Int32) (x_iM39 : Int32) (x_iM54 : Int32) (x_iM55 : Int32) (x_aM10 : Nat → Int32) (x_aM13 : Nat → Int32) (H : Heap) (locs : List Loc) (ls : Array Slot), f_M_close_0 N (iM 39) (iM 54) (iM 55) (aM 8) (aM 10) (aM 13) (aM 52) (aM 53) v1 n x_iM39 x_iM54 x_iM55 x_aM10 x_aM13 = some q → va_P (dC, dI) vwCl (zzM ad cy (us iM [(39, x_iM39), (54, x_iM54), (55, x_iM55)]) (us aM [(10, x_aM10), (13, x_aM13)])) H → va_D A (zzM ad cy (us iM [(39, x_iM39), (54, x_iM54), (55, x_iM55)]) (us aM [(10, x_aM10), (13, x_aM13)])) → va_S A s.heap H locs → lv_has ls 3 [(0, .ref (ad 0)), (1, .int v1)] → W p l e ({ frames := 1, cells := 0, slots := 0, locals := 21 } : Room) s m args below meth c H locs 0 0 QQ (F0 m 0 ls []) := by
    intro n
    induction n with
    | zero =>
      intro v1 x_iM39 x_iM54 x_iM55 x_aM10 x_aM13 H locs ls h hP hD hS hl
      rw [f_M_close_0] at h
      cases h
    | succ n ih =>
      intro v1 x_iM39 x_iM54 x_iM55 x_aM10 x_aM13 H locs ls h hP hD hS hl
      rw [f_M_close_0] at h
      refine lv_aload_n hx hb dX8_close_0 rfl (lv_at hl 0 rfl) ?_
      refine va_get (D := (dC, dI)) (ci := 8) (v := .ref (ad 27)) (C := RX8) (T := TX8) (N := 78) hx hb hts ki8 hown hK hP 0 rfl rfl 52 (by decide) kf95 (fun _ h9 => h9) rfl dX8_close_1 ?_
      refine lv_aload_n hx hb dX8_close_4 rfl (lv_at hl 0 rfl) ?_
      refine va_get (D := (dC, dI)) (ci := 8) (v := .int x_iM54) (C := RX8) (T := TX8) (N := 78) hx hb hts ki8 hown hK hP 0 rfl rfl 54 (by decide) kf248 (fun _ h9 => h9) rfl dX8_close_5 ?_
      refine lv_iconst (v := 1) hx hb dX8_close_8 (by decide) ?_
      refine lv_isub hx hb dX8_close_9 ?_
      obtain ⟨g_80, h⟩ := g_n h
      refine va_iald (f := (aM 52)) hx hb hK hP 27 0 rfl rfl g_80 dX8_close_10 ?_
      refine lv_iconst (v := 3) hx hb dX8_close_11 (by decide) ?_
      refine lv_icmp_ne (tgt := 78) hx hb dX8_close_12 (by decide) (fun cz => ?_) (fun cz => ?_)
      · have h := g_f h cz
        have h' := Option.some.inj h
        rw [← hQQ]
        exact W.vret hx hb hr (fun t ht hW => ⟨⟨(), rfl, trivial, by rw [← hWQ, ← h', ht]; exact hP, va_K.moved hW.alike hK⟩, hS.F ht⟩) hS.2.2 dX8_close_78
      · have h := g_t h cz
        refine lv_aload_n hx hb dX8_close_15 rfl (lv_at hl 0 rfl) ?_
        refine va_get (D := (dC, dI)) (ci := 8) (v := .ref (ad 3)) (C := RX8) (T := TX8) (N := 78) hx hb hts ki8 hown hK hP 0 rfl rfl 8 (by decide) kf17 (fun _ h9 => h9) rfl dX8_close_16 ?_
        refine lv_aload_n hx hb dX8_close_19 rfl (lv_at hl 0 rfl) ?_
        refine va_get (D := (dC, dI)) (ci := 8) (v := .ref (ad 28)) (C := RX8) (T := TX8) (N := 78) hx hb hts ki8 hown hK hP 0 rfl rfl 53 (by decide) kf98 (fun _ h9 => h9) rfl dX8_close_20 ?_
        refine lv_aload_n hx hb dX8_close_23 rfl (lv_at hl 0 rfl) ?_
        refine va_get (D := (dC, dI)) (ci := 8) (v := .int x_iM54) (C := RX8) (T := TX8) (N := 78) hx hb hts ki8 hown hK hP 0 rfl rfl 54 (by decide) kf248 (fun _ h9 => h9) rfl dX8_close_24 ?_
        refine lv_iconst (v := 1) hx hb dX8_close_27 (by decide) ?_
        refine lv_isub hx hb dX8_close_28 ?_
        refine va_iald (f := (aM 53)) hx hb hK hP 28 0 rfl rfl g_80 dX8_close_29 ?_
        obtain ⟨g_81, h⟩ := g_n h
        refine va_iald (f := (aM 8)) hx hb hK hP 3 0 rfl rfl g_81 dX8_close_30 ?_
        refine lv_iload_n hx hb dX8_close_31 rfl (lv_at hl 1 rfl) ?_
        refine lv_icmp_gt (tgt := 78) hx hb dX8_close_32 (by decide) (fun cz => ?_) (fun cz => ?_)
        · have h := g_t h cz
          have h' := Option.some.inj h
          rw [← hQQ]
          exact W.vret hx hb hr (fun t ht hW => ⟨⟨(), rfl, trivial, by rw [← hWQ, ← h', ht]; exact hP, va_K.moved hW.alike hK⟩, hS.F ht⟩) hS.2.2 dX8_close_78
        · have h := g_f h cz
          refine lv_aload_n hx hb dX8_close_35 rfl (lv_at hl 0 rfl) ?_
          refine lv_dup hx hb dX8_close_36 rfl ?_
          refine va_get (D := (dC, dI)) (ci := 8) (v := .int x_iM54) (C := RX8) (T := TX8) (N := 78) hx hb hts ki8 hown hK hP 0 rfl rfl 54 (by decide) kf248 (fun _ h9 => h9) rfl dX8_close_37 ?_
          refine lv_iconst (v := 1) hx hb dX8_close_40 (by decide) ?_
          refine lv_isub hx hb dX8_close_41 ?_
          refine va_put (D := (dC, dI)) (ci := 8) (v := .int ((x_iM54 - (1 : Int32)))) (ty := .int) (C := RX8) (T := TX8) (N := 78) hx hb hts ki8 tyX8 tyX8_ok nmX8 hown hK hP hD hS 0 rfl rfl 54 (by decide) kf248 (fun _ h9 => h9) rfl (by decide +kernel) rfl rfl (Nat.le_of_ble_eq_true rfl) dX8_close_42 (fun H locs hP hD hS => ?_)
          have hP : va_P (dC, dI) vwCl (zzM ad cy (us iM [(39, x_iM39), (54, (x_iM54 - (1 : Int32))), (55, x_iM55)]) (us aM [(10, x_aM10), (13, x_aM13)])) H := Eq.mp (congrArg (fun w => va_P (dC, dI) vwCl w H) (stM_iM54 ad cy iM (us aM [(10, x_aM10), (13, x_aM13)]) [(39, x_iM39), (54, x_iM54), (55, x_iM55)] ((x_iM54 - (1 : Int32))))) hP
          have hD : va_D A (zzM ad cy (us iM [(39, x_iM39), (54, (x_iM54 - (1 : Int32))), (55, x_iM55)]) (us aM [(10, x_aM10), (13, x_aM13)])) := Eq.mp (congrArg (fun w => va_D A w) (stM_iM54 ad cy iM (us aM [(10, x_aM10), (13, x_aM13)]) [(39, x_iM39), (54, x_iM54), (55, x_iM55)] ((x_iM54 - (1 : Int32))))) hD
          refine lv_aload_n hx hb dX8_close_45 rfl (lv_at hl 0 rfl) ?_
          refine va_get (D := (dC, dI)) (ci := 8) (v := .ref (ad 28)) (C := RX8) (T := TX8) (N := 78) hx hb hts ki8 hown hK hP 0 rfl rfl 53 (by decide) kf98 (fun _ h9 => h9) rfl dX8_close_46 ?_
          refine lv_aload_n hx hb dX8_close_49 rfl (lv_at hl 0 rfl) ?_
          refine va_get (D := (dC, dI)) (ci := 8) (v := .int ((x_iM54 - (1 : Int32)))) (C := RX8) (T := TX8) (N := 78) hx hb hts ki8 hown hK hP 0 rfl rfl 54 (by decide) kf248 (fun _ h9 => h9) rfl dX8_close_50 ?_
          refine va_iald (f := (aM 53)) hx hb hK hP 28 0 rfl rfl g_80 dX8_close_53 ?_
          refine lv_istore_n (lv' := [(2, .int (((aM 53) ((x_iM54 - (1 : Int32))).toNatClampNeg))), (0, .ref (ad 0)), (1, .int v1)]) hx hb dX8_close_54 rfl hl (by decide) rfl (fun ls hl => ?_)
          refine lv_aload_n hx hb dX8_close_55 rfl (lv_at hl 1 rfl) ?_
          refine va_get (D := (dC, dI)) (ci := 8) (v := .ref (ad 5)) (C := RX8) (T := TX8) (N := 78) hx hb hts ki8 hown hK hP 0 rfl rfl 10 (by decide) kf24 (fun _ h9 => h9) rfl dX8_close_56 ?_
          refine lv_iload_n hx hb dX8_close_59 rfl (lv_at hl 0 rfl) ?_
          refine lv_aload_n hx hb dX8_close_60 rfl (lv_at hl 1 rfl) ?_
          refine va_get (D := (dC, dI)) (ci := 8) (v := .int x_iM55) (C := RX8) (T := TX8) (N := 78) hx hb hts ki8 hown hK hP 0 rfl rfl 55 (by decide) kf251 (fun _ h9 => h9) rfl dX8_close_61 ?_
          refine va_iast (f := x_aM10) hx hb hK hP hD hS 5 0 rfl rfl g_81 dX8_close_64 (fun H locs hP hD hS => ?_)
          have hP : va_P (dC, dI) vwCl (zzM ad cy (us iM [(39, x_iM39), (54, (x_iM54 - (1 : Int32))), (55, x_iM55)]) (us aM [(10, (upd x_aM10 (((aM 53) ((x_iM54 - (1 : Int32))).toNatClampNeg)).toNatClampNeg x_iM55)), (13, x_aM13)])) H := Eq.mp (congrArg (fun w => va_P (dC, dI) vwCl w H) (stM_aM10 ad cy (us iM [(39, x_iM39), (54, (x_iM54 - (1 : Int32))), (55, x_iM55)]) aM [(10, x_aM10), (13, x_aM13)] ((upd x_aM10 (((aM 53) ((x_iM54 - (1 : Int32))).toNatClampNeg)).toNatClampNeg x_iM55)))) hP
          have hD : va_D A (zzM ad cy (us iM [(39, x_iM39), (54, (x_iM54 - (1 : Int32))), (55, x_iM55)]) (us aM [(10, (upd x_aM10 (((aM 53) ((x_iM54 - (1 : Int32))).toNatClampNeg)).toNatClampNeg x_iM55)), (13, x_aM13)])) := Eq.mp (congrArg (fun w => va_D A w) (stM_aM10 ad cy (us iM [(39, x_iM39), (54, (x_iM54 - (1 : Int32))), (55, x_iM55)]) aM [(10, x_aM10), (13, x_aM13)] ((upd x_aM10 (((aM 53) ((x_iM54 - (1 : Int32))).toNatClampNeg)).toNatClampNeg x_iM55)))) hD
          refine lv_aload_n hx hb dX8_close_65 rfl (lv_at hl 1 rfl) ?_
          refine lv_iload_n hx hb dX8_close_66 rfl (lv_at hl 0 rfl) ?_
          obtain ⟨q67, e67, h⟩ := g_b h
          refine callVvs (cc := cX8_close) (w1 := zzM ad cy (us iM [(39, q67.1), (54, (x_iM54 - (1 : Int32))), (55, x_iM55)]) (us aM [(10, (upd x_aM10 (((aM 53) ((x_iM54 - (1 : Int32))).toNatClampNeg)).toNatClampNeg x_iM55)), (13, q67.2)])) (As := [.int (((aM 53) ((x_iM54 - (1 : Int32))).toNatClampNeg))]) (rest := []) ⟨hx, hb, hml, hown, hts⟩ (c_M_ended l dC dI cy ad H.size (((aM 53) ((x_iM54 - (1 : Int32))).toNatClampNeg)) ((us iM [(39, x_iM39), (54, (x_iM54 - (1 : Int32))), (55, x_iM55)])) ((us aM [(10, (upd x_aM10 (((aM 53) ((x_iM54 - (1 : Int32))).toNatClampNeg)).toNatClampNeg x_iM55)), (13, x_aM13)])) q67 e67) (cwV 1 hts (goodV m_ml_X8_257 m_im_X8_ended m_se_X8_ended m_in_X8 m_cd_X8_ended) rfl rfl rfl (by decide +kernel) ⟨Nat.le_of_ble_eq_true rfl, Nat.le_of_ble_eq_true rfl⟩) hN hK hP hD hS hA rfl 0 rfl rfl rfl hl.1 rfl (Nat.le_of_ble_eq_true rfl) dX8_close_67 ⟨Nat.zero_le _, Nat.zero_le _⟩ (fun H locs hP hD hS => ?_)
          refine lv_aload_n hx hb dX8_close_70 rfl (lv_at hl 1 rfl) ?_
          refine lv_iload_n hx hb dX8_close_71 rfl (lv_at hl 0 rfl) ?_
          refine va_put (D := (dC, dI)) (ci := 8) (v := .int (((aM 53) ((x_iM54 - (1 : Int32))).toNatClampNeg))) (ty := .int) (C := RX8) (T := TX8) (N := 78) hx hb hts ki8 tyX8 tyX8_ok nmX8 hown hK hP hD hS 0 rfl rfl 55 (by decide) kf251 (fun _ h9 => h9) rfl (by decide +kernel) rfl rfl (Nat.le_of_ble_eq_true rfl) dX8_close_72 (fun H locs hP hD hS => ?_)
          have hP : va_P (dC, dI) vwCl (zzM ad cy (us iM [(39, q67.1), (54, (x_iM54 - (1 : Int32))), (55, ((aM 53) ((x_iM54 - (1 : Int32))).toNatClampNeg))]) (us aM [(10, (upd x_aM10 (((aM 53) ((x_iM54 - (1 : Int32))).toNatClampNeg)).toNatClampNeg x_iM55)), (13, q67.2)])) H := Eq.mp (congrArg (fun w => va_P (dC, dI) vwCl w H) (stM_iM55 ad cy iM (us aM [(10, (upd x_aM10 (((aM 53) ((x_iM54 - (1 : Int32))).toNatClampNeg)).toNatClampNeg x_iM55)), (13, q67.2)]) [(39, q67.1), (54, (x_iM54 - (1 : Int32))), (55, x_iM55)] (((aM 53) ((x_iM54 - (1 : Int32))).toNatClampNeg)))) hP
          have hD : va_D A (zzM ad cy (us iM [(39, q67.1), (54, (x_iM54 - (1 : Int32))), (55, ((aM 53) ((x_iM54 - (1 : Int32))).toNatClampNeg))]) (us aM [(10, (upd x_aM10 (((aM 53) ((x_iM54 - (1 : Int32))).toNatClampNeg)).toNatClampNeg x_iM55)), (13, q67.2)])) := Eq.mp (congrArg (fun w => va_D A w) (stM_iM55 ad cy iM (us aM [(10, (upd x_aM10 (((aM 53) ((x_iM54 - (1 : Int32))).toNatClampNeg)).toNatClampNeg x_iM55)), (13, q67.2)]) [(39, q67.1), (54, (x_iM54 - (1 : Int32))), (55, x_iM55)] (((aM 53) ((x_iM54 - (1 : Int32))).toNatClampNeg)))) hD
          refine lv_goto (tgt := 0) hx hb dX8_close_75 (by decide) ?_
          exact ih v1 q67.1 ((x_iM54 - (1 : Int32))) (((aM 53) ((x_iM54 - (1 : Int32))).toNatClampNeg)) ((upd x_aM10 (((aM 53) ((x_iM54 - (1 : Int32))).toNatClampNeg)).toNatClampNeg x_iM55)) q67.2 H locs ls h hP hD hS (lv_sub hl [1, 2] rfl)
  intro H locs hP hD hS
  unfold f_M_close at h
  exact B0 N a1 (iM 39) (iM 54) (iM 55) (aM 10) (aM 13) H locs ls h hP hD hS (lv_sub hl [0, 1] rfl)
set_option maxHeartbeats 8000000 in
set_option maxRecDepth 100000 in
theorem c_M_goesDeeper (l : Launch) (dC : Nat → ClassId) (dI : Nat → Nat → Nat) (cy : Nat → ClassId) (ad : Nat → Nat) (sz : Nat) (iM : Nat → Int32) (aM : Nat → Nat → Int32) (q : Int32 × Int32 × Int32 × Int32) (h : f_M_goesDeeper (iM 4) (iM 46) (iM 47) (iM 49) = some q) : Met l yX8_goesDeeper wsX8_goesDeeper ({ frames := 1, cells := 0, slots := 0, locals := 22 } : Room) (cP (dC, dI) cy [.ref (ad 0)] (zzM ad cy iM aM) sz) (cQi (dC, dI) cy q.1 (zzM ad cy (us iM [(46, q.2.1), (47, q.2.2.1), (49, q.2.2.2)]) aM) (va_A (zzM ad cy iM aM) sz)) 0 0 (va_A (zzM ad cy iM aM) sz) := by
  refine Met.ofW (cc := cX8_goesDeeper) (maxL := 1) (ret := (some .boolean)) (by decide) rfl ?_
  intro p e s m args below meth c s₁ B hml hv
  obtain ⟨hav, hsz, hP, hK, hD0, hN⟩ := hv
  have hx := B.exec
  have hb := B.bytes
  have hr := B.returns
  have hts := atoms_spec (ws := wsX8_goesDeeper) B.pre
  have hown : s.vm.findClass RX8 = some m.cls := findClass_of_methodNamed B.named
  have hlocks := B.notSynchronized
  subst hsz
  have hD := hD0.self (sz := s.heap.size)
  generalize hAe : va_A (zzM ad cy iM aM) s.heap.size = A at hD ⊢
  have hA : ∀ q : Nat, s.heap.size ≤ q → A q := fun q h => by rw [← hAe]; exact Or.inr h
  have hS : va_S A s.heap s.heap [] := va_S.rf
  generalize hWQ : (zzM ad cy (us iM [(46, q.2.1), (47, q.2.2.1), (49, q.2.2.2)]) aM) = WQ
  generalize hQQ : MQ below (cQi (dC, dI) cy q.1 WQ A) args s 0 0 A = QQ
  have hl := lv_entry ([.ref (ad 0)] : List Value) (n := 1) (Nat.le_of_ble_eq_true rfl)
  have hfr := lg_entry_eq m ([.ref (ad 0)] : List Value) 1
  rw [← hav] at hfr
  rw [hfr]
  clear hfr hav
  generalize (lg_sl ([.ref (ad 0)] : List Value) ++ List.replicate (1 - (lg_sl ([.ref (ad 0)] : List Value)).length) Slot.unset).toArray = ls at hl ⊢
  have hl : lv_has ls 1 [(0, .ref (ad 0))] := hl
  have kf254 := hts _ (List.mem_cons_of_mem _ m_fl_X8_254)
  have ki8 := (fun w h => List.mem_cons_of_mem _ (i_X8 w h) : ∀ w ∈ u_ws RX8 TX8 78, w ∈ wsX8_goesDeeper)
  have kf169 := hts _ (List.mem_cons_of_mem _ m_fl_X8_169)
  refine (?_ : ∀ (H : Heap) (locs : List Loc), va_P (dC, dI) vwCl (zzM ad cy iM aM) H → va_D A (zzM ad cy iM aM) → va_S A s.heap H locs → W p l e ({ frames := 1, cells := 0, slots := 0, locals := 22 } : Room) s m args below meth c H locs 0 0 QQ (F0 m 0 ls [])) s.heap [] hP hD hS
  clear hP hD hS
  intro H locs hP hD hS
  unfold f_M_goesDeeper at h
  refine lv_aload_n hx hb dX8_goesDeeper_0 rfl (lv_at hl 0 rfl) ?_
  refine va_get (D := (dC, dI)) (ci := 8) (v := .int (iM 49)) (C := RX8) (T := TX8) (N := 78) hx hb hts ki8 hown hK hP 0 rfl rfl 49 (by decide) kf254 (fun _ h9 => h9) rfl dX8_goesDeeper_1 ?_
  refine lv_bipush (v := 12) hx hb dX8_goesDeeper_4 (by decide) ?_
  refine lv_icmp_ne (tgt := 20) hx hb dX8_goesDeeper_6 (by decide) (fun cz => ?_) (fun cz => ?_)
  · have h := g_f h cz
    refine lv_aload_n hx hb dX8_goesDeeper_20 rfl (lv_at hl 0 rfl) ?_
    refine lv_dup hx hb dX8_goesDeeper_21 rfl ?_
    refine va_get (D := (dC, dI)) (ci := 8) (v := .int (iM 49)) (C := RX8) (T := TX8) (N := 78) hx hb hts ki8 hown hK hP 0 rfl rfl 49 (by decide) kf254 (fun _ h9 => h9) rfl dX8_goesDeeper_22 ?_
    refine lv_iconst (v := 1) hx hb dX8_goesDeeper_25 (by decide) ?_
    refine lv_iadd hx hb dX8_goesDeeper_26 ?_
    refine va_put (D := (dC, dI)) (ci := 8) (v := .int (((iM 49) + (1 : Int32)))) (ty := .int) (C := RX8) (T := TX8) (N := 78) hx hb hts ki8 tyX8 tyX8_ok nmX8 hown hK hP hD hS 0 rfl rfl 49 (by decide) kf254 (fun _ h9 => h9) rfl (by decide +kernel) rfl rfl (Nat.le_of_ble_eq_true rfl) dX8_goesDeeper_27 (fun H locs hP hD hS => ?_)
    have hP : va_P (dC, dI) vwCl (zzM ad cy (us iM [(49, ((iM 49) + (1 : Int32)))]) aM) H := Eq.mp (congrArg (fun w => va_P (dC, dI) vwCl w H) (sfM_iM49 ad cy iM aM (((iM 49) + (1 : Int32))))) hP
    have hD : va_D A (zzM ad cy (us iM [(49, ((iM 49) + (1 : Int32)))]) aM) := Eq.mp (congrArg (fun w => va_D A w) (sfM_iM49 ad cy iM aM (((iM 49) + (1 : Int32))))) hD
    refine lv_iconst (v := 1) hx hb dX8_goesDeeper_30 (by decide) ?_
    have h' := Option.some.inj h
    rw [← hQQ]
    exact W.zret (v := (1 : Int32)) hx hb hr rfl (fun t ht hW => ⟨⟨(1 : Int32), (), rfl, by rw [← h'], by rw [← hWQ, ← h', ht]; exact hP, va_K.moved hW.alike hK⟩, hS.F ht⟩) hS.2.2 dX8_goesDeeper_31
  · have h := g_t h cz
    refine lv_aload_n hx hb dX8_goesDeeper_9 rfl (lv_at hl 0 rfl) ?_
    refine lv_iconst (v := 3) hx hb dX8_goesDeeper_10 (by decide) ?_
    refine lv_aload_n hx hb dX8_goesDeeper_11 rfl (lv_at hl 0 rfl) ?_
    refine va_get (D := (dC, dI)) (ci := 8) (v := .int (iM 4)) (C := RX8) (T := TX8) (N := 78) hx hb hts ki8 hown hK hP 0 rfl rfl 4 (by decide) kf169 (fun _ h9 => h9) rfl dX8_goesDeeper_12 ?_
    obtain ⟨q15, e15, h⟩ := g_b h
    refine callVvs (cc := cX8_goesDeeper) (w1 := zzM ad cy (us iM [(46, q15.1), (47, q15.2)]) aM) (As := [.int ((3 : Int32)), .int (iM 4)]) (rest := []) ⟨hx, hb, hml, hown, hts⟩ (c_M_wrong l dC dI cy ad H.size ((3 : Int32)) (iM 4) iM aM q15 e15) (cwV 2 hts (goodV m_ml_X8_194 m_im_X8_wrong m_se_X8_wrong m_in_X8 m_cd_X8_wrong) rfl rfl rfl (by decide +kernel) ⟨Nat.le_of_ble_eq_true rfl, Nat.le_of_ble_eq_true rfl⟩) hN hK hP hD hS hA rfl 0 rfl rfl rfl hl.1 rfl (Nat.le_of_ble_eq_true rfl) dX8_goesDeeper_15 ⟨Nat.zero_le _, Nat.zero_le _⟩ (fun H locs hP hD hS => ?_)
    refine lv_iconst (v := 0) hx hb dX8_goesDeeper_18 (by decide) ?_
    have h' := Option.some.inj h
    rw [← hQQ]
    exact W.zret (v := (0 : Int32)) hx hb hr rfl (fun t ht hW => ⟨⟨(0 : Int32), (), rfl, by rw [← h'], by rw [← hWQ, ← h', ht]; exact hP, va_K.moved hW.alike hK⟩, hS.F ht⟩) hS.2.2 dX8_goesDeeper_19
