def f_M_newAtom (a1 : Int32) (a2 : Int32) (a3 : Int32) (a4 : Int32) (a5 : Int32) (iM45 : Int32) (iM46 : Int32) (iM47 : Int32) (aM11 : Nat → Int32) (aM12 : Nat → Int32) (aM32 : Nat → Int32) (aM33 : Nat → Int32) (aM34 : Nat → Int32) (aM35 : Nat → Int32) : Option (Int32 × Int32 × Int32 × (Nat → Int32) × (Nat → Int32) × (Nat → Int32) × (Nat → Int32) × (Nat → Int32)) := if iM45 = (9 : Int32) then (if a1 < 0 ∨ 400 ≤ a1.toNatClampNeg then none else ((f_M_wrong ((5 : Int32)) ((aM12 a1.toNatClampNeg)) iM46 iM47).bind fun q17 => (some (iM45, q17.1, q17.2, aM11, aM32, aM33, aM34, aM35)))) else (if a1 < 0 ∨ 400 ≤ a1.toNatClampNeg then none else (if ((9 : Int32) + iM45) < 0 ∨ 18 ≤ (((9 : Int32) + iM45)).toNatClampNeg then none else (some ((iM45 + (1 : Int32)), iM46, iM47, (upd aM11 a1.toNatClampNeg iM45), (upd aM32 (((9 : Int32) + iM45)).toNatClampNeg a2), (upd aM33 (((9 : Int32) + iM45)).toNatClampNeg a3), (upd aM34 (((9 : Int32) + iM45)).toNatClampNeg a4), (upd aM35 (((9 : Int32) + iM45)).toNatClampNeg (vp_nar .boolean a5))))))
set_option maxHeartbeats 8000000 in
set_option maxRecDepth 100000 in
theorem c_M_newAtom (l : Launch) (dC : Nat → ClassId) (dI : Nat → Nat → Nat) (cy : Nat → ClassId) (ad : Nat → Nat) (sz : Nat) (a1 : Int32) (a2 : Int32) (a3 : Int32) (a4 : Int32) (a5 : Int32) (iM : Nat → Int32) (aM : Nat → Nat → Int32) (q : Int32 × Int32 × Int32 × (Nat → Int32) × (Nat → Int32) × (Nat → Int32) × (Nat → Int32) × (Nat → Int32)) (h : f_M_newAtom a1 a2 a3 a4 a5 (iM 45) (iM 46) (iM 47) (aM 11) (aM 12) (aM 32) (aM 33) (aM 34) (aM 35) = some q) : Met l yX8_newAtom wsX8_newAtom ({ frames := 1, cells := 0, slots := 0, locals := 22 } : Room) (cP (dC, dI) cy [.ref (ad 0), .int a1, .int a2, .int a3, .int a4, .int a5] (zzM ad cy iM aM) sz) (cQv (dC, dI) cy (zzM ad cy (us iM [(45, q.1), (46, q.2.1), (47, q.2.2.1)]) (us aM [(11, q.2.2.2.1), (32, q.2.2.2.2.1), (33, q.2.2.2.2.2.1), (34, q.2.2.2.2.2.2.1), (35, q.2.2.2.2.2.2.2)])) (va_A (zzM ad cy iM aM) sz)) 0 0 (va_A (zzM ad cy iM aM) sz) := by
  refine Met.ofW (cc := cX8_newAtom) (maxL := 6) (ret := none) (by decide) rfl ?_
  intro p e s m args below meth c s₁ B hml hv
  obtain ⟨hav, hsz, hP, hK, hD0, hN⟩ := hv
  have hx := B.exec
  have hb := B.bytes
  have hr := B.returns
  have hts := atoms_spec (ws := wsX8_newAtom) B.pre
  have hown : s.vm.findClass RX8 = some m.cls := findClass_of_methodNamed B.named
  have hlocks := B.notSynchronized
  subst hsz
  have hD := hD0.self (sz := s.heap.size)
  generalize hAe : va_A (zzM ad cy iM aM) s.heap.size = A at hD ⊢
  have hA : ∀ q : Nat, s.heap.size ≤ q → A q := fun q h => by rw [← hAe]; exact Or.inr h
  have hS : va_S A s.heap s.heap [] := va_S.rf
  generalize hWQ : (zzM ad cy (us iM [(45, q.1), (46, q.2.1), (47, q.2.2.1)]) (us aM [(11, q.2.2.2.1), (32, q.2.2.2.2.1), (33, q.2.2.2.2.2.1), (34, q.2.2.2.2.2.2.1), (35, q.2.2.2.2.2.2.2)])) = WQ
  generalize hQQ : MQ below (cQv (dC, dI) cy WQ A) args s 0 0 A = QQ
  have hl := lv_entry ([.ref (ad 0), .int a1, .int a2, .int a3, .int a4, .int a5] : List Value) (n := 6) (Nat.le_of_ble_eq_true rfl)
  have hfr := lg_entry_eq m ([.ref (ad 0), .int a1, .int a2, .int a3, .int a4, .int a5] : List Value) 6
  rw [← hav] at hfr
  rw [hfr]
  clear hfr hav
  generalize (lg_sl ([.ref (ad 0), .int a1, .int a2, .int a3, .int a4, .int a5] : List Value) ++ List.replicate (6 - (lg_sl ([.ref (ad 0), .int a1, .int a2, .int a3, .int a4, .int a5] : List Value)).length) Slot.unset).toArray = ls at hl ⊢
  have hl : lv_has ls 6 [(0, .ref (ad 0)), (1, .int a1), (2, .int a2), (3, .int a3), (4, .int a4), (5, .int a5)] := hl
  have kf234 := hts _ (List.mem_cons_of_mem _ m_fl_X8_234)
  have ki8 := (fun w h => List.mem_cons_of_mem _ (i_X8 w h) : ∀ w ∈ u_ws RX8 TX8 78, w ∈ wsX8_newAtom)
  have kf27 := hts _ (List.mem_cons_of_mem _ m_fl_X8_27)
  have kf73 := hts _ (List.mem_cons_of_mem _ m_fl_X8_73)
  have kf76 := hts _ (List.mem_cons_of_mem _ m_fl_X8_76)
  have kf79 := hts _ (List.mem_cons_of_mem _ m_fl_X8_79)
  have kf82 := hts _ (List.mem_cons_of_mem _ m_fl_X8_82)
  have kf30 := hts _ (List.mem_cons_of_mem _ m_fl_X8_30)
  refine (?_ : ∀ (H : Heap) (locs : List Loc), va_P (dC, dI) vwCl (zzM ad cy iM aM) H → va_D A (zzM ad cy iM aM) → va_S A s.heap H locs → W p l e ({ frames := 1, cells := 0, slots := 0, locals := 22 } : Room) s m args below meth c H locs 0 0 QQ (F0 m 0 ls [])) s.heap [] hP hD hS
  clear hP hD hS
  intro H locs hP hD hS
  unfold f_M_newAtom at h
  refine lv_aload_n hx hb dX8_newAtom_0 rfl (lv_at hl 0 rfl) ?_
  refine va_get (D := (dC, dI)) (ci := 8) (v := .int (iM 45)) (C := RX8) (T := TX8) (N := 78) hx hb hts ki8 hown hK hP 0 rfl rfl 45 (by decide) kf234 (fun _ h9 => h9) rfl dX8_newAtom_1 ?_
  refine lv_bipush (v := 9) hx hb dX8_newAtom_4 (by decide) ?_
  refine lv_icmp_ne (tgt := 21) hx hb dX8_newAtom_6 (by decide) (fun cz => ?_) (fun cz => ?_)
  · have h := g_f h cz
    refine lv_aload_n hx hb dX8_newAtom_21 rfl (lv_at hl 0 rfl) ?_
    refine va_get (D := (dC, dI)) (ci := 8) (v := .ref (ad 6)) (C := RX8) (T := TX8) (N := 78) hx hb hts ki8 hown hK hP 0 rfl rfl 11 (by decide) kf27 (fun _ h9 => h9) rfl dX8_newAtom_22 ?_
    refine lv_iload_n hx hb dX8_newAtom_25 rfl (lv_at hl 1 rfl) ?_
    refine lv_aload_n hx hb dX8_newAtom_26 rfl (lv_at hl 0 rfl) ?_
    refine va_get (D := (dC, dI)) (ci := 8) (v := .int (iM 45)) (C := RX8) (T := TX8) (N := 78) hx hb hts ki8 hown hK hP 0 rfl rfl 45 (by decide) kf234 (fun _ h9 => h9) rfl dX8_newAtom_27 ?_
    obtain ⟨g_60, h⟩ := g_n h
    refine va_iast (f := (aM 11)) hx hb hK hP hD hS 6 0 rfl rfl g_60 dX8_newAtom_30 (fun H locs hP hD hS => ?_)
    have hP : va_P (dC, dI) vwCl (zzM ad cy iM (us aM [(11, (upd (aM 11) a1.toNatClampNeg (iM 45)))])) H := Eq.mp (congrArg (fun w => va_P (dC, dI) vwCl w H) (sfM_aM11 ad cy iM aM ((upd (aM 11) a1.toNatClampNeg (iM 45))))) hP
    have hD : va_D A (zzM ad cy iM (us aM [(11, (upd (aM 11) a1.toNatClampNeg (iM 45)))])) := Eq.mp (congrArg (fun w => va_D A w) (sfM_aM11 ad cy iM aM ((upd (aM 11) a1.toNatClampNeg (iM 45))))) hD
    refine lv_aload_n hx hb dX8_newAtom_31 rfl (lv_at hl 0 rfl) ?_
    refine va_get (D := (dC, dI)) (ci := 8) (v := .ref (ad 21)) (C := RX8) (T := TX8) (N := 78) hx hb hts ki8 hown hK hP 0 rfl rfl 32 (by decide) kf73 (fun _ h9 => h9) rfl dX8_newAtom_32 ?_
    refine lv_bipush (v := 9) hx hb dX8_newAtom_35 (by decide) ?_
    refine lv_aload_n hx hb dX8_newAtom_37 rfl (lv_at hl 0 rfl) ?_
    refine va_get (D := (dC, dI)) (ci := 8) (v := .int (iM 45)) (C := RX8) (T := TX8) (N := 78) hx hb hts ki8 hown hK hP 0 rfl rfl 45 (by decide) kf234 (fun _ h9 => h9) rfl dX8_newAtom_38 ?_
    refine lv_iadd hx hb dX8_newAtom_41 ?_
    refine lv_iload_n hx hb dX8_newAtom_42 rfl (lv_at hl 2 rfl) ?_
    obtain ⟨g_61, h⟩ := g_n h
    refine va_iast (f := (aM 32)) hx hb hK hP hD hS 21 0 rfl rfl g_61 dX8_newAtom_43 (fun H locs hP hD hS => ?_)
    have hP : va_P (dC, dI) vwCl (zzM ad cy iM (us aM [(11, (upd (aM 11) a1.toNatClampNeg (iM 45))), (32, (upd (aM 32) (((9 : Int32) + (iM 45))).toNatClampNeg a2))])) H := Eq.mp (congrArg (fun w => va_P (dC, dI) vwCl w H) (stM_aM32 ad cy iM aM [(11, (upd (aM 11) a1.toNatClampNeg (iM 45)))] ((upd (aM 32) (((9 : Int32) + (iM 45))).toNatClampNeg a2)))) hP
    have hD : va_D A (zzM ad cy iM (us aM [(11, (upd (aM 11) a1.toNatClampNeg (iM 45))), (32, (upd (aM 32) (((9 : Int32) + (iM 45))).toNatClampNeg a2))])) := Eq.mp (congrArg (fun w => va_D A w) (stM_aM32 ad cy iM aM [(11, (upd (aM 11) a1.toNatClampNeg (iM 45)))] ((upd (aM 32) (((9 : Int32) + (iM 45))).toNatClampNeg a2)))) hD
    refine lv_aload_n hx hb dX8_newAtom_44 rfl (lv_at hl 0 rfl) ?_
    refine va_get (D := (dC, dI)) (ci := 8) (v := .ref (ad 22)) (C := RX8) (T := TX8) (N := 78) hx hb hts ki8 hown hK hP 0 rfl rfl 33 (by decide) kf76 (fun _ h9 => h9) rfl dX8_newAtom_45 ?_
    refine lv_bipush (v := 9) hx hb dX8_newAtom_48 (by decide) ?_
    refine lv_aload_n hx hb dX8_newAtom_50 rfl (lv_at hl 0 rfl) ?_
    refine va_get (D := (dC, dI)) (ci := 8) (v := .int (iM 45)) (C := RX8) (T := TX8) (N := 78) hx hb hts ki8 hown hK hP 0 rfl rfl 45 (by decide) kf234 (fun _ h9 => h9) rfl dX8_newAtom_51 ?_
    refine lv_iadd hx hb dX8_newAtom_54 ?_
    refine lv_iload_n hx hb dX8_newAtom_55 rfl (lv_at hl 3 rfl) ?_
    refine va_iast (f := (aM 33)) hx hb hK hP hD hS 22 0 rfl rfl g_61 dX8_newAtom_56 (fun H locs hP hD hS => ?_)
    have hP : va_P (dC, dI) vwCl (zzM ad cy iM (us aM [(11, (upd (aM 11) a1.toNatClampNeg (iM 45))), (32, (upd (aM 32) (((9 : Int32) + (iM 45))).toNatClampNeg a2)), (33, (upd (aM 33) (((9 : Int32) + (iM 45))).toNatClampNeg a3))])) H := Eq.mp (congrArg (fun w => va_P (dC, dI) vwCl w H) (stM_aM33 ad cy iM aM [(11, (upd (aM 11) a1.toNatClampNeg (iM 45))), (32, (upd (aM 32) (((9 : Int32) + (iM 45))).toNatClampNeg a2))] ((upd (aM 33) (((9 : Int32) + (iM 45))).toNatClampNeg a3)))) hP
    have hD : va_D A (zzM ad cy iM (us aM [(11, (upd (aM 11) a1.toNatClampNeg (iM 45))), (32, (upd (aM 32) (((9 : Int32) + (iM 45))).toNatClampNeg a2)), (33, (upd (aM 33) (((9 : Int32) + (iM 45))).toNatClampNeg a3))])) := Eq.mp (congrArg (fun w => va_D A w) (stM_aM33 ad cy iM aM [(11, (upd (aM 11) a1.toNatClampNeg (iM 45))), (32, (upd (aM 32) (((9 : Int32) + (iM 45))).toNatClampNeg a2))] ((upd (aM 33) (((9 : Int32) + (iM 45))).toNatClampNeg a3)))) hD
    refine lv_aload_n hx hb dX8_newAtom_57 rfl (lv_at hl 0 rfl) ?_
    refine va_get (D := (dC, dI)) (ci := 8) (v := .ref (ad 23)) (C := RX8) (T := TX8) (N := 78) hx hb hts ki8 hown hK hP 0 rfl rfl 34 (by decide) kf79 (fun _ h9 => h9) rfl dX8_newAtom_58 ?_
    refine lv_bipush (v := 9) hx hb dX8_newAtom_61 (by decide) ?_
    refine lv_aload_n hx hb dX8_newAtom_63 rfl (lv_at hl 0 rfl) ?_
    refine va_get (D := (dC, dI)) (ci := 8) (v := .int (iM 45)) (C := RX8) (T := TX8) (N := 78) hx hb hts ki8 hown hK hP 0 rfl rfl 45 (by decide) kf234 (fun _ h9 => h9) rfl dX8_newAtom_64 ?_
    refine lv_iadd hx hb dX8_newAtom_67 ?_
    refine lv_iload hx hb dX8_newAtom_68 (lv_at hl 4 rfl) ?_
    refine va_iast (f := (aM 34)) hx hb hK hP hD hS 23 0 rfl rfl g_61 dX8_newAtom_70 (fun H locs hP hD hS => ?_)
    have hP : va_P (dC, dI) vwCl (zzM ad cy iM (us aM [(11, (upd (aM 11) a1.toNatClampNeg (iM 45))), (32, (upd (aM 32) (((9 : Int32) + (iM 45))).toNatClampNeg a2)), (33, (upd (aM 33) (((9 : Int32) + (iM 45))).toNatClampNeg a3)), (34, (upd (aM 34) (((9 : Int32) + (iM 45))).toNatClampNeg a4))])) H := Eq.mp (congrArg (fun w => va_P (dC, dI) vwCl w H) (stM_aM34 ad cy iM aM [(11, (upd (aM 11) a1.toNatClampNeg (iM 45))), (32, (upd (aM 32) (((9 : Int32) + (iM 45))).toNatClampNeg a2)), (33, (upd (aM 33) (((9 : Int32) + (iM 45))).toNatClampNeg a3))] ((upd (aM 34) (((9 : Int32) + (iM 45))).toNatClampNeg a4)))) hP
    have hD : va_D A (zzM ad cy iM (us aM [(11, (upd (aM 11) a1.toNatClampNeg (iM 45))), (32, (upd (aM 32) (((9 : Int32) + (iM 45))).toNatClampNeg a2)), (33, (upd (aM 33) (((9 : Int32) + (iM 45))).toNatClampNeg a3)), (34, (upd (aM 34) (((9 : Int32) + (iM 45))).toNatClampNeg a4))])) := Eq.mp (congrArg (fun w => va_D A w) (stM_aM34 ad cy iM aM [(11, (upd (aM 11) a1.toNatClampNeg (iM 45))), (32, (upd (aM 32) (((9 : Int32) + (iM 45))).toNatClampNeg a2)), (33, (upd (aM 33) (((9 : Int32) + (iM 45))).toNatClampNeg a3))] ((upd (aM 34) (((9 : Int32) + (iM 45))).toNatClampNeg a4)))) hD
    refine lv_aload_n hx hb dX8_newAtom_71 rfl (lv_at hl 0 rfl) ?_
    refine va_get (D := (dC, dI)) (ci := 8) (v := .ref (ad 24)) (C := RX8) (T := TX8) (N := 78) hx hb hts ki8 hown hK hP 0 rfl rfl 35 (by decide) kf82 (fun _ h9 => h9) rfl dX8_newAtom_72 ?_
    refine lv_bipush (v := 9) hx hb dX8_newAtom_75 (by decide) ?_
    refine lv_aload_n hx hb dX8_newAtom_77 rfl (lv_at hl 0 rfl) ?_
    refine va_get (D := (dC, dI)) (ci := 8) (v := .int (iM 45)) (C := RX8) (T := TX8) (N := 78) hx hb hts ki8 hown hK hP 0 rfl rfl 45 (by decide) kf234 (fun _ h9 => h9) rfl dX8_newAtom_78 ?_
    refine lv_iadd hx hb dX8_newAtom_81 ?_
    refine lv_iload hx hb dX8_newAtom_82 (lv_at hl 5 rfl) ?_
    refine va_zast (f := (aM 35)) hx hb hK hP hD hS 24 4 rfl rfl g_61 dX8_newAtom_84 (fun H locs hP hD hS => ?_)
    have hP : va_P (dC, dI) vwCl (zzM ad cy iM (us aM [(11, (upd (aM 11) a1.toNatClampNeg (iM 45))), (32, (upd (aM 32) (((9 : Int32) + (iM 45))).toNatClampNeg a2)), (33, (upd (aM 33) (((9 : Int32) + (iM 45))).toNatClampNeg a3)), (34, (upd (aM 34) (((9 : Int32) + (iM 45))).toNatClampNeg a4)), (35, (upd (aM 35) (((9 : Int32) + (iM 45))).toNatClampNeg (vp_nar .boolean a5)))])) H := Eq.mp (congrArg (fun w => va_P (dC, dI) vwCl w H) (stM_aM35 ad cy iM aM [(11, (upd (aM 11) a1.toNatClampNeg (iM 45))), (32, (upd (aM 32) (((9 : Int32) + (iM 45))).toNatClampNeg a2)), (33, (upd (aM 33) (((9 : Int32) + (iM 45))).toNatClampNeg a3)), (34, (upd (aM 34) (((9 : Int32) + (iM 45))).toNatClampNeg a4))] ((upd (aM 35) (((9 : Int32) + (iM 45))).toNatClampNeg (vp_nar .boolean a5))))) hP
    have hD : va_D A (zzM ad cy iM (us aM [(11, (upd (aM 11) a1.toNatClampNeg (iM 45))), (32, (upd (aM 32) (((9 : Int32) + (iM 45))).toNatClampNeg a2)), (33, (upd (aM 33) (((9 : Int32) + (iM 45))).toNatClampNeg a3)), (34, (upd (aM 34) (((9 : Int32) + (iM 45))).toNatClampNeg a4)), (35, (upd (aM 35) (((9 : Int32) + (iM 45))).toNatClampNeg (vp_nar .boolean a5)))])) := Eq.mp (congrArg (fun w => va_D A w) (stM_aM35 ad cy iM aM [(11, (upd (aM 11) a1.toNatClampNeg (iM 45))), (32, (upd (aM 32) (((9 : Int32) + (iM 45))).toNatClampNeg a2)), (33, (upd (aM 33) (((9 : Int32) + (iM 45))).toNatClampNeg a3)), (34, (upd (aM 34) (((9 : Int32) + (iM 45))).toNatClampNeg a4))] ((upd (aM 35) (((9 : Int32) + (iM 45))).toNatClampNeg (vp_nar .boolean a5))))) hD
    refine lv_aload_n hx hb dX8_newAtom_85 rfl (lv_at hl 0 rfl) ?_
    refine lv_dup hx hb dX8_newAtom_86 rfl ?_
    refine va_get (D := (dC, dI)) (ci := 8) (v := .int (iM 45)) (C := RX8) (T := TX8) (N := 78) hx hb hts ki8 hown hK hP 0 rfl rfl 45 (by decide) kf234 (fun _ h9 => h9) rfl dX8_newAtom_87 ?_
    refine lv_iconst (v := 1) hx hb dX8_newAtom_90 (by decide) ?_
    refine lv_iadd hx hb dX8_newAtom_91 ?_
    refine va_put (D := (dC, dI)) (ci := 8) (v := .int (((iM 45) + (1 : Int32)))) (ty := .int) (C := RX8) (T := TX8) (N := 78) hx hb hts ki8 tyX8 tyX8_ok nmX8 hown hK hP hD hS 0 rfl rfl 45 (by decide) kf234 (fun _ h9 => h9) rfl (by decide +kernel) rfl rfl (Nat.le_of_ble_eq_true rfl) dX8_newAtom_92 (fun H locs hP hD hS => ?_)
    have hP : va_P (dC, dI) vwCl (zzM ad cy (us iM [(45, ((iM 45) + (1 : Int32)))]) (us aM [(11, (upd (aM 11) a1.toNatClampNeg (iM 45))), (32, (upd (aM 32) (((9 : Int32) + (iM 45))).toNatClampNeg a2)), (33, (upd (aM 33) (((9 : Int32) + (iM 45))).toNatClampNeg a3)), (34, (upd (aM 34) (((9 : Int32) + (iM 45))).toNatClampNeg a4)), (35, (upd (aM 35) (((9 : Int32) + (iM 45))).toNatClampNeg (vp_nar .boolean a5)))])) H := Eq.mp (congrArg (fun w => va_P (dC, dI) vwCl w H) (sfM_iM45 ad cy iM (us aM [(11, (upd (aM 11) a1.toNatClampNeg (iM 45))), (32, (upd (aM 32) (((9 : Int32) + (iM 45))).toNatClampNeg a2)), (33, (upd (aM 33) (((9 : Int32) + (iM 45))).toNatClampNeg a3)), (34, (upd (aM 34) (((9 : Int32) + (iM 45))).toNatClampNeg a4)), (35, (upd (aM 35) (((9 : Int32) + (iM 45))).toNatClampNeg (vp_nar .boolean a5)))]) (((iM 45) + (1 : Int32))))) hP
    have hD : va_D A (zzM ad cy (us iM [(45, ((iM 45) + (1 : Int32)))]) (us aM [(11, (upd (aM 11) a1.toNatClampNeg (iM 45))), (32, (upd (aM 32) (((9 : Int32) + (iM 45))).toNatClampNeg a2)), (33, (upd (aM 33) (((9 : Int32) + (iM 45))).toNatClampNeg a3)), (34, (upd (aM 34) (((9 : Int32) + (iM 45))).toNatClampNeg a4)), (35, (upd (aM 35) (((9 : Int32) + (iM 45))).toNatClampNeg (vp_nar .boolean a5)))])) := Eq.mp (congrArg (fun w => va_D A w) (sfM_iM45 ad cy iM (us aM [(11, (upd (aM 11) a1.toNatClampNeg (iM 45))), (32, (upd (aM 32) (((9 : Int32) + (iM 45))).toNatClampNeg a2)), (33, (upd (aM 33) (((9 : Int32) + (iM 45))).toNatClampNeg a3)), (34, (upd (aM 34) (((9 : Int32) + (iM 45))).toNatClampNeg a4)), (35, (upd (aM 35) (((9 : Int32) + (iM 45))).toNatClampNeg (vp_nar .boolean a5)))]) (((iM 45) + (1 : Int32))))) hD
    have h' := Option.some.inj h
    rw [← hQQ]
    exact W.vret hx hb hr (fun t ht hW => ⟨⟨(), rfl, trivial, by rw [← hWQ, ← h', ht]; exact hP, va_K.moved hW.alike hK⟩, hS.F ht⟩) hS.2.2 dX8_newAtom_95
  · have h := g_t h cz
    refine lv_aload_n hx hb dX8_newAtom_9 rfl (lv_at hl 0 rfl) ?_
    refine lv_iconst (v := 5) hx hb dX8_newAtom_10 (by decide) ?_
    refine lv_aload_n hx hb dX8_newAtom_11 rfl (lv_at hl 0 rfl) ?_
    refine va_get (D := (dC, dI)) (ci := 8) (v := .ref (ad 7)) (C := RX8) (T := TX8) (N := 78) hx hb hts ki8 hown hK hP 0 rfl rfl 12 (by decide) kf30 (fun _ h9 => h9) rfl dX8_newAtom_12 ?_
    refine lv_iload_n hx hb dX8_newAtom_15 rfl (lv_at hl 1 rfl) ?_
    obtain ⟨g_60, h⟩ := g_n h
    refine va_iald (f := (aM 12)) hx hb hK hP 7 0 rfl rfl g_60 dX8_newAtom_16 ?_
    obtain ⟨q17, e17, h⟩ := g_b h
    refine callVvs (cc := cX8_newAtom) (w1 := zzM ad cy (us iM [(46, q17.1), (47, q17.2)]) aM) (As := [.int ((5 : Int32)), .int (((aM 12) a1.toNatClampNeg))]) (rest := []) ⟨hx, hb, hml, hown, hts⟩ (c_M_wrong l dC dI cy ad H.size ((5 : Int32)) (((aM 12) a1.toNatClampNeg)) iM aM q17 e17) (cwV 2 hts (goodV m_ml_X8_194 m_im_X8_wrong m_se_X8_wrong m_in_X8 m_cd_X8_wrong) rfl rfl rfl (by decide +kernel) ⟨Nat.le_of_ble_eq_true rfl, Nat.le_of_ble_eq_true rfl⟩) hN hK hP hD hS hA rfl 0 rfl rfl rfl hl.1 rfl (Nat.le_of_ble_eq_true rfl) dX8_newAtom_17 ⟨Nat.zero_le _, Nat.zero_le _⟩ (fun H locs hP hD hS => ?_)
    have h' := Option.some.inj h
    rw [← hQQ]
    exact W.vret hx hb hr (fun t ht hW => ⟨⟨(), rfl, trivial, by rw [← hWQ, ← h', ht]; exact hP, va_K.moved hW.alike hK⟩, hS.F ht⟩) hS.2.2 dX8_newAtom_20
