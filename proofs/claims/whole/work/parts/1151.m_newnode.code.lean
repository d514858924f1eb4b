def f_M_newNode (a1 : Int32) (iM4 : Int32) (iM38 : Int32) (iM46 : Int32) (iM47 : Int32) (aM8 : Nat → Int32) (aM9 : Nat → Int32) (aM10 : Nat → Int32) (aM11 : Nat → Int32) (aM12 : Nat → Int32) : Option (Int32 × Int32 × Int32 × Int32 × (Nat → Int32) × (Nat → Int32) × (Nat → Int32) × (Nat → Int32) × (Nat → Int32)) := if iM38 = (200 : Int32) then ((f_M_wrong ((3 : Int32)) iM4 iM46 iM47).bind fun q16 => (some ((200 : Int32), iM38, q16.1, q16.2, aM8, aM9, aM10, aM11, aM12))) else (if ((200 : Int32) + iM38) < 0 ∨ 400 ≤ (((200 : Int32) + iM38)).toNatClampNeg then none else (some (((200 : Int32) + iM38), (iM38 + (1 : Int32)), iM46, iM47, (upd aM8 (((200 : Int32) + iM38)).toNatClampNeg a1), (upd aM9 (((200 : Int32) + iM38)).toNatClampNeg ((-1 : Int32))), (upd aM10 (((200 : Int32) + iM38)).toNatClampNeg ((-1 : Int32))), (upd aM11 (((200 : Int32) + iM38)).toNatClampNeg ((-1 : Int32))), (upd aM12 (((200 : Int32) + iM38)).toNatClampNeg iM4))))
set_option maxHeartbeats 8000000 in
set_option maxRecDepth 100000 in
theorem c_M_newNode (l : Launch) (dC : Nat → ClassId) (dI : Nat → Nat → Nat) (cy : Nat → ClassId) (ad : Nat → Nat) (sz : Nat) (a1 : Int32) (iM : Nat → Int32) (aM : Nat → Nat → Int32) (q : Int32 × Int32 × Int32 × Int32 × (Nat → Int32) × (Nat → Int32) × (Nat → Int32) × (Nat → Int32) × (Nat → Int32)) (h : f_M_newNode a1 (iM 4) (iM 38) (iM 46) (iM 47) (aM 8) (aM 9) (aM 10) (aM 11) (aM 12) = some q) : Met l yX8_newNode wsX8_newNode ({ frames := 1, cells := 0, slots := 0, locals := 22 } : Room) (cP (dC, dI) cy [.ref (ad 0), .int a1] (zzM ad cy iM aM) sz) (cQi (dC, dI) cy q.1 (zzM ad cy (us iM [(38, q.2.1), (46, q.2.2.1), (47, q.2.2.2.1)]) (us aM [(8, q.2.2.2.2.1), (9, q.2.2.2.2.2.1), (10, q.2.2.2.2.2.2.1), (11, q.2.2.2.2.2.2.2.1), (12, q.2.2.2.2.2.2.2.2)])) (va_A (zzM ad cy iM aM) sz)) 0 0 (va_A (zzM ad cy iM aM) sz) := by
  refine Met.ofW (cc := cX8_newNode) (maxL := 3) (ret := (some .int)) (by decide) rfl ?_
  intro p e s m args below meth c s₁ B hml hv
  obtain ⟨hav, hsz, hP, hK, hD0, hN⟩ := hv
  have hx := B.exec
  have hb := B.bytes
  have hr := B.returns
  have hts := atoms_spec (ws := wsX8_newNode) B.pre
  have hown : s.vm.findClass RX8 = some m.cls := findClass_of_methodNamed B.named
  have hlocks := B.notSynchronized
  subst hsz
  have hD := hD0.self (sz := s.heap.size)
  generalize hAe : va_A (zzM ad cy iM aM) s.heap.size = A at hD ⊢
  have hA : ∀ q : Nat, s.heap.size ≤ q → A q := fun q h => by rw [← hAe]; exact Or.inr h
  have hS : va_S A s.heap s.heap [] := va_S.rf
  generalize hWQ : (zzM ad cy (us iM [(38, q.2.1), (46, q.2.2.1), (47, q.2.2.2.1)]) (us aM [(8, q.2.2.2.2.1), (9, q.2.2.2.2.2.1), (10, q.2.2.2.2.2.2.1), (11, q.2.2.2.2.2.2.2.1), (12, q.2.2.2.2.2.2.2.2)])) = WQ
  generalize hQQ : MQ below (cQi (dC, dI) cy q.1 WQ A) args s 0 0 A = QQ
  have hl := lv_entry ([.ref (ad 0), .int a1] : List Value) (n := 3) (Nat.le_of_ble_eq_true rfl)
  have hfr := lg_entry_eq m ([.ref (ad 0), .int a1] : List Value) 3
  rw [← hav] at hfr
  rw [hfr]
  clear hfr hav
  generalize (lg_sl ([.ref (ad 0), .int a1] : List Value) ++ List.replicate (3 - (lg_sl ([.ref (ad 0), .int a1] : List Value)).length) Slot.unset).toArray = ls at hl ⊢
  have hl : lv_has ls 3 [(0, .ref (ad 0)), (1, .int a1)] := hl
  have kf211 := hts _ (List.mem_cons_of_mem _ m_fl_X8_211)
  have ki8 := (fun w h => List.mem_cons_of_mem _ (i_X8 w h) : ∀ w ∈ u_ws RX8 TX8 78, w ∈ wsX8_newNode)
  have kf17 := hts _ (List.mem_cons_of_mem _ m_fl_X8_17)
  have kf21 := hts _ (List.mem_cons_of_mem _ m_fl_X8_21)
  have kf24 := hts _ (List.mem_cons_of_mem _ m_fl_X8_24)
  have kf27 := hts _ (List.mem_cons_of_mem _ m_fl_X8_27)
  have kf30 := hts _ (List.mem_cons_of_mem _ m_fl_X8_30)
  have kf169 := hts _ (List.mem_cons_of_mem _ m_fl_X8_169)
  refine (?_ : ∀ (H : Heap) (locs : List Loc), va_P (dC, dI) vwCl (zzM ad cy iM aM) H → va_D A (zzM ad cy iM aM) → va_S A s.heap H locs → W p l e ({ frames := 1, cells := 0, slots := 0, locals := 22 } : Room) s m args below meth c H locs 0 0 QQ (F0 m 0 ls [])) s.heap [] hP hD hS
  clear hP hD hS
  intro H locs hP hD hS
  unfold f_M_newNode at h
  refine lv_aload_n hx hb dX8_newNode_0 rfl (lv_at hl 0 rfl) ?_
  refine va_get (D := (dC, dI)) (ci := 8) (v := .int (iM 38)) (C := RX8) (T := TX8) (N := 78) hx hb hts ki8 hown hK hP 0 rfl rfl 38 (by decide) kf211 (fun _ h9 => h9) rfl dX8_newNode_1 ?_
  refine lv_sipush (v := 200) hx hb dX8_newNode_4 (by decide) ?_
  refine lv_icmp_ne (tgt := 23) hx hb dX8_newNode_7 (by decide) (fun cz => ?_) (fun cz => ?_)
  · have h := g_f h cz
    refine lv_sipush (v := 200) hx hb dX8_newNode_23 (by decide) ?_
    refine lv_aload_n hx hb dX8_newNode_26 rfl (lv_at hl 0 rfl) ?_
    refine va_get (D := (dC, dI)) (ci := 8) (v := .int (iM 38)) (C := RX8) (T := TX8) (N := 78) hx hb hts ki8 hown hK hP 0 rfl rfl 38 (by decide) kf211 (fun _ h9 => h9) rfl dX8_newNode_27 ?_
    refine lv_iadd hx hb dX8_newNode_30 ?_
    refine lv_istore_n (lv' := [(2, .int (((200 : Int32) + (iM 38)))), (0, .ref (ad 0)), (1, .int a1)]) hx hb dX8_newNode_31 rfl hl (by decide) rfl (fun ls hl => ?_)
    refine lv_aload_n hx hb dX8_newNode_32 rfl (lv_at hl 1 rfl) ?_
    refine lv_dup hx hb dX8_newNode_33 rfl ?_
    refine va_get (D := (dC, dI)) (ci := 8) (v := .int (iM 38)) (C := RX8) (T := TX8) (N := 78) hx hb hts ki8 hown hK hP 0 rfl rfl 38 (by decide) kf211 (fun _ h9 => h9) rfl dX8_newNode_34 ?_
    refine lv_iconst (v := 1) hx hb dX8_newNode_37 (by decide) ?_
    refine lv_iadd hx hb dX8_newNode_38 ?_
    refine va_put (D := (dC, dI)) (ci := 8) (v := .int (((iM 38) + (1 : Int32)))) (ty := .int) (C := RX8) (T := TX8) (N := 78) hx hb hts ki8 tyX8 tyX8_ok nmX8 hown hK hP hD hS 0 rfl rfl 38 (by decide) kf211 (fun _ h9 => h9) rfl (by decide +kernel) rfl rfl (Nat.le_of_ble_eq_true rfl) dX8_newNode_39 (fun H locs hP hD hS => ?_)
    have hP : va_P (dC, dI) vwCl (zzM ad cy (us iM [(38, ((iM 38) + (1 : Int32)))]) aM) H := Eq.mp (congrArg (fun w => va_P (dC, dI) vwCl w H) (sfM_iM38 ad cy iM aM (((iM 38) + (1 : Int32))))) hP
    have hD : va_D A (zzM ad cy (us iM [(38, ((iM 38) + (1 : Int32)))]) aM) := Eq.mp (congrArg (fun w => va_D A w) (sfM_iM38 ad cy iM aM (((iM 38) + (1 : Int32))))) hD
    refine lv_aload_n hx hb dX8_newNode_42 rfl (lv_at hl 1 rfl) ?_
    refine va_get (D := (dC, dI)) (ci := 8) (v := .ref (ad 3)) (C := RX8) (T := TX8) (N := 78) hx hb hts ki8 hown hK hP 0 rfl rfl 8 (by decide) kf17 (fun _ h9 => h9) rfl dX8_newNode_43 ?_
    refine lv_iload_n hx hb dX8_newNode_46 rfl (lv_at hl 0 rfl) ?_
    refine lv_iload_n hx hb dX8_newNode_47 rfl (lv_at hl 2 rfl) ?_
    obtain ⟨g_53, h⟩ := g_n h
    refine va_iast (f := (aM 8)) hx hb hK hP hD hS 3 0 rfl rfl g_53 dX8_newNode_48 (fun H locs hP hD hS => ?_)
    have hP : va_P (dC, dI) vwCl (zzM ad cy (us iM [(38, ((iM 38) + (1 : Int32)))]) (us aM [(8, (upd (aM 8) (((200 : Int32) + (iM 38))).toNatClampNeg a1))])) H := Eq.mp (congrArg (fun w => va_P (dC, dI) vwCl w H) (sfM_aM8 ad cy (us iM [(38, ((iM 38) + (1 : Int32)))]) aM ((upd (aM 8) (((200 : Int32) + (iM 38))).toNatClampNeg a1)))) hP
    have hD : va_D A (zzM ad cy (us iM [(38, ((iM 38) + (1 : Int32)))]) (us aM [(8, (upd (aM 8) (((200 : Int32) + (iM 38))).toNatClampNeg a1))])) := Eq.mp (congrArg (fun w => va_D A w) (sfM_aM8 ad cy (us iM [(38, ((iM 38) + (1 : Int32)))]) aM ((upd (aM 8) (((200 : Int32) + (iM 38))).toNatClampNeg a1)))) hD
    refine lv_aload_n hx hb dX8_newNode_49 rfl (lv_at hl 1 rfl) ?_
    refine va_get (D := (dC, dI)) (ci := 8) (v := .ref (ad 4)) (C := RX8) (T := TX8) (N := 78) hx hb hts ki8 hown hK hP 0 rfl rfl 9 (by decide) kf21 (fun _ h9 => h9) rfl dX8_newNode_50 ?_
    refine lv_iload_n hx hb dX8_newNode_53 rfl (lv_at hl 0 rfl) ?_
    refine lv_iconst (v := (-1)) hx hb dX8_newNode_54 (by decide) ?_
    refine va_iast (f := (aM 9)) hx hb hK hP hD hS 4 0 rfl rfl g_53 dX8_newNode_55 (fun H locs hP hD hS => ?_)
    have hP : va_P (dC, dI) vwCl (zzM ad cy (us iM [(38, ((iM 38) + (1 : Int32)))]) (us aM [(8, (upd (aM 8) (((200 : Int32) + (iM 38))).toNatClampNeg a1)), (9, (upd (aM 9) (((200 : Int32) + (iM 38))).toNatClampNeg ((-1 : Int32))))])) H := Eq.mp (congrArg (fun w => va_P (dC, dI) vwCl w H) (stM_aM9 ad cy (us iM [(38, ((iM 38) + (1 : Int32)))]) aM [(8, (upd (aM 8) (((200 : Int32) + (iM 38))).toNatClampNeg a1))] ((upd (aM 9) (((200 : Int32) + (iM 38))).toNatClampNeg ((-1 : Int32)))))) hP
    have hD : va_D A (zzM ad cy (us iM [(38, ((iM 38) + (1 : Int32)))]) (us aM [(8, (upd (aM 8) (((200 : Int32) + (iM 38))).toNatClampNeg a1)), (9, (upd (aM 9) (((200 : Int32) + (iM 38))).toNatClampNeg ((-1 : Int32))))])) := Eq.mp (congrArg (fun w => va_D A w) (stM_aM9 ad cy (us iM [(38, ((iM 38) + (1 : Int32)))]) aM [(8, (upd (aM 8) (((200 : Int32) + (iM 38))).toNatClampNeg a1))] ((upd (aM 9) (((200 : Int32) + (iM 38))).toNatClampNeg ((-1 : Int32)))))) hD
    refine lv_aload_n hx hb dX8_newNode_56 rfl (lv_at hl 1 rfl) ?_
    refine va_get (D := (dC, dI)) (ci := 8) (v := .ref (ad 5)) (C := RX8) (T := TX8) (N := 78) hx hb hts ki8 hown hK hP 0 rfl rfl 10 (by decide) kf24 (fun _ h9 => h9) rfl dX8_newNode_57 ?_
    refine lv_iload_n hx hb dX8_newNode_60 rfl (lv_at hl 0 rfl) ?_
    refine lv_iconst (v := (-1)) hx hb dX8_newNode_61 (by decide) ?_
    refine va_iast (f := (aM 10)) hx hb hK hP hD hS 5 0 rfl rfl g_53 dX8_newNode_62 (fun H locs hP hD hS => ?_)
    have hP : va_P (dC, dI) vwCl (zzM ad cy (us iM [(38, ((iM 38) + (1 : Int32)))]) (us aM [(8, (upd (aM 8) (((200 : Int32) + (iM 38))).toNatClampNeg a1)), (9, (upd (aM 9) (((200 : Int32) + (iM 38))).toNatClampNeg ((-1 : Int32)))), (10, (upd (aM 10) (((200 : Int32) + (iM 38))).toNatClampNeg ((-1 : Int32))))])) H := Eq.mp (congrArg (fun w => va_P (dC, dI) vwCl w H) (stM_aM10 ad cy (us iM [(38, ((iM 38) + (1 : Int32)))]) aM [(8, (upd (aM 8) (((200 : Int32) + (iM 38))).toNatClampNeg a1)), (9, (upd (aM 9) (((200 : Int32) + (iM 38))).toNatClampNeg ((-1 : Int32))))] ((upd (aM 10) (((200 : Int32) + (iM 38))).toNatClampNeg ((-1 : Int32)))))) hP
    have hD : va_D A (zzM ad cy (us iM [(38, ((iM 38) + (1 : Int32)))]) (us aM [(8, (upd (aM 8) (((200 : Int32) + (iM 38))).toNatClampNeg a1)), (9, (upd (aM 9) (((200 : Int32) + (iM 38))).toNatClampNeg ((-1 : Int32)))), (10, (upd (aM 10) (((200 : Int32) + (iM 38))).toNatClampNeg ((-1 : Int32))))])) := Eq.mp (congrArg (fun w => va_D A w) (stM_aM10 ad cy (us iM [(38, ((iM 38) + (1 : Int32)))]) aM [(8, (upd (aM 8) (((200 : Int32) + (iM 38))).toNatClampNeg a1)), (9, (upd (aM 9) (((200 : Int32) + (iM 38))).toNatClampNeg ((-1 : Int32))))] ((upd (aM 10) (((200 : Int32) + (iM 38))).toNatClampNeg ((-1 : Int32)))))) hD
    refine lv_aload_n hx hb dX8_newNode_63 rfl (lv_at hl 1 rfl) ?_
    refine va_get (D := (dC, dI)) (ci := 8) (v := .ref (ad 6)) (C := RX8) (T := TX8) (N := 78) hx hb hts ki8 hown hK hP 0 rfl rfl 11 (by decide) kf27 (fun _ h9 => h9) rfl dX8_newNode_64 ?_
    refine lv_iload_n hx hb dX8_newNode_67 rfl (lv_at hl 0 rfl) ?_
    refine lv_iconst (v := (-1)) hx hb dX8_newNode_68 (by decide) ?_
    refine va_iast (f := (aM 11)) hx hb hK hP hD hS 6 0 rfl rfl g_53 dX8_newNode_69 (fun H locs hP hD hS => ?_)
    have hP : va_P (dC, dI) vwCl (zzM ad cy (us iM [(38, ((iM 38) + (1 : Int32)))]) (us aM [(8, (upd (aM 8) (((200 : Int32) + (iM 38))).toNatClampNeg a1)), (9, (upd (aM 9) (((200 : Int32) + (iM 38))).toNatClampNeg ((-1 : Int32)))), (10, (upd (aM 10) (((200 : Int32) + (iM 38))).toNatClampNeg ((-1 : Int32)))), (11, (upd (aM 11) (((200 : Int32) + (iM 38))).toNatClampNeg ((-1 : Int32))))])) H := Eq.mp (congrArg (fun w => va_P (dC, dI) vwCl w H) (stM_aM11 ad cy (us iM [(38, ((iM 38) + (1 : Int32)))]) aM [(8, (upd (aM 8) (((200 : Int32) + (iM 38))).toNatClampNeg a1)), (9, (upd (aM 9) (((200 : Int32) + (iM 38))).toNatClampNeg ((-1 : Int32)))), (10, (upd (aM 10) (((200 : Int32) + (iM 38))).toNatClampNeg ((-1 : Int32))))] ((upd (aM 11) (((200 : Int32) + (iM 38))).toNatClampNeg ((-1 : Int32)))))) hP
    have hD : va_D A (zzM ad cy (us iM [(38, ((iM 38) + (1 : Int32)))]) (us aM [(8, (upd (aM 8) (((200 : Int32) + (iM 38))).toNatClampNeg a1)), (9, (upd (aM 9) (((200 : Int32) + (iM 38))).toNatClampNeg ((-1 : Int32)))), (10, (upd (aM 10) (((200 : Int32) + (iM 38))).toNatClampNeg ((-1 : Int32)))), (11, (upd (aM 11) (((200 : Int32) + (iM 38))).toNatClampNeg ((-1 : Int32))))])) := Eq.mp (congrArg (fun w => va_D A w) (stM_aM11 ad cy (us iM [(38, ((iM 38) + (1 : Int32)))]) aM [(8, (upd (aM 8) (((200 : Int32) + (iM 38))).toNatClampNeg a1)), (9, (upd (aM 9) (((200 : Int32) + (iM 38))).toNatClampNeg ((-1 : Int32)))), (10, (upd (aM 10) (((200 : Int32) + (iM 38))).toNatClampNeg ((-1 : Int32))))] ((upd (aM 11) (((200 : Int32) + (iM 38))).toNatClampNeg ((-1 : Int32)))))) hD
    refine lv_aload_n hx hb dX8_newNode_70 rfl (lv_at hl 1 rfl) ?_
    refine va_get (D := (dC, dI)) (ci := 8) (v := .ref (ad 7)) (C := RX8) (T := TX8) (N := 78) hx hb hts ki8 hown hK hP 0 rfl rfl 12 (by decide) kf30 (fun _ h9 => h9) rfl dX8_newNode_71 ?_
    refine lv_iload_n hx hb dX8_newNode_74 rfl (lv_at hl 0 rfl) ?_
    refine lv_aload_n hx hb dX8_newNode_75 rfl (lv_at hl 1 rfl) ?_
    refine va_get (D := (dC, dI)) (ci := 8) (v := .int (iM 4)) (C := RX8) (T := TX8) (N := 78) hx hb hts ki8 hown hK hP 0 rfl rfl 4 (by decide) kf169 (fun _ h9 => h9) rfl dX8_newNode_76 ?_
    refine va_iast (f := (aM 12)) hx hb hK hP hD hS 7 0 rfl rfl g_53 dX8_newNode_79 (fun H locs hP hD hS => ?_)
    have hP : va_P (dC, dI) vwCl (zzM ad cy (us iM [(38, ((iM 38) + (1 : Int32)))]) (us aM [(8, (upd (aM 8) (((200 : Int32) + (iM 38))).toNatClampNeg a1)), (9, (upd (aM 9) (((200 : Int32) + (iM 38))).toNatClampNeg ((-1 : Int32)))), (10, (upd (aM 10) (((200 : Int32) + (iM 38))).toNatClampNeg ((-1 : Int32)))), (11, (upd (aM 11) (((200 : Int32) + (iM 38))).toNatClampNeg ((-1 : Int32)))), (12, (upd (aM 12) (((200 : Int32) + (iM 38))).toNatClampNeg (iM 4)))])) H := Eq.mp (congrArg (fun w => va_P (dC, dI) vwCl w H) (stM_aM12 ad cy (us iM [(38, ((iM 38) + (1 : Int32)))]) aM [(8, (upd (aM 8) (((200 : Int32) + (iM 38))).toNatClampNeg a1)), (9, (upd (aM 9) (((200 : Int32) + (iM 38))).toNatClampNeg ((-1 : Int32)))), (10, (upd (aM 10) (((200 : Int32) + (iM 38))).toNatClampNeg ((-1 : Int32)))), (11, (upd (aM 11) (((200 : Int32) + (iM 38))).toNatClampNeg ((-1 : Int32))))] ((upd (aM 12) (((200 : Int32) + (iM 38))).toNatClampNeg (iM 4))))) hP
    have hD : va_D A (zzM ad cy (us iM [(38, ((iM 38) + (1 : Int32)))]) (us aM [(8, (upd (aM 8) (((200 : Int32) + (iM 38))).toNatClampNeg a1)), (9, (upd (aM 9) (((200 : Int32) + (iM 38))).toNatClampNeg ((-1 : Int32)))), (10, (upd (aM 10) (((200 : Int32) + (iM 38))).toNatClampNeg ((-1 : Int32)))), (11, (upd (aM 11) (((200 : Int32) + (iM 38))).toNatClampNeg ((-1 : Int32)))), (12, (upd (aM 12) (((200 : Int32) + (iM 38))).toNatClampNeg (iM 4)))])) := Eq.mp (congrArg (fun w => va_D A w) (stM_aM12 ad cy (us iM [(38, ((iM 38) + (1 : Int32)))]) aM [(8, (upd (aM 8) (((200 : Int32) + (iM 38))).toNatClampNeg a1)), (9, (upd (aM 9) (((200 : Int32) + (iM 38))).toNatClampNeg ((-1 : Int32)))), (10, (upd (aM 10) (((200 : Int32) + (iM 38))).toNatClampNeg ((-1 : Int32)))), (11, (upd (aM 11) (((200 : Int32) + (iM 38))).toNatClampNeg ((-1 : Int32))))] ((upd (aM 12) (((200 : Int32) + (iM 38))).toNatClampNeg (iM 4))))) hD
    refine lv_iload_n hx hb dX8_newNode_80 rfl (lv_at hl 0 rfl) ?_
    have h' := Option.some.inj h
    rw [← hQQ]
    exact W.iret (v := ((200 : Int32) + (iM 38))) hx hb hr (fun t ht hW => ⟨⟨((200 : Int32) + (iM 38)), (), rfl, by rw [← h'], by rw [← hWQ, ← h', ht]; exact hP, va_K.moved hW.alike hK⟩, hS.F ht⟩) hS.2.2 dX8_newNode_81
  · have h := g_t h cz
    refine lv_aload_n hx hb dX8_newNode_10 rfl (lv_at hl 0 rfl) ?_
    refine lv_iconst (v := 3) hx hb dX8_newNode_11 (by decide) ?_
    refine lv_aload_n hx hb dX8_newNode_12 rfl (lv_at hl 0 rfl) ?_
    refine va_get (D := (dC, dI)) (ci := 8) (v := .int (iM 4)) (C := RX8) (T := TX8) (N := 78) hx hb hts ki8 hown hK hP 0 rfl rfl 4 (by decide) kf169 (fun _ h9 => h9) rfl dX8_newNode_13 ?_
    obtain ⟨q16, e16, h⟩ := g_b h
    refine callVvs (cc := cX8_newNode) (w1 := zzM ad cy (us iM [(46, q16.1), (47, q16.2)]) aM) (As := [.int ((3 : Int32)), .int (iM 4)]) (rest := []) ⟨hx, hb, hml, hown, hts⟩ (c_M_wrong l dC dI cy ad H.size ((3 : Int32)) (iM 4) iM aM q16 e16) (cwV 2 hts (goodV m_ml_X8_194 m_im_X8_wrong m_se_X8_wrong m_in_X8 m_cd_X8_wrong) rfl rfl rfl (by decide +kernel) ⟨Nat.le_of_ble_eq_true rfl, Nat.le_of_ble_eq_true rfl⟩) hN hK hP hD hS hA rfl 0 rfl rfl rfl hl.1 rfl (Nat.le_of_ble_eq_true rfl) dX8_newNode_16 ⟨Nat.zero_le _, Nat.zero_le _⟩ (fun H locs hP hD hS => ?_)
    refine lv_sipush (v := 200) hx hb dX8_newNode_19 (by decide) ?_
    have h' := Option.some.inj h
    rw [← hQQ]
    exact W.iret (v := (200 : Int32)) hx hb hr (fun t ht hW => ⟨⟨(200 : Int32), (), rfl, by rw [← h'], by rw [← hWQ, ← h', ht]; exact hP, va_K.moved hW.alike hK⟩, hS.F ht⟩) hS.2.2 dX8_newNode_22
