def f_M_say (a1 : Int32) (a2 : Int32) (a3 : Int32) (iM40 : Int32) (aM15 : Nat → Int32) (aM16 : Nat → Int32) (aM17 : Nat → Int32) : Option (Int32 × (Nat → Int32) × (Nat → Int32) × (Nat → Int32)) := if ((250 : Int32) + iM40) < 0 ∨ 500 ≤ (((250 : Int32) + iM40)).toNatClampNeg then none else (some ((iM40 + (1 : Int32)), (upd aM15 (((250 : Int32) + iM40)).toNatClampNeg a1), (upd aM16 (((250 : Int32) + iM40)).toNatClampNeg a2), (upd aM17 (((250 : Int32) + iM40)).toNatClampNeg a3)))
set_option maxHeartbeats 8000000 in
set_option maxRecDepth 100000 in
theorem c_M_say (l : Launch) (dC : Nat → ClassId) (dI : Nat → Nat → Nat) (cy : Nat → ClassId) (ad : Nat → Nat) (sz : Nat) (a1 : Int32) (a2 : Int32) (a3 : Int32) (iM : Nat → Int32) (aM : Nat → Nat → Int32) (q : Int32 × (Nat → Int32) × (Nat → Int32) × (Nat → Int32)) (h : f_M_say a1 a2 a3 (iM 40) (aM 15) (aM 16) (aM 17) = some q) : Met l yX8_say wsX8_say ({ frames := 0, cells := 0, slots := 0, locals := 0 } : Room) (cP (dC, dI) cy [.ref (ad 0), .int a1, .int a2, .int a3] (zzM ad cy iM aM) sz) (cQv (dC, dI) cy (zzM ad cy (us iM [(40, q.1)]) (us aM [(15, q.2.1), (16, q.2.2.1), (17, q.2.2.2)])) (va_A (zzM ad cy iM aM) sz)) 0 0 (va_A (zzM ad cy iM aM) sz) := by
  refine Met.ofW (cc := cX8_say) (maxL := 5) (ret := none) (by decide) rfl ?_
  intro p e s m args below meth c s₁ B hml hv
  obtain ⟨hav, hsz, hP, hK, hD0, hN⟩ := hv
  have hx := B.exec
  have hb := B.bytes
  have hr := B.returns
  have hts := atoms_spec (ws := wsX8_say) B.pre
  have hown : s.vm.findClass RX8 = some m.cls := findClass_of_methodNamed B.named
  have hlocks := B.notSynchronized
  subst hsz
  have hD := hD0.self (sz := s.heap.size)
  generalize hAe : va_A (zzM ad cy iM aM) s.heap.size = A at hD ⊢
  have hA : ∀ q : Nat, s.heap.size ≤ q → A q := fun q h => by rw [← hAe]; exact Or.inr h
  have hS : va_S A s.heap s.heap [] := va_S.rf
  generalize hWQ : (zzM ad cy (us iM [(40, q.1)]) (us aM [(15, q.2.1), (16, q.2.2.1), (17, q.2.2.2)])) = WQ
  generalize hQQ : MQ below (cQv (dC, dI) cy WQ A) args s 0 0 A = QQ
  have hl := lv_entry ([.ref (ad 0), .int a1, .int a2, .int a3] : List Value) (n := 5) (Nat.le_of_ble_eq_true rfl)
  have hfr := lg_entry_eq m ([.ref (ad 0), .int a1, .int a2, .int a3] : List Value) 5
  rw [← hav] at hfr
  rw [hfr]
  clear hfr hav
  generalize (lg_sl ([.ref (ad 0), .int a1, .int a2, .int a3] : List Value) ++ List.replicate (5 - (lg_sl ([.ref (ad 0), .int a1, .int a2, .int a3] : List Value)).length) Slot.unset).toArray = ls at hl ⊢
  have hl : lv_has ls 5 [(0, .ref (ad 0)), (1, .int a1), (2, .int a2), (3, .int a3)] := hl
  have kf295 := hts _ (List.mem_cons_of_mem _ m_fl_X8_295)
  have ki8 := (fun w h => List.mem_cons_of_mem _ (i_X8 w h) : ∀ w ∈ u_ws RX8 TX8 78, w ∈ wsX8_say)
  have kf36 := hts _ (List.mem_cons_of_mem _ m_fl_X8_36)
  have kf39 := hts _ (List.mem_cons_of_mem _ m_fl_X8_39)
  have kf42 := hts _ (List.mem_cons_of_mem _ m_fl_X8_42)
  refine (?_ : ∀ (H : Heap) (locs : List Loc), va_P (dC, dI) vwCl (zzM ad cy iM aM) H → va_D A (zzM ad cy iM aM) → va_S A s.heap H locs → W p l e ({ frames := 0, cells := 0, slots := 0, locals := 0 } : Room) s m args below meth c H locs 0 0 QQ (F0 m 0 ls [])) s.heap [] hP hD hS
  clear hP hD hS
  intro H locs hP hD hS
  unfold f_M_say at h
  refine lv_sipush (v := 250) hx hb dX8_say_0 (by decide) ?_
  refine lv_aload_n hx hb dX8_say_3 rfl (lv_at hl 0 rfl) ?_
  refine va_get (D := (dC, dI)) (ci := 8) (v := .int (iM 40)) (C := RX8) (T := TX8) (N := 78) hx hb hts ki8 hown hK hP 0 rfl rfl 40 (by decide) kf295 (fun _ h9 => h9) rfl dX8_say_4 ?_
  refine lv_iadd hx hb dX8_say_7 ?_
  refine lv_istore (lv' := [(4, .int (((250 : Int32) + (iM 40)))), (0, .ref (ad 0)), (1, .int a1), (2, .int a2), (3, .int a3)]) hx hb dX8_say_8 hl (by decide) rfl (fun ls hl => ?_)
  refine lv_aload_n hx hb dX8_say_10 rfl (lv_at hl 1 rfl) ?_
  refine va_get (D := (dC, dI)) (ci := 8) (v := .ref (ad 9)) (C := RX8) (T := TX8) (N := 78) hx hb hts ki8 hown hK hP 0 rfl rfl 15 (by decide) kf36 (fun _ h9 => h9) rfl dX8_say_11 ?_
  refine lv_iload hx hb dX8_say_14 (lv_at hl 0 rfl) ?_
  refine lv_iload_n hx hb dX8_say_16 rfl (lv_at hl 2 rfl) ?_
  obtain ⟨g_85, h⟩ := g_n h
  refine va_iast (f := (aM 15)) hx hb hK hP hD hS 9 0 rfl rfl g_85 dX8_say_17 (fun H locs hP hD hS => ?_)
  have hP : va_P (dC, dI) vwCl (zzM ad cy iM (us aM [(15, (upd (aM 15) (((250 : Int32) + (iM 40))).toNatClampNeg a1))])) H := Eq.mp (congrArg (fun w => va_P (dC, dI) vwCl w H) (sfM_aM15 ad cy iM aM ((upd (aM 15) (((250 : Int32) + (iM 40))).toNatClampNeg a1)))) hP
  have hD : va_D A (zzM ad cy iM (us aM [(15, (upd (aM 15) (((250 : Int32) + (iM 40))).toNatClampNeg a1))])) := Eq.mp (congrArg (fun w => va_D A w) (sfM_aM15 ad cy iM aM ((upd (aM 15) (((250 : Int32) + (iM 40))).toNatClampNeg a1)))) hD
  refine lv_aload_n hx hb dX8_say_18 rfl (lv_at hl 1 rfl) ?_
  refine va_get (D := (dC, dI)) (ci := 8) (v := .ref (ad 10)) (C := RX8) (T := TX8) (N := 78) hx hb hts ki8 hown hK hP 0 rfl rfl 16 (by decide) kf39 (fun _ h9 => h9) rfl dX8_say_19 ?_
  refine lv_iload hx hb dX8_say_22 (lv_at hl 0 rfl) ?_
  refine lv_iload_n hx hb dX8_say_24 rfl (lv_at hl 3 rfl) ?_
  refine va_iast (f := (aM 16)) hx hb hK hP hD hS 10 0 rfl rfl g_85 dX8_say_25 (fun H locs hP hD hS => ?_)
  have hP : va_P (dC, dI) vwCl (zzM ad cy iM (us aM [(15, (upd (aM 15) (((250 : Int32) + (iM 40))).toNatClampNeg a1)), (16, (upd (aM 16) (((250 : Int32) + (iM 40))).toNatClampNeg a2))])) H := Eq.mp (congrArg (fun w => va_P (dC, dI) vwCl w H) (stM_aM16 ad cy iM aM [(15, (upd (aM 15) (((250 : Int32) + (iM 40))).toNatClampNeg a1))] ((upd (aM 16) (((250 : Int32) + (iM 40))).toNatClampNeg a2)))) hP
  have hD : va_D A (zzM ad cy iM (us aM [(15, (upd (aM 15) (((250 : Int32) + (iM 40))).toNatClampNeg a1)), (16, (upd (aM 16) (((250 : Int32) + (iM 40))).toNatClampNeg a2))])) := Eq.mp (congrArg (fun w => va_D A w) (stM_aM16 ad cy iM aM [(15, (upd (aM 15) (((250 : Int32) + (iM 40))).toNatClampNeg a1))] ((upd (aM 16) (((250 : Int32) + (iM 40))).toNatClampNeg a2)))) hD
  refine lv_aload_n hx hb dX8_say_26 rfl (lv_at hl 1 rfl) ?_
  refine va_get (D := (dC, dI)) (ci := 8) (v := .ref (ad 11)) (C := RX8) (T := TX8) (N := 78) hx hb hts ki8 hown hK hP 0 rfl rfl 17 (by decide) kf42 (fun _ h9 => h9) rfl dX8_say_27 ?_
  refine lv_iload hx hb dX8_say_30 (lv_at hl 0 rfl) ?_
  refine lv_iload_n hx hb dX8_say_32 rfl (lv_at hl 4 rfl) ?_
  refine va_iast (f := (aM 17)) hx hb hK hP hD hS 11 0 rfl rfl g_85 dX8_say_33 (fun H locs hP hD hS => ?_)
  have hP : va_P (dC, dI) vwCl (zzM ad cy iM (us aM [(15, (upd (aM 15) (((250 : Int32) + (iM 40))).toNatClampNeg a1)), (16, (upd (aM 16) (((250 : Int32) + (iM 40))).toNatClampNeg a2)), (17, (upd (aM 17) (((250 : Int32) + (iM 40))).toNatClampNeg a3))])) H := Eq.mp (congrArg (fun w => va_P (dC, dI) vwCl w H) (stM_aM17 ad cy iM aM [(15, (upd (aM 15) (((250 : Int32) + (iM 40))).toNatClampNeg a1)), (16, (upd (aM 16) (((250 : Int32) + (iM 40))).toNatClampNeg a2))] ((upd (aM 17) (((250 : Int32) + (iM 40))).toNatClampNeg a3)))) hP
  have hD : va_D A (zzM ad cy iM (us aM [(15, (upd (aM 15) (((250 : Int32) + (iM 40))).toNatClampNeg a1)), (16, (upd (aM 16) (((250 : Int32) + (iM 40))).toNatClampNeg a2)), (17, (upd (aM 17) (((250 : Int32) + (iM 40))).toNatClampNeg a3))])) := Eq.mp (congrArg (fun w => va_D A w) (stM_aM17 ad cy iM aM [(15, (upd (aM 15) (((250 : Int32) + (iM 40))).toNatClampNeg a1)), (16, (upd (aM 16) (((250 : Int32) + (iM 40))).toNatClampNeg a2))] ((upd (aM 17) (((250 : Int32) + (iM 40))).toNatClampNeg a3)))) hD
  refine lv_aload_n hx hb dX8_say_34 rfl (lv_at hl 1 rfl) ?_
  refine lv_dup hx hb dX8_say_35 rfl ?_
  refine va_get (D := (dC, dI)) (ci := 8) (v := .int (iM 40)) (C := RX8) (T := TX8) (N := 78) hx hb hts ki8 hown hK hP 0 rfl rfl 40 (by decide) kf295 (fun _ h9 => h9) rfl dX8_say_36 ?_
  refine lv_iconst (v := 1) hx hb dX8_say_39 (by decide) ?_
  refine lv_iadd hx hb dX8_say_40 ?_
  refine va_put (D := (dC, dI)) (ci := 8) (v := .int (((iM 40) + (1 : Int32)))) (ty := .int) (C := RX8) (T := TX8) (N := 78) hx hb hts ki8 tyX8 tyX8_ok nmX8 hown hK hP hD hS 0 rfl rfl 40 (by decide) kf295 (fun _ h9 => h9) rfl (by decide +kernel) rfl rfl (Nat.le_of_ble_eq_true rfl) dX8_say_41 (fun H locs hP hD hS => ?_)
  have hP : va_P (dC, dI) vwCl (zzM ad cy (us iM [(40, ((iM 40) + (1 : Int32)))]) (us aM [(15, (upd (aM 15) (((250 : Int32) + (iM 40))).toNatClampNeg a1)), (16, (upd (aM 16) (((250 : Int32) + (iM 40))).toNatClampNeg a2)), (17, (upd (aM 17) (((250 : Int32) + (iM 40))).toNatClampNeg a3))])) H := Eq.mp (congrArg (fun w => va_P (dC, dI) vwCl w H) (sfM_iM40 ad cy iM (us aM [(15, (upd (aM 15) (((250 : Int32) + (iM 40))).toNatClampNeg a1)), (16, (upd (aM 16) (((250 : Int32) + (iM 40))).toNatClampNeg a2)), (17, (upd (aM 17) (((250 : Int32) + (iM 40))).toNatClampNeg a3))]) (((iM 40) + (1 : Int32))))) hP
  have hD : va_D A (zzM ad cy (us iM [(40, ((iM 40) + (1 : Int32)))]) (us aM [(15, (upd (aM 15) (((250 : Int32) + (iM 40))).toNatClampNeg a1)), (16, (upd (aM 16) (((250 : Int32) + (iM 40))).toNatClampNeg a2)), (17, (upd (aM 17) (((250 : Int32) + (iM 40))).toNatClampNeg a3))])) := Eq.mp (congrArg (fun w => va_D A w) (sfM_iM40 ad cy iM (us aM [(15, (upd (aM 15) (((250 : Int32) + (iM 40))).toNatClampNeg a1)), (16, (upd (aM 16) (((250 : Int32) + (iM 40))).toNatClampNeg a2)), (17, (upd (aM 17) (((250 : Int32) + (iM 40))).toNatClampNeg a3))]) (((iM 40) + (1 : Int32))))) hD
  have h' := Option.some.inj h
  rw [← hQQ]
  exact W.vret hx hb hr (fun t ht hW => ⟨⟨(), rfl, trivial, by rw [← hWQ, ← h', ht]; exact hP, va_K.moved hW.alike hK⟩, hS.F ht⟩) hS.2.2 dX8_say_44
