def f_M_put (a1 : Int32) (iM73 : Int32) (aM72 : Nat → Int32) : Option (Int32 × (Nat → Int32)) := if iM73 < 0 ∨ 16000 ≤ iM73.toNatClampNeg then none else (some ((iM73 + (1 : Int32)), (upd aM72 iM73.toNatClampNeg (vp_nar .byte (a1).toInt8.toInt32))))
set_option maxHeartbeats 8000000 in
set_option maxRecDepth 100000 in
theorem c_M_put (l : Launch) (dC : Nat → ClassId) (dI : Nat → Nat → Nat) (cy : Nat → ClassId) (ad : Nat → Nat) (sz : Nat) (a1 : Int32) (iM : Nat → Int32) (aM : Nat → Nat → Int32) (q : Int32 × (Nat → Int32)) (h : f_M_put a1 (iM 73) (aM 72) = some q) : Met l yX8_put wsX8_put ({ frames := 0, cells := 0, slots := 0, locals := 0 } : Room) (cP (dC, dI) cy [.ref (ad 0), .int a1] (zzM ad cy iM aM) sz) (cQv (dC, dI) cy (zzM ad cy (us iM [(73, q.1)]) (us aM [(72, q.2)])) (va_A (zzM ad cy iM aM) sz)) 0 0 (va_A (zzM ad cy iM aM) sz) := by
  refine Met.ofW (cc := cX8_put) (maxL := 2) (ret := none) (by decide) rfl ?_
  intro p e s m args below meth c s₁ B hml hv
  obtain ⟨hav, hsz, hP, hK, hD0, hN⟩ := hv
  have hx := B.exec
  have hb := B.bytes
  have hr := B.returns
  have hts := atoms_spec (ws := wsX8_put) B.pre
  have hown : s.vm.findClass RX8 = some m.cls := findClass_of_methodNamed B.named
  have hlocks := B.notSynchronized
  subst hsz
  have hD := hD0.self (sz := s.heap.size)
  generalize hAe : va_A (zzM ad cy iM aM) s.heap.size = A at hD ⊢
  have hA : ∀ q : Nat, s.heap.size ≤ q → A q := fun q h => by rw [← hAe]; exact Or.inr h
  have hS : va_S A s.heap s.heap [] := va_S.rf
  generalize hWQ : (zzM ad cy (us iM [(73, q.1)]) (us aM [(72, q.2)])) = WQ
  generalize hQQ : MQ below (cQv (dC, dI) cy WQ A) args s 0 0 A = QQ
  have hl := lv_entry ([.ref (ad 0), .int a1] : List Value) (n := 2) (Nat.le_of_ble_eq_true rfl)
  have hfr := lg_entry_eq m ([.ref (ad 0), .int a1] : List Value) 2
  rw [← hav] at hfr
  rw [hfr]
  clear hfr hav
  generalize (lg_sl ([.ref (ad 0), .int a1] : List Value) ++ List.replicate (2 - (lg_sl ([.ref (ad 0), .int a1] : List Value)).length) Slot.unset).toArray = ls at hl ⊢
  have hl : lv_has ls 2 [(0, .ref (ad 0)), (1, .int a1)] := hl
  have kf135 := hts _ (List.mem_cons_of_mem _ m_fl_X8_135)
  have ki8 := (fun w h => List.mem_cons_of_mem _ (i_X8 w h) : ∀ w ∈ u_ws RX8 TX8 78, w ∈ wsX8_put)
  have kf402 := hts _ (List.mem_cons_of_mem _ m_fl_X8_402)
  refine (?_ : ∀ (H : Heap) (locs : List Loc), va_P (dC, dI) vwCl (zzM ad cy iM aM) H → va_D A (zzM ad cy iM aM) → va_S A s.heap H locs → W p l e ({ frames := 0, cells := 0, slots := 0, locals := 0 } : Room) s m args below meth c H locs 0 0 QQ (F0 m 0 ls [])) s.heap [] hP hD hS
  clear hP hD hS
  intro H locs hP hD hS
  unfold f_M_put at h
  refine lv_aload_n hx hb dX8_put_0 rfl (lv_at hl 0 rfl) ?_
  refine va_get (D := (dC, dI)) (ci := 8) (v := .ref (ad 40)) (C := RX8) (T := TX8) (N := 78) hx hb hts ki8 hown hK hP 0 rfl rfl 72 (by decide) kf135 (fun _ h9 => h9) rfl dX8_put_1 ?_
  refine lv_aload_n hx hb dX8_put_4 rfl (lv_at hl 0 rfl) ?_
  refine va_get (D := (dC, dI)) (ci := 8) (v := .int (iM 73)) (C := RX8) (T := TX8) (N := 78) hx hb hts ki8 hown hK hP 0 rfl rfl 73 (by decide) kf402 (fun _ h9 => h9) rfl dX8_put_5 ?_
  refine lv_iload_n hx hb dX8_put_8 rfl (lv_at hl 1 rfl) ?_
  refine lv_i2b (v := (a1).toInt8.toInt32) hx hb dX8_put_9 rfl ?_
  obtain ⟨g_140, h⟩ := g_n h
  refine va_bast (f := (aM 72)) hx hb hK hP hD hS 40 1 rfl rfl g_140 dX8_put_10 (fun H locs hP hD hS => ?_)
  have hP : va_P (dC, dI) vwCl (zzM ad cy iM (us aM [(72, (upd (aM 72) (iM 73).toNatClampNeg (vp_nar .byte (a1).toInt8.toInt32)))])) H := Eq.mp (congrArg (fun w => va_P (dC, dI) vwCl w H) (sfM_aM72 ad cy iM aM ((upd (aM 72) (iM 73).toNatClampNeg (vp_nar .byte (a1).toInt8.toInt32))))) hP
  have hD : va_D A (zzM ad cy iM (us aM [(72, (upd (aM 72) (iM 73).toNatClampNeg (vp_nar .byte (a1).toInt8.toInt32)))])) := Eq.mp (congrArg (fun w => va_D A w) (sfM_aM72 ad cy iM aM ((upd (aM 72) (iM 73).toNatClampNeg (vp_nar .byte (a1).toInt8.toInt32))))) hD
  refine lv_aload_n hx hb dX8_put_11 rfl (lv_at hl 0 rfl) ?_
  refine lv_dup hx hb dX8_put_12 rfl ?_
  refine va_get (D := (dC, dI)) (ci := 8) (v := .int (iM 73)) (C := RX8) (T := TX8) (N := 78) hx hb hts ki8 hown hK hP 0 rfl rfl 73 (by decide) kf402 (fun _ h9 => h9) rfl dX8_put_13 ?_
  refine lv_iconst (v := 1) hx hb dX8_put_16 (by decide) ?_
  refine lv_iadd hx hb dX8_put_17 ?_
  refine va_put (D := (dC, dI)) (ci := 8) (v := .int (((iM 73) + (1 : Int32)))) (ty := .int) (C := RX8) (T := TX8) (N := 78) hx hb hts ki8 tyX8 tyX8_ok nmX8 hown hK hP hD hS 0 rfl rfl 73 (by decide) kf402 (fun _ h9 => h9) rfl (by decide +kernel) rfl rfl (Nat.le_of_ble_eq_true rfl) dX8_put_18 (fun H locs hP hD hS => ?_)
  have hP : va_P (dC, dI) vwCl (zzM ad cy (us iM [(73, ((iM 73) + (1 : Int32)))]) (us aM [(72, (upd (aM 72) (iM 73).toNatClampNeg (vp_nar .byte (a1).toInt8.toInt32)))])) H := Eq.mp (congrArg (fun w => va_P (dC, dI) vwCl w H) (sfM_iM73 ad cy iM (us aM [(72, (upd (aM 72) (iM 73).toNatClampNeg (vp_nar .byte (a1).toInt8.toInt32)))]) (((iM 73) + (1 : Int32))))) hP
  have hD : va_D A (zzM ad cy (us iM [(73, ((iM 73) + (1 : Int32)))]) (us aM [(72, (upd (aM 72) (iM 73).toNatClampNeg (vp_nar .byte (a1).toInt8.toInt32)))])) := Eq.mp (congrArg (fun w => va_D A w) (sfM_iM73 ad cy iM (us aM [(72, (upd (aM 72) (iM 73).toNatClampNeg (vp_nar .byte (a1).toInt8.toInt32)))]) (((iM 73) + (1 : Int32))))) hD
  have h' := Option.some.inj h
  rw [← hQQ]
  exact W.vret hx hb hr (fun t ht hW => ⟨⟨(), rfl, trivial, by rw [← hWQ, ← h', ht]; exact hP, va_K.moved hW.alike hK⟩, hS.F ht⟩) hS.2.2 dX8_put_21
