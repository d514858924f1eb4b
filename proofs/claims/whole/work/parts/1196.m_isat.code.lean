def f_M_isAt (a1 : Int32) (a2 : Int32) (aM21 : Nat → Int32) (aM57 : Nat → Int32) : Option Int32 := if a1 < 0 ∨ 24 ≤ a1.toNatClampNeg then none else (if (((512 : Int32) * (aM21 a1.toNatClampNeg)) + a2) < 0 ∨ 102400 ≤ ((((512 : Int32) * (aM21 a1.toNatClampNeg)) + a2)).toNatClampNeg then none else (if vp_nar .boolean ((aM57 ((((512 : Int32) * (aM21 a1.toNatClampNeg)) + a2)).toNatClampNeg)) = ((aM57 ((((512 : Int32) * (aM21 a1.toNatClampNeg)) + a2)).toNatClampNeg)) then (some (aM57 ((((512 : Int32) * (aM21 a1.toNatClampNeg)) + a2)).toNatClampNeg)) else none))
set_option maxHeartbeats 8000000 in
set_option maxRecDepth 100000 in
theorem c_M_isAt (l : Launch) (dC : Nat → ClassId) (dI : Nat → Nat → Nat) (cy : Nat → ClassId) (ad : Nat → Nat) (sz : Nat) (a1 : Int32) (a2 : Int32) (iM : Nat → Int32) (aM : Nat → Nat → Int32) (q : Int32) (h : f_M_isAt a1 a2 (aM 21) (aM 57) = some q) : Met l yX8_isAt wsX8_isAt ({ frames := 0, cells := 0, slots := 0, locals := 0 } : Room) (cP (dC, dI) cy [.ref (ad 0), .int a1, .int a2] (zzM ad cy iM aM) sz) (cQi (dC, dI) cy q (zzM ad cy iM aM) (va_A (zzM ad cy iM aM) sz)) 0 0 (va_A (zzM ad cy iM aM) sz) := by
  refine Met.ofW (cc := cX8_isAt) (maxL := 3) (ret := (some .boolean)) (by decide) rfl ?_
  intro p e s m args below meth c s₁ B hml hv
  obtain ⟨hav, hsz, hP, hK, hD0, hN⟩ := hv
  have hx := B.exec
  have hb := B.bytes
  have hr := B.returns
  have hts := atoms_spec (ws := wsX8_isAt) B.pre
  have hown : s.vm.findClass RX8 = some m.cls := findClass_of_methodNamed B.named
  have hlocks := B.notSynchronized
  subst hsz
  have hD := hD0.self (sz := s.heap.size)
  generalize hAe : va_A (zzM ad cy iM aM) s.heap.size = A at hD ⊢
  have hA : ∀ q : Nat, s.heap.size ≤ q → A q := fun q h => by rw [← hAe]; exact Or.inr h
  have hS : va_S A s.heap s.heap [] := va_S.rf
  generalize hWQ : (zzM ad cy iM aM) = WQ
  generalize hQQ : MQ below (cQi (dC, dI) cy q WQ A) args s 0 0 A = QQ
  have hl := lv_entry ([.ref (ad 0), .int a1, .int a2] : List Value) (n := 3) (Nat.le_of_ble_eq_true rfl)
  have hfr := lg_entry_eq m ([.ref (ad 0), .int a1, .int a2] : List Value) 3
  rw [← hav] at hfr
  rw [hfr]
  clear hfr hav
  generalize (lg_sl ([.ref (ad 0), .int a1, .int a2] : List Value) ++ List.replicate (3 - (lg_sl ([.ref (ad 0), .int a1, .int a2] : List Value)).length) Slot.unset).toArray = ls at hl ⊢
  have hl : lv_has ls 3 [(0, .ref (ad 0)), (1, .int a1), (2, .int a2)] := hl
  have kf102 := hts _ (List.mem_cons_of_mem _ m_fl_X8_102)
  have ki8 := (fun w h => List.mem_cons_of_mem _ (i_X8 w h) : ∀ w ∈ u_ws RX8 TX8 78, w ∈ wsX8_isAt)
  have kf48 := hts _ (List.mem_cons_of_mem _ m_fl_X8_48)
  refine (?_ : ∀ (H : Heap) (locs : List Loc), va_P (dC, dI) vwCl (zzM ad cy iM aM) H → va_D A (zzM ad cy iM aM) → va_S A s.heap H locs → W p l e ({ frames := 0, cells := 0, slots := 0, locals := 0 } : Room) s m args below meth c H locs 0 0 QQ (F0 m 0 ls [])) s.heap [] hP hD hS
  clear hP hD hS
  intro H locs hP hD hS
  unfold f_M_isAt at h
  refine lv_aload_n hx hb dX8_isAt_0 rfl (lv_at hl 0 rfl) ?_
  refine va_get (D := (dC, dI)) (ci := 8) (v := .ref (ad 29)) (C := RX8) (T := TX8) (N := 78) hx hb hts ki8 hown hK hP 0 rfl rfl 57 (by decide) kf102 (fun _ h9 => h9) rfl dX8_isAt_1 ?_
  refine lv_sipush (v := 512) hx hb dX8_isAt_4 (by decide) ?_
  refine lv_aload_n hx hb dX8_isAt_7 rfl (lv_at hl 0 rfl) ?_
  refine va_get (D := (dC, dI)) (ci := 8) (v := .ref (ad 13)) (C := RX8) (T := TX8) (N := 78) hx hb hts ki8 hown hK hP 0 rfl rfl 21 (by decide) kf48 (fun _ h9 => h9) rfl dX8_isAt_8 ?_
  refine lv_iload_n hx hb dX8_isAt_11 rfl (lv_at hl 1 rfl) ?_
  obtain ⟨g_131, h⟩ := g_n h
  refine va_iald (f := (aM 21)) hx hb hK hP 13 0 rfl rfl g_131 dX8_isAt_12 ?_
  refine lv_imul hx hb dX8_isAt_13 ?_
  refine lv_iload_n hx hb dX8_isAt_14 rfl (lv_at hl 2 rfl) ?_
  refine lv_iadd hx hb dX8_isAt_15 ?_
  obtain ⟨g_132, h⟩ := g_n h
  refine va_zald (f := (aM 57)) hx hb hK hP 29 4 rfl rfl g_132 dX8_isAt_16 ?_
  obtain ⟨gz, h⟩ := g_p h
  have h' := Option.some.inj h
  rw [← hQQ]
  exact W.zret (v := ((aM 57) ((((512 : Int32) * ((aM 21) a1.toNatClampNeg)) + a2)).toNatClampNeg)) hx hb hr (g_zr _ gz) (fun t ht hW => ⟨⟨((aM 57) ((((512 : Int32) * ((aM 21) a1.toNatClampNeg)) + a2)).toNatClampNeg), (), rfl, by rw [← h'], by rw [← hWQ, ht]; exact hP, va_K.moved hW.alike hK⟩, hS.F ht⟩) hS.2.2 dX8_isAt_17
