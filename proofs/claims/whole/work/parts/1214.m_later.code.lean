def f_M_later (a1 : Int32) (a2 : Int32) (a3 : Int32) (iM77 : Int32) (aM74 : Nat → Int32) (aM75 : Nat → Int32) (aM76 : Nat → Int32) : Option (Int32 × (Nat → Int32) × (Nat → Int32) × (Nat → Int32)) := if iM77 < 0 ∨ 2000 ≤ iM77.toNatClampNeg then none else (some ((iM77 + (1 : Int32)), (upd aM74 iM77.toNatClampNeg a1), (upd aM75 iM77.toNatClampNeg a2), (upd aM76 iM77.toNatClampNeg a3)))
set_option maxHeartbeats 8000000 in
set_option maxRecDepth 100000 in
theorem c_M_later (l : Launch) (dC : Nat → ClassId) (dI : Nat → Nat → Nat) (cy : Nat → ClassId) (ad : Nat → Nat) (sz : Nat) (a1 : Int32) (a2 : Int32) (a3 : Int32) (iM : Nat → Int32) (aM : Nat → Nat → Int32) (q : Int32 × (Nat → Int32) × (Nat → Int32) × (Nat → Int32)) (h : f_M_later a1 a2 a3 (iM 77) (aM 74) (aM 75) (aM 76) = some q) : Met l yX8_later wsX8_later ({ frames := 0, cells := 0, slots := 0, locals := 0 } : Room) (cP (dC, dI) cy [.ref (ad 0), .int a1, .int a2, .int a3] (zzM ad cy iM aM) sz) (cQv (dC, dI) cy (zzM ad cy (us iM [(77, q.1)]) (us aM [(74, q.2.1), (75, q.2.2.1), (76, q.2.2.2)])) (va_A (zzM ad cy iM aM) sz)) 0 0 (va_A (zzM ad cy iM aM) sz) := by
  refine Met.ofW (cc := cX8_later) (maxL := 4) (ret := none) (by decide) rfl ?_
  intro p e s m args below meth c s₁ B hml hv
  obtain ⟨hav, hsz, hP, hK, hD0, hN⟩ := hv
  have hx := B.exec
  have hb := B.bytes
  have hr := B.returns
  have hts := atoms_spec (ws := wsX8_later) B.pre
  have hown : s.vm.findClass RX8 = some m.cls := findClass_of_methodNamed B.named
  have hlocks := B.notSynchronized
  subst hsz
  have hD := hD0.self (sz := s.heap.size)
  generalize hAe : va_A (zzM ad cy iM aM) s.heap.size = A at hD ⊢
  have hA : ∀ q : Nat, s.heap.size ≤ q → A q := fun q h => by rw [← hAe]; exact Or.inr h
  have hS : va_S A s.heap s.heap [] := va_S.rf
  generalize hWQ : (zzM ad cy (us iM [(77, q.1)]) (us aM [(74, q.2.1), (75, q.2.2.1), (76, q.2.2.2)])) = WQ
  generalize hQQ : MQ below (cQv (dC, dI) cy WQ A) args s 0 0 A = QQ
  have hl := lv_entry ([.ref (ad 0), .int a1, .int a2, .int a3] : List Value) (n := 4) (Nat.le_of_ble_eq_true rfl)
  have hfr := lg_entry_eq m ([.ref (ad 0), .int a1, .int a2, .int a3] : List Value) 4
  rw [← hav] at hfr
  rw [hfr]
  clear hfr hav
  generalize (lg_sl ([.ref (ad 0), .int a1, .int a2, .int a3] : List Value) ++ List.replicate (4 - (lg_sl ([.ref (ad 0), .int a1, .int a2, .int a3] : List Value)).length) Slot.unset).toArray = ls at hl ⊢
  have hl : lv_has ls 4 [(0, .ref (ad 0)), (1, .int a1), (2, .int a2), (3, .int a3)] := hl
  have kf138 := hts _ (List.mem_cons_of_mem _ m_fl_X8_138)
  have ki8 := (fun w h => List.mem_cons_of_mem _ (i_X8 w h) : ∀ w ∈ u_ws RX8 TX8 78, w ∈ wsX8_later)
  have kf438 := hts _ (List.mem_cons_of_mem _ m_fl_X8_438)
  have kf141 := hts _ (List.mem_cons_of_mem _ m_fl_X8_141)
  have kf144 := hts _ (List.mem_cons_of_mem _ m_fl_X8_144)
  refine (?_ : ∀ (H : Heap) (locs : List Loc), va_P (dC, dI) vwCl (zzM ad cy iM aM) H → va_D A (zzM ad cy iM aM) → va_S A s.heap H locs → W p l e ({ frames := 0, cells := 0, slots := 0, locals := 0 } : Room) s m args below meth c H locs 0 0 QQ (F0 m 0 ls [])) s.heap [] hP hD hS
  clear hP hD hS
  intro H locs hP hD hS
  unfold f_M_later at h
  refine lv_aload_n hx hb dX8_later_0 rfl (lv_at hl 0 rfl) ?_
  refine va_get (D := (dC, dI)) (ci := 8) (v := .ref (ad 41)) (C := RX8) (T := TX8) (N := 78) hx hb hts ki8 hown hK hP 0 rfl rfl 74 (by decide) kf138 (fun _ h9 => h9) rfl dX8_later_1 ?_
  refine lv_aload_n hx hb dX8_later_4 rfl (lv_at hl 0 rfl) ?_
  refine va_get (D := (dC, dI)) (ci := 8) (v := .int (iM 77)) (C := RX8) (T := TX8) (N := 78) hx hb hts ki8 hown hK hP 0 rfl rfl 77 (by decide) kf438 (fun _ h9 => h9) rfl dX8_later_5 ?_
  refine lv_iload_n hx hb dX8_later_8 rfl (lv_at hl 1 rfl) ?_
  obtain ⟨g_141, h⟩ := g_n h
  refine va_iast (f := (aM 74)) hx hb hK hP hD hS 41 0 rfl rfl g_141 dX8_later_9 (fun H locs hP hD hS => ?_)
  have hP : va_P (dC, dI) vwCl (zzM ad cy iM (us aM [(74, (upd (aM 74) (iM 77).toNatClampNeg a1))])) H := Eq.mp (congrArg (fun w => va_P (dC, dI) vwCl w H) (sfM_aM74 ad cy iM aM ((upd (aM 74) (iM 77).toNatClampNeg a1)))) hP
  have hD : va_D A (zzM ad cy iM (us aM [(74, (upd (aM 74) (iM 77).toNatClampNeg a1))])) := Eq.mp (congrArg (fun w => va_D A w) (sfM_aM74 ad cy iM aM ((upd (aM 74) (iM 77).toNatClampNeg a1)))) hD
  refine lv_aload_n hx hb dX8_later_10 rfl (lv_at hl 0 rfl) ?_
  refine va_get (D := (dC, dI)) (ci := 8) (v := .ref (ad 42)) (C := RX8) (T := TX8) (N := 78) hx hb hts ki8 hown hK hP 0 rfl rfl 75 (by decide) kf141 (fun _ h9 => h9) rfl dX8_later_11 ?_
  refine lv_aload_n hx hb dX8_later_14 rfl (lv_at hl 0 rfl) ?_
  refine va_get (D := (dC, dI)) (ci := 8) (v := .int (iM 77)) (C := RX8) (T := TX8) (N := 78) hx hb hts ki8 hown hK hP 0 rfl rfl 77 (by decide) kf438 (fun _ h9 => h9) rfl dX8_later_15 ?_
  refine lv_iload_n hx hb dX8_later_18 rfl (lv_at hl 2 rfl) ?_
  refine va_iast (f := (aM 75)) hx hb hK hP hD hS 42 0 rfl rfl g_141 dX8_later_19 (fun H locs hP hD hS => ?_)
  have hP : va_P (dC, dI) vwCl (zzM ad cy iM (us aM [(74, (upd (aM 74) (iM 77).toNatClampNeg a1)), (75, (upd (aM 75) (iM 77).toNatClampNeg a2))])) H := Eq.mp (congrArg (fun w => va_P (dC, dI) vwCl w H) (stM_aM75 ad cy iM aM [(74, (upd (aM 74) (iM 77).toNatClampNeg a1))] ((upd (aM 75) (iM 77).toNatClampNeg a2)))) hP
  have hD : va_D A (zzM ad cy iM (us aM [(74, (upd (aM 74) (iM 77).toNatClampNeg a1)), (75, (upd (aM 75) (iM 77).toNatClampNeg a2))])) := Eq.mp (congrArg (fun w => va_D A w) (stM_aM75 ad cy iM aM [(74, (upd (aM 74) (iM 77).toNatClampNeg a1))] ((upd (aM 75) (iM 77).toNatClampNeg a2)))) hD
  refine lv_aload_n hx hb dX8_later_20 rfl (lv_at hl 0 rfl) ?_
  refine va_get (D := (dC, dI)) (ci := 8) (v := .ref (ad 43)) (C := RX8) (T := TX8) (N := 78) hx hb hts ki8 hown hK hP 0 rfl rfl 76 (by decide) kf144 (fun _ h9 => h9) rfl dX8_later_21 ?_
  refine lv_aload_n hx hb dX8_later_24 rfl (lv_at hl 0 rfl) ?_
  refine va_get (D := (dC, dI)) (ci := 8) (v := .int (iM 77)) (C := RX8) (T := TX8) (N := 78) hx hb hts ki8 hown hK hP 0 rfl rfl 77 (by decide) kf438 (fun _ h9 => h9) rfl dX8_later_25 ?_
  refine lv_iload_n hx hb dX8_later_28 rfl (lv_at hl 3 rfl) ?_
  refine va_iast (f := (aM 76)) hx hb hK hP hD hS 43 0 rfl rfl g_141 dX8_later_29 (fun H locs hP hD hS => ?_)
  have hP : va_P (dC, dI) vwCl (zzM ad cy iM (us aM [(74, (upd (aM 74) (iM 77).toNatClampNeg a1)), (75, (upd (aM 75) (iM 77).toNatClampNeg a2)), (76, (upd (aM 76) (iM 77).toNatClampNeg a3))])) H := Eq.mp (congrArg (fun w => va_P (dC, dI) vwCl w H) (stM_aM76 ad cy iM aM [(74, (upd (aM 74) (iM 77).toNatClampNeg a1)), (75, (upd (aM 75) (iM 77).toNatClampNeg a2))] ((upd (aM 76) (iM 77).toNatClampNeg a3)))) hP
  have hD : va_D A (zzM ad cy iM (us aM [(74, (upd (aM 74) (iM 77).toNatClampNeg a1)), (75, (upd (aM 75) (iM 77).toNatClampNeg a2)), (76, (upd (aM 76) (iM 77).toNatClampNeg a3))])) := Eq.mp (congrArg (fun w => va_D A w) (stM_aM76 ad cy iM aM [(74, (upd (aM 74) (iM 77).toNatClampNeg a1)), (75, (upd (aM 75) (iM 77).toNatClampNeg a2))] ((upd (aM 76) (iM 77).toNatClampNeg a3)))) hD
  refine lv_aload_n hx hb dX8_later_30 rfl (lv_at hl 0 rfl) ?_
  refine lv_dup hx hb dX8_later_31 rfl ?_
  refine va_get (D := (dC, dI)) (ci := 8) (v := .int (iM 77)) (C := RX8) (T := TX8) (N := 78) hx hb hts ki8 hown hK hP 0 rfl rfl 77 (by decide) kf438 (fun _ h9 => h9) rfl dX8_later_32 ?_
  refine lv_iconst (v := 1) hx hb dX8_later_35 (by decide) ?_
  refine lv_iadd hx hb dX8_later_36 ?_
  refine va_put (D := (dC, dI)) (ci := 8) (v := .int (((iM 77) + (1 : Int32)))) (ty := .int) (C := RX8) (T := TX8) (N := 78) hx hb hts ki8 tyX8 tyX8_ok nmX8 hown hK hP hD hS 0 rfl rfl 77 (by decide) kf438 (fun _ h9 => h9) rfl (by decide +kernel) rfl rfl (Nat.le_of_ble_eq_true rfl) dX8_later_37 (fun H locs hP hD hS => ?_)
  have hP : va_P (dC, dI) vwCl (zzM ad cy (us iM [(77, ((iM 77) + (1 : Int32)))]) (us aM [(74, (upd (aM 74) (iM 77).toNatClampNeg a1)), (75, (upd (aM 75) (iM 77).toNatClampNeg a2)), (76, (upd (aM 76) (iM 77).toNatClampNeg a3))])) H := Eq.mp (congrArg (fun w => va_P (dC, dI) vwCl w H) (sfM_iM77 ad cy iM (us aM [(74, (upd (aM 74) (iM 77).toNatClampNeg a1)), (75, (upd (aM 75) (iM 77).toNatClampNeg a2)), (76, (upd (aM 76) (iM 77).toNatClampNeg a3))]) (((iM 77) + (1 : Int32))))) hP
  have hD : va_D A (zzM ad cy (us iM [(77, ((iM 77) + (1 : Int32)))]) (us aM [(74, (upd (aM 74) (iM 77).toNatClampNeg a1)), (75, (upd (aM 75) (iM 77).toNatClampNeg a2)), (76, (upd (aM 76) (iM 77).toNatClampNeg a3))])) := Eq.mp (congrArg (fun w => va_D A w) (sfM_iM77 ad cy iM (us aM [(74, (upd (aM 74) (iM 77).toNatClampNeg a1)), (75, (upd (aM 75) (iM 77).toNatClampNeg a2)), (76, (upd (aM 76) (iM 77).toNatClampNeg a3))]) (((iM 77) + (1 : Int32))))) hD
  have h' := Option.some.inj h
  rw [← hQQ]
  exact W.vret hx hb hr (fun t ht hW => ⟨⟨(), rfl, trivial, by rw [← hWQ, ← h', ht]; exact hP, va_K.moved hW.alike hK⟩, hS.F ht⟩) hS.2.2 dX8_later_40
