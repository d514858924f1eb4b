def f_M_wait (a1 : Int32) (a2 : Int32) (iM54 : Int32) (aM52 : Nat → Int32) (aM53 : Nat → Int32) : Option (Int32 × (Nat → Int32) × (Nat → Int32)) := if iM54 < 0 ∨ 500 ≤ iM54.toNatClampNeg then none else (some ((iM54 + (1 : Int32)), (upd aM52 iM54.toNatClampNeg a1), (upd aM53 iM54.toNatClampNeg a2)))
set_option maxHeartbeats 8000000 in
set_option maxRecDepth 100000 in
theorem c_M_wait (l : Launch) (dC : Nat → ClassId) (dI : Nat → Nat → Nat) (cy : Nat → ClassId) (ad : Nat → Nat) (sz : Nat) (a1 : Int32) (a2 : Int32) (iM : Nat → Int32) (aM : Nat → Nat → Int32) (q : Int32 × (Nat → Int32) × (Nat → Int32)) (h : f_M_wait a1 a2 (iM 54) (aM 52) (aM 53) = some q) : Met l yX8_wait wsX8_wait ({ frames := 0, cells := 0, slots := 0, locals := 0 } : Room) (cP (dC, dI) cy [.ref (ad 0), .int a1, .int a2] (zzM ad cy iM aM) sz) (cQv (dC, dI) cy (zzM ad cy (us iM [(54, q.1)]) (us aM [(52, q.2.1), (53, q.2.2)])) (va_A (zzM ad cy iM aM) sz)) 0 0 (va_A (zzM ad cy iM aM) sz) := by
  refine Met.ofW (cc := cX8_wait) (maxL := 3) (ret := none) (by decide) rfl ?_
  intro p e s m args below meth c s₁ B hml hv
  obtain ⟨hav, hsz, hP, hK, hD0, hN⟩ := hv
  have hx := B.exec
  have hb := B.bytes
  have hr := B.returns
  have hts := atoms_spec (ws := wsX8_wait) B.pre
  have hown : s.vm.findClass RX8 = some m.cls := findClass_of_methodNamed B.named
  have hlocks := B.notSynchronized
  subst hsz
  have hD := hD0.self (sz := s.heap.size)
  generalize hAe : va_A (zzM ad cy iM aM) s.heap.size = A at hD ⊢
  have hA : ∀ q : Nat, s.heap.size ≤ q → A q := fun q h => by rw [← hAe]; exact Or.inr h
  have hS : va_S A s.heap s.heap [] := va_S.rf
  generalize hWQ : (zzM ad cy (us iM [(54, q.1)]) (us aM [(52, q.2.1), (53, q.2.2)])) = WQ
  generalize hQQ : MQ below (cQv (dC, dI) cy WQ A) args s 0 0 A = QQ
  have hl := lv_entry ([.ref (ad 0), .int a1, .int a2] : List Value) (n := 3) (Nat.le_of_ble_eq_true rfl)
  have hfr := lg_entry_eq m ([.ref (ad 0), .int a1, .int a2] : List Value) 3
  rw [← hav] at hfr
  rw [hfr]
  clear hfr hav
  generalize (lg_sl ([.ref (ad 0), .int a1, .int a2] : List Value) ++ List.replicate (3 - (lg_sl ([.ref (ad 0), .int a1, .int a2] : List Value)).length) Slot.unset).toArray = ls at hl ⊢
  have hl : lv_has ls 3 [(0, .ref (ad 0)), (1, .int a1), (2, .int a2)] := hl
  have kf95 := hts _ (List.mem_cons_of_mem _ m_fl_X8_95)
  have ki8 := (fun w h => List.mem_cons_of_mem _ (i_X8 w h) : ∀ w ∈ u_ws RX8 TX8 78, w ∈ wsX8_wait)
  have kf248 := hts _ (List.mem_cons_of_mem _ m_fl_X8_248)
  have kf98 := hts _ (List.mem_cons_of_mem _ m_fl_X8_98)
  refine (?_ : ∀ (H : Heap) (locs : List Loc), va_P (dC, dI) vwCl (zzM ad cy iM aM) H → va_D A (zzM ad cy iM aM) → va_S A s.heap H locs → W p l e ({ frames := 0, cells := 0, slots := 0, locals := 0 } : Room) s m args below meth c H locs 0 0 QQ (F0 m 0 ls [])) s.heap [] hP hD hS
  clear hP hD hS
  intro H locs hP hD hS
  unfold f_M_wait at h
  refine lv_aload_n hx hb dX8_wait_0 rfl (lv_at hl 0 rfl) ?_
  refine va_get (D := (dC, dI)) (ci := 8) (v := .ref (ad 27)) (C := RX8) (T := TX8) (N := 78) hx hb hts ki8 hown hK hP 0 rfl rfl 52 (by decide) kf95 (fun _ h9 => h9) rfl dX8_wait_1 ?_
  refine lv_aload_n hx hb dX8_wait_4 rfl (lv_at hl 0 rfl) ?_
  refine va_get (D := (dC, dI)) (ci := 8) (v := .int (iM 54)) (C := RX8) (T := TX8) (N := 78) hx hb hts ki8 hown hK hP 0 rfl rfl 54 (by decide) kf248 (fun _ h9 => h9) rfl dX8_wait_5 ?_
  refine lv_iload_n hx hb dX8_wait_8 rfl (lv_at hl 1 rfl) ?_
  obtain ⟨g_77, h⟩ := g_n h
  refine va_iast (f := (aM 52)) hx hb hK hP hD hS 27 0 rfl rfl g_77 dX8_wait_9 (fun H locs hP hD hS => ?_)
  have hP : va_P (dC, dI) vwCl (zzM ad cy iM (us aM [(52, (upd (aM 52) (iM 54).toNatClampNeg a1))])) H := Eq.mp (congrArg (fun w => va_P (dC, dI) vwCl w H) (sfM_aM52 ad cy iM aM ((upd (aM 52) (iM 54).toNatClampNeg a1)))) hP
  have hD : va_D A (zzM ad cy iM (us aM [(52, (upd (aM 52) (iM 54).toNatClampNeg a1))])) := Eq.mp (congrArg (fun w => va_D A w) (sfM_aM52 ad cy iM aM ((upd (aM 52) (iM 54).toNatClampNeg a1)))) hD
  refine lv_aload_n hx hb dX8_wait_10 rfl (lv_at hl 0 rfl) ?_
  refine va_get (D := (dC, dI)) (ci := 8) (v := .ref (ad 28)) (C := RX8) (T := TX8) (N := 78) hx hb hts ki8 hown hK hP 0 rfl rfl 53 (by decide) kf98 (fun _ h9 => h9) rfl dX8_wait_11 ?_
  refine lv_aload_n hx hb dX8_wait_14 rfl (lv_at hl 0 rfl) ?_
  refine va_get (D := (dC, dI)) (ci := 8) (v := .int (iM 54)) (C := RX8) (T := TX8) (N := 78) hx hb hts ki8 hown hK hP 0 rfl rfl 54 (by decide) kf248 (fun _ h9 => h9) rfl dX8_wait_15 ?_
  refine lv_iload_n hx hb dX8_wait_18 rfl (lv_at hl 2 rfl) ?_
  refine va_iast (f := (aM 53)) hx hb hK hP hD hS 28 0 rfl rfl g_77 dX8_wait_19 (fun H locs hP hD hS => ?_)
  have hP : va_P (dC, dI) vwCl (zzM ad cy iM (us aM [(52, (upd (aM 52) (iM 54).toNatClampNeg a1)), (53, (upd (aM 53) (iM 54).toNatClampNeg a2))])) H := Eq.mp (congrArg (fun w => va_P (dC, dI) vwCl w H) (stM_aM53 ad cy iM aM [(52, (upd (aM 52) (iM 54).toNatClampNeg a1))] ((upd (aM 53) (iM 54).toNatClampNeg a2)))) hP
  have hD : va_D A (zzM ad cy iM (us aM [(52, (upd (aM 52) (iM 54).toNatClampNeg a1)), (53, (upd (aM 53) (iM 54).toNatClampNeg a2))])) := Eq.mp (congrArg (fun w => va_D A w) (stM_aM53 ad cy iM aM [(52, (upd (aM 52) (iM 54).toNatClampNeg a1))] ((upd (aM 53) (iM 54).toNatClampNeg a2)))) hD
  refine lv_aload_n hx hb dX8_wait_20 rfl (lv_at hl 0 rfl) ?_
  refine lv_dup hx hb dX8_wait_21 rfl ?_
  refine va_get (D := (dC, dI)) (ci := 8) (v := .int (iM 54)) (C := RX8) (T := TX8) (N := 78) hx hb hts ki8 hown hK hP 0 rfl rfl 54 (by decide) kf248 (fun _ h9 => h9) rfl dX8_wait_22 ?_
  refine lv_iconst (v := 1) hx hb dX8_wait_25 (by decide) ?_
  refine lv_iadd hx hb dX8_wait_26 ?_
  refine va_put (D := (dC, dI)) (ci := 8) (v := .int (((iM 54) + (1 : Int32)))) (ty := .int) (C := RX8) (T := TX8) (N := 78) hx hb hts ki8 tyX8 tyX8_ok nmX8 hown hK hP hD hS 0 rfl rfl 54 (by decide) kf248 (fun _ h9 => h9) rfl (by decide +kernel) rfl rfl (Nat.le_of_ble_eq_true rfl) dX8_wait_27 (fun H locs hP hD hS => ?_)
  have hP : va_P (dC, dI) vwCl (zzM ad cy (us iM [(54, ((iM 54) + (1 : Int32)))]) (us aM [(52, (upd (aM 52) (iM 54).toNatClampNeg a1)), (53, (upd (aM 53) (iM 54).toNatClampNeg a2))])) H := Eq.mp (congrArg (fun w => va_P (dC, dI) vwCl w H) (sfM_iM54 ad cy iM (us aM [(52, (upd (aM 52) (iM 54).toNatClampNeg a1)), (53, (upd (aM 53) (iM 54).toNatClampNeg a2))]) (((iM 54) + (1 : Int32))))) hP
  have hD : va_D A (zzM ad cy (us iM [(54, ((iM 54) + (1 : Int32)))]) (us aM [(52, (upd (aM 52) (iM 54).toNatClampNeg a1)), (53, (upd (aM 53) (iM 54).toNatClampNeg a2))])) := Eq.mp (congrArg (fun w => va_D A w) (sfM_iM54 ad cy iM (us aM [(52, (upd (aM 52) (iM 54).toNatClampNeg a1)), (53, (upd (aM 53) (iM 54).toNatClampNeg a2))]) (((iM 54) + (1 : Int32))))) hD
  have h' := Option.some.inj h
  rw [← hQQ]
  exact W.vret hx hb hr (fun t ht hW => ⟨⟨(), rfl, trivial, by rw [← hWQ, ← h', ht]; exact hP, va_K.moved hW.alike hK⟩, hS.F ht⟩) hS.2.2 dX8_wait_30
