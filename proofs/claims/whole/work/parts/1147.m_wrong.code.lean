def f_M_wrong (a1 : Int32) (a2 : Int32) (iM46 : Int32) (iM47 : Int32) : Option (Int32 × Int32) := if iM46 = 0 then (some (a1, a2)) else (some (iM46, iM47))
set_option maxHeartbeats 8000000 in
set_option maxRecDepth 100000 in
theorem c_M_wrong (l : Launch) (dC : Nat → ClassId) (dI : Nat → Nat → Nat) (cy : Nat → ClassId) (ad : Nat → Nat) (sz : Nat) (a1 : Int32) (a2 : Int32) (iM : Nat → Int32) (aM : Nat → Nat → Int32) (q : Int32 × Int32) (h : f_M_wrong a1 a2 (iM 46) (iM 47) = some q) : Met l yX8_wrong wsX8_wrong ({ frames := 0, cells := 0, slots := 0, locals := 0 } : Room) (cP (dC, dI) cy [.ref (ad 0), .int a1, .int a2] (zzM ad cy iM aM) sz) (cQv (dC, dI) cy (zzM ad cy (us iM [(46, q.1), (47, q.2)]) aM) (va_A (zzM ad cy iM aM) sz)) 0 0 (va_A (zzM ad cy iM aM) sz) := by
  refine Met.ofW (cc := cX8_wrong) (maxL := 3) (ret := none) (by decide) rfl ?_
  intro p e s m args below meth c s₁ B hml hv
  obtain ⟨hav, hsz, hP, hK, hD0, hN⟩ := hv
  have hx := B.exec
  have hb := B.bytes
  have hr := B.returns
  have hts := atoms_spec (ws := wsX8_wrong) B.pre
  have hown : s.vm.findClass RX8 = some m.cls := findClass_of_methodNamed B.named
  have hlocks := B.notSynchronized
  subst hsz
  have hD := hD0.self (sz := s.heap.size)
  generalize hAe : va_A (zzM ad cy iM aM) s.heap.size = A at hD ⊢
  have hA : ∀ q : Nat, s.heap.size ≤ q → A q := fun q h => by rw [← hAe]; exact Or.inr h
  have hS : va_S A s.heap s.heap [] := va_S.rf
  generalize hWQ : (zzM ad cy (us iM [(46, q.1), (47, q.2)]) aM) = WQ
  generalize hQQ : MQ below (cQv (dC, dI) cy WQ A) args s 0 0 A = QQ
  have hl := lv_entry ([.ref (ad 0), .int a1, .int a2] : List Value) (n := 3) (Nat.le_of_ble_eq_true rfl)
  have hfr := lg_entry_eq m ([.ref (ad 0), .int a1, .int a2] : List Value) 3
  rw [← hav] at hfr
  rw [hfr]
  clear hfr hav
  generalize (lg_sl ([.ref (ad 0), .int a1, .int a2] : List Value) ++ List.replicate (3 - (lg_sl ([.ref (ad 0), .int a1, .int a2] : List Value)).length) Slot.unset).toArray = ls at hl ⊢
  have hl : lv_has ls 3 [(0, .ref (ad 0)), (1, .int a1), (2, .int a2)] := hl
  have kf188 := hts _ (List.mem_cons_of_mem _ m_fl_X8_188)
  have ki8 := (fun w h => List.mem_cons_of_mem _ (i_X8 w h) : ∀ w ∈ u_ws RX8 TX8 78, w ∈ wsX8_wrong)
  have kf191 := hts _ (List.mem_cons_of_mem _ m_fl_X8_191)
  refine (?_ : ∀ (H : Heap) (locs : List Loc), va_P (dC, dI) vwCl (zzM ad cy iM aM) H → va_D A (zzM ad cy iM aM) → va_S A s.heap H locs → W p l e ({ frames := 0, cells := 0, slots := 0, locals := 0 } : Room) s m args below meth c H locs 0 0 QQ (F0 m 0 ls [])) s.heap [] hP hD hS
  clear hP hD hS
  intro H locs hP hD hS
  unfold f_M_wrong at h
  refine lv_aload_n hx hb dX8_wrong_0 rfl (lv_at hl 0 rfl) ?_
  refine va_get (D := (dC, dI)) (ci := 8) (v := .int (iM 46)) (C := RX8) (T := TX8) (N := 78) hx hb hts ki8 hown hK hP 0 rfl rfl 46 (by decide) kf188 (fun _ h9 => h9) rfl dX8_wrong_1 ?_
  refine lv_if_ne (tgt := 17) hx hb dX8_wrong_4 (by decide) (fun cz => ?_) (fun cz => ?_)
  · have h := g_f h cz
    have h' := Option.some.inj h
    rw [← hQQ]
    exact W.vret hx hb hr (fun t ht hW => ⟨⟨(), rfl, trivial, by rw [← hWQ, ← h', ht]; exact hP, va_K.moved hW.alike hK⟩, hS.F ht⟩) hS.2.2 dX8_wrong_17
  · have h := g_t h cz
    refine lv_aload_n hx hb dX8_wrong_7 rfl (lv_at hl 0 rfl) ?_
    refine lv_iload_n hx hb dX8_wrong_8 rfl (lv_at hl 1 rfl) ?_
    refine va_put (D := (dC, dI)) (ci := 8) (v := .int a1) (ty := .int) (C := RX8) (T := TX8) (N := 78) hx hb hts ki8 tyX8 tyX8_ok nmX8 hown hK hP hD hS 0 rfl rfl 46 (by decide) kf188 (fun _ h9 => h9) rfl (by decide +kernel) rfl rfl (Nat.le_of_ble_eq_true rfl) dX8_wrong_9 (fun H locs hP hD hS => ?_)
    have hP : va_P (dC, dI) vwCl (zzM ad cy (us iM [(46, a1)]) aM) H := Eq.mp (congrArg (fun w => va_P (dC, dI) vwCl w H) (sfM_iM46 ad cy iM aM a1)) hP
    have hD : va_D A (zzM ad cy (us iM [(46, a1)]) aM) := Eq.mp (congrArg (fun w => va_D A w) (sfM_iM46 ad cy iM aM a1)) hD
    refine lv_aload_n hx hb dX8_wrong_12 rfl (lv_at hl 0 rfl) ?_
    refine lv_iload_n hx hb dX8_wrong_13 rfl (lv_at hl 2 rfl) ?_
    refine va_put (D := (dC, dI)) (ci := 8) (v := .int a2) (ty := .int) (C := RX8) (T := TX8) (N := 78) hx hb hts ki8 tyX8 tyX8_ok nmX8 hown hK hP hD hS 0 rfl rfl 47 (by decide) kf191 (fun _ h9 => h9) rfl (by decide +kernel) rfl rfl (Nat.le_of_ble_eq_true rfl) dX8_wrong_14 (fun H locs hP hD hS => ?_)
    have hP : va_P (dC, dI) vwCl (zzM ad cy (us iM [(46, a1), (47, a2)]) aM) H := Eq.mp (congrArg (fun w => va_P (dC, dI) vwCl w H) (stM_iM47 ad cy iM aM [(46, a1)] a2)) hP
    have hD : va_D A (zzM ad cy (us iM [(46, a1), (47, a2)]) aM) := Eq.mp (congrArg (fun w => va_D A w) (stM_iM47 ad cy iM aM [(46, a1)] a2)) hD
    have h' := Option.some.inj h
    rw [← hQQ]
    exact W.vret hx hb hr (fun t ht hW => ⟨⟨(), rfl, trivial, by rw [← hWQ, ← h', ht]; exact hP, va_K.moved hW.alike hK⟩, hS.F ht⟩) hS.2.2 dX8_wrong_17
