def f_M_cut (a1 : Int32) (iM1 : Int32) : Option (Int32 × Int32) := (f_M_in (a1).toInt64 ((0 : Int64)) (iM1).toInt64).bind fun q8 => (if q8 = 0 then (some ((-103 : Int32), iM1)) else (some ((iM1 - a1), a1)))
set_option maxHeartbeats 8000000 in
set_option maxRecDepth 100000 in
theorem c_M_cut (l : Launch) (dC : Nat → ClassId) (dI : Nat → Nat → Nat) (cy : Nat → ClassId) (ad : Nat → Nat) (sz : Nat) (a1 : Int32) (iM : Nat → Int32) (aM : Nat → Nat → Int32) (q : Int32 × Int32) (h : f_M_cut a1 (iM 1) = some q) : Met l yX8_cut wsX8_cut ({ frames := 1, cells := 0, slots := 0, locals := 25 } : Room) (cP (dC, dI) cy [.ref (ad 0), .int a1] (zzM ad cy iM aM) sz) (cQi (dC, dI) cy q.1 (zzM ad cy (us iM [(1, q.2)]) aM) (va_A (zzM ad cy iM aM) sz)) 0 0 (va_A (zzM ad cy iM aM) sz) := by
  refine Met.ofW (cc := cX8_cut) (maxL := 3) (ret := (some .int)) (by decide) rfl ?_
  intro p e s m args below meth c s₁ B hml hv
  obtain ⟨hav, hsz, hP, hK, hD0, hN⟩ := hv
  have hx := B.exec
  have hb := B.bytes
  have hr := B.returns
  have hts := atoms_spec (ws := wsX8_cut) B.pre
  have hown : s.vm.findClass RX8 = some m.cls := findClass_of_methodNamed B.named
  have hlocks := B.notSynchronized
  subst hsz
  have hD := hD0.self (sz := s.heap.size)
  generalize hAe : va_A (zzM ad cy iM aM) s.heap.size = A at hD ⊢
  have hA : ∀ q : Nat, s.heap.size ≤ q → A q := fun q h => by rw [← hAe]; exact Or.inr h
  have hS : va_S A s.heap s.heap [] := va_S.rf
  generalize hWQ : (zzM ad cy (us iM [(1, q.2)]) aM) = WQ
  generalize hQQ : MQ below (cQi (dC, dI) cy q.1 WQ A) args s 0 0 A = QQ
  have hl := lv_entry ([.ref (ad 0), .int a1] : List Value) (n := 3) (Nat.le_of_ble_eq_true rfl)
  have hfr := lg_entry_eq m ([.ref (ad 0), .int a1] : List Value) 3
  rw [← hav] at hfr
  rw [hfr]
  clear hfr hav
  generalize (lg_sl ([.ref (ad 0), .int a1] : List Value) ++ List.replicate (3 - (lg_sl ([.ref (ad 0), .int a1] : List Value)).length) Slot.unset).toArray = ls at hl ⊢
  have hl : lv_has ls 3 [(0, .ref (ad 0)), (1, .int a1)] := hl
  have kf147 := hts _ (List.mem_cons_of_mem _ m_fl_X8_147)
  have ki8 := (fun w h => List.mem_cons_of_mem _ (i_X8 w h) : ∀ w ∈ u_ws RX8 TX8 78, w ∈ wsX8_cut)
  refine (?_ : ∀ (H : Heap) (locs : List Loc), va_P (dC, dI) vwCl (zzM ad cy iM aM) H → va_D A (zzM ad cy iM aM) → va_S A s.heap H locs → W p l e ({ frames := 1, cells := 0, slots := 0, locals := 25 } : Room) s m args below meth c H locs 0 0 QQ (F0 m 0 ls [])) s.heap [] hP hD hS
  clear hP hD hS
  intro H locs hP hD hS
  unfold f_M_cut at h
  refine lv_iload_n hx hb dX8_cut_0 rfl (lv_at hl 1 rfl) ?_
  refine lv_i2l (v := (a1).toInt64) hx hb dX8_cut_1 rfl ?_
  refine lv_lconst (v := 0) hx hb dX8_cut_2 (by decide) ?_
  refine lv_aload_n hx hb dX8_cut_3 rfl (lv_at hl 0 rfl) ?_
  refine va_get (D := (dC, dI)) (ci := 8) (v := .int (iM 1)) (C := RX8) (T := TX8) (N := 78) hx hb hts ki8 hown hK hP 0 rfl rfl 1 (by decide) kf147 (fun _ h9 => h9) rfl dX8_cut_4 ?_
  refine lv_i2l (v := ((iM 1)).toInt64) hx hb dX8_cut_7 rfl ?_
  obtain ⟨q8, e8, h⟩ := g_b h
  refine callSi (cc := cX8_cut) (ws' := zzM ad cy iM aM) (As := [.long (a1).toInt64, .long ((0 : Int64)), .long ((iM 1)).toInt64]) (rest := []) ⟨hx, hb, hml, hown, hts⟩ (c_M_in l dC dI cy ad H.size (a1).toInt64 ((0 : Int64)) ((iM 1)).toInt64 q8 e8) (va_cwS 3 hts (goodS m_ml_X8_154 m_st_X8_in m_in_X8 m_cd_X8_in) rfl rfl rfl (by decide +kernel) ⟨Nat.le_of_ble_eq_true rfl, Nat.le_of_ble_eq_true rfl⟩) hN hK hP hD hS hA [] [none, none, none, none, none, none, none, none, none, none, none, none, none, none, none, none, none, none, none, none, none, none, none, none, none, none, none, none, none, none, none, none, none, none, none, none, none, none, none, none, none, none, none, none] rfl rfl rfl rfl rfl rfl rfl hl.1 rfl (Nat.le_of_ble_eq_true rfl) dX8_cut_8 ⟨Nat.zero_le _, Nat.zero_le _⟩ (fun H locs hP hD hS => ?_)
  refine lv_if_ne (tgt := 17) hx hb dX8_cut_11 (by decide) (fun cz => ?_) (fun cz => ?_)
  · have h := g_f h cz
    refine lv_aload_n hx hb dX8_cut_17 rfl (lv_at hl 0 rfl) ?_
    refine va_get (D := (dC, dI)) (ci := 8) (v := .int (iM 1)) (C := RX8) (T := TX8) (N := 78) hx hb hts ki8 hown hK hP 0 rfl rfl 1 (by decide) kf147 (fun _ h9 => h9) rfl dX8_cut_18 ?_
    refine lv_iload_n hx hb dX8_cut_21 rfl (lv_at hl 1 rfl) ?_
    refine lv_isub hx hb dX8_cut_22 ?_
    refine lv_istore_n (lv' := [(2, .int (((iM 1) - a1))), (0, .ref (ad 0)), (1, .int a1)]) hx hb dX8_cut_23 rfl hl (by decide) rfl (fun ls hl => ?_)
    refine lv_aload_n hx hb dX8_cut_24 rfl (lv_at hl 1 rfl) ?_
    refine lv_iload_n hx hb dX8_cut_25 rfl (lv_at hl 2 rfl) ?_
    refine va_put (D := (dC, dI)) (ci := 8) (v := .int a1) (ty := .int) (C := RX8) (T := TX8) (N := 78) hx hb hts ki8 tyX8 tyX8_ok nmX8 hown hK hP hD hS 0 rfl rfl 1 (by decide) kf147 (fun _ h9 => h9) rfl (by decide +kernel) rfl rfl (Nat.le_of_ble_eq_true rfl) dX8_cut_26 (fun H locs hP hD hS => ?_)
    have hP : va_P (dC, dI) vwCl (zzM ad cy (us iM [(1, a1)]) aM) H := Eq.mp (congrArg (fun w => va_P (dC, dI) vwCl w H) (sfM_iM1 ad cy iM aM a1)) hP
    have hD : va_D A (zzM ad cy (us iM [(1, a1)]) aM) := Eq.mp (congrArg (fun w => va_D A w) (sfM_iM1 ad cy iM aM a1)) hD
    refine lv_iload_n hx hb dX8_cut_29 rfl (lv_at hl 0 rfl) ?_
    have h' := Option.some.inj h
    rw [← hQQ]
    exact W.iret (v := ((iM 1) - a1)) hx hb hr (fun t ht hW => ⟨⟨((iM 1) - a1), (), rfl, by rw [← h'], by rw [← hWQ, ← h', ht]; exact hP, va_K.moved hW.alike hK⟩, hS.F ht⟩) hS.2.2 dX8_cut_30
  · have h := g_t h cz
    refine lv_bipush (v := (-103)) hx hb dX8_cut_14 (by decide) ?_
    have h' := Option.some.inj h
    rw [← hQQ]
    exact W.iret (v := (-103 : Int32)) hx hb hr (fun t ht hW => ⟨⟨(-103 : Int32), (), rfl, by rw [← h'], by rw [← hWQ, ← h', ht]; exact hP, va_K.moved hW.alike hK⟩, hS.F ht⟩) hS.2.2 dX8_cut_16
