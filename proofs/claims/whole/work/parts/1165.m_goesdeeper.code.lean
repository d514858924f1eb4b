def f_M_goesDeeper (iM4 : Int32) (iM46 : Int32) (iM47 : Int32) (iM49 : Int32) : Option (Int32 × Int32 × Int32 × Int32) := if iM49 = (12 : Int32) then ((f_M_wrong ((3 : Int32)) iM4 iM46 iM47).bind fun q15 => (some ((0 : Int32), q15.1, q15.2, iM49))) else (some ((1 : Int32), iM46, iM47, (iM49 + (1 : Int32))))
set_option maxHeartbeats 8000000 in
set_option maxRecDepth 100000 in
theorem c_M_goesDeeper (l : Launch) (dC : Nat → ClassId) (dI : Nat → Nat → Nat) (cy : Nat → ClassId) (ad : Nat → Nat) (sz : Nat) (iM : Nat → Int32) (aM : Nat → Nat → Int32) (q : Int32 × Int32 × Int32 × Int32) (h : f_M_goesDeeper (iM 4) (iM 46) (iM 47) (iM 49) = some q) : Met l yX8_goesDeeper wsX8_goesDeeper ({ frames := 1, cells := 0, slots := 0, locals := 22 } : Room) (cP (dC, dI) cy [.ref (ad 0)] (zzM ad cy iM aM) sz) (cQi (dC, dI) cy q.1 (zzM ad cy (us iM [(46, q.2.1), (47, q.2.2.1), (49, q.2.2.2)]) aM) (va_A (zzM ad cy iM aM) sz)) 0 0 (va_A (zzM ad cy iM aM) sz) := by
  refine Met.ofW (cc := cX8_goesDeeper) (maxL := 1) (ret := (some .boolean)) (by decide) rfl ?_
  intro p e s m args below meth c s₁ B hml hv
  obtain ⟨hav, hsz, hP, hK, hD0, hN⟩ := hv
  have hx := B.exec
  have hb := B.bytes
  have hr := B.returns
  have hts := atoms_spec (ws := wsX8_goesDeeper) B.pre
  have hown : s.vm.findClass RX8 = some m.cls := findClass_of_methodNamed B.named
  have hlocks := B.notSynchronized
  subst hsz
  have hD := hD0.self (sz := s.heap.size)
  generalize hAe : va_A (zzM ad cy iM aM) s.heap.size = A at hD ⊢
  have hA : ∀ q : Nat, s.heap.size ≤ q → A q := fun q h => by rw [← hAe]; exact Or.inr h
  have hS : va_S A s.heap s.heap [] := va_S.rf
  generalize hWQ : (zzM ad cy (us iM [(46, q.2.1), (47, q.2.2.1), (49, q.2.2.2)]) aM) = WQ
  generalize hQQ : MQ below (cQi (dC, dI) cy q.1 WQ A) args s 0 0 A = QQ
  have hl := lv_entry ([.ref (ad 0)] : List Value) (n := 1) (Nat.le_of_ble_eq_true rfl)
  have hfr := lg_entry_eq m ([.ref (ad 0)] : List Value) 1
  rw [← hav] at hfr
  rw [hfr]
  clear hfr hav
  generalize (lg_sl ([.ref (ad 0)] : List Value) ++ List.replicate (1 - (lg_sl ([.ref (ad 0)] : List Value)).length) Slot.unset).toArray = ls at hl ⊢
  have hl : lv_has ls 1 [(0, .ref (ad 0))] := hl
  have kf254 := hts _ (List.mem_cons_of_mem _ m_fl_X8_254)
  have ki8 := (fun w h => List.mem_cons_of_mem _ (i_X8 w h) : ∀ w ∈ u_ws RX8 TX8 78, w ∈ wsX8_goesDeeper)
  have kf169 := hts _ (List.mem_cons_of_mem _ m_fl_X8_169)
  refine (?_ : ∀ (H : Heap) (locs : List Loc), va_P (dC, dI) vwCl (zzM ad cy iM aM) H → va_D A (zzM ad cy iM aM) → va_S A s.heap H locs → W p l e ({ frames := 1, cells := 0, slots := 0, locals := 22 } : Room) s m args below meth c H locs 0 0 QQ (F0 m 0 ls [])) s.heap [] hP hD hS
  clear hP hD hS
  intro H locs hP hD hS
  unfold f_M_goesDeeper at h
  refine lv_aload_n hx hb dX8_goesDeeper_0 rfl (lv_at hl 0 rfl) ?_
  refine va_get (D := (dC, dI)) (ci := 8) (v := .int (iM 49)) (C := RX8) (T := TX8) (N := 78) hx hb hts ki8 hown hK hP 0 rfl rfl 49 (by decide) kf254 (fun _ h9 => h9) rfl dX8_goesDeeper_1 ?_
  refine lv_bipush (v := 12) hx hb dX8_goesDeeper_4 (by decide) ?_
  refine lv_icmp_ne (tgt := 20) hx hb dX8_goesDeeper_6 (by decide) (fun cz => ?_) (fun cz => ?_)
  · have h := g_f h cz
    refine lv_aload_n hx hb dX8_goesDeeper_20 rfl (lv_at hl 0 rfl) ?_
    refine lv_dup hx hb dX8_goesDeeper_21 rfl ?_
    refine va_get (D := (dC, dI)) (ci := 8) (v := .int (iM 49)) (C := RX8) (T := TX8) (N := 78) hx hb hts ki8 hown hK hP 0 rfl rfl 49 (by decide) kf254 (fun _ h9 => h9) rfl dX8_goesDeeper_22 ?_
    refine lv_iconst (v := 1) hx hb dX8_goesDeeper_25 (by decide) ?_
    refine lv_iadd hx hb dX8_goesDeeper_26 ?_
    refine va_put (D := (dC, dI)) (ci := 8) (v := .int (((iM 49) + (1 : Int32)))) (ty := .int) (C := RX8) (T := TX8) (N := 78) hx hb hts ki8 tyX8 tyX8_ok nmX8 hown hK hP hD hS 0 rfl rfl 49 (by decide) kf254 (fun _ h9 => h9) rfl (by decide +kernel) rfl rfl (Nat.le_of_ble_eq_true rfl) dX8_goesDeeper_27 (fun H locs hP hD hS => ?_)
    have hP : va_P (dC, dI) vwCl (zzM ad cy (us iM [(49, ((iM 49) + (1 : Int32)))]) aM) H := Eq.mp (congrArg (fun w => va_P (dC, dI) vwCl w H) (sfM_iM49 ad cy iM aM (((iM 49) + (1 : Int32))))) hP
    have hD : va_D A (zzM ad cy (us iM [(49, ((iM 49) + (1 : Int32)))]) aM) := Eq.mp (congrArg (fun w => va_D A w) (sfM_iM49 ad cy iM aM (((iM 49) + (1 : Int32))))) hD
    refine lv_iconst (v := 1) hx hb dX8_goesDeeper_30 (by decide) ?_
    have h' := Option.some.inj h
    rw [← hQQ]
    exact W.zret (v := (1 : Int32)) hx hb hr rfl (fun t ht hW => ⟨⟨(1 : Int32), (), rfl, by rw [← h'], by rw [← hWQ, ← h', ht]; exact hP, va_K.moved hW.alike hK⟩, hS.F ht⟩) hS.2.2 dX8_goesDeeper_31
  · have h := g_t h cz
    refine lv_aload_n hx hb dX8_goesDeeper_9 rfl (lv_at hl 0 rfl) ?_
    refine lv_iconst (v := 3) hx hb dX8_goesDeeper_10 (by decide) ?_
    refine lv_aload_n hx hb dX8_goesDeeper_11 rfl (lv_at hl 0 rfl) ?_
    refine va_get (D := (dC, dI)) (ci := 8) (v := .int (iM 4)) (C := RX8) (T := TX8) (N := 78) hx hb hts ki8 hown hK hP 0 rfl rfl 4 (by decide) kf169 (fun _ h9 => h9) rfl dX8_goesDeeper_12 ?_
    obtain ⟨q15, e15, h⟩ := g_b h
    refine callVvs (cc := cX8_goesDeeper) (w1 := zzM ad cy (us iM [(46, q15.1), (47, q15.2)]) aM) (As := [.int ((3 : Int32)), .int (iM 4)]) (rest := []) ⟨hx, hb, hml, hown, hts⟩ (c_M_wrong l dC dI cy ad H.size ((3 : Int32)) (iM 4) iM aM q15 e15) (cwV 2 hts (goodV m_ml_X8_194 m_im_X8_wrong m_se_X8_wrong m_in_X8 m_cd_X8_wrong) rfl rfl rfl (by decide +kernel) ⟨Nat.le_of_ble_eq_true rfl, Nat.le_of_ble_eq_true rfl⟩) hN hK hP hD hS hA rfl 0 rfl rfl rfl hl.1 rfl (Nat.le_of_ble_eq_true rfl) dX8_goesDeeper_15 ⟨Nat.zero_le _, Nat.zero_le _⟩ (fun H locs hP hD hS => ?_)
    refine lv_iconst (v := 0) hx hb dX8_goesDeeper_18 (by decide) ?_
    have h' := Option.some.inj h
    rw [← hQQ]
    exact W.zret (v := (0 : Int32)) hx hb hr rfl (fun t ht hW => ⟨⟨(0 : Int32), (), rfl, by rw [← h'], by rw [← hWQ, ← h', ht]; exact hP, va_K.moved hW.alike hK⟩, hS.F ht⟩) hS.2.2 dX8_goesDeeper_19
