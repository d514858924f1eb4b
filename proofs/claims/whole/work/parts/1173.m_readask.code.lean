def f_M_readAsk (N : Nat) (iM : Nat → Int32) (aM : Nat → Nat → Int32) : Option ((Nat → Int32) × (Nat → Nat → Int32)) := if (iM 42) = (12 : Int32) then ((f_M_wrong ((3 : Int32)) ((iM 4)) ((iM 46)) ((iM 47))).bind fun q15 => (some ((us iM [(46, q15.1), (47, q15.2)]), aM))) else ((f_M_next N ((iM 1)) ((iM 2)) ((iM 3)) ((iM 4)) ((iM 5)) ((iM 6)) ((aM 0))).bind fun q20 => ((f_M_readConcept N ((us iM [(2, q20.1), (3, q20.2.1), (4, q20.2.2.1), (5, q20.2.2.2.1), (6, q20.2.2.2.2)])) aM).bind fun q24 => ((f_M_fine ((q24.2.1 46))).bind fun q29 => (if q29 = 0 then (some (q24.2.1, q24.2.2)) else (if ((12 : Int32) + (q24.2.1 42)) < 0 ∨ 24 ≤ (((12 : Int32) + (q24.2.1 42))).toNatClampNeg then none else ((f_M_say ((2 : Int32)) q24.1 ((q24.2.1 42)) ((q24.2.1 40)) ((q24.2.2 15)) ((q24.2.2 16)) ((q24.2.2 17))).bind fun q55 => (some ((us q24.2.1 [(40, q55.1), (42, ((q24.2.1 42) + (1 : Int32)))]), (us q24.2.2 [(15, q55.2.1), (16, q55.2.2.1), (17, q55.2.2.2), (21, (upd ((q24.2.2 21)) (((12 : Int32) + (q24.2.1 42))).toNatClampNeg q24.1))])))))))))
set_option maxHeartbeats 8000000 in
set_option maxRecDepth 100000 in
theorem c_M_readAsk (l : Launch) (dC : Nat → ClassId) (dI : Nat → Nat → Nat) (cy : Nat → ClassId) (ad : Nat → Nat) (sz : Nat) (N : Nat) (iM : Nat → Int32) (aM : Nat → Nat → Int32) (q : (Nat → Int32) × (Nat → Nat → Int32)) (h : f_M_readAsk N iM aM = some q) : Met l yX8_readAsk wsX8_readAsk ({ frames := 6, cells := 0, slots := 0, locals := 136 } : Room) (cP (dC, dI) cy [.ref (ad 0)] (zzM ad cy iM aM) sz) (cQv (dC, dI) cy (zzM ad cy q.1 q.2) (va_A (zzM ad cy iM aM) sz)) 0 0 (va_A (zzM ad cy iM aM) sz) := by
  refine Met.ofW (cc := cX8_readAsk) (maxL := 2) (ret := none) (by decide) rfl ?_
  intro p e s m args below meth c s₁ B hml hv
  obtain ⟨hav, hsz, hP, hK, hD0, hN⟩ := hv
  have hx := B.exec
  have hb := B.bytes
  have hr := B.returns
  have hts := atoms_spec (ws := wsX8_readAsk) B.pre
  have hown : s.vm.findClass RX8 = some m.cls := findClass_of_methodNamed B.named
  have hlocks := B.notSynchronized
  subst hsz
  have hD := hD0.self (sz := s.heap.size)
  generalize hAe : va_A (zzM ad cy iM aM) s.heap.size = A at hD ⊢
  have hA : ∀ q : Nat, s.heap.size ≤ q → A q := fun q h => by rw [← hAe]; exact Or.inr h
  have hS : va_S A s.heap s.heap [] := va_S.rf
  generalize hWQ : (zzM ad cy q.1 q.2) = WQ
  generalize hQQ : MQ below (cQv (dC, dI) cy WQ A) args s 0 0 A = QQ
  have hl := lv_entry ([.ref (ad 0)] : List Value) (n := 2) (Nat.le_of_ble_eq_true rfl)
  have hfr := lg_entry_eq m ([.ref (ad 0)] : List Value) 2
  rw [← hav] at hfr
  rw [hfr]
  clear hfr hav
  generalize (lg_sl ([.ref (ad 0)] : List Value) ++ List.replicate (2 - (lg_sl ([.ref (ad 0)] : List Value)).length) Slot.unset).toArray = ls at hl ⊢
  have hl : lv_has ls 2 [(0, .ref (ad 0))] := hl
  have kf305 := hts _ (List.mem_cons_of_mem _ m_fl_X8_305)
  have ki8 := (fun w h => List.mem_cons_of_mem _ (i_X8 w h) : ∀ w ∈ u_ws RX8 TX8 78, w ∈ wsX8_readAsk)
  have kf48 := hts _ (List.mem_cons_of_mem _ m_fl_X8_48)
  have kf169 := hts _ (List.mem_cons_of_mem _ m_fl_X8_169)
  refine (?_ : ∀ (H : Heap) (locs : List Loc), va_P (dC, dI) vwCl (zzM ad cy iM aM) H → va_D A (zzM ad cy iM aM) → va_S A s.heap H locs → W p l e ({ frames := 6, cells := 0, slots := 0, locals := 136 } : Room) s m args below meth c H locs 0 0 QQ (F0 m 0 ls [])) s.heap [] hP hD hS
  clear hP hD hS
  intro H locs hP hD hS
  unfold f_M_readAsk at h
  refine lv_aload_n hx hb dX8_readAsk_0 rfl (lv_at hl 0 rfl) ?_
  refine va_get (D := (dC, dI)) (ci := 8) (v := .int ((iM 42))) (C := RX8) (T := TX8) (N := 78) hx hb hts ki8 hown hK hP 0 rfl rfl 42 (by decide) kf305 (fun _ h9 => h9) rfl dX8_readAsk_1 ?_
  refine lv_bipush (v := 12) hx hb dX8_readAsk_4 (by decide) ?_
  refine lv_icmp_ne (tgt := 19) hx hb dX8_readAsk_6 (by decide) (fun cz => ?_) (fun cz => ?_)
  · have h := g_f h cz
    refine lv_aload_n hx hb dX8_readAsk_19 rfl (lv_at hl 0 rfl) ?_
    obtain ⟨q20, e20, h⟩ := g_b h
    refine callVvs (cc := cX8_readAsk) (w1 := zzM ad cy (us iM [(2, q20.1), (3, q20.2.1), (4, q20.2.2.1), (5, q20.2.2.2.1), (6, q20.2.2.2.2)]) aM) (As := []) (rest := []) ⟨hx, hb, hml, hown, hts⟩ (c_M_next l dC dI cy ad H.size N iM aM q20 e20) (cwV 0 hts (goodV m_ml_X8_205 m_im_X8_next m_se_X8_next m_in_X8 m_cd_X8_next) rfl rfl rfl (by decide +kernel) ⟨Nat.le_of_ble_eq_true rfl, Nat.le_of_ble_eq_true rfl⟩) hN hK hP hD hS hA rfl 0 rfl rfl rfl hl.1 rfl (Nat.le_of_ble_eq_true rfl) dX8_readAsk_20 ⟨Nat.zero_le _, Nat.zero_le _⟩ (fun H locs hP hD hS => ?_)
    refine lv_aload_n hx hb dX8_readAsk_23 rfl (lv_at hl 0 rfl) ?_
    obtain ⟨q24, e24, h⟩ := g_b h
    refine callVis (cc := cX8_readAsk) (w1 := zzM ad cy q24.2.1 q24.2.2) (As := []) (rest := []) ⟨hx, hb, hml, hown, hts⟩ (c_M_readConcept l dC dI cy ad H.size N ((us iM [(2, q20.1), (3, q20.2.1), (4, q20.2.2.1), (5, q20.2.2.2.1), (6, q20.2.2.2.2)])) aM q24 e24) (cwV 0 hts (goodV m_ml_X8_308 m_im_X8_readConcept m_se_X8_readConcept m_in_X8 m_cd_X8_readConcept) rfl rfl rfl (by decide +kernel) ⟨Nat.le_of_ble_eq_true rfl, Nat.le_of_ble_eq_true rfl⟩) hN hK hP hD hS hA rfl 0 rfl rfl rfl hl.1 rfl (Nat.le_of_ble_eq_true rfl) dX8_readAsk_24 ⟨Nat.zero_le _, Nat.zero_le _⟩ (fun H locs hP hD hS => ?_)
    refine lv_istore_n (lv' := [(1, .int q24.1), (0, .ref (ad 0))]) hx hb dX8_readAsk_27 rfl hl (by decide) rfl (fun ls hl => ?_)
    refine lv_aload_n hx hb dX8_readAsk_28 rfl (lv_at hl 1 rfl) ?_
    obtain ⟨q29, e29, h⟩ := g_b h
    refine callVis (cc := cX8_readAsk) (w1 := zzM ad cy q24.2.1 q24.2.2) (As := []) (rest := []) ⟨hx, hb, hml, hown, hts⟩ (c_M_fine l dC dI cy ad H.size q24.2.1 q24.2.2 q29 e29) (cwV 0 hts (goodV m_ml_X8_198 m_im_X8_fine m_se_X8_fine m_in_X8 m_cd_X8_fine) rfl rfl rfl (by decide +kernel) ⟨Nat.le_of_ble_eq_true rfl, Nat.le_of_ble_eq_true rfl⟩) hN hK hP hD hS hA rfl 0 rfl rfl rfl hl.1 rfl (Nat.le_of_ble_eq_true rfl) dX8_readAsk_29 ⟨Nat.zero_le _, Nat.zero_le _⟩ (fun H locs hP hD hS => ?_)
    refine lv_if_eq (tgt := 68) hx hb dX8_readAsk_32 (by decide) (fun cz => ?_) (fun cz => ?_)
    · have h := g_t h cz
      have h' := Option.some.inj h
      rw [← hQQ]
      exact W.vret hx hb hr (fun t ht hW => ⟨⟨(), rfl, trivial, by rw [← hWQ, ← h', ht]; exact hP, va_K.moved hW.alike hK⟩, hS.F ht⟩) hS.2.2 dX8_readAsk_68
    · have h := g_f h cz
      refine lv_aload_n hx hb dX8_readAsk_35 rfl (lv_at hl 1 rfl) ?_
      refine va_get (D := (dC, dI)) (ci := 8) (v := .ref (ad 13)) (C := RX8) (T := TX8) (N := 78) hx hb hts ki8 hown hK hP 0 rfl rfl 21 (by decide) kf48 (fun _ h9 => h9) rfl dX8_readAsk_36 ?_
      refine lv_bipush (v := 12) hx hb dX8_readAsk_39 (by decide) ?_
      refine lv_aload_n hx hb dX8_readAsk_41 rfl (lv_at hl 1 rfl) ?_
      refine va_get (D := (dC, dI)) (ci := 8) (v := .int ((q24.2.1 42))) (C := RX8) (T := TX8) (N := 78) hx hb hts ki8 hown hK hP 0 rfl rfl 42 (by decide) kf305 (fun _ h9 => h9) rfl dX8_readAsk_42 ?_
      refine lv_iadd hx hb dX8_readAsk_45 ?_
      refine lv_iload_n hx hb dX8_readAsk_46 rfl (lv_at hl 0 rfl) ?_
      obtain ⟨g_93, h⟩ := g_n h
      refine va_iast (f := (q24.2.2 21)) hx hb hK hP hD hS 13 0 rfl rfl g_93 dX8_readAsk_47 (fun H locs hP hD hS => ?_)
      have hP : va_P (dC, dI) vwCl (zzM ad cy q24.2.1 (us q24.2.2 [(21, (upd ((q24.2.2 21)) (((12 : Int32) + (q24.2.1 42))).toNatClampNeg q24.1))])) H := Eq.mp (congrArg (fun w => va_P (dC, dI) vwCl w H) (sfM_aM21 ad cy q24.2.1 q24.2.2 ((upd ((q24.2.2 21)) (((12 : Int32) + (q24.2.1 42))).toNatClampNeg q24.1)))) hP
      have hD : va_D A (zzM ad cy q24.2.1 (us q24.2.2 [(21, (upd ((q24.2.2 21)) (((12 : Int32) + (q24.2.1 42))).toNatClampNeg q24.1))])) := Eq.mp (congrArg (fun w => va_D A w) (sfM_aM21 ad cy q24.2.1 q24.2.2 ((upd ((q24.2.2 21)) (((12 : Int32) + (q24.2.1 42))).toNatClampNeg q24.1)))) hD
      refine lv_aload_n hx hb dX8_readAsk_48 rfl (lv_at hl 1 rfl) ?_
      refine lv_iconst (v := 2) hx hb dX8_readAsk_49 (by decide) ?_
      refine lv_iload_n hx hb dX8_readAsk_50 rfl (lv_at hl 0 rfl) ?_
      refine lv_aload_n hx hb dX8_readAsk_51 rfl (lv_at hl 1 rfl) ?_
      refine va_get (D := (dC, dI)) (ci := 8) (v := .int ((q24.2.1 42))) (C := RX8) (T := TX8) (N := 78) hx hb hts ki8 hown hK hP 0 rfl rfl 42 (by decide) kf305 (fun _ h9 => h9) rfl dX8_readAsk_52 ?_
      obtain ⟨q55, e55, h⟩ := g_b h
      refine callVvs (cc := cX8_readAsk) (w1 := zzM ad cy (us q24.2.1 [(40, q55.1)]) (us q24.2.2 [(15, q55.2.1), (16, q55.2.2.1), (17, q55.2.2.2), (21, (upd ((q24.2.2 21)) (((12 : Int32) + (q24.2.1 42))).toNatClampNeg q24.1))])) (As := [.int ((2 : Int32)), .int q24.1, .int ((q24.2.1 42))]) (rest := []) ⟨hx, hb, hml, hown, hts⟩ (c_M_say l dC dI cy ad H.size ((2 : Int32)) q24.1 ((q24.2.1 42)) q24.2.1 ((us q24.2.2 [(21, (upd ((q24.2.2 21)) (((12 : Int32) + (q24.2.1 42))).toNatClampNeg q24.1))])) q55 e55) (cwV 3 hts (goodV m_ml_X8_301 m_im_X8_say m_se_X8_say m_in_X8 m_cd_X8_say) rfl rfl rfl (by decide +kernel) ⟨Nat.le_of_ble_eq_true rfl, Nat.le_of_ble_eq_true rfl⟩) hN hK hP hD hS hA rfl 0 rfl rfl rfl hl.1 rfl (Nat.le_of_ble_eq_true rfl) dX8_readAsk_55 ⟨Nat.zero_le _, Nat.zero_le _⟩ (fun H locs hP hD hS => ?_)
      refine lv_aload_n hx hb dX8_readAsk_58 rfl (lv_at hl 1 rfl) ?_
      refine lv_dup hx hb dX8_readAsk_59 rfl ?_
      refine va_get (D := (dC, dI)) (ci := 8) (v := .int ((q24.2.1 42))) (C := RX8) (T := TX8) (N := 78) hx hb hts ki8 hown hK hP 0 rfl rfl 42 (by decide) kf305 (fun _ h9 => h9) rfl dX8_readAsk_60 ?_
      refine lv_iconst (v := 1) hx hb dX8_readAsk_63 (by decide) ?_
      refine lv_iadd hx hb dX8_readAsk_64 ?_
      refine va_put (D := (dC, dI)) (ci := 8) (v := .int (((q24.2.1 42) + (1 : Int32)))) (ty := .int) (C := RX8) (T := TX8) (N := 78) hx hb hts ki8 tyX8 tyX8_ok nmX8 hown hK hP hD hS 0 rfl rfl 42 (by decide) kf305 (fun _ h9 => h9) rfl (by decide +kernel) rfl rfl (Nat.le_of_ble_eq_true rfl) dX8_readAsk_65 (fun H locs hP hD hS => ?_)
      have hP : va_P (dC, dI) vwCl (zzM ad cy (us q24.2.1 [(40, q55.1), (42, ((q24.2.1 42) + (1 : Int32)))]) (us q24.2.2 [(15, q55.2.1), (16, q55.2.2.1), (17, q55.2.2.2), (21, (upd ((q24.2.2 21)) (((12 : Int32) + (q24.2.1 42))).toNatClampNeg q24.1))])) H := Eq.mp (congrArg (fun w => va_P (dC, dI) vwCl w H) (stM_iM42 ad cy q24.2.1 (us q24.2.2 [(15, q55.2.1), (16, q55.2.2.1), (17, q55.2.2.2), (21, (upd ((q24.2.2 21)) (((12 : Int32) + (q24.2.1 42))).toNatClampNeg q24.1))]) [(40, q55.1)] (((q24.2.1 42) + (1 : Int32))))) hP
      have hD : va_D A (zzM ad cy (us q24.2.1 [(40, q55.1), (42, ((q24.2.1 42) + (1 : Int32)))]) (us q24.2.2 [(15, q55.2.1), (16, q55.2.2.1), (17, q55.2.2.2), (21, (upd ((q24.2.2 21)) (((12 : Int32) + (q24.2.1 42))).toNatClampNeg q24.1))])) := Eq.mp (congrArg (fun w => va_D A w) (stM_iM42 ad cy q24.2.1 (us q24.2.2 [(15, q55.2.1), (16, q55.2.2.1), (17, q55.2.2.2), (21, (upd ((q24.2.2 21)) (((12 : Int32) + (q24.2.1 42))).toNatClampNeg q24.1))]) [(40, q55.1)] (((q24.2.1 42) + (1 : Int32))))) hD
      have h' := Option.some.inj h
      rw [← hQQ]
      exact W.vret hx hb hr (fun t ht hW => ⟨⟨(), rfl, trivial, by rw [← hWQ, ← h', ht]; exact hP, va_K.moved hW.alike hK⟩, hS.F ht⟩) hS.2.2 dX8_readAsk_68
  · have h := g_t h cz
    refine lv_aload_n hx hb dX8_readAsk_9 rfl (lv_at hl 0 rfl) ?_
    refine lv_iconst (v := 3) hx hb dX8_readAsk_10 (by decide) ?_
    refine lv_aload_n hx hb dX8_readAsk_11 rfl (lv_at hl 0 rfl) ?_
    refine va_get (D := (dC, dI)) (ci := 8) (v := .int ((iM 4))) (C := RX8) (T := TX8) (N := 78) hx hb hts ki8 hown hK hP 0 rfl rfl 4 (by decide) kf169 (fun _ h9 => h9) rfl dX8_readAsk_12 ?_
    obtain ⟨q15, e15, h⟩ := g_b h
    refine callVvs (cc := cX8_readAsk) (w1 := zzM ad cy (us iM [(46, q15.1), (47, q15.2)]) aM) (As := [.int ((3 : Int32)), .int ((iM 4))]) (rest := []) ⟨hx, hb, hml, hown, hts⟩ (c_M_wrong l dC dI cy ad H.size ((3 : Int32)) ((iM 4)) iM aM q15 e15) (cwV 2 hts (goodV m_ml_X8_194 m_im_X8_wrong m_se_X8_wrong m_in_X8 m_cd_X8_wrong) rfl rfl rfl (by decide +kernel) ⟨Nat.le_of_ble_eq_true rfl, Nat.le_of_ble_eq_true rfl⟩) hN hK hP hD hS hA rfl 0 rfl rfl rfl hl.1 rfl (Nat.le_of_ble_eq_true rfl) dX8_readAsk_15 ⟨Nat.zero_le _, Nat.zero_le _⟩ (fun H locs hP hD hS => ?_)
    have h' := Option.some.inj h
    rw [← hQQ]
    exact W.vret hx hb hr (fun t ht hW => ⟨⟨(), rfl, trivial, by rw [← hWQ, ← h', ht]; exact hP, va_K.moved hW.alike hK⟩, hS.F ht⟩) hS.2.2 dX8_readAsk_18
