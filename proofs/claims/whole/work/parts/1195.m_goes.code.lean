def f_M_goes (a1 : Int32) (a2 : Int32) (a3 : Int32) (iM28 : Int32) (iM36 : Int32) (iM37 : Int32) (aM58 : Nat → Int32) (aM59 : Nat → Int32) : Option Int32 := if iM37 = 0 then (some (-101 : Int32)) else ((f_M_noType a1 iM36).bind fun q12 => (if q12 = 0 then ((f_M_noType a3 iM36).bind fun q20 => (if q20 = 0 then ((f_M_in (a2).toInt64 ((0 : Int64)) (((iM28 - (1 : Int32))).toInt64)).bind fun q39 => (if q39 = 0 then (some (-103 : Int32)) else ((f_M_goesTo a1 a2 a3 aM58 aM59).bind fun q52 => (if q52 = 0 then (some (0 : Int32)) else (some (1 : Int32)))))) else (some (-102 : Int32)))) else (some (-102 : Int32))))
set_option maxHeartbeats 8000000 in
set_option maxRecDepth 100000 in
theorem c_M_goes (l : Launch) (dC : Nat → ClassId) (dI : Nat → Nat → Nat) (cy : Nat → ClassId) (ad : Nat → Nat) (sz : Nat) (a1 : Int32) (a2 : Int32) (a3 : Int32) (iM : Nat → Int32) (aM : Nat → Nat → Int32) (q : Int32) (h : f_M_goes a1 a2 a3 (iM 28) (iM 36) (iM 37) (aM 58) (aM 59) = some q) : Met l yX8_goes wsX8_goes ({ frames := 2, cells := 0, slots := 0, locals := 46 } : Room) (cP (dC, dI) cy [.ref (ad 0), .int a1, .int a2, .int a3] (zzM ad cy iM aM) sz) (cQi (dC, dI) cy q (zzM ad cy iM aM) (va_A (zzM ad cy iM aM) sz)) 0 0 (va_A (zzM ad cy iM aM) sz) := by
  refine Met.ofW (cc := cX8_goes) (maxL := 4) (ret := (some .int)) (by decide) rfl ?_
  intro p e s m args below meth c s₁ B hml hv
  obtain ⟨hav, hsz, hP, hK, hD0, hN⟩ := hv
  have hx := B.exec
  have hb := B.bytes
  have hr := B.returns
  have hts := atoms_spec (ws := wsX8_goes) B.pre
  have hown : s.vm.findClass RX8 = some m.cls := findClass_of_methodNamed B.named
  have hlocks := B.notSynchronized
  subst hsz
  have hD := hD0.self (sz := s.heap.size)
  generalize hAe : va_A (zzM ad cy iM aM) s.heap.size = A at hD ⊢
  have hA : ∀ q : Nat, s.heap.size ≤ q → A q := fun q h => by rw [← hAe]; exact Or.inr h
  have hS : va_S A s.heap s.heap [] := va_S.rf
  generalize hWQ : (zzM ad cy iM aM) = WQ
  generalize hQQ : MQ below (cQi (dC, dI) cy q WQ A) args s 0 0 A = QQ
  have hl := lv_entry ([.ref (ad 0), .int a1, .int a2, .int a3] : List Value) (n := 4) (Nat.le_of_ble_eq_true rfl)
  have hfr := lg_entry_eq m ([.ref (ad 0), .int a1, .int a2, .int a3] : List Value) 4
  rw [← hav] at hfr
  rw [hfr]
  clear hfr hav
  generalize (lg_sl ([.ref (ad 0), .int a1, .int a2, .int a3] : List Value) ++ List.replicate (4 - (lg_sl ([.ref (ad 0), .int a1, .int a2, .int a3] : List Value)).length) Slot.unset).toArray = ls at hl ⊢
  have hl : lv_has ls 4 [(0, .ref (ad 0)), (1, .int a1), (2, .int a2), (3, .int a3)] := hl
  have kf356 := hts _ (List.mem_cons_of_mem _ m_fl_X8_356)
  have ki8 := (fun w h => List.mem_cons_of_mem _ (i_X8 w h) : ∀ w ∈ u_ws RX8 TX8 78, w ∈ wsX8_goes)
  have kf350 := hts _ (List.mem_cons_of_mem _ m_fl_X8_350)
  refine (?_ : ∀ (H : Heap) (locs : List Loc), va_P (dC, dI) vwCl (zzM ad cy iM aM) H → va_D A (zzM ad cy iM aM) → va_S A s.heap H locs → W p l e ({ frames := 2, cells := 0, slots := 0, locals := 46 } : Room) s m args below meth c H locs 0 0 QQ (F0 m 0 ls [])) s.heap [] hP hD hS
  clear hP hD hS
  intro H locs hP hD hS
  unfold f_M_goes at h
  refine lv_aload_n hx hb dX8_goes_0 rfl (lv_at hl 0 rfl) ?_
  refine va_get (D := (dC, dI)) (ci := 8) (v := .int (iM 37)) (C := RX8) (T := TX8) (N := 78) hx hb hts ki8 hown hK hP 0 rfl rfl 37 (by decide) kf356 (fun _ h9 => h9) rfl dX8_goes_1 ?_
  refine lv_if_ne (tgt := 10) hx hb dX8_goes_4 (by decide) (fun cz => ?_) (fun cz => ?_)
  · have h := g_f h cz
    refine lv_aload_n hx hb dX8_goes_10 rfl (lv_at hl 0 rfl) ?_
    refine lv_iload_n hx hb dX8_goes_11 rfl (lv_at hl 1 rfl) ?_
    obtain ⟨q12, e12, h⟩ := g_b h
    refine callVis (cc := cX8_goes) (w1 := zzM ad cy iM aM) (As := [.int a1]) (rest := []) ⟨hx, hb, hml, hown, hts⟩ (c_M_noType l dC dI cy ad H.size a1 iM aM q12 e12) (cwV 1 hts (goodV m_ml_X8_408 m_im_X8_noType m_se_X8_noType m_in_X8 m_cd_X8_noType) rfl rfl rfl (by decide +kernel) ⟨Nat.le_of_ble_eq_true rfl, Nat.le_of_ble_eq_true rfl⟩) hN hK hP hD hS hA rfl 0 rfl rfl rfl hl.1 rfl (Nat.le_of_ble_eq_true rfl) dX8_goes_12 ⟨Nat.zero_le _, Nat.zero_le _⟩ (fun H locs hP hD hS => ?_)
    refine lv_if_ne (tgt := 26) hx hb dX8_goes_15 (by decide) (fun cz => ?_) (fun cz => ?_)
    · have h := g_f h cz
      refine lv_bipush (v := (-102)) hx hb dX8_goes_26 (by decide) ?_
      have h' := Option.some.inj h
      rw [← hQQ]
      exact W.iret (v := (-102 : Int32)) hx hb hr (fun t ht hW => ⟨⟨(-102 : Int32), (), rfl, by rw [← h'], by rw [← hWQ, ht]; exact hP, va_K.moved hW.alike hK⟩, hS.F ht⟩) hS.2.2 dX8_goes_28
    · have h := g_t h cz
      refine lv_aload_n hx hb dX8_goes_18 rfl (lv_at hl 0 rfl) ?_
      refine lv_iload_n hx hb dX8_goes_19 rfl (lv_at hl 3 rfl) ?_
      obtain ⟨q20, e20, h⟩ := g_b h
      refine callVis (cc := cX8_goes) (w1 := zzM ad cy iM aM) (As := [.int a3]) (rest := []) ⟨hx, hb, hml, hown, hts⟩ (c_M_noType l dC dI cy ad H.size a3 iM aM q20 e20) (cwV 1 hts (goodV m_ml_X8_408 m_im_X8_noType m_se_X8_noType m_in_X8 m_cd_X8_noType) rfl rfl rfl (by decide +kernel) ⟨Nat.le_of_ble_eq_true rfl, Nat.le_of_ble_eq_true rfl⟩) hN hK hP hD hS hA rfl 0 rfl rfl rfl hl.1 rfl (Nat.le_of_ble_eq_true rfl) dX8_goes_20 ⟨Nat.zero_le _, Nat.zero_le _⟩ (fun H locs hP hD hS => ?_)
      refine lv_if_eq (tgt := 29) hx hb dX8_goes_23 (by decide) (fun cz => ?_) (fun cz => ?_)
      · have h := g_t h cz
        refine lv_iload_n hx hb dX8_goes_29 rfl (lv_at hl 2 rfl) ?_
        refine lv_i2l (v := (a2).toInt64) hx hb dX8_goes_30 rfl ?_
        refine lv_lconst (v := 0) hx hb dX8_goes_31 (by decide) ?_
        refine lv_aload_n hx hb dX8_goes_32 rfl (lv_at hl 0 rfl) ?_
        refine va_get (D := (dC, dI)) (ci := 8) (v := .int (iM 28)) (C := RX8) (T := TX8) (N := 78) hx hb hts ki8 hown hK hP 0 rfl rfl 28 (by decide) kf350 (fun _ h9 => h9) rfl dX8_goes_33 ?_
        refine lv_iconst (v := 1) hx hb dX8_goes_36 (by decide) ?_
        refine lv_isub hx hb dX8_goes_37 ?_
        refine lv_i2l (v := (((iM 28) - (1 : Int32))).toInt64) hx hb dX8_goes_38 rfl ?_
        obtain ⟨q39, e39, h⟩ := g_b h
        refine callSi (cc := cX8_goes) (ws' := zzM ad cy iM aM) (As := [.long (a2).toInt64, .long ((0 : Int64)), .long ((((iM 28) - (1 : Int32))).toInt64)]) (rest := []) ⟨hx, hb, hml, hown, hts⟩ (c_M_in l dC dI cy ad H.size (a2).toInt64 ((0 : Int64)) ((((iM 28) - (1 : Int32))).toInt64) q39 e39) (va_cwS 3 hts (goodS m_ml_X8_154 m_st_X8_in m_in_X8 m_cd_X8_in) rfl rfl rfl (by decide +kernel) ⟨Nat.le_of_ble_eq_true rfl, Nat.le_of_ble_eq_true rfl⟩) hN hK hP hD hS hA [] [none, none, none, none, none, none, none, none, none, none, none, none, none, none, none, none, none, none, none, none, none, none, none, none, none, none, none, none, none, none, none, none, none, none, none, none, none, none, none, none, none, none, none, none] rfl rfl rfl rfl rfl rfl rfl hl.1 rfl (Nat.le_of_ble_eq_true rfl) dX8_goes_39 ⟨Nat.zero_le _, Nat.zero_le _⟩ (fun H locs hP hD hS => ?_)
        refine lv_if_ne (tgt := 48) hx hb dX8_goes_42 (by decide) (fun cz => ?_) (fun cz => ?_)
        · have h := g_f h cz
          refine lv_aload_n hx hb dX8_goes_48 rfl (lv_at hl 0 rfl) ?_
          refine lv_iload_n hx hb dX8_goes_49 rfl (lv_at hl 1 rfl) ?_
          refine lv_iload_n hx hb dX8_goes_50 rfl (lv_at hl 2 rfl) ?_
          refine lv_iload_n hx hb dX8_goes_51 rfl (lv_at hl 3 rfl) ?_
          obtain ⟨q52, e52, h⟩ := g_b h
          refine callVis (cc := cX8_goes) (w1 := zzM ad cy iM aM) (As := [.int a1, .int a2, .int a3]) (rest := []) ⟨hx, hb, hml, hown, hts⟩ (c_M_goesTo l dC dI cy ad H.size a1 a2 a3 iM aM q52 e52) (cwV 3 hts (goodV m_ml_X8_374 m_im_X8_goesTo m_se_X8_goesTo m_in_X8 m_cd_X8_goesTo) rfl rfl rfl (by decide +kernel) ⟨Nat.le_of_ble_eq_true rfl, Nat.le_of_ble_eq_true rfl⟩) hN hK hP hD hS hA rfl 0 rfl rfl rfl hl.1 rfl (Nat.le_of_ble_eq_true rfl) dX8_goes_52 ⟨Nat.zero_le _, Nat.zero_le _⟩ (fun H locs hP hD hS => ?_)
          refine lv_if_eq (tgt := 62) hx hb dX8_goes_55 (by decide) (fun cz => ?_) (fun cz => ?_)
          · have h := g_t h cz
            refine lv_iconst (v := 0) hx hb dX8_goes_62 (by decide) ?_
            have h' := Option.some.inj h
            rw [← hQQ]
            exact W.iret (v := (0 : Int32)) hx hb hr (fun t ht hW => ⟨⟨(0 : Int32), (), rfl, by rw [← h'], by rw [← hWQ, ht]; exact hP, va_K.moved hW.alike hK⟩, hS.F ht⟩) hS.2.2 dX8_goes_63
          · have h := g_f h cz
            refine lv_iconst (v := 1) hx hb dX8_goes_58 (by decide) ?_
            refine lv_goto (tgt := 63) hx hb dX8_goes_59 (by decide) ?_
            have h' := Option.some.inj h
            rw [← hQQ]
            exact W.iret (v := (1 : Int32)) hx hb hr (fun t ht hW => ⟨⟨(1 : Int32), (), rfl, by rw [← h'], by rw [← hWQ, ht]; exact hP, va_K.moved hW.alike hK⟩, hS.F ht⟩) hS.2.2 dX8_goes_63
        · have h := g_t h cz
          refine lv_bipush (v := (-103)) hx hb dX8_goes_45 (by decide) ?_
          have h' := Option.some.inj h
          rw [← hQQ]
          exact W.iret (v := (-103 : Int32)) hx hb hr (fun t ht hW => ⟨⟨(-103 : Int32), (), rfl, by rw [← h'], by rw [← hWQ, ht]; exact hP, va_K.moved hW.alike hK⟩, hS.F ht⟩) hS.2.2 dX8_goes_47
      · have h := g_f h cz
        refine lv_bipush (v := (-102)) hx hb dX8_goes_26 (by decide) ?_
        have h' := Option.some.inj h
        rw [← hQQ]
        exact W.iret (v := (-102 : Int32)) hx hb hr (fun t ht hW => ⟨⟨(-102 : Int32), (), rfl, by rw [← h'], by rw [← hWQ, ht]; exact hP, va_K.moved hW.alike hK⟩, hS.F ht⟩) hS.2.2 dX8_goes_28
  · have h := g_t h cz
    refine lv_bipush (v := (-101)) hx hb dX8_goes_7 (by decide) ?_
    have h' := Option.some.inj h
    rw [← hQQ]
    exact W.iret (v := (-101 : Int32)) hx hb hr (fun t ht hW => ⟨⟨(-101 : Int32), (), rfl, by rw [← h'], by rw [← hWQ, ht]; exact hP, va_K.moved hW.alike hK⟩, hS.F ht⟩) hS.2.2 dX8_goes_9
