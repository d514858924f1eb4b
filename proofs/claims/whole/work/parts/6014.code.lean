set_option maxHeartbeats 8000000 in
set_option maxRecDepth 100000 in
theorem c_M_rank (l : Launch) (dC : Nat → ClassId) (dI : Nat → Nat → Nat) (cy : Nat → ClassId) (ad : Nat → Nat) (sz : Nat) (a1 : Int32) (iM : Nat → Int32) (aM : Nat → Nat → Int32) (q : Int32) (h : f_M_rank a1 (iM 36) (iM 37) (aM 61) = some q) : Met l yX8_rank wsX8_rank ({ frames := 2, cells := 0, slots := 0, locals := 46 } : Room) (cP (dC, dI) cy [.ref (ad 0), .int a1] (zzM ad cy iM aM) sz) (cQi (dC, dI) cy q (zzM ad cy iM aM) (va_A (zzM ad cy iM aM) sz)) 0 0 (va_A (zzM ad cy iM aM) sz) := by
  refine Met.ofW (cc := cX8_rank) (maxL := 2) (ret := (some .int)) (by decide) rfl ?_
  intro p e s m args below meth c s₁ B hml hv
  obtain ⟨hav, hsz, hP, hK, hD0, hN⟩ := hv
  have hx := B.exec
  have hb := B.bytes
  have hr := B.returns
  have hts := atoms_spec (ws := wsX8_rank) B.pre
  have hown : s.vm.findClass RX8 = some m.cls := findClass_of_methodNamed B.named
  have hlocks := B.notSynchronized
  subst hsz
  have hD := hD0.self (sz := s.heap.size)
  generalize hAe : va_A (zzM ad cy iM aM) s.heap.size = A at hD ⊢
  have hA : ∀ q : Nat, s.heap.size ≤ q → A q := fun q h => by rw [← hAe]; exact Or.inr h
  have hS : va_S A s.heap s.heap [] := va_S.rf
  generalize hWQ : (zzM ad cy iM aM) = WQ
  generalize hQQ : MQ below (cQi (dC, dI) cy q WQ A) args s 0 0 A = QQ
  have hl := lv_entry ([.ref (ad 0), .int a1] : List Value) (n := 2) (Nat.le_of_ble_eq_true rfl)
  have hfr := lg_entry_eq m ([.ref (ad 0), .int a1] : List Value) 2
  rw [← hav] at hfr
  rw [hfr]
  clear hfr hav
  generalize (lg_sl ([.ref (ad 0), .int a1] : List Value) ++ List.replicate (2 - (lg_sl ([.ref (ad 0), .int a1] : List Value)).length) Slot.unset).toArray = ls at hl ⊢
  have hl : lv_has ls 2 [(0, .ref (ad 0)), (1, .int a1)] := hl
  have kf356 := hts _ (List.mem_cons_of_mem _ m_fl_X8_356)
  have ki8 := (fun w h => List.mem_cons_of_mem _ (i_X8 w h) : ∀ w ∈ u_ws RX8 TX8 78, w ∈ wsX8_rank)
  have kf114 := hts _ (List.mem_cons_of_mem _ m_fl_X8_114)
  refine (?_ : ∀ (H : Heap) (locs : List Loc), va_P (dC, dI) vwCl (zzM ad cy iM aM) H → va_D A (zzM ad cy iM aM) → va_S A s.heap H locs → W p l e ({ frames := 2, cells := 0, slots := 0, locals := 46 } : Room) s m args below meth c H locs 0 0 QQ (F0 m 0 ls [])) s.heap [] hP hD hS
  clear hP hD hS
  intro H locs hP hD hS
  unfold f_M_rank at h
  refine lv_aload_n hx hb dX8_rank_0 rfl (lv_at hl 0 rfl) ?_
  refine va_get (D := (dC, dI)) (ci := 8) (v := .int (iM 37)) (C := RX8) (T := TX8) (N := 78) hx hb hts ki8 hown hK hP 0 rfl rfl 37 (by decide) kf356 (fun _ h9 => h9) rfl dX8_rank_1 ?_
  refine lv_if_ne (tgt := 12) hx hb dX8_rank_4 (by decide) (fun cz => ?_) (fun cz => ?_)
  · have h := g_f h cz
    refine lv_aload_n hx hb dX8_rank_12 rfl (lv_at hl 0 rfl) ?_
    refine lv_iload_n hx hb dX8_rank_13 rfl (lv_at hl 1 rfl) ?_
    obtain ⟨q14, e14, h⟩ := g_b h
    refine callVis (cc := cX8_rank) (w1 := zzM ad cy iM aM) (As := [.int a1]) (rest := []) ⟨hx, hb, hml, hown, hts⟩ (c_M_noType l dC dI cy ad H.size a1 iM aM q14 e14) (cwV 1 hts (goodV m_ml_X8_408 m_im_X8_noType m_se_X8_noType m_in_X8 m_cd_X8_noType) rfl rfl rfl (by decide +kernel) ⟨Nat.le_of_ble_eq_true rfl, Nat.le_of_ble_eq_true rfl⟩) hN hK hP hD hS hA rfl 0 rfl rfl rfl hl.1 rfl (Nat.le_of_ble_eq_true rfl) dX8_rank_14 ⟨Nat.zero_le _, Nat.zero_le _⟩ (fun H locs hP hD hS => ?_)
    refine lv_if_eq (tgt := 25) hx hb dX8_rank_17 (by decide) (fun cz => ?_) (fun cz => ?_)
    · have h := g_t h cz
      refine lv_aload_n hx hb dX8_rank_25 rfl (lv_at hl 0 rfl) ?_
      refine va_get (D := (dC, dI)) (ci := 8) (v := .ref (ad 33)) (C := RX8) (T := TX8) (N := 78) hx hb hts ki8 hown hK hP 0 rfl rfl 61 (by decide) kf114 (fun _ h9 => h9) rfl dX8_rank_26 ?_
      refine lv_iload_n hx hb dX8_rank_29 rfl (lv_at hl 1 rfl) ?_
      obtain ⟨g_34, h⟩ := g_n h
      refine va_iald (f := (aM 61)) hx hb hK hP 33 0 rfl rfl g_34 dX8_rank_30 ?_
      have h' := Option.some.inj h
      rw [← hQQ]
      exact W.iret (v := ((aM 61) a1.toNatClampNeg)) hx hb hr (fun t ht hW => ⟨⟨((aM 61) a1.toNatClampNeg), (), rfl, by rw [← h'], by rw [← hWQ, ht]; exact hP, va_K.moved hW.alike hK⟩, hS.F ht⟩) hS.2.2 dX8_rank_31
    · have h := g_f h cz
      refine lv_bipush (v := (-102)) hx hb dX8_rank_20 (by decide) ?_
      refine lv_goto (tgt := 31) hx hb dX8_rank_22 (by decide) ?_
      have h' := Option.some.inj h
      rw [← hQQ]
      exact W.iret (v := (-102 : Int32)) hx hb hr (fun t ht hW => ⟨⟨(-102 : Int32), (), rfl, by rw [← h'], by rw [← hWQ, ht]; exact hP, va_K.moved hW.alike hK⟩, hS.F ht⟩) hS.2.2 dX8_rank_31
  · have h := g_t h cz
    refine lv_bipush (v := (-101)) hx hb dX8_rank_7 (by decide) ?_
    refine lv_goto (tgt := 31) hx hb dX8_rank_9 (by decide) ?_
    have h' := Option.some.inj h
    rw [← hQQ]
    exact W.iret (v := (-101 : Int32)) hx hb hr (fun t ht hW => ⟨⟨(-101 : Int32), (), rfl, by rw [← h'], by rw [← hWQ, ht]; exact hP, va_K.moved hW.alike hK⟩, hS.F ht⟩) hS.2.2 dX8_rank_31
set_option maxHeartbeats 8000000 in
set_option maxRecDepth 100000 in
theorem c_M_goes (l : Launch) (dC : Nat → ClassId) (dI : Nat → Nat → Nat) (cy : Nat → ClassId) (ad : Nat → Nat) (sz : Nat) (a1 : Int32) (a2 : Int32) (a3 : Int32) (iM : Nat → Int32) (aM : Nat → Nat → Int32) (q : Int32) (h : f_M_goes a1 a2 a3 (iM 28) (iM 36) (iM 37) (aM 58) (aM 59) = some q) : Met l yX8_goes wsX8_goes ({ frames := 2, cells := 0, slots := 0, locals := 46 } : Room) (cP (dC, dI) cy [.ref (ad 0), .int a1, .int a2, .int a3] (zzM ad cy iM aM) sz) (cQi (dC, dI) cy q (zzM ad cy iM aM) (va_A (zzM ad cy iM aM) sz)) 0 0 (va_A (zzM ad cy iM aM) sz) := by
  refine Met.ofW (cc := cX8_goes) (maxL := 4) (ret := (some .int)) (by decide) rfl ?_
  intro p e s m args below meth c s₁ B hml hv
  obtain ⟨hav, hsz, hP, hK, hD0, hN⟩ := hv
  have hx := B.exec
  have hb := B.bytes
  have hr := B.returns
  have hts := atoms_spec (ws := wsX8_goes) B.pre
  have hown : s.vm.findClass RX8 = some m.cls := findClass_of_methodNamed B.named
  have hlocks := B.notSynchronized
  subst hsz
  have hD := hD0.self (sz := s.heap.size)
  generalize hAe : va_A (zzM ad cy iM aM) s.heap.size = A at hD ⊢
  have hA : ∀ q : Nat, s.heap.size ≤ q → A q := fun q h => by rw [← hAe]; exact Or.inr h
  have hS : va_S A s.heap s.heap [] := va_S.rf
  generalize hWQ : (zzM ad cy iM aM) = WQ
  generalize hQQ : MQ below (cQi (dC, dI) cy q WQ A) args s 0 0 A = QQ
  have hl := lv_entry ([.ref (ad 0), .int a1, .int a2, .int a3] : List Value) (n := 4) (Nat.le_of_ble_eq_true rfl)
  have hfr := lg_entry_eq m ([.ref (ad 0), .int a1, .int a2, .int a3] : List Value) 4
  rw [← hav] at hfr
  rw [hfr]
  clear hfr hav
  generalize (lg_sl ([.ref (ad 0), .int a1, .int a2, .int a3] : List Value) ++ List.replicate (4 - (lg_sl ([.ref (ad 0), .int a1, .int a2, .int a3] : List Value)).length) Slot.unset).toArray = ls at hl ⊢
  have hl : lv_has ls 4 [(0, .ref (ad 0)), (1, .int a1), (2, .int a2), (3, .int a3)] := hl
  have kf356 := hts _ (List.mem_cons_of_mem _ m_fl_X8_356)
  have ki8 := (fun w h => List.mem_cons_of_mem _ (i_X8 w h) : ∀ w ∈ u_ws RX8 TX8 78, w ∈ wsX8_goes)
  have kf350 := hts _ (List.mem_cons_of_mem _ m_fl_X8_350)
  refine (?_ : ∀ (H : Heap) (locs : List Loc), va_P (dC, dI) vwCl (zzM ad cy iM aM) H → va_D A (zzM ad cy iM aM) → va_S A s.heap H locs → W p l e ({ frames := 2, cells := 0, slots := 0, locals := 46 } : Room) s m args below meth c H locs 0 0 QQ (F0 m 0 ls [])) s.heap [] hP hD hS
  clear hP hD hS
  intro H locs hP hD hS
  unfold f_M_goes at h
  refine lv_aload_n hx hb dX8_goes_0 rfl (lv_at hl 0 rfl) ?_
  refine va_get (D := (dC, dI)) (ci := 8) (v := .int (iM 37)) (C := RX8) (T := TX8) (N := 78) hx hb hts ki8 hown hK hP 0 rfl rfl 37 (by decide) kf356 (fun _ h9 => h9) rfl dX8_goes_1 ?_
  refine lv_if_ne (tgt := 10) hx hb dX8_goes_4 (by decide) (fun cz => ?_) (fun cz => ?_)
  · have h := g_f h cz
    refine lv_aload_n hx hb dX8_goes_10 rfl (lv_at hl 0 rfl) ?_
    refine lv_iload_n hx hb dX8_goes_11 rfl (lv_at hl 1 rfl) ?_
    obtain ⟨q12, e12, h⟩ := g_b h
    refine callVis (cc := cX8_goes) (w1 := zzM ad cy iM aM) (As := [.int a1]) (rest := []) ⟨hx, hb, hml, hown, hts⟩ (c_M_noType l dC dI cy ad H.size a1 iM aM q12 e12) (cwV 1 hts (goodV m_ml_X8_408 m_im_X8_noType m_se_X8_noType m_in_X8 m_cd_X8_noType) rfl rfl rfl (by decide +kernel) ⟨Nat.le_of_ble_eq_true rfl, Nat.le_of_ble_eq_true rfl⟩) hN hK hP hD hS hA rfl 0 rfl rfl rfl hl.1 rfl (Nat.le_of_ble_eq_true rfl) dX8_goes_12 ⟨Nat.zero_le _, Nat.zero_le _⟩ (fun H locs hP hD hS => ?_)
    refine lv_if_ne (tgt := 26) hx hb dX8_goes_15 (by decide) (fun cz => ?_) (fun cz => ?_)
    · have h := g_f h cz
      refine lv_bipush (v := (-102)) hx hb dX8_goes_26 (by decide) ?_
      have h' := Option.some.inj h
      rw [← hQQ]
      exact W.iret (v := (-102 : Int32)) hx hb hr (fun t ht hW => ⟨⟨(-102 : Int32), (), rfl, by rw [← h'], by rw [← hWQ, ht]; exact hP, va_K.moved hW.alike hK⟩, hS.F ht⟩) hS.2.2 dX8_goes_28
    · have h := g_t h cz
      refine lv_aload_n hx hb dX8_goes_18 rfl (lv_at hl 0 rfl) ?_
      refine lv_iload_n hx hb dX8_goes_19 rfl (lv_at hl 3 rfl) ?_
      obtain ⟨q20, e20, h⟩ := g_b h
      refine callVis (cc := cX8_goes) (w1 := zzM ad cy iM aM) (As := [.int a3]) (rest := []) ⟨hx, hb, hml, hown, hts⟩ (c_M_noType l dC dI cy ad H.size a3 iM aM q20 e20) (cwV 1 hts (goodV m_ml_X8_408 m_im_X8_noType m_se_X8_noType m_in_X8 m_cd_X8_noType) rfl rfl rfl (by decide +kernel) ⟨Nat.le_of_ble_eq_true rfl, Nat.le_of_ble_eq_true rfl⟩) hN hK hP hD hS hA rfl 0 rfl rfl rfl hl.1 rfl (Nat.le_of_ble_eq_true rfl) dX8_goes_20 ⟨Nat.zero_le _, Nat.zero_le _⟩ (fun H locs hP hD hS => ?_)
      refine lv_if_eq (tgt := 29) hx hb dX8_goes_23 (by decide) (fun cz => ?_) (fun cz => ?_)
      · have h := g_t h cz
        refine lv_iload_n hx hb dX8_goes_29 rfl (lv_at hl 2 rfl) ?_
        refine lv_i2l (v := (a2).toInt64) hx hb dX8_goes_30 rfl ?_
        refine lv_lconst (v := 0) hx hb dX8_goes_31 (by decide) ?_
        refine lv_aload_n hx hb dX8_goes_32 rfl (lv_at hl 0 rfl) ?_
        refine va_get (D := (dC, dI)) (ci := 8) (v := .int (iM 28)) (C := RX8) (T := TX8) (N := 78) hx hb hts ki8 hown hK hP 0 rfl rfl 28 (by decide) kf350 (fun _ h9 => h9) rfl dX8_goes_33 ?_
        refine lv_iconst (v := 1) hx hb dX8_goes_36 (by decide) ?_
        refine lv_isub hx hb dX8_goes_37 ?_
        refine lv_i2l (v := (((iM 28) - (1 : Int32))).toInt64) hx hb dX8_goes_38 rfl ?_
        obtain ⟨q39, e39, h⟩ := g_b h
        refine callSi (cc := cX8_goes) (ws' := zzM ad cy iM aM) (As := [.long (a2).toInt64, .long ((0 : Int64)), .long ((((iM 28) - (1 : Int32))).toInt64)]) (rest := []) ⟨hx, hb, hml, hown, hts⟩ (c_M_in l dC dI cy ad H.size (a2).toInt64 ((0 : Int64)) ((((iM 28) - (1 : Int32))).toInt64) q39 e39) (va_cwS 3 hts (goodS m_ml_X8_154 m_st_X8_in m_in_X8 m_cd_X8_in) rfl rfl rfl (by decide +kernel) ⟨Nat.le_of_ble_eq_true rfl, Nat.le_of_ble_eq_true rfl⟩) hN hK hP hD hS hA [] [none, none, none, none, none, none, none, none, none, none, none, none, none, none, none, none, none, none, none, none, none, none, none, none, none, none, none, none, none, none, none, none, none, none, none, none, none, none, none, none, none, none, none, none] rfl rfl rfl rfl rfl rfl rfl hl.1 rfl (Nat.le_of_ble_eq_true rfl) dX8_goes_39 ⟨Nat.zero_le _, Nat.zero_le _⟩ (fun H locs hP hD hS => ?_)
        refine lv_if_ne (tgt := 48) hx hb dX8_goes_42 (by decide) (fun cz => ?_) (fun cz => ?_)
        · have h := g_f h cz
          refine lv_aload_n hx hb dX8_goes_48 rfl (lv_at hl 0 rfl) ?_
          refine lv_iload_n hx hb dX8_goes_49 rfl (lv_at hl 1 rfl) ?_
          refine lv_iload_n hx hb dX8_goes_50 rfl (lv_at hl 2 rfl) ?_
          refine lv_iload_n hx hb dX8_goes_51 rfl (lv_at hl 3 rfl) ?_
          obtain ⟨q52, e52, h⟩ := g_b h
          refine callVis (cc := cX8_goes) (w1 := zzM ad cy iM aM) (As := [.int a1, .int a2, .int a3]) (rest := []) ⟨hx, hb, hml, hown, hts⟩ (c_M_goesTo l dC dI cy ad H.size a1 a2 a3 iM aM q52 e52) (cwV 3 hts (goodV m_ml_X8_374 m_im_X8_goesTo m_se_X8_goesTo m_in_X8 m_cd_X8_goesTo) rfl rfl rfl (by decide +kernel) ⟨Nat.le_of_ble_eq_true rfl, Nat.le_of_ble_eq_true rfl⟩) hN hK hP hD hS hA rfl 0 rfl rfl rfl hl.1 rfl (Nat.le_of_ble_eq_true rfl) dX8_goes_52 ⟨Nat.zero_le _, Nat.zero_le _⟩ (fun H locs hP hD hS => ?_)
          refine lv_if_eq (tgt := 62) hx hb dX8_goes_55 (by decide) (fun cz => ?_) (fun cz => ?_)
          · have h := g_t h cz
            refine lv_iconst (v := 0) hx hb dX8_goes_62 (by decide) ?_
            have h' := Option.some.inj h
            rw [← hQQ]
            exact W.iret (v := (0 : Int32)) hx hb hr (fun t ht hW => ⟨⟨(0 : Int32), (), rfl, by rw [← h'], by rw [← hWQ, ht]; exact hP, va_K.moved hW.alike hK⟩, hS.F ht⟩) hS.2.2 dX8_goes_63
          · have h := g_f h cz
            refine lv_iconst (v := 1) hx hb dX8_goes_58 (by decide) ?_
            refine lv_goto (tgt := 63) hx hb dX8_goes_59 (by decide) ?_
            have h' := Option.some.inj h
            rw [← hQQ]
            exact W.iret (v := (1 : Int32)) hx hb hr (fun t ht hW => ⟨⟨(1 : Int32), (), rfl, by rw [← h'], by rw [← hWQ, ht]; exact hP, va_K.moved hW.alike hK⟩, hS.F ht⟩) hS.2.2 dX8_goes_63
        · have h := g_t h cz
          refine lv_bipush (v := (-103)) hx hb dX8_goes_45 (by decide) ?_
          have h' := Option.some.inj h
          rw [← hQQ]
          exact W.iret (v := (-103 : Int32)) hx hb hr (fun t ht hW => ⟨⟨(-103 : Int32), (), rfl, by rw [← h'], by rw [← hWQ, ht]; exact hP, va_K.moved hW.alike hK⟩, hS.F ht⟩) hS.2.2 dX8_goes_47
      · have h := g_f h cz
        refine lv_bipush (v := (-102)) hx hb dX8_goes_26 (by decide) ?_
        have h' := Option.some.inj h
        rw [← hQQ]
        exact W.iret (v := (-102 : Int32)) hx hb hr (fun t ht hW => ⟨⟨(-102 : Int32), (), rfl, by rw [← h'], by rw [← hWQ, ht]; exact hP, va_K.moved hW.alike hK⟩, hS.F ht⟩) hS.2.2 dX8_goes_28
  · have h := g_t h cz
    refine lv_bipush (v := (-101)) hx hb dX8_goes_7 (by decide) ?_
    have h' := Option.some.inj h
    rw [← hQQ]
    exact W.iret (v := (-101 : Int32)) hx hb hr (fun t ht hW => ⟨⟨(-101 : Int32), (), rfl, by rw [← h'], by rw [← hWQ, ht]; exact hP, va_K.moved hW.alike hK⟩, hS.F ht⟩) hS.2.2 dX8_goes_9
set_option maxHeartbeats 8000000 in
set_option maxRecDepth 100000 in
theorem c_M_isAt (l : Launch) (dC : Nat → ClassId) (dI : Nat → Nat → Nat) (cy : Nat → ClassId) (ad : Nat → Nat) (sz : Nat) (a1 : Int32) (a2 : Int32) (iM : Nat → Int32) (aM : Nat → Nat → Int32) (q : Int32) (h : f_M_isAt a1 a2 (aM 21) (aM 57) = some q) : Met l yX8_isAt wsX8_isAt ({ frames := 0, cells := 0, slots := 0, locals := 0 } : Room) (cP (dC, dI) cy [.ref (ad 0), .int a1, .int a2] (zzM ad cy iM aM) sz) (cQi (dC, dI) cy q (zzM ad cy iM aM) (va_A (zzM ad cy iM aM) sz)) 0 0 (va_A (zzM ad cy iM aM) sz) := by
  refine Met.ofW (cc := cX8_isAt) (maxL := 3) (ret := (some .boolean)) (by decide) rfl ?_
  intro p e s m args below meth c s₁ B hml hv
  obtain ⟨hav, hsz, hP, hK, hD0, hN⟩ := hv
  have hx := B.exec
  have hb := B.bytes
  have hr := B.returns
  have hts := atoms_spec (ws := wsX8_isAt) B.pre
  have hown : s.vm.findClass RX8 = some m.cls := findClass_of_methodNamed B.named
  have hlocks := B.notSynchronized
  subst hsz
  have hD := hD0.self (sz := s.heap.size)
  generalize hAe : va_A (zzM ad cy iM aM) s.heap.size = A at hD ⊢
  have hA : ∀ q : Nat, s.heap.size ≤ q → A q := fun q h => by rw [← hAe]; exact Or.inr h
  have hS : va_S A s.heap s.heap [] := va_S.rf
  generalize hWQ : (zzM ad cy iM aM) = WQ
  generalize hQQ : MQ below (cQi (dC, dI) cy q WQ A) args s 0 0 A = QQ
  have hl := lv_entry ([.ref (ad 0), .int a1, .int a2] : List Value) (n := 3) (Nat.le_of_ble_eq_true rfl)
  have hfr := lg_entry_eq m ([.ref (ad 0), .int a1, .int a2] : List Value) 3
  rw [← hav] at hfr
  rw [hfr]
  clear hfr hav
  generalize (lg_sl ([.ref (ad 0), .int a1, .int a2] : List Value) ++ List.replicate (3 - (lg_sl ([.ref (ad 0), .int a1, .int a2] : List Value)).length) Slot.unset).toArray = ls at hl ⊢
  have hl : lv_has ls 3 [(0, .ref (ad 0)), (1, .int a1), (2, .int a2)] := hl
  have kf102 := hts _ (List.mem_cons_of_mem _ m_fl_X8_102)
  have ki8 := (fun w h => List.mem_cons_of_mem _ (i_X8 w h) : ∀ w ∈ u_ws RX8 TX8 78, w ∈ wsX8_isAt)
  have kf48 := hts _ (List.mem_cons_of_mem _ m_fl_X8_48)
  refine (?_ : ∀ (H : Heap) (locs : List Loc), va_P (dC, dI) vwCl (zzM ad cy iM aM) H → va_D A (zzM ad cy iM aM) → va_S A s.heap H locs → W p l e ({ frames := 0, cells := 0, slots := 0, locals := 0 } : Room) s m args below meth c H locs 0 0 QQ (F0 m 0 ls [])) s.heap [] hP hD hS
  clear hP hD hS
  intro H locs hP hD hS
  unfold f_M_isAt at h
  refine lv_aload_n hx hb dX8_isAt_0 rfl (lv_at hl 0 rfl) ?_
  refine va_get (D := (dC, dI)) (ci := 8) (v := .ref (ad 29)) (C := RX8) (T := TX8) (N := 78) hx hb hts ki8 hown hK hP 0 rfl rfl 57 (by decide) kf102 (fun _ h9 => h9) rfl dX8_isAt_1 ?_
  refine lv_sipush (v := 512) hx hb dX8_isAt_4 (by decide) ?_
  refine lv_aload_n hx hb dX8_isAt_7 rfl (lv_at hl 0 rfl) ?_
  refine va_get (D := (dC, dI)) (ci := 8) (v := .ref (ad 13)) (C := RX8) (T := TX8) (N := 78) hx hb hts ki8 hown hK hP 0 rfl rfl 21 (by decide) kf48 (fun _ h9 => h9) rfl dX8_isAt_8 ?_
  refine lv_iload_n hx hb dX8_isAt_11 rfl (lv_at hl 1 rfl) ?_
  obtain ⟨g_131, h⟩ := g_n h
  refine va_iald (f := (aM 21)) hx hb hK hP 13 0 rfl rfl g_131 dX8_isAt_12 ?_
  refine lv_imul hx hb dX8_isAt_13 ?_
  refine lv_iload_n hx hb dX8_isAt_14 rfl (lv_at hl 2 rfl) ?_
  refine lv_iadd hx hb dX8_isAt_15 ?_
  obtain ⟨g_132, h⟩ := g_n h
  refine va_zald (f := (aM 57)) hx hb hK hP 29 4 rfl rfl g_132 dX8_isAt_16 ?_
  obtain ⟨gz, h⟩ := g_p h
  have h' := Option.some.inj h
  rw [← hQQ]
  exact W.zret (v := ((aM 57) ((((512 : Int32) * ((aM 21) a1.toNatClampNeg)) + a2)).toNatClampNeg)) hx hb hr (g_zr _ gz) (fun t ht hW => ⟨⟨((aM 57) ((((512 : Int32) * ((aM 21) a1.toNatClampNeg)) + a2)).toNatClampNeg), (), rfl, by rw [← h'], by rw [← hWQ, ht]; exact hP, va_K.moved hW.alike hK⟩, hS.F ht⟩) hS.2.2 dX8_isAt_17
set_option maxHeartbeats 8000000 in
set_option maxRecDepth 100000 in
theorem c_M_at (l : Launch) (dC : Nat → ClassId) (dI : Nat → Nat → Nat) (cy : Nat → ClassId) (ad : Nat → Nat) (sz : Nat) (a1 : Int32) (a2 : Int32) (iM : Nat → Int32) (aM : Nat → Nat → Int32) (q : Int32) (h : f_M_at a1 a2 (iM 22) (iM 36) (iM 37) (aM 21) (aM 57) = some q) : Met l yX8_at wsX8_at ({ frames := 2, cells := 0, slots := 0, locals := 46 } : Room) (cP (dC, dI) cy [.ref (ad 0), .int a1, .int a2] (zzM ad cy iM aM) sz) (cQi (dC, dI) cy q (zzM ad cy iM aM) (va_A (zzM ad cy iM aM) sz)) 0 0 (va_A (zzM ad cy iM aM) sz) := by
  refine Met.ofW (cc := cX8_at) (maxL := 3) (ret := (some .int)) (by decide) rfl ?_
  intro p e s m args below meth c s₁ B hml hv
  obtain ⟨hav, hsz, hP, hK, hD0, hN⟩ := hv
  have hx := B.exec
  have hb := B.bytes
  have hr := B.returns
  have hts := atoms_spec (ws := wsX8_at) B.pre
  have hown : s.vm.findClass RX8 = some m.cls := findClass_of_methodNamed B.named
  have hlocks := B.notSynchronized
  subst hsz
  have hD := hD0.self (sz := s.heap.size)
  generalize hAe : va_A (zzM ad cy iM aM) s.heap.size = A at hD ⊢
  have hA : ∀ q : Nat, s.heap.size ≤ q → A q := fun q h => by rw [← hAe]; exact Or.inr h
  have hS : va_S A s.heap s.heap [] := va_S.rf
  generalize hWQ : (zzM ad cy iM aM) = WQ
  generalize hQQ : MQ below (cQi (dC, dI) cy q WQ A) args s 0 0 A = QQ
  have hl := lv_entry ([.ref (ad 0), .int a1, .int a2] : List Value) (n := 3) (Nat.le_of_ble_eq_true rfl)
  have hfr := lg_entry_eq m ([.ref (ad 0), .int a1, .int a2] : List Value) 3
  rw [← hav] at hfr
  rw [hfr]
  clear hfr hav
  generalize (lg_sl ([.ref (ad 0), .int a1, .int a2] : List Value) ++ List.replicate (3 - (lg_sl ([.ref (ad 0), .int a1, .int a2] : List Value)).length) Slot.unset).toArray = ls at hl ⊢
  have hl : lv_has ls 3 [(0, .ref (ad 0)), (1, .int a1), (2, .int a2)] := hl
  have kf356 := hts _ (List.mem_cons_of_mem _ m_fl_X8_356)
  have ki8 := (fun w h => List.mem_cons_of_mem _ (i_X8 w h) : ∀ w ∈ u_ws RX8 TX8 78, w ∈ wsX8_at)
  refine (?_ : ∀ (H : Heap) (locs : List Loc), va_P (dC, dI) vwCl (zzM ad cy iM aM) H → va_D A (zzM ad cy iM aM) → va_S A s.heap H locs → W p l e ({ frames := 2, cells := 0, slots := 0, locals := 46 } : Room) s m args below meth c H locs 0 0 QQ (F0 m 0 ls [])) s.heap [] hP hD hS
  clear hP hD hS
  intro H locs hP hD hS
  unfold f_M_at at h
  refine lv_aload_n hx hb dX8_at_0 rfl (lv_at hl 0 rfl) ?_
  refine va_get (D := (dC, dI)) (ci := 8) (v := .int (iM 37)) (C := RX8) (T := TX8) (N := 78) hx hb hts ki8 hown hK hP 0 rfl rfl 37 (by decide) kf356 (fun _ h9 => h9) rfl dX8_at_1 ?_
  refine lv_if_ne (tgt := 10) hx hb dX8_at_4 (by decide) (fun cz => ?_) (fun cz => ?_)
  · have h := g_f h cz
    refine lv_aload_n hx hb dX8_at_10 rfl (lv_at hl 0 rfl) ?_
    refine lv_iload_n hx hb dX8_at_11 rfl (lv_at hl 1 rfl) ?_
    obtain ⟨q12, e12, h⟩ := g_b h
    refine callVis (cc := cX8_at) (w1 := zzM ad cy iM aM) (As := [.int a1]) (rest := []) ⟨hx, hb, hml, hown, hts⟩ (c_M_noQuestion l dC dI cy ad H.size a1 iM aM q12 e12) (cwV 1 hts (goodV m_ml_X8_411 m_im_X8_noQuestion m_se_X8_noQuestion m_in_X8 m_cd_X8_noQuestion) rfl rfl rfl (by decide +kernel) ⟨Nat.le_of_ble_eq_true rfl, Nat.le_of_ble_eq_true rfl⟩) hN hK hP hD hS hA rfl 0 rfl rfl rfl hl.1 rfl (Nat.le_of_ble_eq_true rfl) dX8_at_12 ⟨Nat.zero_le _, Nat.zero_le _⟩ (fun H locs hP hD hS => ?_)
    refine lv_if_ne (tgt := 26) hx hb dX8_at_15 (by decide) (fun cz => ?_) (fun cz => ?_)
    · have h := g_f h cz
      refine lv_bipush (v := (-102)) hx hb dX8_at_26 (by decide) ?_
      refine lv_goto (tgt := 45) hx hb dX8_at_28 (by decide) ?_
      have h' := Option.some.inj h
      rw [← hQQ]
      exact W.iret (v := (-102 : Int32)) hx hb hr (fun t ht hW => ⟨⟨(-102 : Int32), (), rfl, by rw [← h'], by rw [← hWQ, ht]; exact hP, va_K.moved hW.alike hK⟩, hS.F ht⟩) hS.2.2 dX8_at_45
    · have h := g_t h cz
      refine lv_aload_n hx hb dX8_at_18 rfl (lv_at hl 0 rfl) ?_
      refine lv_iload_n hx hb dX8_at_19 rfl (lv_at hl 2 rfl) ?_
      obtain ⟨q20, e20, h⟩ := g_b h
      refine callVis (cc := cX8_at) (w1 := zzM ad cy iM aM) (As := [.int a2]) (rest := []) ⟨hx, hb, hml, hown, hts⟩ (c_M_noType l dC dI cy ad H.size a2 iM aM q20 e20) (cwV 1 hts (goodV m_ml_X8_408 m_im_X8_noType m_se_X8_noType m_in_X8 m_cd_X8_noType) rfl rfl rfl (by decide +kernel) ⟨Nat.le_of_ble_eq_true rfl, Nat.le_of_ble_eq_true rfl⟩) hN hK hP hD hS hA rfl 0 rfl rfl rfl hl.1 rfl (Nat.le_of_ble_eq_true rfl) dX8_at_20 ⟨Nat.zero_le _, Nat.zero_le _⟩ (fun H locs hP hD hS => ?_)
      refine lv_if_eq (tgt := 31) hx hb dX8_at_23 (by decide) (fun cz => ?_) (fun cz => ?_)
      · have h := g_t h cz
        refine lv_aload_n hx hb dX8_at_31 rfl (lv_at hl 0 rfl) ?_
        refine lv_iload_n hx hb dX8_at_32 rfl (lv_at hl 1 rfl) ?_
        refine lv_iload_n hx hb dX8_at_33 rfl (lv_at hl 2 rfl) ?_
        obtain ⟨q34, e34, h⟩ := g_b h
        refine callVis (cc := cX8_at) (w1 := zzM ad cy iM aM) (As := [.int a1, .int a2]) (rest := []) ⟨hx, hb, hml, hown, hts⟩ (c_M_isAt l dC dI cy ad H.size a1 a2 iM aM q34 e34) (cwV 2 hts (goodV m_ml_X8_414 m_im_X8_isAt m_se_X8_isAt m_in_X8 m_cd_X8_isAt) rfl rfl rfl (by decide +kernel) ⟨Nat.le_of_ble_eq_true rfl, Nat.le_of_ble_eq_true rfl⟩) hN hK hP hD hS hA rfl 0 rfl rfl rfl hl.1 rfl (Nat.le_of_ble_eq_true rfl) dX8_at_34 ⟨Nat.zero_le _, Nat.zero_le _⟩ (fun H locs hP hD hS => ?_)
        refine lv_if_eq (tgt := 44) hx hb dX8_at_37 (by decide) (fun cz => ?_) (fun cz => ?_)
        · have h := g_t h cz
          refine lv_iconst (v := 0) hx hb dX8_at_44 (by decide) ?_
          have h' := Option.some.inj h
          rw [← hQQ]
          exact W.iret (v := (0 : Int32)) hx hb hr (fun t ht hW => ⟨⟨(0 : Int32), (), rfl, by rw [← h'], by rw [← hWQ, ht]; exact hP, va_K.moved hW.alike hK⟩, hS.F ht⟩) hS.2.2 dX8_at_45
        · have h := g_f h cz
          refine lv_iconst (v := 1) hx hb dX8_at_40 (by decide) ?_
          refine lv_goto (tgt := 45) hx hb dX8_at_41 (by decide) ?_
          have h' := Option.some.inj h
          rw [← hQQ]
          exact W.iret (v := (1 : Int32)) hx hb hr (fun t ht hW => ⟨⟨(1 : Int32), (), rfl, by rw [← h'], by rw [← hWQ, ht]; exact hP, va_K.moved hW.alike hK⟩, hS.F ht⟩) hS.2.2 dX8_at_45
      · have h := g_f h cz
        refine lv_bipush (v := (-102)) hx hb dX8_at_26 (by decide) ?_
        refine lv_goto (tgt := 45) hx hb dX8_at_28 (by decide) ?_
        have h' := Option.some.inj h
        rw [← hQQ]
        exact W.iret (v := (-102 : Int32)) hx hb hr (fun t ht hW => ⟨⟨(-102 : Int32), (), rfl, by rw [← h'], by rw [← hWQ, ht]; exact hP, va_K.moved hW.alike hK⟩, hS.F ht⟩) hS.2.2 dX8_at_45
  · have h := g_t h cz
    refine lv_bipush (v := (-101)) hx hb dX8_at_7 (by decide) ?_
    have h' := Option.some.inj h
    rw [← hQQ]
    exact W.iret (v := (-101 : Int32)) hx hb hr (fun t ht hW => ⟨⟨(-101 : Int32), (), rfl, by rw [← h'], by rw [← hWQ, ht]; exact hP, va_K.moved hW.alike hK⟩, hS.F ht⟩) hS.2.2 dX8_at_9
set_option maxHeartbeats 8000000 in
set_option maxRecDepth 100000 in
theorem c_M_leastOf (l : Launch) (dC : Nat → ClassId) (dI : Nat → Nat → Nat) (cy : Nat → ClassId) (ad : Nat → Nat) (sz : Nat) (N : Nat) (a1 : Int32) (iM : Nat → Int32) (aM : Nat → Nat → Int32) (q : Int32) (h : f_M_leastOf N a1 (iM 36) (aM 21) (aM 57) (aM 62) = some q) : Met l yX8_leastOf wsX8_leastOf ({ frames := 1, cells := 0, slots := 0, locals := 22 } : Room) (cP (dC, dI) cy [.ref (ad 0), .int a1] (zzM ad cy iM aM) sz) (cQi (dC, dI) cy q (zzM ad cy iM aM) (va_A (zzM ad cy iM aM) sz)) 0 0 (va_A (zzM ad cy iM aM) sz) := by
  refine Met.ofW (cc := cX8_leastOf) (maxL := 3) (ret := (some .int)) (by decide) rfl ?_
  intro p e s m args below meth c s₁ B hml hv
  obtain ⟨hav, hsz, hP, hK, hD0, hN⟩ := hv
  have hx := B.exec
  have hb := B.bytes
  have hr := B.returns
  have hts := atoms_spec (ws := wsX8_leastOf) B.pre
  have hown : s.vm.findClass RX8 = some m.cls := findClass_of_methodNamed B.named
  have hlocks := B.notSynchronized
  subst hsz
  have hD := hD0.self (sz := s.heap.size)
  generalize hAe : va_A (zzM ad cy iM aM) s.heap.size = A at hD ⊢
  have hA : ∀ q : Nat, s.heap.size ≤ q → A q := fun q h => by rw [← hAe]; exact Or.inr h
  have hS : va_S A s.heap s.heap [] := va_S.rf
  generalize hWQ : (zzM ad cy iM aM) = WQ
  generalize hQQ : MQ below (cQi (dC, dI) cy q WQ A) args s 0 0 A = QQ
  have hl := lv_entry ([.ref (ad 0), .int a1] : List Value) (n := 3) (Nat.le_of_ble_eq_true rfl)
  have hfr := lg_entry_eq m ([.ref (ad 0), .int a1] : List Value) 3
  rw [← hav] at hfr
  rw [hfr]
  clear hfr hav
  generalize (lg_sl ([.ref (ad 0), .int a1] : List Value) ++ List.replicate (3 - (lg_sl ([.ref (ad 0), .int a1] : List Value)).length) Slot.unset).toArray = ls at hl ⊢
  have hl : lv_has ls 3 [(0, .ref (ad 0)), (1, .int a1)] := hl
  have kf117 := hts _ (List.mem_cons_of_mem _ m_fl_X8_117)
  have ki8 := (fun w h => List.mem_cons_of_mem _ (i_X8 w h) : ∀ w ∈ u_ws RX8 TX8 78, w ∈ wsX8_leastOf)
  refine (?_ : ∀ (H : Heap) (locs : List Loc), va_P (dC, dI) vwCl (zzM ad cy iM aM) H → va_D A (zzM ad cy iM aM) → va_S A s.heap H locs → W p l e ({ frames := 1, cells := 0, slots := 0, locals := 22 } : Room) s m args below meth c H locs 0 0 QQ (F0 m 0 ls [])) s.heap [] hP hD hS
  clear hP hD hS
  have B2 : ∀ (n : Nat) (v1 : Int32) (v2 : Int32) (H : Heap) (locs : List Loc) (ls : Array Slot), f_M_leastOf_2 N (iM 36) (aM 21) (aM 57) (aM 62) v1 n v2 = some q → va_P (dC, dI) vwCl (zzM ad cy iM aM) H → va_D A (zzM ad cy iM aM) → va_S A s.heap H locs → lv_has ls 3 [(0, .ref (ad 0)), (1, .int v1), (2, .int v2)] → W p l e ({ frames := 1, cells := 0, slots := 0, locals := 22 } : Room) s m args below meth c H locs 0 0 QQ (F0 m 2 ls []) := by
    intro n
    induction n with
    | zero =>
      intro v1 v2 H locs ls h hP hD hS hl
      rw [f_M_leastOf_2] at h
      cases h
    | succ n ih =>
      intro v1 v2 H locs ls h hP hD hS hl
      rw [f_M_leastOf_2] at h
      refine lv_iload_n hx hb dX8_leastOf_2 rfl (lv_at hl 2 rfl) ?_
      refine lv_aload_n hx hb dX8_leastOf_3 rfl (lv_at hl 0 rfl) ?_
      obtain ⟨q4, e4, h⟩ := g_b h
      refine callVis (cc := cX8_leastOf) (w1 := zzM ad cy iM aM) (As := []) (rest := [.int v2]) ⟨hx, hb, hml, hown, hts⟩ (c_M_types l dC dI cy ad H.size iM aM q4 e4) (cwV 0 hts (goodV m_ml_X8_368 m_im_X8_types m_se_X8_types m_in_X8 m_cd_X8_types) rfl rfl rfl (by decide +kernel) ⟨Nat.le_of_ble_eq_true rfl, Nat.le_of_ble_eq_true rfl⟩) hN hK hP hD hS hA rfl 0 rfl rfl rfl hl.1 rfl (Nat.le_of_ble_eq_true rfl) dX8_leastOf_4 ⟨Nat.zero_le _, Nat.zero_le _⟩ (fun H locs hP hD hS => ?_)
      refine lv_icmp_ge (tgt := 36) hx hb dX8_leastOf_7 (by decide) (fun cz => ?_) (fun cz => ?_)
      · have h := g_t h cz
        refine lv_iconst (v := (-1)) hx hb dX8_leastOf_36 (by decide) ?_
        have h' := Option.some.inj h
        rw [← hQQ]
        exact W.iret (v := (-1 : Int32)) hx hb hr (fun t ht hW => ⟨⟨(-1 : Int32), (), rfl, by rw [← h'], by rw [← hWQ, ht]; exact hP, va_K.moved hW.alike hK⟩, hS.F ht⟩) hS.2.2 dX8_leastOf_37
      · have h := g_f h cz
        refine lv_aload_n hx hb dX8_leastOf_10 rfl (lv_at hl 0 rfl) ?_
        refine va_get (D := (dC, dI)) (ci := 8) (v := .ref (ad 34)) (C := RX8) (T := TX8) (N := 78) hx hb hts ki8 hown hK hP 0 rfl rfl 62 (by decide) kf117 (fun _ h9 => h9) rfl dX8_leastOf_11 ?_
        refine lv_iload_n hx hb dX8_leastOf_14 rfl (lv_at hl 2 rfl) ?_
        obtain ⟨g_129, h⟩ := g_n h
        refine va_zald (f := (aM 62)) hx hb hK hP 34 4 rfl rfl g_129 dX8_leastOf_15 ?_
        refine lv_if_eq (tgt := 30) hx hb dX8_leastOf_16 (by decide) (fun cz => ?_) (fun cz => ?_)
        · have h := g_t h cz
          refine lv_iinc (v := (v2 + (1 : Int32))) (lv' := [(2, .int ((v2 + (1 : Int32)))), (0, .ref (ad 0)), (1, .int v1)]) hx hb dX8_leastOf_30 hl (k := 2) rfl rfl (by decide) rfl (fun ls hl => ?_)
          refine lv_goto (tgt := 2) hx hb dX8_leastOf_33 (by decide) ?_
          exact ih v1 ((v2 + (1 : Int32))) H locs ls h hP hD hS (lv_sub hl [1, 2, 0] rfl)
        · have h := g_f h cz
          refine lv_aload_n hx hb dX8_leastOf_19 rfl (lv_at hl 0 rfl) ?_
          refine lv_iload_n hx hb dX8_leastOf_20 rfl (lv_at hl 1 rfl) ?_
          refine lv_iload_n hx hb dX8_leastOf_21 rfl (lv_at hl 2 rfl) ?_
          obtain ⟨q22, e22, h⟩ := g_b h
          refine callVis (cc := cX8_leastOf) (w1 := zzM ad cy iM aM) (As := [.int v1, .int v2]) (rest := []) ⟨hx, hb, hml, hown, hts⟩ (c_M_isAt l dC dI cy ad H.size v1 v2 iM aM q22 e22) (cwV 2 hts (goodV m_ml_X8_414 m_im_X8_isAt m_se_X8_isAt m_in_X8 m_cd_X8_isAt) rfl rfl rfl (by decide +kernel) ⟨Nat.le_of_ble_eq_true rfl, Nat.le_of_ble_eq_true rfl⟩) hN hK hP hD hS hA rfl 0 rfl rfl rfl hl.1 rfl (Nat.le_of_ble_eq_true rfl) dX8_leastOf_22 ⟨Nat.zero_le _, Nat.zero_le _⟩ (fun H locs hP hD hS => ?_)
          refine lv_if_eq (tgt := 30) hx hb dX8_leastOf_25 (by decide) (fun cz => ?_) (fun cz => ?_)
          · have h := g_t h cz
            refine lv_iinc (v := (v2 + (1 : Int32))) (lv' := [(2, .int ((v2 + (1 : Int32)))), (0, .ref (ad 0)), (1, .int v1)]) hx hb dX8_leastOf_30 hl (k := 2) rfl rfl (by decide) rfl (fun ls hl => ?_)
            refine lv_goto (tgt := 2) hx hb dX8_leastOf_33 (by decide) ?_
            exact ih v1 ((v2 + (1 : Int32))) H locs ls h hP hD hS (lv_sub hl [1, 2, 0] rfl)
          · have h := g_f h cz
            refine lv_iload_n hx hb dX8_leastOf_28 rfl (lv_at hl 2 rfl) ?_
            have h' := Option.some.inj h
            rw [← hQQ]
            exact W.iret (v := v2) hx hb hr (fun t ht hW => ⟨⟨v2, (), rfl, by rw [← h'], by rw [← hWQ, ht]; exact hP, va_K.moved hW.alike hK⟩, hS.F ht⟩) hS.2.2 dX8_leastOf_29
  intro H locs hP hD hS
  unfold f_M_leastOf at h
  refine lv_iconst (v := 0) hx hb dX8_leastOf_0 (by decide) ?_
  refine lv_istore_n (lv' := [(2, .int ((0 : Int32))), (0, .ref (ad 0)), (1, .int a1)]) hx hb dX8_leastOf_1 rfl hl (by decide) rfl (fun ls hl => ?_)
  exact B2 N a1 ((0 : Int32)) H locs ls h hP hD hS (lv_sub hl [1, 2, 0] rfl)
set_option maxHeartbeats 8000000 in
set_option maxRecDepth 100000 in
theorem c_M_ask (l : Launch) (dC : Nat → ClassId) (dI : Nat → Nat → Nat) (cy : Nat → ClassId) (ad : Nat → Nat) (sz : Nat) (N : Nat) (a1 : Int32) (iM : Nat → Int32) (aM : Nat → Nat → Int32) (q : Int32) (h : f_M_ask N a1 (iM 22) (iM 36) (iM 37) (aM 21) (aM 57) (aM 62) = some q) : Met l yX8_ask wsX8_ask ({ frames := 2, cells := 0, slots := 0, locals := 46 } : Room) (cP (dC, dI) cy [.ref (ad 0), .int a1] (zzM ad cy iM aM) sz) (cQi (dC, dI) cy q (zzM ad cy iM aM) (va_A (zzM ad cy iM aM) sz)) 0 0 (va_A (zzM ad cy iM aM) sz) := by
  refine Met.ofW (cc := cX8_ask) (maxL := 2) (ret := (some .int)) (by decide) rfl ?_
  intro p e s m args below meth c s₁ B hml hv
  obtain ⟨hav, hsz, hP, hK, hD0, hN⟩ := hv
  have hx := B.exec
  have hb := B.bytes
  have hr := B.returns
  have hts := atoms_spec (ws := wsX8_ask) B.pre
  have hown : s.vm.findClass RX8 = some m.cls := findClass_of_methodNamed B.named
  have hlocks := B.notSynchronized
  subst hsz
  have hD := hD0.self (sz := s.heap.size)
  generalize hAe : va_A (zzM ad cy iM aM) s.heap.size = A at hD ⊢
  have hA : ∀ q : Nat, s.heap.size ≤ q → A q := fun q h => by rw [← hAe]; exact Or.inr h
  have hS : va_S A s.heap s.heap [] := va_S.rf
  generalize hWQ : (zzM ad cy iM aM) = WQ
  generalize hQQ : MQ below (cQi (dC, dI) cy q WQ A) args s 0 0 A = QQ
  have hl := lv_entry ([.ref (ad 0), .int a1] : List Value) (n := 2) (Nat.le_of_ble_eq_true rfl)
  have hfr := lg_entry_eq m ([.ref (ad 0), .int a1] : List Value) 2
  rw [← hav] at hfr
  rw [hfr]
  clear hfr hav
  generalize (lg_sl ([.ref (ad 0), .int a1] : List Value) ++ List.replicate (2 - (lg_sl ([.ref (ad 0), .int a1] : List Value)).length) Slot.unset).toArray = ls at hl ⊢
  have hl : lv_has ls 2 [(0, .ref (ad 0)), (1, .int a1)] := hl
  have kf356 := hts _ (List.mem_cons_of_mem _ m_fl_X8_356)
  have ki8 := (fun w h => List.mem_cons_of_mem _ (i_X8 w h) : ∀ w ∈ u_ws RX8 TX8 78, w ∈ wsX8_ask)
  refine (?_ : ∀ (H : Heap) (locs : List Loc), va_P (dC, dI) vwCl (zzM ad cy iM aM) H → va_D A (zzM ad cy iM aM) → va_S A s.heap H locs → W p l e ({ frames := 2, cells := 0, slots := 0, locals := 46 } : Room) s m args below meth c H locs 0 0 QQ (F0 m 0 ls [])) s.heap [] hP hD hS
  clear hP hD hS
  intro H locs hP hD hS
  unfold f_M_ask at h
  refine lv_aload_n hx hb dX8_ask_0 rfl (lv_at hl 0 rfl) ?_
  refine va_get (D := (dC, dI)) (ci := 8) (v := .int (iM 37)) (C := RX8) (T := TX8) (N := 78) hx hb hts ki8 hown hK hP 0 rfl rfl 37 (by decide) kf356 (fun _ h9 => h9) rfl dX8_ask_1 ?_
  refine lv_if_ne (tgt := 10) hx hb dX8_ask_4 (by decide) (fun cz => ?_) (fun cz => ?_)
  · have h := g_f h cz
    refine lv_aload_n hx hb dX8_ask_10 rfl (lv_at hl 0 rfl) ?_
    refine lv_iload_n hx hb dX8_ask_11 rfl (lv_at hl 1 rfl) ?_
    obtain ⟨q12, e12, h⟩ := g_b h
    refine callVis (cc := cX8_ask) (w1 := zzM ad cy iM aM) (As := [.int a1]) (rest := []) ⟨hx, hb, hml, hown, hts⟩ (c_M_noQuestion l dC dI cy ad H.size a1 iM aM q12 e12) (cwV 1 hts (goodV m_ml_X8_411 m_im_X8_noQuestion m_se_X8_noQuestion m_in_X8 m_cd_X8_noQuestion) rfl rfl rfl (by decide +kernel) ⟨Nat.le_of_ble_eq_true rfl, Nat.le_of_ble_eq_true rfl⟩) hN hK hP hD hS hA rfl 0 rfl rfl rfl hl.1 rfl (Nat.le_of_ble_eq_true rfl) dX8_ask_12 ⟨Nat.zero_le _, Nat.zero_le _⟩ (fun H locs hP hD hS => ?_)
    refine lv_if_eq (tgt := 23) hx hb dX8_ask_15 (by decide) (fun cz => ?_) (fun cz => ?_)
    · have h := g_t h cz
      refine lv_aload_n hx hb dX8_ask_23 rfl (lv_at hl 0 rfl) ?_
      refine lv_iload_n hx hb dX8_ask_24 rfl (lv_at hl 1 rfl) ?_
      obtain ⟨q25, e25, h⟩ := g_b h
      refine callVis (cc := cX8_ask) (w1 := zzM ad cy iM aM) (As := [.int a1]) (rest := []) ⟨hx, hb, hml, hown, hts⟩ (c_M_leastOf l dC dI cy ad H.size N a1 iM aM q25 e25) (cwV 1 hts (goodV m_ml_X8_417 m_im_X8_leastOf m_se_X8_leastOf m_in_X8 m_cd_X8_leastOf) rfl rfl rfl (by decide +kernel) ⟨Nat.le_of_ble_eq_true rfl, Nat.le_of_ble_eq_true rfl⟩) hN hK hP hD hS hA rfl 0 rfl rfl rfl hl.1 rfl (Nat.le_of_ble_eq_true rfl) dX8_ask_25 ⟨Nat.zero_le _, Nat.zero_le _⟩ (fun H locs hP hD hS => ?_)
      refine lv_if_lt (tgt := 35) hx hb dX8_ask_28 (by decide) (fun cz => ?_) (fun cz => ?_)
      · have h := g_t h cz
        refine lv_iconst (v := 0) hx hb dX8_ask_35 (by decide) ?_
        have h' := Option.some.inj h
        rw [← hQQ]
        exact W.iret (v := (0 : Int32)) hx hb hr (fun t ht hW => ⟨⟨(0 : Int32), (), rfl, by rw [← h'], by rw [← hWQ, ht]; exact hP, va_K.moved hW.alike hK⟩, hS.F ht⟩) hS.2.2 dX8_ask_36
      · have h := g_f h cz
        refine lv_iconst (v := 1) hx hb dX8_ask_31 (by decide) ?_
        refine lv_goto (tgt := 36) hx hb dX8_ask_32 (by decide) ?_
        have h' := Option.some.inj h
        rw [← hQQ]
        exact W.iret (v := (1 : Int32)) hx hb hr (fun t ht hW => ⟨⟨(1 : Int32), (), rfl, by rw [← h'], by rw [← hWQ, ht]; exact hP, va_K.moved hW.alike hK⟩, hS.F ht⟩) hS.2.2 dX8_ask_36
    · have h := g_f h cz
      refine lv_bipush (v := (-102)) hx hb dX8_ask_18 (by decide) ?_
      refine lv_goto (tgt := 36) hx hb dX8_ask_20 (by decide) ?_
      have h' := Option.some.inj h
      rw [← hQQ]
      exact W.iret (v := (-102 : Int32)) hx hb hr (fun t ht hW => ⟨⟨(-102 : Int32), (), rfl, by rw [← h'], by rw [← hWQ, ht]; exact hP, va_K.moved hW.alike hK⟩, hS.F ht⟩) hS.2.2 dX8_ask_36
  · have h := g_t h cz
    refine lv_bipush (v := (-101)) hx hb dX8_ask_7 (by decide) ?_
    have h' := Option.some.inj h
    rw [← hQQ]
    exact W.iret (v := (-101 : Int32)) hx hb hr (fun t ht hW => ⟨⟨(-101 : Int32), (), rfl, by rw [← h'], by rw [← hWQ, ht]; exact hP, va_K.moved hW.alike hK⟩, hS.F ht⟩) hS.2.2 dX8_ask_9
set_option maxHeartbeats 8000000 in
set_option maxRecDepth 100000 in
theorem c_M_atomOfName (l : Launch) (dC : Nat → ClassId) (dI : Nat → Nat → Nat) (cy : Nat → ClassId) (ad : Nat → Nat) (sz : Nat) (N : Nat) (a1 : Int32) (iM : Nat → Int32) (aM : Nat → Nat → Int32) (q : Int32) (h : f_M_atomOfName N a1 (aM 33) = some q) : Met l yX8_atomOfName wsX8_atomOfName ({ frames := 0, cells := 0, slots := 0, locals := 0 } : Room) (cP (dC, dI) cy [.ref (ad 0), .int a1] (zzM ad cy iM aM) sz) (cQi (dC, dI) cy q (zzM ad cy iM aM) (va_A (zzM ad cy iM aM) sz)) 0 0 (va_A (zzM ad cy iM aM) sz) := by
  refine Met.ofW (cc := cX8_atomOfName) (maxL := 3) (ret := (some .int)) (by decide) rfl ?_
  intro p e s m args below meth c s₁ B hml hv
  obtain ⟨hav, hsz, hP, hK, hD0, hN⟩ := hv
  have hx := B.exec
  have hb := B.bytes
  have hr := B.returns
  have hts := atoms_spec (ws := wsX8_atomOfName) B.pre
  have hown : s.vm.findClass RX8 = some m.cls := findClass_of_methodNamed B.named
  have hlocks := B.notSynchronized
  subst hsz
  have hD := hD0.self (sz := s.heap.size)
  generalize hAe : va_A (zzM ad cy iM aM) s.heap.size = A at hD ⊢
  have hA : ∀ q : Nat, s.heap.size ≤ q → A q := fun q h => by rw [← hAe]; exact Or.inr h
  have hS : va_S A s.heap s.heap [] := va_S.rf
  generalize hWQ : (zzM ad cy iM aM) = WQ
  generalize hQQ : MQ below (cQi (dC, dI) cy q WQ A) args s 0 0 A = QQ
  have hl := lv_entry ([.ref (ad 0), .int a1] : List Value) (n := 3) (Nat.le_of_ble_eq_true rfl)
  have hfr := lg_entry_eq m ([.ref (ad 0), .int a1] : List Value) 3
  rw [← hav] at hfr
  rw [hfr]
  clear hfr hav
  generalize (lg_sl ([.ref (ad 0), .int a1] : List Value) ++ List.replicate (3 - (lg_sl ([.ref (ad 0), .int a1] : List Value)).length) Slot.unset).toArray = ls at hl ⊢
  have hl : lv_has ls 3 [(0, .ref (ad 0)), (1, .int a1)] := hl
  have kf76 := hts _ (List.mem_cons_of_mem _ m_fl_X8_76)
  have ki8 := (fun w h => List.mem_cons_of_mem _ (i_X8 w h) : ∀ w ∈ u_ws RX8 TX8 78, w ∈ wsX8_atomOfName)
  refine (?_ : ∀ (H : Heap) (locs : List Loc), va_P (dC, dI) vwCl (zzM ad cy iM aM) H → va_D A (zzM ad cy iM aM) → va_S A s.heap H locs → W p l e ({ frames := 0, cells := 0, slots := 0, locals := 0 } : Room) s m args below meth c H locs 0 0 QQ (F0 m 0 ls [])) s.heap [] hP hD hS
  clear hP hD hS
  have B2 : ∀ (n : Nat) (v1 : Int32) (v2 : Int32) (H : Heap) (locs : List Loc) (ls : Array Slot), f_M_atomOfName_2 N (aM 33) v1 n v2 = some q → va_P (dC, dI) vwCl (zzM ad cy iM aM) H → va_D A (zzM ad cy iM aM) → va_S A s.heap H locs → lv_has ls 3 [(0, .ref (ad 0)), (1, .int v1), (2, .int v2)] → W p l e ({ frames := 0, cells := 0, slots := 0, locals := 0 } : Room) s m args below meth c H locs 0 0 QQ (F0 m 2 ls []) := by
    intro n
    induction n with
    | zero =>
      intro v1 v2 H locs ls h hP hD hS hl
      rw [f_M_atomOfName_2] at h
      cases h
    | succ n ih =>
      intro v1 v2 H locs ls h hP hD hS hl
      rw [f_M_atomOfName_2] at h
      refine lv_aload_n hx hb dX8_atomOfName_2 rfl (lv_at hl 0 rfl) ?_
      refine va_get (D := (dC, dI)) (ci := 8) (v := .ref (ad 22)) (C := RX8) (T := TX8) (N := 78) hx hb hts ki8 hown hK hP 0 rfl rfl 33 (by decide) kf76 (fun _ h9 => h9) rfl dX8_atomOfName_3 ?_
      refine lv_iload_n hx hb dX8_atomOfName_6 rfl (lv_at hl 2 rfl) ?_
      obtain ⟨g_99, h⟩ := g_n h
      refine va_iald (f := (aM 33)) hx hb hK hP 22 0 rfl rfl g_99 dX8_atomOfName_7 ?_
      refine lv_iload_n hx hb dX8_atomOfName_8 rfl (lv_at hl 1 rfl) ?_
      refine lv_icmp_eq (tgt := 18) hx hb dX8_atomOfName_9 (by decide) (fun cz => ?_) (fun cz => ?_)
      · have h := g_t h cz
        refine lv_iload_n hx hb dX8_atomOfName_18 rfl (lv_at hl 2 rfl) ?_
        have h' := Option.some.inj h
        rw [← hQQ]
        exact W.iret (v := v2) hx hb hr (fun t ht hW => ⟨⟨v2, (), rfl, by rw [← h'], by rw [← hWQ, ht]; exact hP, va_K.moved hW.alike hK⟩, hS.F ht⟩) hS.2.2 dX8_atomOfName_19
      · have h := g_f h cz
        refine lv_iinc (v := (v2 + (1 : Int32))) (lv' := [(2, .int ((v2 + (1 : Int32)))), (0, .ref (ad 0)), (1, .int v1)]) hx hb dX8_atomOfName_12 hl (k := 2) rfl rfl (by decide) rfl (fun ls hl => ?_)
        refine lv_goto (tgt := 2) hx hb dX8_atomOfName_15 (by decide) ?_
        exact ih v1 ((v2 + (1 : Int32))) H locs ls h hP hD hS (lv_sub hl [1, 2, 0] rfl)
  intro H locs hP hD hS
  unfold f_M_atomOfName at h
  refine lv_iconst (v := 0) hx hb dX8_atomOfName_0 (by decide) ?_
  refine lv_istore_n (lv' := [(2, .int ((0 : Int32))), (0, .ref (ad 0)), (1, .int a1)]) hx hb dX8_atomOfName_1 rfl hl (by decide) rfl (fun ls hl => ?_)
  exact B2 N a1 ((0 : Int32)) H locs ls h hP hD hS (lv_sub hl [1, 2, 0] rfl)
set_option maxHeartbeats 8000000 in
set_option maxRecDepth 100000 in
theorem c_M_lies (l : Launch) (dC : Nat → ClassId) (dI : Nat → Nat → Nat) (cy : Nat → ClassId) (ad : Nat → Nat) (sz : Nat) (N : Nat) (a1 : Int32) (a2 : Int32) (iM : Nat → Int32) (aM : Nat → Nat → Int32) (q : Int32) (h : f_M_lies N a1 a2 (iM 36) (aM 33) (aM 62) = some q) : Met l yX8_lies wsX8_lies ({ frames := 1, cells := 0, slots := 0, locals := 22 } : Room) (cP (dC, dI) cy [.ref (ad 0), .int a1, .int a2] (zzM ad cy iM aM) sz) (cQi (dC, dI) cy q (zzM ad cy iM aM) (va_A (zzM ad cy iM aM) sz)) 0 0 (va_A (zzM ad cy iM aM) sz) := by
  refine Met.ofW (cc := cX8_lies) (maxL := 7) (ret := (some .boolean)) (by decide) rfl ?_
  intro p e s m args below meth c s₁ B hml hv
  obtain ⟨hav, hsz, hP, hK, hD0, hN⟩ := hv
  have hx := B.exec
  have hb := B.bytes
  have hr := B.returns
  have hts := atoms_spec (ws := wsX8_lies) B.pre
  have hown : s.vm.findClass RX8 = some m.cls := findClass_of_methodNamed B.named
  have hlocks := B.notSynchronized
  subst hsz
  have hD := hD0.self (sz := s.heap.size)
  generalize hAe : va_A (zzM ad cy iM aM) s.heap.size = A at hD ⊢
  have hA : ∀ q : Nat, s.heap.size ≤ q → A q := fun q h => by rw [← hAe]; exact Or.inr h
  have hS : va_S A s.heap s.heap [] := va_S.rf
  generalize hWQ : (zzM ad cy iM aM) = WQ
  generalize hQQ : MQ below (cQi (dC, dI) cy q WQ A) args s 0 0 A = QQ
  have hl := lv_entry ([.ref (ad 0), .int a1, .int a2] : List Value) (n := 7) (Nat.le_of_ble_eq_true rfl)
  have hfr := lg_entry_eq m ([.ref (ad 0), .int a1, .int a2] : List Value) 7
  rw [← hav] at hfr
  rw [hfr]
  clear hfr hav
  generalize (lg_sl ([.ref (ad 0), .int a1, .int a2] : List Value) ++ List.replicate (7 - (lg_sl ([.ref (ad 0), .int a1, .int a2] : List Value)).length) Slot.unset).toArray = ls at hl ⊢
  have hl : lv_has ls 7 [(0, .ref (ad 0)), (1, .int a1), (2, .int a2)] := hl
  have kf117 := hts _ (List.mem_cons_of_mem _ m_fl_X8_117)
  have ki8 := (fun w h => List.mem_cons_of_mem _ (i_X8 w h) : ∀ w ∈ u_ws RX8 TX8 78, w ∈ wsX8_lies)
  refine (?_ : ∀ (H : Heap) (locs : List Loc), va_P (dC, dI) vwCl (zzM ad cy iM aM) H → va_D A (zzM ad cy iM aM) → va_S A s.heap H locs → W p l e ({ frames := 1, cells := 0, slots := 0, locals := 22 } : Room) s m args below meth c H locs 0 0 QQ (F0 m 0 ls [])) s.heap [] hP hD hS
  clear hP hD hS
  have B19 : ∀ (n : Nat) (v3 : Int32) (v4 : Int32) (v5 : Int32) (v6 : Int32) (H : Heap) (locs : List Loc) (ls : Array Slot), f_M_lies_19 N (iM 36) (aM 33) (aM 62) v3 v4 n v5 v6 = some q → va_P (dC, dI) vwCl (zzM ad cy iM aM) H → va_D A (zzM ad cy iM aM) → va_S A s.heap H locs → lv_has ls 7 [(0, .ref (ad 0)), (3, .int v3), (4, .int v4), (5, .int v5), (6, .int v6)] → W p l e ({ frames := 1, cells := 0, slots := 0, locals := 22 } : Room) s m args below meth c H locs 0 0 QQ (F0 m 19 ls []) := by
    intro n
    induction n with
    | zero =>
      intro v3 v4 v5 v6 H locs ls h hP hD hS hl
      rw [f_M_lies_19] at h
      cases h
    | succ n ih =>
      intro v3 v4 v5 v6 H locs ls h hP hD hS hl
      rw [f_M_lies_19] at h
      refine lv_iload hx hb dX8_lies_19 (lv_at hl 4 rfl) ?_
      refine lv_aload_n hx hb dX8_lies_21 rfl (lv_at hl 0 rfl) ?_
      obtain ⟨q22, e22, h⟩ := g_b h
      refine callVis (cc := cX8_lies) (w1 := zzM ad cy iM aM) (As := []) (rest := [.int v6]) ⟨hx, hb, hml, hown, hts⟩ (c_M_types l dC dI cy ad H.size iM aM q22 e22) (cwV 0 hts (goodV m_ml_X8_368 m_im_X8_types m_se_X8_types m_in_X8 m_cd_X8_types) rfl rfl rfl (by decide +kernel) ⟨Nat.le_of_ble_eq_true rfl, Nat.le_of_ble_eq_true rfl⟩) hN hK hP hD hS hA rfl 0 rfl rfl rfl hl.1 rfl (Nat.le_of_ble_eq_true rfl) dX8_lies_22 ⟨Nat.zero_le _, Nat.zero_le _⟩ (fun H locs hP hD hS => ?_)
      refine lv_icmp_ge (tgt := 76) hx hb dX8_lies_25 (by decide) (fun cz => ?_) (fun cz => ?_)
      · have h := g_t h cz
        refine lv_iload hx hb dX8_lies_76 (lv_at hl 3 rfl) ?_
        obtain ⟨gz, h⟩ := g_p h
        have h' := Option.some.inj h
        rw [← hQQ]
        exact W.zret (v := v5) hx hb hr (g_zr _ gz) (fun t ht hW => ⟨⟨v5, (), rfl, by rw [← h'], by rw [← hWQ, ht]; exact hP, va_K.moved hW.alike hK⟩, hS.F ht⟩) hS.2.2 dX8_lies_78
      · have h := g_f h cz
        refine lv_iload hx hb dX8_lies_28 (lv_at hl 3 rfl) ?_
        refine lv_if_eq (tgt := 67) hx hb dX8_lies_30 (by decide) (fun cz => ?_) (fun cz => ?_)
        · have h := g_t h cz
          refine lv_iconst (v := 0) hx hb dX8_lies_67 (by decide) ?_
          refine lv_istore (lv' := [(5, .int ((0 : Int32))), (0, .ref (ad 0)), (3, .int v3), (4, .int v4), (6, .int v6)]) hx hb dX8_lies_68 hl (by decide) rfl (fun ls hl => ?_)
          refine lv_iinc (v := (v6 + (1 : Int32))) (lv' := [(6, .int ((v6 + (1 : Int32)))), (5, .int ((0 : Int32))), (0, .ref (ad 0)), (3, .int v3), (4, .int v4)]) hx hb dX8_lies_70 hl (k := 4) rfl rfl (by decide) rfl (fun ls hl => ?_)
          refine lv_goto (tgt := 19) hx hb dX8_lies_73 (by decide) ?_
          exact ih v3 v4 ((0 : Int32)) ((v6 + (1 : Int32))) H locs ls h hP hD hS (lv_sub hl [2, 3, 4, 1, 0] rfl)
        · have h := g_f h cz
          refine lv_aload_n hx hb dX8_lies_33 rfl (lv_at hl 0 rfl) ?_
          refine va_get (D := (dC, dI)) (ci := 8) (v := .ref (ad 34)) (C := RX8) (T := TX8) (N := 78) hx hb hts ki8 hown hK hP 0 rfl rfl 62 (by decide) kf117 (fun _ h9 => h9) rfl dX8_lies_34 ?_
          refine lv_iload hx hb dX8_lies_37 (lv_at hl 4 rfl) ?_
          obtain ⟨g_114, h⟩ := g_n h
          refine va_zald (f := (aM 62)) hx hb hK hP 34 4 rfl rfl g_114 dX8_lies_39 ?_
          refine lv_if_eq (tgt := 63) hx hb dX8_lies_40 (by decide) (fun cz => ?_) (fun cz => ?_)
          · have h := g_t h cz
            refine lv_iconst (v := 1) hx hb dX8_lies_63 (by decide) ?_
            refine lv_goto (tgt := 68) hx hb dX8_lies_64 (by decide) ?_
            refine lv_istore (lv' := [(5, .int ((1 : Int32))), (0, .ref (ad 0)), (3, .int v3), (4, .int v4), (6, .int v6)]) hx hb dX8_lies_68 hl (by decide) rfl (fun ls hl => ?_)
            refine lv_iinc (v := (v6 + (1 : Int32))) (lv' := [(6, .int ((v6 + (1 : Int32)))), (5, .int ((1 : Int32))), (0, .ref (ad 0)), (3, .int v3), (4, .int v4)]) hx hb dX8_lies_70 hl (k := 4) rfl rfl (by decide) rfl (fun ls hl => ?_)
            refine lv_goto (tgt := 19) hx hb dX8_lies_73 (by decide) ?_
            exact ih v3 v4 ((1 : Int32)) ((v6 + (1 : Int32))) H locs ls h hP hD hS (lv_sub hl [2, 3, 4, 1, 0] rfl)
          · have h := g_f h cz
            refine lv_iload hx hb dX8_lies_43 (lv_at hl 4 rfl) ?_
            refine lv_iload_n hx hb dX8_lies_45 rfl (lv_at hl 1 rfl) ?_
            refine lv_ishr hx hb dX8_lies_46 ?_
            refine lv_iconst (v := 1) hx hb dX8_lies_47 (by decide) ?_
            refine lv_iand hx hb dX8_lies_48 ?_
            refine lv_if_eq (tgt := 63) hx hb dX8_lies_49 (by decide) (fun cz => ?_) (fun cz => ?_)
            · have h := g_t h cz
              refine lv_iconst (v := 1) hx hb dX8_lies_63 (by decide) ?_
              refine lv_goto (tgt := 68) hx hb dX8_lies_64 (by decide) ?_
              refine lv_istore (lv' := [(5, .int ((1 : Int32))), (0, .ref (ad 0)), (3, .int v3), (4, .int v4), (6, .int v6)]) hx hb dX8_lies_68 hl (by decide) rfl (fun ls hl => ?_)
              refine lv_iinc (v := (v6 + (1 : Int32))) (lv' := [(6, .int ((v6 + (1 : Int32)))), (5, .int ((1 : Int32))), (0, .ref (ad 0)), (3, .int v3), (4, .int v4)]) hx hb dX8_lies_70 hl (k := 4) rfl rfl (by decide) rfl (fun ls hl => ?_)
              refine lv_goto (tgt := 19) hx hb dX8_lies_73 (by decide) ?_
              exact ih v3 v4 ((1 : Int32)) ((v6 + (1 : Int32))) H locs ls h hP hD hS (lv_sub hl [2, 3, 4, 1, 0] rfl)
            · have h := g_f h cz
              refine lv_iload hx hb dX8_lies_52 (lv_at hl 4 rfl) ?_
              refine lv_iload hx hb dX8_lies_54 (lv_at hl 2 rfl) ?_
              refine lv_ishr hx hb dX8_lies_56 ?_
              refine lv_iconst (v := 1) hx hb dX8_lies_57 (by decide) ?_
              refine lv_iand hx hb dX8_lies_58 ?_
              refine lv_iconst (v := 1) hx hb dX8_lies_59 (by decide) ?_
              refine lv_icmp_ne (tgt := 67) hx hb dX8_lies_60 (by decide) (fun cz => ?_) (fun cz => ?_)
              · have h := g_f h cz
                refine lv_iconst (v := 0) hx hb dX8_lies_67 (by decide) ?_
                refine lv_istore (lv' := [(5, .int ((0 : Int32))), (0, .ref (ad 0)), (3, .int v3), (4, .int v4), (6, .int v6)]) hx hb dX8_lies_68 hl (by decide) rfl (fun ls hl => ?_)
                refine lv_iinc (v := (v6 + (1 : Int32))) (lv' := [(6, .int ((v6 + (1 : Int32)))), (5, .int ((0 : Int32))), (0, .ref (ad 0)), (3, .int v3), (4, .int v4)]) hx hb dX8_lies_70 hl (k := 4) rfl rfl (by decide) rfl (fun ls hl => ?_)
                refine lv_goto (tgt := 19) hx hb dX8_lies_73 (by decide) ?_
                exact ih v3 v4 ((0 : Int32)) ((v6 + (1 : Int32))) H locs ls h hP hD hS (lv_sub hl [2, 3, 4, 1, 0] rfl)
              · have h := g_t h cz
                refine lv_iconst (v := 1) hx hb dX8_lies_63 (by decide) ?_
                refine lv_goto (tgt := 68) hx hb dX8_lies_64 (by decide) ?_
                refine lv_istore (lv' := [(5, .int ((1 : Int32))), (0, .ref (ad 0)), (3, .int v3), (4, .int v4), (6, .int v6)]) hx hb dX8_lies_68 hl (by decide) rfl (fun ls hl => ?_)
                refine lv_iinc (v := (v6 + (1 : Int32))) (lv' := [(6, .int ((v6 + (1 : Int32)))), (5, .int ((1 : Int32))), (0, .ref (ad 0)), (3, .int v3), (4, .int v4)]) hx hb dX8_lies_70 hl (k := 4) rfl rfl (by decide) rfl (fun ls hl => ?_)
                refine lv_goto (tgt := 19) hx hb dX8_lies_73 (by decide) ?_
                exact ih v3 v4 ((1 : Int32)) ((v6 + (1 : Int32))) H locs ls h hP hD hS (lv_sub hl [2, 3, 4, 1, 0] rfl)
  intro H locs hP hD hS
  unfold f_M_lies at h
  refine lv_aload_n hx hb dX8_lies_0 rfl (lv_at hl 0 rfl) ?_
  refine lv_iload_n hx hb dX8_lies_1 rfl (lv_at hl 1 rfl) ?_
  obtain ⟨q2, e2, h⟩ := g_b h
  refine callVis (cc := cX8_lies) (w1 := zzM ad cy iM aM) (As := [.int a1]) (rest := []) ⟨hx, hb, hml, hown, hts⟩ (c_M_atomOfName l dC dI cy ad H.size N a1 iM aM q2 e2) (cwV 1 hts (goodV m_ml_X8_420 m_im_X8_atomOfName m_se_X8_atomOfName m_in_X8 m_cd_X8_atomOfName) rfl rfl rfl (by decide +kernel) ⟨Nat.le_of_ble_eq_true rfl, Nat.le_of_ble_eq_true rfl⟩) hN hK hP hD hS hA rfl 0 rfl rfl rfl hl.1 rfl (Nat.le_of_ble_eq_true rfl) dX8_lies_2 ⟨Nat.zero_le _, Nat.zero_le _⟩ (fun H locs hP hD hS => ?_)
  refine lv_istore_n (lv' := [(3, .int q2), (0, .ref (ad 0)), (1, .int a1), (2, .int a2)]) hx hb dX8_lies_5 rfl hl (by decide) rfl (fun ls hl => ?_)
  refine lv_aload_n hx hb dX8_lies_6 rfl (lv_at hl 1 rfl) ?_
  refine lv_iload_n hx hb dX8_lies_7 rfl (lv_at hl 3 rfl) ?_
  obtain ⟨q8, e8, h⟩ := g_b h
  refine callVis (cc := cX8_lies) (w1 := zzM ad cy iM aM) (As := [.int a2]) (rest := []) ⟨hx, hb, hml, hown, hts⟩ (c_M_atomOfName l dC dI cy ad H.size N a2 iM aM q8 e8) (cwV 1 hts (goodV m_ml_X8_420 m_im_X8_atomOfName m_se_X8_atomOfName m_in_X8 m_cd_X8_atomOfName) rfl rfl rfl (by decide +kernel) ⟨Nat.le_of_ble_eq_true rfl, Nat.le_of_ble_eq_true rfl⟩) hN hK hP hD hS hA rfl 0 rfl rfl rfl hl.1 rfl (Nat.le_of_ble_eq_true rfl) dX8_lies_8 ⟨Nat.zero_le _, Nat.zero_le _⟩ (fun H locs hP hD hS => ?_)
  refine lv_istore (lv' := [(4, .int q8), (3, .int q2), (0, .ref (ad 0)), (1, .int a1), (2, .int a2)]) hx hb dX8_lies_11 hl (by decide) rfl (fun ls hl => ?_)
  refine lv_iconst (v := 1) hx hb dX8_lies_13 (by decide) ?_
  refine lv_istore (lv' := [(5, .int ((1 : Int32))), (4, .int q8), (3, .int q2), (0, .ref (ad 0)), (1, .int a1), (2, .int a2)]) hx hb dX8_lies_14 hl (by decide) rfl (fun ls hl => ?_)
  refine lv_iconst (v := 0) hx hb dX8_lies_16 (by decide) ?_
  refine lv_istore (lv' := [(6, .int ((0 : Int32))), (5, .int ((1 : Int32))), (4, .int q8), (3, .int q2), (0, .ref (ad 0)), (1, .int a1), (2, .int a2)]) hx hb dX8_lies_17 hl (by decide) rfl (fun ls hl => ?_)
  exact B19 N q2 q8 ((1 : Int32)) ((0 : Int32)) H locs ls h hP hD hS (lv_sub hl [4, 3, 2, 1, 0] rfl)
set_option maxHeartbeats 8000000 in
set_option maxRecDepth 100000 in
theorem c_M_isUnder (l : Launch) (dC : Nat → ClassId) (dI : Nat → Nat → Nat) (cy : Nat → ClassId) (ad : Nat → Nat) (sz : Nat) (N : Nat) (a1 : Int32) (a2 : Int32) (iM : Nat → Int32) (aM : Nat → Nat → Int32) (q : Int32) (h : f_M_isUnder N a1 a2 (iM 25) (iM 36) (iM 37) (aM 33) (aM 62) = some q) : Met l yX8_isUnder wsX8_isUnder ({ frames := 2, cells := 0, slots := 0, locals := 48 } : Room) (cP (dC, dI) cy [.ref (ad 0), .int a1, .int a2] (zzM ad cy iM aM) sz) (cQi (dC, dI) cy q (zzM ad cy iM aM) (va_A (zzM ad cy iM aM) sz)) 0 0 (va_A (zzM ad cy iM aM) sz) := by
  refine Met.ofW (cc := cX8_isUnder) (maxL := 3) (ret := (some .int)) (by decide) rfl ?_
  intro p e s m args below meth c s₁ B hml hv
  obtain ⟨hav, hsz, hP, hK, hD0, hN⟩ := hv
  have hx := B.exec
  have hb := B.bytes
  have hr := B.returns
  have hts := atoms_spec (ws := wsX8_isUnder) B.pre
  have hown : s.vm.findClass RX8 = some m.cls := findClass_of_methodNamed B.named
  have hlocks := B.notSynchronized
  subst hsz
  have hD := hD0.self (sz := s.heap.size)
  generalize hAe : va_A (zzM ad cy iM aM) s.heap.size = A at hD ⊢
  have hA : ∀ q : Nat, s.heap.size ≤ q → A q := fun q h => by rw [← hAe]; exact Or.inr h
  have hS : va_S A s.heap s.heap [] := va_S.rf
  generalize hWQ : (zzM ad cy iM aM) = WQ
  generalize hQQ : MQ below (cQi (dC, dI) cy q WQ A) args s 0 0 A = QQ
  have hl := lv_entry ([.ref (ad 0), .int a1, .int a2] : List Value) (n := 3) (Nat.le_of_ble_eq_true rfl)
  have hfr := lg_entry_eq m ([.ref (ad 0), .int a1, .int a2] : List Value) 3
  rw [← hav] at hfr
  rw [hfr]
  clear hfr hav
  generalize (lg_sl ([.ref (ad 0), .int a1, .int a2] : List Value) ++ List.replicate (3 - (lg_sl ([.ref (ad 0), .int a1, .int a2] : List Value)).length) Slot.unset).toArray = ls at hl ⊢
  have hl : lv_has ls 3 [(0, .ref (ad 0)), (1, .int a1), (2, .int a2)] := hl
  have kf356 := hts _ (List.mem_cons_of_mem _ m_fl_X8_356)
  have ki8 := (fun w h => List.mem_cons_of_mem _ (i_X8 w h) : ∀ w ∈ u_ws RX8 TX8 78, w ∈ wsX8_isUnder)
  refine (?_ : ∀ (H : Heap) (locs : List Loc), va_P (dC, dI) vwCl (zzM ad cy iM aM) H → va_D A (zzM ad cy iM aM) → va_S A s.heap H locs → W p l e ({ frames := 2, cells := 0, slots := 0, locals := 48 } : Room) s m args below meth c H locs 0 0 QQ (F0 m 0 ls [])) s.heap [] hP hD hS
  clear hP hD hS
  intro H locs hP hD hS
  unfold f_M_isUnder at h
  refine lv_aload_n hx hb dX8_isUnder_0 rfl (lv_at hl 0 rfl) ?_
  refine va_get (D := (dC, dI)) (ci := 8) (v := .int (iM 37)) (C := RX8) (T := TX8) (N := 78) hx hb hts ki8 hown hK hP 0 rfl rfl 37 (by decide) kf356 (fun _ h9 => h9) rfl dX8_isUnder_1 ?_
  refine lv_if_ne (tgt := 10) hx hb dX8_isUnder_4 (by decide) (fun cz => ?_) (fun cz => ?_)
  · have h := g_f h cz
    refine lv_aload_n hx hb dX8_isUnder_10 rfl (lv_at hl 0 rfl) ?_
    refine lv_iload_n hx hb dX8_isUnder_11 rfl (lv_at hl 1 rfl) ?_
    obtain ⟨q12, e12, h⟩ := g_b h
    refine callVis (cc := cX8_isUnder) (w1 := zzM ad cy iM aM) (As := [.int a1]) (rest := []) ⟨hx, hb, hml, hown, hts⟩ (c_M_noName l dC dI cy ad H.size a1 iM aM q12 e12) (cwV 1 hts (goodV m_ml_X8_423 m_im_X8_noName m_se_X8_noName m_in_X8 m_cd_X8_noName) rfl rfl rfl (by decide +kernel) ⟨Nat.le_of_ble_eq_true rfl, Nat.le_of_ble_eq_true rfl⟩) hN hK hP hD hS hA rfl 0 rfl rfl rfl hl.1 rfl (Nat.le_of_ble_eq_true rfl) dX8_isUnder_12 ⟨Nat.zero_le _, Nat.zero_le _⟩ (fun H locs hP hD hS => ?_)
    refine lv_if_ne (tgt := 26) hx hb dX8_isUnder_15 (by decide) (fun cz => ?_) (fun cz => ?_)
    · have h := g_f h cz
      refine lv_bipush (v := (-102)) hx hb dX8_isUnder_26 (by decide) ?_
      refine lv_goto (tgt := 45) hx hb dX8_isUnder_28 (by decide) ?_
      have h' := Option.some.inj h
      rw [← hQQ]
      exact W.iret (v := (-102 : Int32)) hx hb hr (fun t ht hW => ⟨⟨(-102 : Int32), (), rfl, by rw [← h'], by rw [← hWQ, ht]; exact hP, va_K.moved hW.alike hK⟩, hS.F ht⟩) hS.2.2 dX8_isUnder_45
    · have h := g_t h cz
      refine lv_aload_n hx hb dX8_isUnder_18 rfl (lv_at hl 0 rfl) ?_
      refine lv_iload_n hx hb dX8_isUnder_19 rfl (lv_at hl 2 rfl) ?_
      obtain ⟨q20, e20, h⟩ := g_b h
      refine callVis (cc := cX8_isUnder) (w1 := zzM ad cy iM aM) (As := [.int a2]) (rest := []) ⟨hx, hb, hml, hown, hts⟩ (c_M_noName l dC dI cy ad H.size a2 iM aM q20 e20) (cwV 1 hts (goodV m_ml_X8_423 m_im_X8_noName m_se_X8_noName m_in_X8 m_cd_X8_noName) rfl rfl rfl (by decide +kernel) ⟨Nat.le_of_ble_eq_true rfl, Nat.le_of_ble_eq_true rfl⟩) hN hK hP hD hS hA rfl 0 rfl rfl rfl hl.1 rfl (Nat.le_of_ble_eq_true rfl) dX8_isUnder_20 ⟨Nat.zero_le _, Nat.zero_le _⟩ (fun H locs hP hD hS => ?_)
      refine lv_if_eq (tgt := 31) hx hb dX8_isUnder_23 (by decide) (fun cz => ?_) (fun cz => ?_)
      · have h := g_t h cz
        refine lv_aload_n hx hb dX8_isUnder_31 rfl (lv_at hl 0 rfl) ?_
        refine lv_iload_n hx hb dX8_isUnder_32 rfl (lv_at hl 1 rfl) ?_
        refine lv_iload_n hx hb dX8_isUnder_33 rfl (lv_at hl 2 rfl) ?_
        obtain ⟨q34, e34, h⟩ := g_b h
        refine callVis (cc := cX8_isUnder) (w1 := zzM ad cy iM aM) (As := [.int a1, .int a2]) (rest := []) ⟨hx, hb, hml, hown, hts⟩ (c_M_lies l dC dI cy ad H.size N a1 a2 iM aM q34 e34) (cwV 2 hts (goodV m_ml_X8_426 m_im_X8_lies m_se_X8_lies m_in_X8 m_cd_X8_lies) rfl rfl rfl (by decide +kernel) ⟨Nat.le_of_ble_eq_true rfl, Nat.le_of_ble_eq_true rfl⟩) hN hK hP hD hS hA rfl 0 rfl rfl rfl hl.1 rfl (Nat.le_of_ble_eq_true rfl) dX8_isUnder_34 ⟨Nat.zero_le _, Nat.zero_le _⟩ (fun H locs hP hD hS => ?_)
        refine lv_if_eq (tgt := 44) hx hb dX8_isUnder_37 (by decide) (fun cz => ?_) (fun cz => ?_)
        · have h := g_t h cz
          refine lv_iconst (v := 0) hx hb dX8_isUnder_44 (by decide) ?_
          have h' := Option.some.inj h
          rw [← hQQ]
          exact W.iret (v := (0 : Int32)) hx hb hr (fun t ht hW => ⟨⟨(0 : Int32), (), rfl, by rw [← h'], by rw [← hWQ, ht]; exact hP, va_K.moved hW.alike hK⟩, hS.F ht⟩) hS.2.2 dX8_isUnder_45
        · have h := g_f h cz
          refine lv_iconst (v := 1) hx hb dX8_isUnder_40 (by decide) ?_
          refine lv_goto (tgt := 45) hx hb dX8_isUnder_41 (by decide) ?_
          have h' := Option.some.inj h
          rw [← hQQ]
          exact W.iret (v := (1 : Int32)) hx hb hr (fun t ht hW => ⟨⟨(1 : Int32), (), rfl, by rw [← h'], by rw [← hWQ, ht]; exact hP, va_K.moved hW.alike hK⟩, hS.F ht⟩) hS.2.2 dX8_isUnder_45
      · have h := g_f h cz
        refine lv_bipush (v := (-102)) hx hb dX8_isUnder_26 (by decide) ?_
        refine lv_goto (tgt := 45) hx hb dX8_isUnder_28 (by decide) ?_
        have h' := Option.some.inj h
        rw [← hQQ]
        exact W.iret (v := (-102 : Int32)) hx hb hr (fun t ht hW => ⟨⟨(-102 : Int32), (), rfl, by rw [← h'], by rw [← hWQ, ht]; exact hP, va_K.moved hW.alike hK⟩, hS.F ht⟩) hS.2.2 dX8_isUnder_45
  · have h := g_t h cz
    refine lv_bipush (v := (-101)) hx hb dX8_isUnder_7 (by decide) ?_
    have h' := Option.some.inj h
    rw [← hQQ]
    exact W.iret (v := (-101 : Int32)) hx hb hr (fun t ht hW => ⟨⟨(-101 : Int32), (), rfl, by rw [← h'], by rw [← hWQ, ht]; exact hP, va_K.moved hW.alike hK⟩, hS.F ht⟩) hS.2.2 dX8_isUnder_9
set_option maxHeartbeats 8000000 in
set_option maxRecDepth 100000 in
theorem c_M_isAbove (l : Launch) (dC : Nat → ClassId) (dI : Nat → Nat → Nat) (cy : Nat → ClassId) (ad : Nat → Nat) (sz : Nat) (N : Nat) (a1 : Int32) (a2 : Int32) (iM : Nat → Int32) (aM : Nat → Nat → Int32) (q : Int32) (h : f_M_isAbove N a1 a2 (iM 36) (aM 33) (aM 62) = some q) : Met l yX8_isAbove wsX8_isAbove ({ frames := 2, cells := 0, slots := 0, locals := 48 } : Room) (cP (dC, dI) cy [.ref (ad 0), .int a1, .int a2] (zzM ad cy iM aM) sz) (cQi (dC, dI) cy q (zzM ad cy iM aM) (va_A (zzM ad cy iM aM) sz)) 0 0 (va_A (zzM ad cy iM aM) sz) := by
  refine Met.ofW (cc := cX8_isAbove) (maxL := 3) (ret := (some .boolean)) (by decide) rfl ?_
  intro p e s m args below meth c s₁ B hml hv
  obtain ⟨hav, hsz, hP, hK, hD0, hN⟩ := hv
  have hx := B.exec
  have hb := B.bytes
  have hr := B.returns
  have hts := atoms_spec (ws := wsX8_isAbove) B.pre
  have hown : s.vm.findClass RX8 = some m.cls := findClass_of_methodNamed B.named
  have hlocks := B.notSynchronized
  subst hsz
  have hD := hD0.self (sz := s.heap.size)
  generalize hAe : va_A (zzM ad cy iM aM) s.heap.size = A at hD ⊢
  have hA : ∀ q : Nat, s.heap.size ≤ q → A q := fun q h => by rw [← hAe]; exact Or.inr h
  have hS : va_S A s.heap s.heap [] := va_S.rf
  generalize hWQ : (zzM ad cy iM aM) = WQ
  generalize hQQ : MQ below (cQi (dC, dI) cy q WQ A) args s 0 0 A = QQ
  have hl := lv_entry ([.ref (ad 0), .int a1, .int a2] : List Value) (n := 3) (Nat.le_of_ble_eq_true rfl)
  have hfr := lg_entry_eq m ([.ref (ad 0), .int a1, .int a2] : List Value) 3
  rw [← hav] at hfr
  rw [hfr]
  clear hfr hav
  generalize (lg_sl ([.ref (ad 0), .int a1, .int a2] : List Value) ++ List.replicate (3 - (lg_sl ([.ref (ad 0), .int a1, .int a2] : List Value)).length) Slot.unset).toArray = ls at hl ⊢
  have hl : lv_has ls 3 [(0, .ref (ad 0)), (1, .int a1), (2, .int a2)] := hl
  refine (?_ : ∀ (H : Heap) (locs : List Loc), va_P (dC, dI) vwCl (zzM ad cy iM aM) H → va_D A (zzM ad cy iM aM) → va_S A s.heap H locs → W p l e ({ frames := 2, cells := 0, slots := 0, locals := 48 } : Room) s m args below meth c H locs 0 0 QQ (F0 m 0 ls [])) s.heap [] hP hD hS
  clear hP hD hS
  intro H locs hP hD hS
  unfold f_M_isAbove at h
  refine lv_aload_n hx hb dX8_isAbove_0 rfl (lv_at hl 0 rfl) ?_
  refine lv_iload_n hx hb dX8_isAbove_1 rfl (lv_at hl 1 rfl) ?_
  refine lv_iload_n hx hb dX8_isAbove_2 rfl (lv_at hl 2 rfl) ?_
  obtain ⟨q3, e3, h⟩ := g_b h
  refine callVis (cc := cX8_isAbove) (w1 := zzM ad cy iM aM) (As := [.int a1, .int a2]) (rest := []) ⟨hx, hb, hml, hown, hts⟩ (c_M_lies l dC dI cy ad H.size N a1 a2 iM aM q3 e3) (cwV 2 hts (goodV m_ml_X8_426 m_im_X8_lies m_se_X8_lies m_in_X8 m_cd_X8_lies) rfl rfl rfl (by decide +kernel) ⟨Nat.le_of_ble_eq_true rfl, Nat.le_of_ble_eq_true rfl⟩) hN hK hP hD hS hA rfl 0 rfl rfl rfl hl.1 rfl (Nat.le_of_ble_eq_true rfl) dX8_isAbove_3 ⟨Nat.zero_le _, Nat.zero_le _⟩ (fun H locs hP hD hS => ?_)
  refine lv_if_eq (tgt := 22) hx hb dX8_isAbove_6 (by decide) (fun cz => ?_) (fun cz => ?_)
  · have h := g_t h cz
    refine lv_iconst (v := 0) hx hb dX8_isAbove_22 (by decide) ?_
    have h' := Option.some.inj h
    rw [← hQQ]
    exact W.zret (v := (0 : Int32)) hx hb hr rfl (fun t ht hW => ⟨⟨(0 : Int32), (), rfl, by rw [← h'], by rw [← hWQ, ht]; exact hP, va_K.moved hW.alike hK⟩, hS.F ht⟩) hS.2.2 dX8_isAbove_23
  · have h := g_f h cz
    refine lv_aload_n hx hb dX8_isAbove_9 rfl (lv_at hl 0 rfl) ?_
    refine lv_iload_n hx hb dX8_isAbove_10 rfl (lv_at hl 2 rfl) ?_
    refine lv_iload_n hx hb dX8_isAbove_11 rfl (lv_at hl 1 rfl) ?_
    obtain ⟨q12, e12, h⟩ := g_b h
    refine callVis (cc := cX8_isAbove) (w1 := zzM ad cy iM aM) (As := [.int a2, .int a1]) (rest := []) ⟨hx, hb, hml, hown, hts⟩ (c_M_lies l dC dI cy ad H.size N a2 a1 iM aM q12 e12) (cwV 2 hts (goodV m_ml_X8_426 m_im_X8_lies m_se_X8_lies m_in_X8 m_cd_X8_lies) rfl rfl rfl (by decide +kernel) ⟨Nat.le_of_ble_eq_true rfl, Nat.le_of_ble_eq_true rfl⟩) hN hK hP hD hS hA rfl 0 rfl rfl rfl hl.1 rfl (Nat.le_of_ble_eq_true rfl) dX8_isAbove_12 ⟨Nat.zero_le _, Nat.zero_le _⟩ (fun H locs hP hD hS => ?_)
    refine lv_if_ne (tgt := 22) hx hb dX8_isAbove_15 (by decide) (fun cz => ?_) (fun cz => ?_)
    · have h := g_f h cz
      refine lv_iconst (v := 0) hx hb dX8_isAbove_22 (by decide) ?_
      have h' := Option.some.inj h
      rw [← hQQ]
      exact W.zret (v := (0 : Int32)) hx hb hr rfl (fun t ht hW => ⟨⟨(0 : Int32), (), rfl, by rw [← h'], by rw [← hWQ, ht]; exact hP, va_K.moved hW.alike hK⟩, hS.F ht⟩) hS.2.2 dX8_isAbove_23
    · have h := g_t h cz
      refine lv_iconst (v := 1) hx hb dX8_isAbove_18 (by decide) ?_
      refine lv_goto (tgt := 23) hx hb dX8_isAbove_19 (by decide) ?_
      have h' := Option.some.inj h
      rw [← hQQ]
      exact W.zret (v := (1 : Int32)) hx hb hr rfl (fun t ht hW => ⟨⟨(1 : Int32), (), rfl, by rw [← h'], by rw [← hWQ, ht]; exact hP, va_K.moved hW.alike hK⟩, hS.F ht⟩) hS.2.2 dX8_isAbove_23
set_option maxHeartbeats 8000000 in
set_option maxRecDepth 100000 in
theorem c_M_next_ (l : Launch) (dC : Nat → ClassId) (dI : Nat → Nat → Nat) (cy : Nat → ClassId) (ad : Nat → Nat) (sz : Nat) (N : Nat) (a1 : Int32) (a2 : Int32) (iM : Nat → Int32) (aM : Nat → Nat → Int32) (q : Int32) (h : f_M_next_ N a1 a2 (iM 25) (iM 36) (iM 37) (aM 33) (aM 62) = some q) : Met l yX8_next_ wsX8_next_ ({ frames := 3, cells := 0, slots := 0, locals := 70 } : Room) (cP (dC, dI) cy [.ref (ad 0), .int a1, .int a2] (zzM ad cy iM aM) sz) (cQi (dC, dI) cy q (zzM ad cy iM aM) (va_A (zzM ad cy iM aM) sz)) 0 0 (va_A (zzM ad cy iM aM) sz) := by
  refine Met.ofW (cc := cX8_next_) (maxL := 7) (ret := (some .int)) (by decide) rfl ?_
  intro p e s m args below meth c s₁ B hml hv
  obtain ⟨hav, hsz, hP, hK, hD0, hN⟩ := hv
  have hx := B.exec
  have hb := B.bytes
  have hr := B.returns
  have hts := atoms_spec (ws := wsX8_next_) B.pre
  have hown : s.vm.findClass RX8 = some m.cls := findClass_of_methodNamed B.named
  have hlocks := B.notSynchronized
  subst hsz
  have hD := hD0.self (sz := s.heap.size)
  generalize hAe : va_A (zzM ad cy iM aM) s.heap.size = A at hD ⊢
  have hA : ∀ q : Nat, s.heap.size ≤ q → A q := fun q h => by rw [← hAe]; exact Or.inr h
  have hS : va_S A s.heap s.heap [] := va_S.rf
  generalize hWQ : (zzM ad cy iM aM) = WQ
  generalize hQQ : MQ below (cQi (dC, dI) cy q WQ A) args s 0 0 A = QQ
  have hl := lv_entry ([.ref (ad 0), .int a1, .int a2] : List Value) (n := 7) (Nat.le_of_ble_eq_true rfl)
  have hfr := lg_entry_eq m ([.ref (ad 0), .int a1, .int a2] : List Value) 7
  rw [← hav] at hfr
  rw [hfr]
  clear hfr hav
  generalize (lg_sl ([.ref (ad 0), .int a1, .int a2] : List Value) ++ List.replicate (7 - (lg_sl ([.ref (ad 0), .int a1, .int a2] : List Value)).length) Slot.unset).toArray = ls at hl ⊢
  have hl : lv_has ls 7 [(0, .ref (ad 0)), (1, .int a1), (2, .int a2)] := hl
  have kf347 := hts _ (List.mem_cons_of_mem _ m_fl_X8_347)
  have ki8 := (fun w h => List.mem_cons_of_mem _ (i_X8 w h) : ∀ w ∈ u_ws RX8 TX8 78, w ∈ wsX8_next_)
  have kf356 := hts _ (List.mem_cons_of_mem _ m_fl_X8_356)
  refine (?_ : ∀ (H : Heap) (locs : List Loc), va_P (dC, dI) vwCl (zzM ad cy iM aM) H → va_D A (zzM ad cy iM aM) → va_S A s.heap H locs → W p l e ({ frames := 3, cells := 0, slots := 0, locals := 70 } : Room) s m args below meth c H locs 0 0 QQ (F0 m 0 ls [])) s.heap [] hP hD hS
  clear hP hD hS
  have B95 : ∀ (v1 : Int32) (v3 : Int32) (v4 : Int32) (v5 : Int32) (k26 : Int32 → Int32 → Option Int32) (hk26 : ∀ (v3' : Int32) (v4' : Int32) (H : Heap) (locs : List Loc) (ls : Array Slot), k26 v3' v4' = some q → va_P (dC, dI) vwCl (zzM ad cy iM aM) H → va_D A (zzM ad cy iM aM) → va_S A s.heap H locs → lv_has ls 7 [(0, .ref (ad 0)), (1, .int v1), (3, .int v3'), (4, .int v4')] → W p l e ({ frames := 3, cells := 0, slots := 0, locals := 70 } : Room) s m args below meth c H locs 0 0 QQ (F0 m 26 ls [])) (H : Heap) (locs : List Loc) (ls : Array Slot), f_M_next__95 N (iM 25) (iM 36) (iM 37) (aM 33) (aM 62) k26 v1 v3 v4 v5 = some q → va_P (dC, dI) vwCl (zzM ad cy iM aM) H → va_D A (zzM ad cy iM aM) → va_S A s.heap H locs → lv_has ls 7 [(0, .ref (ad 0)), (1, .int v1), (3, .int v3), (4, .int v4), (5, .int v5)] → W p l e ({ frames := 3, cells := 0, slots := 0, locals := 70 } : Room) s m args below meth c H locs 0 0 QQ (F0 m 95 ls []) := by
    intro v1 v3 v4 v5 k26 hk26 H locs ls h hP hD hS hl
    unfold f_M_next__95 at h
    refine lv_iload hx hb dX8_next__95 (lv_at hl 4 rfl) ?_
    refine lv_if_eq (tgt := 110) hx hb dX8_next__97 (by decide) (fun cz => ?_) (fun cz => ?_)
    · have h := g_t h cz
      refine lv_iinc (v := (v4 + (1 : Int32))) (lv' := [(4, .int ((v4 + (1 : Int32)))), (0, .ref (ad 0)), (1, .int v1), (3, .int v3), (5, .int v5)]) hx hb dX8_next__110 hl (k := 3) rfl rfl (by decide) rfl (fun ls hl => ?_)
      refine lv_goto (tgt := 26) hx hb dX8_next__113 (by decide) ?_
      exact hk26 v3 ((v4 + (1 : Int32))) H locs ls h hP hD hS (lv_sub hl [1, 2, 3, 0] rfl)
    · have h := g_f h cz
      refine lv_iload_n hx hb dX8_next__100 rfl (lv_at hl 2 rfl) ?_
      refine lv_if_ne (tgt := 107) hx hb dX8_next__101 (by decide) (fun cz => ?_) (fun cz => ?_)
      · have h := g_f h cz
        refine lv_iinc (v := (v3 + (-1 : Int32))) (lv' := [(3, .int ((v3 + (-1 : Int32)))), (0, .ref (ad 0)), (1, .int v1), (4, .int v4), (5, .int v5)]) hx hb dX8_next__107 hl (k := 2) rfl rfl (by decide) rfl (fun ls hl => ?_)
        refine lv_iinc (v := (v4 + (1 : Int32))) (lv' := [(4, .int ((v4 + (1 : Int32)))), (3, .int ((v3 + (-1 : Int32)))), (0, .ref (ad 0)), (1, .int v1), (5, .int v5)]) hx hb dX8_next__110 hl (k := 3) rfl rfl (by decide) rfl (fun ls hl => ?_)
        refine lv_goto (tgt := 26) hx hb dX8_next__113 (by decide) ?_
        exact hk26 ((v3 + (-1 : Int32))) ((v4 + (1 : Int32))) H locs ls h hP hD hS (lv_sub hl [2, 3, 1, 0] rfl)
      · have h := g_t h cz
        refine lv_iload hx hb dX8_next__104 (lv_at hl 3 rfl) ?_
        have h' := Option.some.inj h
        rw [← hQQ]
        exact W.iret (v := v4) hx hb hr (fun t ht hW => ⟨⟨v4, (), rfl, by rw [← h'], by rw [← hWQ, ht]; exact hP, va_K.moved hW.alike hK⟩, hS.F ht⟩) hS.2.2 dX8_next__106
  have B47 : ∀ (n : Nat) (v1 : Int32) (v3 : Int32) (v4 : Int32) (k26 : Int32 → Int32 → Option Int32) (hk26 : ∀ (v3' : Int32) (v4' : Int32) (H : Heap) (locs : List Loc) (ls : Array Slot), k26 v3' v4' = some q → va_P (dC, dI) vwCl (zzM ad cy iM aM) H → va_D A (zzM ad cy iM aM) → va_S A s.heap H locs → lv_has ls 7 [(0, .ref (ad 0)), (1, .int v1), (3, .int v3'), (4, .int v4')] → W p l e ({ frames := 3, cells := 0, slots := 0, locals := 70 } : Room) s m args below meth c H locs 0 0 QQ (F0 m 26 ls [])) (v5 : Int32) (v6 : Int32) (H : Heap) (locs : List Loc) (ls : Array Slot), f_M_next__47 N (iM 25) (iM 36) (iM 37) (aM 33) (aM 62) k26 v1 v3 v4 n v5 v6 = some q → va_P (dC, dI) vwCl (zzM ad cy iM aM) H → va_D A (zzM ad cy iM aM) → va_S A s.heap H locs → lv_has ls 7 [(0, .ref (ad 0)), (1, .int v1), (3, .int v3), (4, .int v4), (5, .int v5), (6, .int v6)] → W p l e ({ frames := 3, cells := 0, slots := 0, locals := 70 } : Room) s m args below meth c H locs 0 0 QQ (F0 m 47 ls []) := by
    intro n
    induction n with
    | zero =>
      intro v1 v3 v4 k26 hk26 v5 v6 H locs ls h hP hD hS hl
      rw [f_M_next__47] at h
      cases h
    | succ n ih =>
      intro v1 v3 v4 k26 hk26 v5 v6 H locs ls h hP hD hS hl
      rw [f_M_next__47] at h
      refine lv_iload hx hb dX8_next__47 (lv_at hl 5 rfl) ?_
      refine lv_aload_n hx hb dX8_next__49 rfl (lv_at hl 0 rfl) ?_
      refine va_get (D := (dC, dI)) (ci := 8) (v := .int (iM 25)) (C := RX8) (T := TX8) (N := 78) hx hb hts ki8 hown hK hP 0 rfl rfl 25 (by decide) kf347 (fun _ h9 => h9) rfl dX8_next__50 ?_
      refine lv_icmp_ge (tgt := 95) hx hb dX8_next__53 (by decide) (fun cz => ?_) (fun cz => ?_)
      · have h := g_t h cz
        exact B95 v1 v3 v4 v5 k26 hk26 H locs ls h hP hD hS (lv_sub hl [0, 1, 2, 3, 4] rfl)
      · have h := g_f h cz
        refine lv_iload hx hb dX8_next__56 (lv_at hl 4 rfl) ?_
        refine lv_if_eq (tgt := 95) hx hb dX8_next__58 (by decide) (fun cz => ?_) (fun cz => ?_)
        · have h := g_t h cz
          exact B95 v1 v3 v4 v5 k26 hk26 H locs ls h hP hD hS (lv_sub hl [0, 1, 2, 3, 4] rfl)
        · have h := g_f h cz
          refine lv_aload_n hx hb dX8_next__61 rfl (lv_at hl 0 rfl) ?_
          refine lv_iload_n hx hb dX8_next__62 rfl (lv_at hl 1 rfl) ?_
          refine lv_iload hx hb dX8_next__63 (lv_at hl 5 rfl) ?_
          obtain ⟨q65, e65, h⟩ := g_b h
          refine callVis (cc := cX8_next_) (w1 := zzM ad cy iM aM) (As := [.int v1, .int v6]) (rest := []) ⟨hx, hb, hml, hown, hts⟩ (c_M_isAbove l dC dI cy ad H.size N v1 v6 iM aM q65 e65) (cwV 2 hts (goodV m_ml_X8_429 m_im_X8_isAbove m_se_X8_isAbove m_in_X8 m_cd_X8_isAbove) rfl rfl rfl (by decide +kernel) ⟨Nat.le_of_ble_eq_true rfl, Nat.le_of_ble_eq_true rfl⟩) hN hK hP hD hS hA rfl 0 rfl rfl rfl hl.1 rfl (Nat.le_of_ble_eq_true rfl) dX8_next__65 ⟨Nat.zero_le _, Nat.zero_le _⟩ (fun H locs hP hD hS => ?_)
          refine lv_if_eq (tgt := 82) hx hb dX8_next__68 (by decide) (fun cz => ?_) (fun cz => ?_)
          · have h := g_t h cz
            refine lv_iconst (v := 1) hx hb dX8_next__82 (by decide) ?_
            refine lv_goto (tgt := 87) hx hb dX8_next__83 (by decide) ?_
            refine lv_istore (lv' := [(5, .int ((1 : Int32))), (0, .ref (ad 0)), (1, .int v1), (3, .int v3), (4, .int v4), (6, .int v6)]) hx hb dX8_next__87 hl (by decide) rfl (fun ls hl => ?_)
            refine lv_iinc (v := (v6 + (1 : Int32))) (lv' := [(6, .int ((v6 + (1 : Int32)))), (5, .int ((1 : Int32))), (0, .ref (ad 0)), (1, .int v1), (3, .int v3), (4, .int v4)]) hx hb dX8_next__89 hl (k := 5) rfl rfl (by decide) rfl (fun ls hl => ?_)
            refine lv_goto (tgt := 47) hx hb dX8_next__92 (by decide) ?_
            exact ih v1 v3 v4 k26 hk26 ((1 : Int32)) ((v6 + (1 : Int32))) H locs ls h hP hD hS (lv_sub hl [2, 3, 4, 5, 1, 0] rfl)
          · have h := g_f h cz
            refine lv_aload_n hx hb dX8_next__71 rfl (lv_at hl 0 rfl) ?_
            refine lv_iload hx hb dX8_next__72 (lv_at hl 5 rfl) ?_
            refine lv_iload hx hb dX8_next__74 (lv_at hl 3 rfl) ?_
            obtain ⟨q76, e76, h⟩ := g_b h
            refine callVis (cc := cX8_next_) (w1 := zzM ad cy iM aM) (As := [.int v6, .int v4]) (rest := []) ⟨hx, hb, hml, hown, hts⟩ (c_M_isAbove l dC dI cy ad H.size N v6 v4 iM aM q76 e76) (cwV 2 hts (goodV m_ml_X8_429 m_im_X8_isAbove m_se_X8_isAbove m_in_X8 m_cd_X8_isAbove) rfl rfl rfl (by decide +kernel) ⟨Nat.le_of_ble_eq_true rfl, Nat.le_of_ble_eq_true rfl⟩) hN hK hP hD hS hA rfl 0 rfl rfl rfl hl.1 rfl (Nat.le_of_ble_eq_true rfl) dX8_next__76 ⟨Nat.zero_le _, Nat.zero_le _⟩ (fun H locs hP hD hS => ?_)
            refine lv_if_ne (tgt := 86) hx hb dX8_next__79 (by decide) (fun cz => ?_) (fun cz => ?_)
            · have h := g_f h cz
              refine lv_iconst (v := 0) hx hb dX8_next__86 (by decide) ?_
              refine lv_istore (lv' := [(5, .int ((0 : Int32))), (0, .ref (ad 0)), (1, .int v1), (3, .int v3), (4, .int v4), (6, .int v6)]) hx hb dX8_next__87 hl (by decide) rfl (fun ls hl => ?_)
              refine lv_iinc (v := (v6 + (1 : Int32))) (lv' := [(6, .int ((v6 + (1 : Int32)))), (5, .int ((0 : Int32))), (0, .ref (ad 0)), (1, .int v1), (3, .int v3), (4, .int v4)]) hx hb dX8_next__89 hl (k := 5) rfl rfl (by decide) rfl (fun ls hl => ?_)
              refine lv_goto (tgt := 47) hx hb dX8_next__92 (by decide) ?_
              exact ih v1 v3 v4 k26 hk26 ((0 : Int32)) ((v6 + (1 : Int32))) H locs ls h hP hD hS (lv_sub hl [2, 3, 4, 5, 1, 0] rfl)
            · have h := g_t h cz
              refine lv_iconst (v := 1) hx hb dX8_next__82 (by decide) ?_
              refine lv_goto (tgt := 87) hx hb dX8_next__83 (by decide) ?_
              refine lv_istore (lv' := [(5, .int ((1 : Int32))), (0, .ref (ad 0)), (1, .int v1), (3, .int v3), (4, .int v4), (6, .int v6)]) hx hb dX8_next__87 hl (by decide) rfl (fun ls hl => ?_)
              refine lv_iinc (v := (v6 + (1 : Int32))) (lv' := [(6, .int ((v6 + (1 : Int32)))), (5, .int ((1 : Int32))), (0, .ref (ad 0)), (1, .int v1), (3, .int v3), (4, .int v4)]) hx hb dX8_next__89 hl (k := 5) rfl rfl (by decide) rfl (fun ls hl => ?_)
              refine lv_goto (tgt := 47) hx hb dX8_next__92 (by decide) ?_
              exact ih v1 v3 v4 k26 hk26 ((1 : Int32)) ((v6 + (1 : Int32))) H locs ls h hP hD hS (lv_sub hl [2, 3, 4, 5, 1, 0] rfl)
  have B26 : ∀ (n : Nat) (v1 : Int32) (v3 : Int32) (v4 : Int32) (H : Heap) (locs : List Loc) (ls : Array Slot), f_M_next__26 N (iM 25) (iM 36) (iM 37) (aM 33) (aM 62) v1 n v3 v4 = some q → va_P (dC, dI) vwCl (zzM ad cy iM aM) H → va_D A (zzM ad cy iM aM) → va_S A s.heap H locs → lv_has ls 7 [(0, .ref (ad 0)), (1, .int v1), (3, .int v3), (4, .int v4)] → W p l e ({ frames := 3, cells := 0, slots := 0, locals := 70 } : Room) s m args below meth c H locs 0 0 QQ (F0 m 26 ls []) := by
    intro n
    induction n with
    | zero =>
      intro v1 v3 v4 H locs ls h hP hD hS hl
      rw [f_M_next__26] at h
      cases h
    | succ n ih =>
      intro v1 v3 v4 H locs ls h hP hD hS hl
      rw [f_M_next__26] at h
      refine lv_iload hx hb dX8_next__26 (lv_at hl 3 rfl) ?_
      refine lv_aload_n hx hb dX8_next__28 rfl (lv_at hl 0 rfl) ?_
      refine va_get (D := (dC, dI)) (ci := 8) (v := .int (iM 25)) (C := RX8) (T := TX8) (N := 78) hx hb hts ki8 hown hK hP 0 rfl rfl 25 (by decide) kf347 (fun _ h9 => h9) rfl dX8_next__29 ?_
      refine lv_icmp_ge (tgt := 116) hx hb dX8_next__32 (by decide) (fun cz => ?_) (fun cz => ?_)
      · have h := g_t h cz
        refine lv_iconst (v := (-1)) hx hb dX8_next__116 (by decide) ?_
        have h' := Option.some.inj h
        rw [← hQQ]
        exact W.iret (v := (-1 : Int32)) hx hb hr (fun t ht hW => ⟨⟨(-1 : Int32), (), rfl, by rw [← h'], by rw [← hWQ, ht]; exact hP, va_K.moved hW.alike hK⟩, hS.F ht⟩) hS.2.2 dX8_next__117
      · have h := g_f h cz
        refine lv_aload_n hx hb dX8_next__35 rfl (lv_at hl 0 rfl) ?_
        refine lv_iload_n hx hb dX8_next__36 rfl (lv_at hl 1 rfl) ?_
        refine lv_iload hx hb dX8_next__37 (lv_at hl 3 rfl) ?_
        obtain ⟨q39, e39, h⟩ := g_b h
        refine callVis (cc := cX8_next_) (w1 := zzM ad cy iM aM) (As := [.int v1, .int v4]) (rest := []) ⟨hx, hb, hml, hown, hts⟩ (c_M_isAbove l dC dI cy ad H.size N v1 v4 iM aM q39 e39) (cwV 2 hts (goodV m_ml_X8_429 m_im_X8_isAbove m_se_X8_isAbove m_in_X8 m_cd_X8_isAbove) rfl rfl rfl (by decide +kernel) ⟨Nat.le_of_ble_eq_true rfl, Nat.le_of_ble_eq_true rfl⟩) hN hK hP hD hS hA rfl 0 rfl rfl rfl hl.1 rfl (Nat.le_of_ble_eq_true rfl) dX8_next__39 ⟨Nat.zero_le _, Nat.zero_le _⟩ (fun H locs hP hD hS => ?_)
        refine lv_istore (lv' := [(5, .int q39), (0, .ref (ad 0)), (1, .int v1), (3, .int v3), (4, .int v4)]) hx hb dX8_next__42 hl (by decide) rfl (fun ls hl => ?_)
        refine lv_iconst (v := 0) hx hb dX8_next__44 (by decide) ?_
        refine lv_istore (lv' := [(6, .int ((0 : Int32))), (5, .int q39), (0, .ref (ad 0)), (1, .int v1), (3, .int v3), (4, .int v4)]) hx hb dX8_next__45 hl (by decide) rfl (fun ls hl => ?_)
        exact B47 N v1 v3 v4 (f_M_next__26 N (iM 25) (iM 36) (iM 37) (aM 33) (aM 62) v1 n) (ih v1) q39 ((0 : Int32)) H locs ls h hP hD hS (lv_sub hl [2, 3, 4, 5, 1, 0] rfl)
  intro H locs hP hD hS
  unfold f_M_next_ at h
  refine lv_aload_n hx hb dX8_next__0 rfl (lv_at hl 0 rfl) ?_
  refine va_get (D := (dC, dI)) (ci := 8) (v := .int (iM 37)) (C := RX8) (T := TX8) (N := 78) hx hb hts ki8 hown hK hP 0 rfl rfl 37 (by decide) kf356 (fun _ h9 => h9) rfl dX8_next__1 ?_
  refine lv_if_ne (tgt := 10) hx hb dX8_next__4 (by decide) (fun cz => ?_) (fun cz => ?_)
  · have h := g_f h cz
    refine lv_aload_n hx hb dX8_next__10 rfl (lv_at hl 0 rfl) ?_
    refine lv_iload_n hx hb dX8_next__11 rfl (lv_at hl 1 rfl) ?_
    obtain ⟨q12, e12, h⟩ := g_b h
    refine callVis (cc := cX8_next_) (w1 := zzM ad cy iM aM) (As := [.int a1]) (rest := []) ⟨hx, hb, hml, hown, hts⟩ (c_M_noName l dC dI cy ad H.size a1 iM aM q12 e12) (cwV 1 hts (goodV m_ml_X8_423 m_im_X8_noName m_se_X8_noName m_in_X8 m_cd_X8_noName) rfl rfl rfl (by decide +kernel) ⟨Nat.le_of_ble_eq_true rfl, Nat.le_of_ble_eq_true rfl⟩) hN hK hP hD hS hA rfl 0 rfl rfl rfl hl.1 rfl (Nat.le_of_ble_eq_true rfl) dX8_next__12 ⟨Nat.zero_le _, Nat.zero_le _⟩ (fun H locs hP hD hS => ?_)
    refine lv_if_eq (tgt := 21) hx hb dX8_next__15 (by decide) (fun cz => ?_) (fun cz => ?_)
    · have h := g_t h cz
      refine lv_iload_n hx hb dX8_next__21 rfl (lv_at hl 2 rfl) ?_
      refine lv_istore_n (lv' := [(3, .int a2), (0, .ref (ad 0)), (1, .int a1), (2, .int a2)]) hx hb dX8_next__22 rfl hl (by decide) rfl (fun ls hl => ?_)
      refine lv_iconst (v := 0) hx hb dX8_next__23 (by decide) ?_
      refine lv_istore (lv' := [(4, .int ((0 : Int32))), (3, .int a2), (0, .ref (ad 0)), (1, .int a1), (2, .int a2)]) hx hb dX8_next__24 hl (by decide) rfl (fun ls hl => ?_)
      exact B26 N a1 a2 ((0 : Int32)) H locs ls h hP hD hS (lv_sub hl [2, 3, 1, 0] rfl)
    · have h := g_f h cz
      refine lv_bipush (v := (-102)) hx hb dX8_next__18 (by decide) ?_
      have h' := Option.some.inj h
      rw [← hQQ]
      exact W.iret (v := (-102 : Int32)) hx hb hr (fun t ht hW => ⟨⟨(-102 : Int32), (), rfl, by rw [← h'], by rw [← hWQ, ht]; exact hP, va_K.moved hW.alike hK⟩, hS.F ht⟩) hS.2.2 dX8_next__20
  · have h := g_t h cz
    refine lv_bipush (v := (-101)) hx hb dX8_next__7 (by decide) ?_
    have h' := Option.some.inj h
    rw [← hQQ]
    exact W.iret (v := (-101 : Int32)) hx hb hr (fun t ht hW => ⟨⟨(-101 : Int32), (), rfl, by rw [← h'], by rw [← hWQ, ht]; exact hP, va_K.moved hW.alike hK⟩, hS.F ht⟩) hS.2.2 dX8_next__9
set_option maxHeartbeats 8000000 in
set_option maxRecDepth 100000 in
theorem c_M_thingOf (l : Launch) (dC : Nat → ClassId) (dI : Nat → Nat → Nat) (cy : Nat → ClassId) (ad : Nat → Nat) (sz : Nat) (N : Nat) (a1 : Int32) (iM : Nat → Int32) (aM : Nat → Nat → Int32) (q : Int32 × Int32 × (Nat → Int32)) (h : f_M_thingOf N a1 (iM 66) (aM 67) = some q) : Met l yX8_thingOf wsX8_thingOf ({ frames := 0, cells := 0, slots := 0, locals := 0 } : Room) (cP (dC, dI) cy [.ref (ad 0), .int a1] (zzM ad cy iM aM) sz) (cQi (dC, dI) cy q.1 (zzM ad cy (us iM [(66, q.2.1)]) (us aM [(67, q.2.2)])) (va_A (zzM ad cy iM aM) sz)) 0 0 (va_A (zzM ad cy iM aM) sz) := by
  refine Met.ofW (cc := cX8_thingOf) (maxL := 3) (ret := (some .int)) (by decide) rfl ?_
  intro p e s m args below meth c s₁ B hml hv
  obtain ⟨hav, hsz, hP, hK, hD0, hN⟩ := hv
  have hx := B.exec
  have hb := B.bytes
  have hr := B.returns
  have hts := atoms_spec (ws := wsX8_thingOf) B.pre
  have hown : s.vm.findClass RX8 = some m.cls := findClass_of_methodNamed B.named
  have hlocks := B.notSynchronized
  subst hsz
  have hD := hD0.self (sz := s.heap.size)
  generalize hAe : va_A (zzM ad cy iM aM) s.heap.size = A at hD ⊢
  have hA : ∀ q : Nat, s.heap.size ≤ q → A q := fun q h => by rw [← hAe]; exact Or.inr h
  have hS : va_S A s.heap s.heap [] := va_S.rf
  generalize hWQ : (zzM ad cy (us iM [(66, q.2.1)]) (us aM [(67, q.2.2)])) = WQ
  generalize hQQ : MQ below (cQi (dC, dI) cy q.1 WQ A) args s 0 0 A = QQ
  have hl := lv_entry ([.ref (ad 0), .int a1] : List Value) (n := 3) (Nat.le_of_ble_eq_true rfl)
  have hfr := lg_entry_eq m ([.ref (ad 0), .int a1] : List Value) 3
  rw [← hav] at hfr
  rw [hfr]
  clear hfr hav
  generalize (lg_sl ([.ref (ad 0), .int a1] : List Value) ++ List.replicate (3 - (lg_sl ([.ref (ad 0), .int a1] : List Value)).length) Slot.unset).toArray = ls at hl ⊢
  have hl : lv_has ls 3 [(0, .ref (ad 0)), (1, .int a1)] := hl
  have kf359 := hts _ (List.mem_cons_of_mem _ m_fl_X8_359)
  have ki8 := (fun w h => List.mem_cons_of_mem _ (i_X8 w h) : ∀ w ∈ u_ws RX8 TX8 78, w ∈ wsX8_thingOf)
  have kf123 := hts _ (List.mem_cons_of_mem _ m_fl_X8_123)
  refine (?_ : ∀ (H : Heap) (locs : List Loc), va_P (dC, dI) vwCl (zzM ad cy iM aM) H → va_D A (zzM ad cy iM aM) → va_S A s.heap H locs → W p l e ({ frames := 0, cells := 0, slots := 0, locals := 0 } : Room) s m args below meth c H locs 0 0 QQ (F0 m 0 ls [])) s.heap [] hP hD hS
  clear hP hD hS
  have B2 : ∀ (n : Nat) (v1 : Int32) (v2 : Int32) (H : Heap) (locs : List Loc) (ls : Array Slot), f_M_thingOf_2 N (iM 66) (aM 67) v1 n v2 = some q → va_P (dC, dI) vwCl (zzM ad cy iM aM) H → va_D A (zzM ad cy iM aM) → va_S A s.heap H locs → lv_has ls 3 [(0, .ref (ad 0)), (1, .int v1), (2, .int v2)] → W p l e ({ frames := 0, cells := 0, slots := 0, locals := 0 } : Room) s m args below meth c H locs 0 0 QQ (F0 m 2 ls []) := by
    intro n
    induction n with
    | zero =>
      intro v1 v2 H locs ls h hP hD hS hl
      rw [f_M_thingOf_2] at h
      cases h
    | succ n ih =>
      intro v1 v2 H locs ls h hP hD hS hl
      rw [f_M_thingOf_2] at h
      refine lv_iload_n hx hb dX8_thingOf_2 rfl (lv_at hl 2 rfl) ?_
      refine lv_aload_n hx hb dX8_thingOf_3 rfl (lv_at hl 0 rfl) ?_
      refine va_get (D := (dC, dI)) (ci := 8) (v := .int (iM 66)) (C := RX8) (T := TX8) (N := 78) hx hb hts ki8 hown hK hP 0 rfl rfl 66 (by decide) kf359 (fun _ h9 => h9) rfl dX8_thingOf_4 ?_
      refine lv_icmp_ge (tgt := 28) hx hb dX8_thingOf_7 (by decide) (fun cz => ?_) (fun cz => ?_)
      · have h := g_t h cz
        refine lv_aload_n hx hb dX8_thingOf_28 rfl (lv_at hl 0 rfl) ?_
        refine va_get (D := (dC, dI)) (ci := 8) (v := .ref (ad 36)) (C := RX8) (T := TX8) (N := 78) hx hb hts ki8 hown hK hP 0 rfl rfl 67 (by decide) kf123 (fun _ h9 => h9) rfl dX8_thingOf_29 ?_
        refine lv_aload_n hx hb dX8_thingOf_32 rfl (lv_at hl 0 rfl) ?_
        refine va_get (D := (dC, dI)) (ci := 8) (v := .int (iM 66)) (C := RX8) (T := TX8) (N := 78) hx hb hts ki8 hown hK hP 0 rfl rfl 66 (by decide) kf359 (fun _ h9 => h9) rfl dX8_thingOf_33 ?_
        refine lv_iload_n hx hb dX8_thingOf_36 rfl (lv_at hl 1 rfl) ?_
        obtain ⟨g_133, h⟩ := g_n h
        refine va_iast (f := (aM 67)) hx hb hK hP hD hS 36 0 rfl rfl g_133 dX8_thingOf_37 (fun H locs hP hD hS => ?_)
        have hP : va_P (dC, dI) vwCl (zzM ad cy iM (us aM [(67, (upd (aM 67) (iM 66).toNatClampNeg v1))])) H := Eq.mp (congrArg (fun w => va_P (dC, dI) vwCl w H) (sfM_aM67 ad cy iM aM ((upd (aM 67) (iM 66).toNatClampNeg v1)))) hP
        have hD : va_D A (zzM ad cy iM (us aM [(67, (upd (aM 67) (iM 66).toNatClampNeg v1))])) := Eq.mp (congrArg (fun w => va_D A w) (sfM_aM67 ad cy iM aM ((upd (aM 67) (iM 66).toNatClampNeg v1)))) hD
        refine lv_aload_n hx hb dX8_thingOf_38 rfl (lv_at hl 0 rfl) ?_
        refine lv_dup hx hb dX8_thingOf_39 rfl ?_
        refine va_get (D := (dC, dI)) (ci := 8) (v := .int (iM 66)) (C := RX8) (T := TX8) (N := 78) hx hb hts ki8 hown hK hP 0 rfl rfl 66 (by decide) kf359 (fun _ h9 => h9) rfl dX8_thingOf_40 ?_
        refine lv_iconst (v := 1) hx hb dX8_thingOf_43 (by decide) ?_
        refine lv_iadd hx hb dX8_thingOf_44 ?_
        refine va_put (D := (dC, dI)) (ci := 8) (v := .int (((iM 66) + (1 : Int32)))) (ty := .int) (C := RX8) (T := TX8) (N := 78) hx hb hts ki8 tyX8 tyX8_ok nmX8 hown hK hP hD hS 0 rfl rfl 66 (by decide) kf359 (fun _ h9 => h9) rfl (by decide +kernel) rfl rfl (Nat.le_of_ble_eq_true rfl) dX8_thingOf_45 (fun H locs hP hD hS => ?_)
        have hP : va_P (dC, dI) vwCl (zzM ad cy (us iM [(66, ((iM 66) + (1 : Int32)))]) (us aM [(67, (upd (aM 67) (iM 66).toNatClampNeg v1))])) H := Eq.mp (congrArg (fun w => va_P (dC, dI) vwCl w H) (sfM_iM66 ad cy iM (us aM [(67, (upd (aM 67) (iM 66).toNatClampNeg v1))]) (((iM 66) + (1 : Int32))))) hP
        have hD : va_D A (zzM ad cy (us iM [(66, ((iM 66) + (1 : Int32)))]) (us aM [(67, (upd (aM 67) (iM 66).toNatClampNeg v1))])) := Eq.mp (congrArg (fun w => va_D A w) (sfM_iM66 ad cy iM (us aM [(67, (upd (aM 67) (iM 66).toNatClampNeg v1))]) (((iM 66) + (1 : Int32))))) hD
        refine lv_aload_n hx hb dX8_thingOf_48 rfl (lv_at hl 0 rfl) ?_
        refine va_get (D := (dC, dI)) (ci := 8) (v := .int (((iM 66) + (1 : Int32)))) (C := RX8) (T := TX8) (N := 78) hx hb hts ki8 hown hK hP 0 rfl rfl 66 (by decide) kf359 (fun _ h9 => h9) rfl dX8_thingOf_49 ?_
        refine lv_iconst (v := 1) hx hb dX8_thingOf_52 (by decide) ?_
        refine lv_isub hx hb dX8_thingOf_53 ?_
        have h' := Option.some.inj h
        rw [← hQQ]
        exact W.iret (v := (((iM 66) + (1 : Int32)) - (1 : Int32))) hx hb hr (fun t ht hW => ⟨⟨(((iM 66) + (1 : Int32)) - (1 : Int32)), (), rfl, by rw [← h'], by rw [← hWQ, ← h', ht]; exact hP, va_K.moved hW.alike hK⟩, hS.F ht⟩) hS.2.2 dX8_thingOf_54
      · have h := g_f h cz
        refine lv_aload_n hx hb dX8_thingOf_10 rfl (lv_at hl 0 rfl) ?_
        refine va_get (D := (dC, dI)) (ci := 8) (v := .ref (ad 36)) (C := RX8) (T := TX8) (N := 78) hx hb hts ki8 hown hK hP 0 rfl rfl 67 (by decide) kf123 (fun _ h9 => h9) rfl dX8_thingOf_11 ?_
        refine lv_iload_n hx hb dX8_thingOf_14 rfl (lv_at hl 2 rfl) ?_
        obtain ⟨g_129, h⟩ := g_n h
        refine va_iald (f := (aM 67)) hx hb hK hP 36 0 rfl rfl g_129 dX8_thingOf_15 ?_
        refine lv_iload_n hx hb dX8_thingOf_16 rfl (lv_at hl 1 rfl) ?_
        refine lv_icmp_ne (tgt := 22) hx hb dX8_thingOf_17 (by decide) (fun cz => ?_) (fun cz => ?_)
        · have h := g_f h cz
          refine lv_iinc (v := (v2 + (1 : Int32))) (lv' := [(2, .int ((v2 + (1 : Int32)))), (0, .ref (ad 0)), (1, .int v1)]) hx hb dX8_thingOf_22 hl (k := 2) rfl rfl (by decide) rfl (fun ls hl => ?_)
          refine lv_goto (tgt := 2) hx hb dX8_thingOf_25 (by decide) ?_
          exact ih v1 ((v2 + (1 : Int32))) H locs ls h hP hD hS (lv_sub hl [1, 2, 0] rfl)
        · have h := g_t h cz
          refine lv_iload_n hx hb dX8_thingOf_20 rfl (lv_at hl 2 rfl) ?_
          have h' := Option.some.inj h
          rw [← hQQ]
          exact W.iret (v := v2) hx hb hr (fun t ht hW => ⟨⟨v2, (), rfl, by rw [← h'], by rw [← hWQ, ← h', ht]; exact hP, va_K.moved hW.alike hK⟩, hS.F ht⟩) hS.2.2 dX8_thingOf_21
  intro H locs hP hD hS
  unfold f_M_thingOf at h
  refine lv_iconst (v := 0) hx hb dX8_thingOf_0 (by decide) ?_
  refine lv_istore_n (lv' := [(2, .int ((0 : Int32))), (0, .ref (ad 0)), (1, .int a1)]) hx hb dX8_thingOf_1 rfl hl (by decide) rfl (fun ls hl => ?_)
  exact B2 N a1 ((0 : Int32)) H locs ls h hP hD hS (lv_sub hl [1, 2, 0] rfl)
set_option maxHeartbeats 8000000 in
set_option maxRecDepth 100000 in
theorem c_M_leastTo_stands (l : Launch) (dC : Nat → ClassId) (dI : Nat → Nat → Nat) (cy : Nat → ClassId) (ad : Nat → Nat) (sz : Nat) (N : Nat) (a1 : Int32) (a2 : Int32) (a3 : Int32) (iM : Nat → Int32) (aM : Nat → Nat → Int32) (q : Int32) (h : f_M_leastTo_stands N a1 a2 a3 (iM 36) (aM 58) (aM 59) (aM 62) = some q) : Met l yX8_leastTo wsX8_leastTo ({ frames := 1, cells := 0, slots := 0, locals := 23 } : Room) (cP (dC, dI) cy [.ref (ad 0), .int a1, .int a2, .int a3, .ref (ad 34)] (zzM ad cy iM aM) sz) (cQi (dC, dI) cy q (zzM ad cy iM aM) (va_A (zzM ad cy iM aM) sz)) 0 0 (va_A (zzM ad cy iM aM) sz) := by
  refine Met.ofW (cc := cX8_leastTo) (maxL := 6) (ret := (some .int)) (by decide) rfl ?_
  intro p e s m args below meth c s₁ B hml hv
  obtain ⟨hav, hsz, hP, hK, hD0, hN⟩ := hv
  have hx := B.exec
  have hb := B.bytes
  have hr := B.returns
  have hts := atoms_spec (ws := wsX8_leastTo) B.pre
  have hown : s.vm.findClass RX8 = some m.cls := findClass_of_methodNamed B.named
  have hlocks := B.notSynchronized
  subst hsz
  have hD := hD0.self (sz := s.heap.size)
  generalize hAe : va_A (zzM ad cy iM aM) s.heap.size = A at hD ⊢
  have hA : ∀ q : Nat, s.heap.size ≤ q → A q := fun q h => by rw [← hAe]; exact Or.inr h
  have hS : va_S A s.heap s.heap [] := va_S.rf
  generalize hWQ : (zzM ad cy iM aM) = WQ
  generalize hQQ : MQ below (cQi (dC, dI) cy q WQ A) args s 0 0 A = QQ
  have hl := lv_entry ([.ref (ad 0), .int a1, .int a2, .int a3, .ref (ad 34)] : List Value) (n := 6) (Nat.le_of_ble_eq_true rfl)
  have hfr := lg_entry_eq m ([.ref (ad 0), .int a1, .int a2, .int a3, .ref (ad 34)] : List Value) 6
  rw [← hav] at hfr
  rw [hfr]
  clear hfr hav
  generalize (lg_sl ([.ref (ad 0), .int a1, .int a2, .int a3, .ref (ad 34)] : List Value) ++ List.replicate (6 - (lg_sl ([.ref (ad 0), .int a1, .int a2, .int a3, .ref (ad 34)] : List Value)).length) Slot.unset).toArray = ls at hl ⊢
  have hl : lv_has ls 6 [(0, .ref (ad 0)), (1, .int a1), (2, .int a2), (3, .int a3), (4, .ref (ad 34))] := hl
  have kf105 := hts _ (List.mem_cons_of_mem _ m_fl_X8_105)
  have ki8 := (fun w h => List.mem_cons_of_mem _ (i_X8 w h) : ∀ w ∈ u_ws RX8 TX8 78, w ∈ wsX8_leastTo)
  refine (?_ : ∀ (H : Heap) (locs : List Loc), va_P (dC, dI) vwCl (zzM ad cy iM aM) H → va_D A (zzM ad cy iM aM) → va_S A s.heap H locs → W p l e ({ frames := 1, cells := 0, slots := 0, locals := 23 } : Room) s m args below meth c H locs 0 0 QQ (F0 m 0 ls [])) s.heap [] hP hD hS
  clear hP hD hS
  have B3 : ∀ (n : Nat) (v1 : Int32) (v2 : Int32) (v3 : Int32) (v5 : Int32) (H : Heap) (locs : List Loc) (ls : Array Slot), f_M_leastTo_stands_3 N (iM 36) (aM 58) (aM 59) (aM 62) v1 v2 v3 n v5 = some q → va_P (dC, dI) vwCl (zzM ad cy iM aM) H → va_D A (zzM ad cy iM aM) → va_S A s.heap H locs → lv_has ls 6 [(0, .ref (ad 0)), (1, .int v1), (2, .int v2), (3, .int v3), (4, .ref (ad 34)), (5, .int v5)] → W p l e ({ frames := 1, cells := 0, slots := 0, locals := 23 } : Room) s m args below meth c H locs 0 0 QQ (F0 m 3 ls []) := by
    intro n
    induction n with
    | zero =>
      intro v1 v2 v3 v5 H locs ls h hP hD hS hl
      rw [f_M_leastTo_stands_3] at h
      cases h
    | succ n ih =>
      intro v1 v2 v3 v5 H locs ls h hP hD hS hl
      rw [f_M_leastTo_stands_3] at h
      refine lv_iload hx hb dX8_leastTo_3 (lv_at hl 5 rfl) ?_
      refine lv_aload_n hx hb dX8_leastTo_5 rfl (lv_at hl 0 rfl) ?_
      obtain ⟨q6, e6, h⟩ := g_b h
      refine callVis (cc := cX8_leastTo) (w1 := zzM ad cy iM aM) (As := []) (rest := [.int v5]) ⟨hx, hb, hml, hown, hts⟩ (c_M_types l dC dI cy ad H.size iM aM q6 e6) (cwV 0 hts (goodV m_ml_X8_368 m_im_X8_types m_se_X8_types m_in_X8 m_cd_X8_types) rfl rfl rfl (by decide +kernel) ⟨Nat.le_of_ble_eq_true rfl, Nat.le_of_ble_eq_true rfl⟩) hN hK hP hD hS hA rfl 0 rfl rfl rfl hl.1 rfl (Nat.le_of_ble_eq_true rfl) dX8_leastTo_6 ⟨Nat.zero_le _, Nat.zero_le _⟩ (fun H locs hP hD hS => ?_)
      refine lv_icmp_ge (tgt := 53) hx hb dX8_leastTo_9 (by decide) (fun cz => ?_) (fun cz => ?_)
      · have h := g_t h cz
        refine lv_iconst (v := (-1)) hx hb dX8_leastTo_53 (by decide) ?_
        have h' := Option.some.inj h
        rw [← hQQ]
        exact W.iret (v := (-1 : Int32)) hx hb hr (fun t ht hW => ⟨⟨(-1 : Int32), (), rfl, by rw [← h'], by rw [← hWQ, ht]; exact hP, va_K.moved hW.alike hK⟩, hS.F ht⟩) hS.2.2 dX8_leastTo_54
      · have h := g_f h cz
        refine lv_aload hx hb dX8_leastTo_12 (lv_at hl 4 rfl) ?_
        refine lv_iload hx hb dX8_leastTo_14 (lv_at hl 5 rfl) ?_
        obtain ⟨g_108, h⟩ := g_n h
        refine va_zald (f := (aM 62)) hx hb hK hP 34 4 rfl rfl g_108 dX8_leastTo_16 ?_
        refine lv_if_eq (tgt := 47) hx hb dX8_leastTo_17 (by decide) (fun cz => ?_) (fun cz => ?_)
        · have h := g_t h cz
          refine lv_iinc (v := (v5 + (1 : Int32))) (lv' := [(5, .int ((v5 + (1 : Int32)))), (0, .ref (ad 0)), (1, .int v1), (2, .int v2), (3, .int v3), (4, .ref (ad 34))]) hx hb dX8_leastTo_47 hl (k := 5) rfl rfl (by decide) rfl (fun ls hl => ?_)
          refine lv_goto (tgt := 3) hx hb dX8_leastTo_50 (by decide) ?_
          exact ih v1 v2 v3 ((v5 + (1 : Int32))) H locs ls h hP hD hS (lv_sub hl [1, 2, 3, 4, 5, 0] rfl)
        · have h := g_f h cz
          refine lv_aload_n hx hb dX8_leastTo_20 rfl (lv_at hl 0 rfl) ?_
          refine lv_iload_n hx hb dX8_leastTo_21 rfl (lv_at hl 1 rfl) ?_
          refine lv_iload_n hx hb dX8_leastTo_22 rfl (lv_at hl 2 rfl) ?_
          refine lv_iload hx hb dX8_leastTo_23 (lv_at hl 5 rfl) ?_
          obtain ⟨q25, e25, h⟩ := g_b h
          refine callVis (cc := cX8_leastTo) (w1 := zzM ad cy iM aM) (As := [.int v1, .int v2, .int v5]) (rest := []) ⟨hx, hb, hml, hown, hts⟩ (c_M_goesTo l dC dI cy ad H.size v1 v2 v5 iM aM q25 e25) (cwV 3 hts (goodV m_ml_X8_374 m_im_X8_goesTo m_se_X8_goesTo m_in_X8 m_cd_X8_goesTo) rfl rfl rfl (by decide +kernel) ⟨Nat.le_of_ble_eq_true rfl, Nat.le_of_ble_eq_true rfl⟩) hN hK hP hD hS hA rfl 0 rfl rfl rfl hl.1 rfl (Nat.le_of_ble_eq_true rfl) dX8_leastTo_25 ⟨Nat.zero_le _, Nat.zero_le _⟩ (fun H locs hP hD hS => ?_)
          refine lv_if_eq (tgt := 47) hx hb dX8_leastTo_28 (by decide) (fun cz => ?_) (fun cz => ?_)
          · have h := g_t h cz
            refine lv_iinc (v := (v5 + (1 : Int32))) (lv' := [(5, .int ((v5 + (1 : Int32)))), (0, .ref (ad 0)), (1, .int v1), (2, .int v2), (3, .int v3), (4, .ref (ad 34))]) hx hb dX8_leastTo_47 hl (k := 5) rfl rfl (by decide) rfl (fun ls hl => ?_)
            refine lv_goto (tgt := 3) hx hb dX8_leastTo_50 (by decide) ?_
            exact ih v1 v2 v3 ((v5 + (1 : Int32))) H locs ls h hP hD hS (lv_sub hl [1, 2, 3, 4, 5, 0] rfl)
          · have h := g_f h cz
            refine lv_aload_n hx hb dX8_leastTo_31 rfl (lv_at hl 0 rfl) ?_
            refine va_get (D := (dC, dI)) (ci := 8) (v := .ref (ad 30)) (C := RX8) (T := TX8) (N := 78) hx hb hts ki8 hown hK hP 0 rfl rfl 58 (by decide) kf105 (fun _ h9 => h9) rfl dX8_leastTo_32 ?_
            refine lv_iload hx hb dX8_leastTo_35 (lv_at hl 5 rfl) ?_
            refine va_iald (f := (aM 58)) hx hb hK hP 30 0 rfl rfl g_108 dX8_leastTo_37 ?_
            refine lv_iload_n hx hb dX8_leastTo_38 rfl (lv_at hl 3 rfl) ?_
            refine lv_iand hx hb dX8_leastTo_39 ?_
            refine lv_iload_n hx hb dX8_leastTo_40 rfl (lv_at hl 3 rfl) ?_
            refine lv_icmp_ne (tgt := 47) hx hb dX8_leastTo_41 (by decide) (fun cz => ?_) (fun cz => ?_)
            · have h := g_f h cz
              refine lv_iinc (v := (v5 + (1 : Int32))) (lv' := [(5, .int ((v5 + (1 : Int32)))), (0, .ref (ad 0)), (1, .int v1), (2, .int v2), (3, .int v3), (4, .ref (ad 34))]) hx hb dX8_leastTo_47 hl (k := 5) rfl rfl (by decide) rfl (fun ls hl => ?_)
              refine lv_goto (tgt := 3) hx hb dX8_leastTo_50 (by decide) ?_
              exact ih v1 v2 v3 ((v5 + (1 : Int32))) H locs ls h hP hD hS (lv_sub hl [1, 2, 3, 4, 5, 0] rfl)
            · have h := g_t h cz
              refine lv_iload hx hb dX8_leastTo_44 (lv_at hl 5 rfl) ?_
              have h' := Option.some.inj h
              rw [← hQQ]
              exact W.iret (v := v5) hx hb hr (fun t ht hW => ⟨⟨v5, (), rfl, by rw [← h'], by rw [← hWQ, ht]; exact hP, va_K.moved hW.alike hK⟩, hS.F ht⟩) hS.2.2 dX8_leastTo_46
  intro H locs hP hD hS
  unfold f_M_leastTo_stands at h
  refine lv_iconst (v := 0) hx hb dX8_leastTo_0 (by decide) ?_
  refine lv_istore (lv' := [(5, .int ((0 : Int32))), (0, .ref (ad 0)), (1, .int a1), (2, .int a2), (3, .int a3), (4, .ref (ad 34))]) hx hb dX8_leastTo_1 hl (by decide) rfl (fun ls hl => ?_)
  exact B3 N a1 a2 a3 ((0 : Int32)) H locs ls h hP hD hS (lv_sub hl [1, 2, 3, 4, 5, 0] rfl)
set_option maxHeartbeats 8000000 in
set_option maxRecDepth 100000 in
theorem c_M_addEdge (l : Launch) (dC : Nat → ClassId) (dI : Nat → Nat → Nat) (cy : Nat → ClassId) (ad : Nat → Nat) (sz : Nat) (N : Nat) (a1 : Int32) (a2 : Int32) (a3 : Int32) (iM : Nat → Int32) (aM : Nat → Nat → Int32) (q : Int32 × Int32 × (Nat → Int32) × (Nat → Int32) × (Nat → Int32) × (Nat → Int32)) (h : f_M_addEdge N a1 a2 a3 (iM 36) (iM 66) (iM 68) (aM 58) (aM 59) (aM 62) (aM 67) (aM 69) (aM 70) (aM 71) = some q) : Met l yX8_addEdge wsX8_addEdge ({ frames := 2, cells := 0, slots := 0, locals := 48 } : Room) (cP (dC, dI) cy [.ref (ad 0), .int a1, .int a2, .int a3] (zzM ad cy iM aM) sz) (cQv (dC, dI) cy (zzM ad cy (us iM [(66, q.1), (68, q.2.1)]) (us aM [(67, q.2.2.1), (69, q.2.2.2.1), (70, q.2.2.2.2.1), (71, q.2.2.2.2.2)])) (va_A (zzM ad cy iM aM) sz)) 0 0 (va_A (zzM ad cy iM aM) sz) := by
  refine Met.ofW (cc := cX8_addEdge) (maxL := 5) (ret := none) (by decide) rfl ?_
  intro p e s m args below meth c s₁ B hml hv
  obtain ⟨hav, hsz, hP, hK, hD0, hN⟩ := hv
  have hx := B.exec
  have hb := B.bytes
  have hr := B.returns
  have hts := atoms_spec (ws := wsX8_addEdge) B.pre
  have hown : s.vm.findClass RX8 = some m.cls := findClass_of_methodNamed B.named
  have hlocks := B.notSynchronized
  subst hsz
  have hD := hD0.self (sz := s.heap.size)
  generalize hAe : va_A (zzM ad cy iM aM) s.heap.size = A at hD ⊢
  have hA : ∀ q : Nat, s.heap.size ≤ q → A q := fun q h => by rw [← hAe]; exact Or.inr h
  have hS : va_S A s.heap s.heap [] := va_S.rf
  generalize hWQ : (zzM ad cy (us iM [(66, q.1), (68, q.2.1)]) (us aM [(67, q.2.2.1), (69, q.2.2.2.1), (70, q.2.2.2.2.1), (71, q.2.2.2.2.2)])) = WQ
  generalize hQQ : MQ below (cQv (dC, dI) cy WQ A) args s 0 0 A = QQ
  have hl := lv_entry ([.ref (ad 0), .int a1, .int a2, .int a3] : List Value) (n := 5) (Nat.le_of_ble_eq_true rfl)
  have hfr := lg_entry_eq m ([.ref (ad 0), .int a1, .int a2, .int a3] : List Value) 5
  rw [← hav] at hfr
  rw [hfr]
  clear hfr hav
  generalize (lg_sl ([.ref (ad 0), .int a1, .int a2, .int a3] : List Value) ++ List.replicate (5 - (lg_sl ([.ref (ad 0), .int a1, .int a2, .int a3] : List Value)).length) Slot.unset).toArray = ls at hl ⊢
  have hl : lv_has ls 5 [(0, .ref (ad 0)), (1, .int a1), (2, .int a2), (3, .int a3)] := hl
  have kf123 := hts _ (List.mem_cons_of_mem _ m_fl_X8_123)
  have ki8 := (fun w h => List.mem_cons_of_mem _ (i_X8 w h) : ∀ w ∈ u_ws RX8 TX8 78, w ∈ wsX8_addEdge)
  have kf117 := hts _ (List.mem_cons_of_mem _ m_fl_X8_117)
  have kf126 := hts _ (List.mem_cons_of_mem _ m_fl_X8_126)
  have kf362 := hts _ (List.mem_cons_of_mem _ m_fl_X8_362)
  have kf129 := hts _ (List.mem_cons_of_mem _ m_fl_X8_129)
  have kf132 := hts _ (List.mem_cons_of_mem _ m_fl_X8_132)
  refine (?_ : ∀ (H : Heap) (locs : List Loc), va_P (dC, dI) vwCl (zzM ad cy iM aM) H → va_D A (zzM ad cy iM aM) → va_S A s.heap H locs → W p l e ({ frames := 2, cells := 0, slots := 0, locals := 48 } : Room) s m args below meth c H locs 0 0 QQ (F0 m 0 ls [])) s.heap [] hP hD hS
  clear hP hD hS
  intro H locs hP hD hS
  unfold f_M_addEdge at h
  refine lv_aload_n hx hb dX8_addEdge_0 rfl (lv_at hl 0 rfl) ?_
  refine lv_aload_n hx hb dX8_addEdge_1 rfl (lv_at hl 0 rfl) ?_
  refine lv_aload_n hx hb dX8_addEdge_2 rfl (lv_at hl 0 rfl) ?_
  refine va_get (D := (dC, dI)) (ci := 8) (v := .ref (ad 36)) (C := RX8) (T := TX8) (N := 78) hx hb hts ki8 hown hK hP 0 rfl rfl 67 (by decide) kf123 (fun _ h9 => h9) rfl dX8_addEdge_3 ?_
  refine lv_iload_n hx hb dX8_addEdge_6 rfl (lv_at hl 1 rfl) ?_
  obtain ⟨g_34, h⟩ := g_n h
  refine va_iald (f := (aM 67)) hx hb hK hP 36 0 rfl rfl g_34 dX8_addEdge_7 ?_
  refine lv_iload_n hx hb dX8_addEdge_8 rfl (lv_at hl 2 rfl) ?_
  refine lv_iload_n hx hb dX8_addEdge_9 rfl (lv_at hl 3 rfl) ?_
  refine lv_aload_n hx hb dX8_addEdge_10 rfl (lv_at hl 0 rfl) ?_
  refine va_get (D := (dC, dI)) (ci := 8) (v := .ref (ad 34)) (C := RX8) (T := TX8) (N := 78) hx hb hts ki8 hown hK hP 0 rfl rfl 62 (by decide) kf117 (fun _ h9 => h9) rfl dX8_addEdge_11 ?_
  obtain ⟨q14, e14, h⟩ := g_b h
  refine callVis (cc := cX8_addEdge) (w1 := zzM ad cy iM aM) (As := [.int (((aM 67) a1.toNatClampNeg)), .int a2, .int a3, .ref (ad 34)]) (rest := [.ref (ad 0)]) ⟨hx, hb, hml, hown, hts⟩ (c_M_leastTo_stands l dC dI cy ad H.size N (((aM 67) a1.toNatClampNeg)) a2 a3 iM aM q14 e14) (cwV 4 hts (goodV m_ml_X8_378 m_im_X8_leastTo m_se_X8_leastTo m_in_X8 m_cd_X8_leastTo) rfl rfl rfl (by decide +kernel) ⟨Nat.le_of_ble_eq_true rfl, Nat.le_of_ble_eq_true rfl⟩) hN hK hP hD hS hA rfl 0 rfl rfl rfl hl.1 rfl (Nat.le_of_ble_eq_true rfl) dX8_addEdge_14 ⟨Nat.zero_le _, Nat.zero_le _⟩ (fun H locs hP hD hS => ?_)
  obtain ⟨q17, e17, h⟩ := g_b h
  refine callVis (cc := cX8_addEdge) (w1 := zzM ad cy (us iM [(66, q17.2.1)]) (us aM [(67, q17.2.2)])) (As := [.int q14]) (rest := []) ⟨hx, hb, hml, hown, hts⟩ (c_M_thingOf l dC dI cy ad H.size N q14 iM aM q17 e17) (cwV 1 hts (goodV m_ml_X8_432 m_im_X8_thingOf m_se_X8_thingOf m_in_X8 m_cd_X8_thingOf) rfl rfl rfl (by decide +kernel) ⟨Nat.le_of_ble_eq_true rfl, Nat.le_of_ble_eq_true rfl⟩) hN hK hP hD hS hA rfl 0 rfl rfl rfl hl.1 rfl (Nat.le_of_ble_eq_true rfl) dX8_addEdge_17 ⟨Nat.zero_le _, Nat.zero_le _⟩ (fun H locs hP hD hS => ?_)
  refine lv_istore (lv' := [(4, .int q17.1), (0, .ref (ad 0)), (1, .int a1), (2, .int a2), (3, .int a3)]) hx hb dX8_addEdge_20 hl (by decide) rfl (fun ls hl => ?_)
  refine lv_aload_n hx hb dX8_addEdge_22 rfl (lv_at hl 1 rfl) ?_
  refine va_get (D := (dC, dI)) (ci := 8) (v := .ref (ad 37)) (C := RX8) (T := TX8) (N := 78) hx hb hts ki8 hown hK hP 0 rfl rfl 69 (by decide) kf126 (fun _ h9 => h9) rfl dX8_addEdge_23 ?_
  refine lv_aload_n hx hb dX8_addEdge_26 rfl (lv_at hl 1 rfl) ?_
  refine va_get (D := (dC, dI)) (ci := 8) (v := .int (iM 68)) (C := RX8) (T := TX8) (N := 78) hx hb hts ki8 hown hK hP 0 rfl rfl 68 (by decide) kf362 (fun _ h9 => h9) rfl dX8_addEdge_27 ?_
  refine lv_iload_n hx hb dX8_addEdge_30 rfl (lv_at hl 2 rfl) ?_
  obtain ⟨g_134, h⟩ := g_n h
  refine va_iast (f := (aM 69)) hx hb hK hP hD hS 37 0 rfl rfl g_134 dX8_addEdge_31 (fun H locs hP hD hS => ?_)
  have hP : va_P (dC, dI) vwCl (zzM ad cy (us iM [(66, q17.2.1)]) (us aM [(67, q17.2.2), (69, (upd (aM 69) (iM 68).toNatClampNeg a1))])) H := Eq.mp (congrArg (fun w => va_P (dC, dI) vwCl w H) (stM_aM69 ad cy (us iM [(66, q17.2.1)]) aM [(67, q17.2.2)] ((upd (aM 69) (iM 68).toNatClampNeg a1)))) hP
  have hD : va_D A (zzM ad cy (us iM [(66, q17.2.1)]) (us aM [(67, q17.2.2), (69, (upd (aM 69) (iM 68).toNatClampNeg a1))])) := Eq.mp (congrArg (fun w => va_D A w) (stM_aM69 ad cy (us iM [(66, q17.2.1)]) aM [(67, q17.2.2)] ((upd (aM 69) (iM 68).toNatClampNeg a1)))) hD
  refine lv_aload_n hx hb dX8_addEdge_32 rfl (lv_at hl 1 rfl) ?_
  refine va_get (D := (dC, dI)) (ci := 8) (v := .ref (ad 38)) (C := RX8) (T := TX8) (N := 78) hx hb hts ki8 hown hK hP 0 rfl rfl 70 (by decide) kf129 (fun _ h9 => h9) rfl dX8_addEdge_33 ?_
  refine lv_aload_n hx hb dX8_addEdge_36 rfl (lv_at hl 1 rfl) ?_
  refine va_get (D := (dC, dI)) (ci := 8) (v := .int (iM 68)) (C := RX8) (T := TX8) (N := 78) hx hb hts ki8 hown hK hP 0 rfl rfl 68 (by decide) kf362 (fun _ h9 => h9) rfl dX8_addEdge_37 ?_
  refine lv_iload hx hb dX8_addEdge_40 (lv_at hl 0 rfl) ?_
  refine va_iast (f := (aM 70)) hx hb hK hP hD hS 38 0 rfl rfl g_134 dX8_addEdge_42 (fun H locs hP hD hS => ?_)
  have hP : va_P (dC, dI) vwCl (zzM ad cy (us iM [(66, q17.2.1)]) (us aM [(67, q17.2.2), (69, (upd (aM 69) (iM 68).toNatClampNeg a1)), (70, (upd (aM 70) (iM 68).toNatClampNeg q17.1))])) H := Eq.mp (congrArg (fun w => va_P (dC, dI) vwCl w H) (stM_aM70 ad cy (us iM [(66, q17.2.1)]) aM [(67, q17.2.2), (69, (upd (aM 69) (iM 68).toNatClampNeg a1))] ((upd (aM 70) (iM 68).toNatClampNeg q17.1)))) hP
  have hD : va_D A (zzM ad cy (us iM [(66, q17.2.1)]) (us aM [(67, q17.2.2), (69, (upd (aM 69) (iM 68).toNatClampNeg a1)), (70, (upd (aM 70) (iM 68).toNatClampNeg q17.1))])) := Eq.mp (congrArg (fun w => va_D A w) (stM_aM70 ad cy (us iM [(66, q17.2.1)]) aM [(67, q17.2.2), (69, (upd (aM 69) (iM 68).toNatClampNeg a1))] ((upd (aM 70) (iM 68).toNatClampNeg q17.1)))) hD
  refine lv_aload_n hx hb dX8_addEdge_43 rfl (lv_at hl 1 rfl) ?_
  refine va_get (D := (dC, dI)) (ci := 8) (v := .ref (ad 39)) (C := RX8) (T := TX8) (N := 78) hx hb hts ki8 hown hK hP 0 rfl rfl 71 (by decide) kf132 (fun _ h9 => h9) rfl dX8_addEdge_44 ?_
  refine lv_aload_n hx hb dX8_addEdge_47 rfl (lv_at hl 1 rfl) ?_
  refine va_get (D := (dC, dI)) (ci := 8) (v := .int (iM 68)) (C := RX8) (T := TX8) (N := 78) hx hb hts ki8 hown hK hP 0 rfl rfl 68 (by decide) kf362 (fun _ h9 => h9) rfl dX8_addEdge_48 ?_
  refine lv_iload_n hx hb dX8_addEdge_51 rfl (lv_at hl 3 rfl) ?_
  refine va_iast (f := (aM 71)) hx hb hK hP hD hS 39 0 rfl rfl g_134 dX8_addEdge_52 (fun H locs hP hD hS => ?_)
  have hP : va_P (dC, dI) vwCl (zzM ad cy (us iM [(66, q17.2.1)]) (us aM [(67, q17.2.2), (69, (upd (aM 69) (iM 68).toNatClampNeg a1)), (70, (upd (aM 70) (iM 68).toNatClampNeg q17.1)), (71, (upd (aM 71) (iM 68).toNatClampNeg a2))])) H := Eq.mp (congrArg (fun w => va_P (dC, dI) vwCl w H) (stM_aM71 ad cy (us iM [(66, q17.2.1)]) aM [(67, q17.2.2), (69, (upd (aM 69) (iM 68).toNatClampNeg a1)), (70, (upd (aM 70) (iM 68).toNatClampNeg q17.1))] ((upd (aM 71) (iM 68).toNatClampNeg a2)))) hP
  have hD : va_D A (zzM ad cy (us iM [(66, q17.2.1)]) (us aM [(67, q17.2.2), (69, (upd (aM 69) (iM 68).toNatClampNeg a1)), (70, (upd (aM 70) (iM 68).toNatClampNeg q17.1)), (71, (upd (aM 71) (iM 68).toNatClampNeg a2))])) := Eq.mp (congrArg (fun w => va_D A w) (stM_aM71 ad cy (us iM [(66, q17.2.1)]) aM [(67, q17.2.2), (69, (upd (aM 69) (iM 68).toNatClampNeg a1)), (70, (upd (aM 70) (iM 68).toNatClampNeg q17.1))] ((upd (aM 71) (iM 68).toNatClampNeg a2)))) hD
  refine lv_aload_n hx hb dX8_addEdge_53 rfl (lv_at hl 1 rfl) ?_
  refine lv_dup hx hb dX8_addEdge_54 rfl ?_
  refine va_get (D := (dC, dI)) (ci := 8) (v := .int (iM 68)) (C := RX8) (T := TX8) (N := 78) hx hb hts ki8 hown hK hP 0 rfl rfl 68 (by decide) kf362 (fun _ h9 => h9) rfl dX8_addEdge_55 ?_
  refine lv_iconst (v := 1) hx hb dX8_addEdge_58 (by decide) ?_
  refine lv_iadd hx hb dX8_addEdge_59 ?_
  refine va_put (D := (dC, dI)) (ci := 8) (v := .int (((iM 68) + (1 : Int32)))) (ty := .int) (C := RX8) (T := TX8) (N := 78) hx hb hts ki8 tyX8 tyX8_ok nmX8 hown hK hP hD hS 0 rfl rfl 68 (by decide) kf362 (fun _ h9 => h9) rfl (by decide +kernel) rfl rfl (Nat.le_of_ble_eq_true rfl) dX8_addEdge_60 (fun H locs hP hD hS => ?_)
  have hP : va_P (dC, dI) vwCl (zzM ad cy (us iM [(66, q17.2.1), (68, ((iM 68) + (1 : Int32)))]) (us aM [(67, q17.2.2), (69, (upd (aM 69) (iM 68).toNatClampNeg a1)), (70, (upd (aM 70) (iM 68).toNatClampNeg q17.1)), (71, (upd (aM 71) (iM 68).toNatClampNeg a2))])) H := Eq.mp (congrArg (fun w => va_P (dC, dI) vwCl w H) (stM_iM68 ad cy iM (us aM [(67, q17.2.2), (69, (upd (aM 69) (iM 68).toNatClampNeg a1)), (70, (upd (aM 70) (iM 68).toNatClampNeg q17.1)), (71, (upd (aM 71) (iM 68).toNatClampNeg a2))]) [(66, q17.2.1)] (((iM 68) + (1 : Int32))))) hP
  have hD : va_D A (zzM ad cy (us iM [(66, q17.2.1), (68, ((iM 68) + (1 : Int32)))]) (us aM [(67, q17.2.2), (69, (upd (aM 69) (iM 68).toNatClampNeg a1)), (70, (upd (aM 70) (iM 68).toNatClampNeg q17.1)), (71, (upd (aM 71) (iM 68).toNatClampNeg a2))])) := Eq.mp (congrArg (fun w => va_D A w) (stM_iM68 ad cy iM (us aM [(67, q17.2.2), (69, (upd (aM 69) (iM 68).toNatClampNeg a1)), (70, (upd (aM 70) (iM 68).toNatClampNeg q17.1)), (71, (upd (aM 71) (iM 68).toNatClampNeg a2))]) [(66, q17.2.1)] (((iM 68) + (1 : Int32))))) hD
  have h' := Option.some.inj h
  rw [← hQQ]
  exact W.vret hx hb hr (fun t ht hW => ⟨⟨(), rfl, trivial, by rw [← hWQ, ← h', ht]; exact hP, va_K.moved hW.alike hK⟩, hS.F ht⟩) hS.2.2 dX8_addEdge_63
set_option maxHeartbeats 8000000 in
set_option maxRecDepth 100000 in
theorem c_M_world (l : Launch) (dC : Nat → ClassId) (dI : Nat → Nat → Nat) (cy : Nat → ClassId) (ad : Nat → Nat) (sz : Nat) (N : Nat) (a1 : Int32) (iM : Nat → Int32) (aM : Nat → Nat → Int32) (q : Int32 × Int32 × Int32 × (Nat → Int32) × (Nat → Int32) × (Nat → Int32) × (Nat → Int32)) (h : f_M_world N a1 (iM 22) (iM 36) (iM 37) (iM 66) (iM 68) (aM 21) (aM 29) (aM 32) (aM 57) (aM 58) (aM 59) (aM 60) (aM 62) (aM 67) (aM 69) (aM 70) (aM 71) = some q) : Met l yX8_world wsX8_world ({ frames := 3, cells := 0, slots := 0, locals := 72 } : Room) (cP (dC, dI) cy [.ref (ad 0), .int a1] (zzM ad cy iM aM) sz) (cQi (dC, dI) cy q.1 (zzM ad cy (us iM [(66, q.2.1), (68, q.2.2.1)]) (us aM [(67, q.2.2.2.1), (69, q.2.2.2.2.1), (70, q.2.2.2.2.2.1), (71, q.2.2.2.2.2.2)])) (va_A (zzM ad cy iM aM) sz)) 0 0 (va_A (zzM ad cy iM aM) sz) := by
  refine Met.ofW (cc := cX8_world) (maxL := 7) (ret := (some .int)) (by decide) rfl ?_
  intro p e s m args below meth c s₁ B hml hv
  obtain ⟨hav, hsz, hP, hK, hD0, hN⟩ := hv
  have hx := B.exec
  have hb := B.bytes
  have hr := B.returns
  have hts := atoms_spec (ws := wsX8_world) B.pre
  have hown : s.vm.findClass RX8 = some m.cls := findClass_of_methodNamed B.named
  have hlocks := B.notSynchronized
  subst hsz
  have hD := hD0.self (sz := s.heap.size)
  generalize hAe : va_A (zzM ad cy iM aM) s.heap.size = A at hD ⊢
  have hA : ∀ q : Nat, s.heap.size ≤ q → A q := fun q h => by rw [← hAe]; exact Or.inr h
  have hS : va_S A s.heap s.heap [] := va_S.rf
  generalize hWQ : (zzM ad cy (us iM [(66, q.2.1), (68, q.2.2.1)]) (us aM [(67, q.2.2.2.1), (69, q.2.2.2.2.1), (70, q.2.2.2.2.2.1), (71, q.2.2.2.2.2.2)])) = WQ
  generalize hQQ : MQ below (cQi (dC, dI) cy q.1 WQ A) args s 0 0 A = QQ
  have hl := lv_entry ([.ref (ad 0), .int a1] : List Value) (n := 7) (Nat.le_of_ble_eq_true rfl)
  have hfr := lg_entry_eq m ([.ref (ad 0), .int a1] : List Value) 7
  rw [← hav] at hfr
  rw [hfr]
  clear hfr hav
  generalize (lg_sl ([.ref (ad 0), .int a1] : List Value) ++ List.replicate (7 - (lg_sl ([.ref (ad 0), .int a1] : List Value)).length) Slot.unset).toArray = ls at hl ⊢
  have hl : lv_has ls 7 [(0, .ref (ad 0)), (1, .int a1)] := hl
  have kf353 := hts _ (List.mem_cons_of_mem _ m_fl_X8_353)
  have ki8 := (fun w h => List.mem_cons_of_mem _ (i_X8 w h) : ∀ w ∈ u_ws RX8 TX8 78, w ∈ wsX8_world)
  have kf73 := hts _ (List.mem_cons_of_mem _ m_fl_X8_73)
  have kf123 := hts _ (List.mem_cons_of_mem _ m_fl_X8_123)
  have kf63 := hts _ (List.mem_cons_of_mem _ m_fl_X8_63)
  have kf111 := hts _ (List.mem_cons_of_mem _ m_fl_X8_111)
  have kf359 := hts _ (List.mem_cons_of_mem _ m_fl_X8_359)
  have kf356 := hts _ (List.mem_cons_of_mem _ m_fl_X8_356)
  have kf362 := hts _ (List.mem_cons_of_mem _ m_fl_X8_362)
  refine (?_ : ∀ (H : Heap) (locs : List Loc), va_P (dC, dI) vwCl (zzM ad cy iM aM) H → va_D A (zzM ad cy iM aM) → va_S A s.heap H locs → W p l e ({ frames := 3, cells := 0, slots := 0, locals := 72 } : Room) s m args below meth c H locs 0 0 QQ (F0 m 0 ls [])) s.heap [] hP hD hS
  clear hP hD hS
  have B71 : ∀ (n : Nat) (v3 : Int32) (k57 : Int32 → Int32 → Int32 → (Nat → Int32) → (Nat → Int32) → (Nat → Int32) → (Nat → Int32) → Option (Int32 × Int32 × Int32 × (Nat → Int32) × (Nat → Int32) × (Nat → Int32) × (Nat → Int32))) (hk57 : ∀ (v3' : Int32) (x_iM66' : Int32) (x_iM68' : Int32) (x_aM67' : Nat → Int32) (x_aM69' : Nat → Int32) (x_aM70' : Nat → Int32) (x_aM71' : Nat → Int32) (H : Heap) (locs : List Loc) (ls : Array Slot), k57 v3' x_iM66' x_iM68' x_aM67' x_aM69' x_aM70' x_aM71' = some q → va_P (dC, dI) vwCl (zzM ad cy (us iM [(66, x_iM66'), (68, x_iM68')]) (us aM [(67, x_aM67'), (69, x_aM69'), (70, x_aM70'), (71, x_aM71')])) H → va_D A (zzM ad cy (us iM [(66, x_iM66'), (68, x_iM68')]) (us aM [(67, x_aM67'), (69, x_aM69'), (70, x_aM70'), (71, x_aM71')])) → va_S A s.heap H locs → lv_has ls 7 [(0, .ref (ad 0)), (3, .int v3')] → W p l e ({ frames := 3, cells := 0, slots := 0, locals := 72 } : Room) s m args below meth c H locs 0 0 QQ (F0 m 57 ls [])) (v4 : Int32) (v5 : Int32) (x_iM66 : Int32) (x_iM68 : Int32) (x_aM67 : Nat → Int32) (x_aM69 : Nat → Int32) (x_aM70 : Nat → Int32) (x_aM71 : Nat → Int32) (H : Heap) (locs : List Loc) (ls : Array Slot), f_M_world_71 N (iM 22) (iM 36) (iM 37) (iM 66) (iM 68) (aM 21) (aM 29) (aM 32) (aM 57) (aM 58) (aM 59) (aM 60) (aM 62) (aM 67) (aM 69) (aM 70) (aM 71) k57 v3 n v4 v5 x_iM66 x_iM68 x_aM67 x_aM69 x_aM70 x_aM71 = some q → va_P (dC, dI) vwCl (zzM ad cy (us iM [(66, x_iM66), (68, x_iM68)]) (us aM [(67, x_aM67), (69, x_aM69), (70, x_aM70), (71, x_aM71)])) H → va_D A (zzM ad cy (us iM [(66, x_iM66), (68, x_iM68)]) (us aM [(67, x_aM67), (69, x_aM69), (70, x_aM70), (71, x_aM71)])) → va_S A s.heap H locs → lv_has ls 7 [(0, .ref (ad 0)), (3, .int v3), (4, .int v4), (5, .int v5)] → W p l e ({ frames := 3, cells := 0, slots := 0, locals := 72 } : Room) s m args below meth c H locs 0 0 QQ (F0 m 71 ls []) := by
    intro n
    induction n with
    | zero =>
      intro v3 k57 hk57 v4 v5 x_iM66 x_iM68 x_aM67 x_aM69 x_aM70 x_aM71 H locs ls h hP hD hS hl
      rw [f_M_world_71] at h
      cases h
    | succ n ih =>
      intro v3 k57 hk57 v4 v5 x_iM66 x_iM68 x_aM67 x_aM69 x_aM70 x_aM71 H locs ls h hP hD hS hl
      rw [f_M_world_71] at h
      refine lv_iload hx hb dX8_world_71 (lv_at hl 3 rfl) ?_
      refine lv_aload_n hx hb dX8_world_73 rfl (lv_at hl 0 rfl) ?_
      refine va_get (D := (dC, dI)) (ci := 8) (v := .int (iM 36)) (C := RX8) (T := TX8) (N := 78) hx hb hts ki8 hown hK hP 0 rfl rfl 36 (by decide) kf353 (fun _ h9 => h9) rfl dX8_world_74 ?_
      refine lv_icmp_ge (tgt := 181) hx hb dX8_world_77 (by decide) (fun cz => ?_) (fun cz => ?_)
      · have h := g_t h cz
        refine lv_iinc (v := (v3 + (1 : Int32))) (lv' := [(3, .int ((v3 + (1 : Int32)))), (0, .ref (ad 0)), (4, .int v4), (5, .int v5)]) hx hb dX8_world_181 hl (k := 1) rfl rfl (by decide) rfl (fun ls hl => ?_)
        refine lv_goto (tgt := 57) hx hb dX8_world_184 (by decide) ?_
        exact hk57 ((v3 + (1 : Int32))) x_iM66 x_iM68 x_aM67 x_aM69 x_aM70 x_aM71 H locs ls h hP hD hS (lv_sub hl [1, 0] rfl)
      · have h := g_f h cz
        refine lv_aload_n hx hb dX8_world_80 rfl (lv_at hl 0 rfl) ?_
        refine va_get (D := (dC, dI)) (ci := 8) (v := .ref (ad 21)) (C := RX8) (T := TX8) (N := 78) hx hb hts ki8 hown hK hP 0 rfl rfl 32 (by decide) kf73 (fun _ h9 => h9) rfl dX8_world_81 ?_
        refine lv_iload hx hb dX8_world_84 (lv_at hl 3 rfl) ?_
        obtain ⟨g_135, h⟩ := g_n h
        refine va_iald (f := (aM 32)) hx hb hK hP 21 0 rfl rfl g_135 dX8_world_86 ?_
        refine lv_istore (lv' := [(6, .int (((aM 32) v5.toNatClampNeg))), (0, .ref (ad 0)), (3, .int v3), (4, .int v4), (5, .int v5)]) hx hb dX8_world_87 hl (by decide) rfl (fun ls hl => ?_)
        refine lv_iload hx hb dX8_world_89 (lv_at hl 0 rfl) ?_
        refine lv_if_lt (tgt := 175) hx hb dX8_world_91 (by decide) (fun cz => ?_) (fun cz => ?_)
        · have h := g_t h cz
          refine lv_iinc (v := (v5 + (1 : Int32))) (lv' := [(5, .int ((v5 + (1 : Int32)))), (6, .int (((aM 32) v5.toNatClampNeg))), (0, .ref (ad 0)), (3, .int v3), (4, .int v4)]) hx hb dX8_world_175 hl (k := 4) rfl rfl (by decide) rfl (fun ls hl => ?_)
          refine lv_goto (tgt := 71) hx hb dX8_world_178 (by decide) ?_
          exact ih v3 k57 hk57 v4 ((v5 + (1 : Int32))) x_iM66 x_iM68 x_aM67 x_aM69 x_aM70 x_aM71 H locs ls h hP hD hS (lv_sub hl [2, 3, 4, 0] rfl)
        · have h := g_f h cz
          refine lv_aload_n hx hb dX8_world_94 rfl (lv_at hl 1 rfl) ?_
          refine va_get (D := (dC, dI)) (ci := 8) (v := .ref (ad 36)) (C := RX8) (T := TX8) (N := 78) hx hb hts ki8 hown hK hP 0 rfl rfl 67 (by decide) kf123 (fun _ h9 => h9) rfl dX8_world_95 ?_
          refine lv_iload_n hx hb dX8_world_98 rfl (lv_at hl 2 rfl) ?_
          obtain ⟨g_136, h⟩ := g_n h
          refine va_iald (f := x_aM67) hx hb hK hP 36 0 rfl rfl g_136 dX8_world_99 ?_
          refine lv_iload hx hb dX8_world_100 (lv_at hl 4 rfl) ?_
          refine lv_ishr hx hb dX8_world_102 ?_
          refine lv_iconst (v := 1) hx hb dX8_world_103 (by decide) ?_
          refine lv_iand hx hb dX8_world_104 ?_
          refine lv_if_ne (tgt := 111) hx hb dX8_world_105 (by decide) (fun cz => ?_) (fun cz => ?_)
          · have h := g_f h cz
            refine lv_aload_n hx hb dX8_world_111 rfl (lv_at hl 1 rfl) ?_
            refine va_get (D := (dC, dI)) (ci := 8) (v := .ref (ad 18)) (C := RX8) (T := TX8) (N := 78) hx hb hts ki8 hown hK hP 0 rfl rfl 29 (by decide) kf63 (fun _ h9 => h9) rfl dX8_world_112 ?_
            refine lv_iload hx hb dX8_world_115 (lv_at hl 0 rfl) ?_
            obtain ⟨g_137, h⟩ := g_n h
            refine va_zald (f := (aM 29)) hx hb hK hP 18 4 rfl rfl g_137 dX8_world_117 ?_
            refine lv_if_ne (tgt := 135) hx hb dX8_world_118 (by decide) (fun cz => ?_) (fun cz => ?_)
            · have h := g_f h cz
              refine lv_iload hx hb dX8_world_135 (lv_at hl 3 rfl) ?_
              refine lv_iload hx hb dX8_world_137 (lv_at hl 0 rfl) ?_
              refine lv_ishr hx hb dX8_world_139 ?_
              refine lv_iconst (v := 1) hx hb dX8_world_140 (by decide) ?_
              refine lv_iand hx hb dX8_world_141 ?_
              refine lv_if_ne (tgt := 175) hx hb dX8_world_142 (by decide) (fun cz => ?_) (fun cz => ?_)
              · have h := g_f h cz
                refine lv_iinc (v := (v5 + (1 : Int32))) (lv' := [(5, .int ((v5 + (1 : Int32)))), (6, .int (((aM 32) v5.toNatClampNeg))), (0, .ref (ad 0)), (3, .int v3), (4, .int v4)]) hx hb dX8_world_175 hl (k := 4) rfl rfl (by decide) rfl (fun ls hl => ?_)
                refine lv_goto (tgt := 71) hx hb dX8_world_178 (by decide) ?_
                exact ih v3 k57 hk57 v4 ((v5 + (1 : Int32))) x_iM66 x_iM68 x_aM67 x_aM69 x_aM70 x_aM71 H locs ls h hP hD hS (lv_sub hl [2, 3, 4, 0] rfl)
              · have h := g_t h cz
                refine lv_iload hx hb dX8_world_145 (lv_at hl 3 rfl) ?_
                refine lv_iconst (v := 1) hx hb dX8_world_147 (by decide) ?_
                refine lv_iload hx hb dX8_world_148 (lv_at hl 0 rfl) ?_
                refine lv_ishl hx hb dX8_world_150 ?_
                refine lv_ior hx hb dX8_world_151 ?_
                refine lv_istore (lv' := [(4, .int ((v4 ||| ((1 : Int32) <<< (((aM 32) v5.toNatClampNeg) &&& 31))))), (6, .int (((aM 32) v5.toNatClampNeg))), (0, .ref (ad 0)), (3, .int v3), (5, .int v5)]) hx hb dX8_world_152 hl (by decide) rfl (fun ls hl => ?_)
                refine lv_aload_n hx hb dX8_world_154 rfl (lv_at hl 2 rfl) ?_
                refine lv_iload_n hx hb dX8_world_155 rfl (lv_at hl 3 rfl) ?_
                refine lv_iload hx hb dX8_world_156 (lv_at hl 1 rfl) ?_
                refine lv_aload_n hx hb dX8_world_158 rfl (lv_at hl 2 rfl) ?_
                refine va_get (D := (dC, dI)) (ci := 8) (v := .ref (ad 32)) (C := RX8) (T := TX8) (N := 78) hx hb hts ki8 hown hK hP 0 rfl rfl 60 (by decide) kf111 (fun _ h9 => h9) rfl dX8_world_159 ?_
                refine lv_iload hx hb dX8_world_162 (lv_at hl 1 rfl) ?_
                obtain ⟨g_138, h⟩ := g_n h
                refine va_iald (f := (aM 60)) hx hb hK hP 32 0 rfl rfl g_138 dX8_world_164 ?_
                refine lv_aload_n hx hb dX8_world_165 rfl (lv_at hl 2 rfl) ?_
                refine va_get (D := (dC, dI)) (ci := 8) (v := .ref (ad 36)) (C := RX8) (T := TX8) (N := 78) hx hb hts ki8 hown hK hP 0 rfl rfl 67 (by decide) kf123 (fun _ h9 => h9) rfl dX8_world_166 ?_
                refine lv_iload_n hx hb dX8_world_169 rfl (lv_at hl 3 rfl) ?_
                refine va_iald (f := x_aM67) hx hb hK hP 36 0 rfl rfl g_136 dX8_world_170 ?_
                refine lv_iand hx hb dX8_world_171 ?_
                obtain ⟨q172, e172, h⟩ := g_b h
                refine callVvs (cc := cX8_world) (w1 := zzM ad cy (us iM [(66, q172.1), (68, q172.2.1)]) (us aM [(67, q172.2.2.1), (69, q172.2.2.2.1), (70, q172.2.2.2.2.1), (71, q172.2.2.2.2.2)])) (As := [.int v3, .int (((aM 32) v5.toNatClampNeg)), .int ((((aM 60) (((aM 32) v5.toNatClampNeg)).toNatClampNeg) &&& (x_aM67 v3.toNatClampNeg)))]) (rest := []) ⟨hx, hb, hml, hown, hts⟩ (c_M_addEdge l dC dI cy ad H.size N v3 (((aM 32) v5.toNatClampNeg)) ((((aM 60) (((aM 32) v5.toNatClampNeg)).toNatClampNeg) &&& (x_aM67 v3.toNatClampNeg))) ((us iM [(66, x_iM66), (68, x_iM68)])) ((us aM [(67, x_aM67), (69, x_aM69), (70, x_aM70), (71, x_aM71)])) q172 e172) (cwV 3 hts (goodV m_ml_X8_435 m_im_X8_addEdge m_se_X8_addEdge m_in_X8 m_cd_X8_addEdge) rfl rfl rfl (by decide +kernel) ⟨Nat.le_of_ble_eq_true rfl, Nat.le_of_ble_eq_true rfl⟩) hN hK hP hD hS hA rfl 0 rfl rfl rfl hl.1 rfl (Nat.le_of_ble_eq_true rfl) dX8_world_172 ⟨Nat.zero_le _, Nat.zero_le _⟩ (fun H locs hP hD hS => ?_)
                refine lv_iinc (v := (v5 + (1 : Int32))) (lv' := [(5, .int ((v5 + (1 : Int32)))), (4, .int ((v4 ||| ((1 : Int32) <<< (((aM 32) v5.toNatClampNeg) &&& 31))))), (6, .int (((aM 32) v5.toNatClampNeg))), (0, .ref (ad 0)), (3, .int v3)]) hx hb dX8_world_175 hl (k := 4) rfl rfl (by decide) rfl (fun ls hl => ?_)
                refine lv_goto (tgt := 71) hx hb dX8_world_178 (by decide) ?_
                exact ih v3 k57 hk57 ((v4 ||| ((1 : Int32) <<< (((aM 32) v5.toNatClampNeg) &&& 31)))) ((v5 + (1 : Int32))) q172.1 q172.2.1 q172.2.2.1 q172.2.2.2.1 q172.2.2.2.2.1 q172.2.2.2.2.2 H locs ls h hP hD hS (lv_sub hl [3, 4, 1, 0] rfl)
            · have h := g_t h cz
              refine lv_aload_n hx hb dX8_world_121 rfl (lv_at hl 1 rfl) ?_
              refine lv_iload_n hx hb dX8_world_122 rfl (lv_at hl 2 rfl) ?_
              refine lv_iload hx hb dX8_world_123 (lv_at hl 0 rfl) ?_
              refine lv_iconst (v := 1) hx hb dX8_world_125 (by decide) ?_
              refine lv_iload hx hb dX8_world_126 (lv_at hl 4 rfl) ?_
              refine lv_ishl hx hb dX8_world_128 ?_
              obtain ⟨q129, e129, h⟩ := g_b h
              refine callVvs (cc := cX8_world) (w1 := zzM ad cy (us iM [(66, q129.1), (68, q129.2.1)]) (us aM [(67, q129.2.2.1), (69, q129.2.2.2.1), (70, q129.2.2.2.2.1), (71, q129.2.2.2.2.2)])) (As := [.int v3, .int (((aM 32) v5.toNatClampNeg)), .int (((1 : Int32) <<< (v5 &&& 31)))]) (rest := []) ⟨hx, hb, hml, hown, hts⟩ (c_M_addEdge l dC dI cy ad H.size N v3 (((aM 32) v5.toNatClampNeg)) (((1 : Int32) <<< (v5 &&& 31))) ((us iM [(66, x_iM66), (68, x_iM68)])) ((us aM [(67, x_aM67), (69, x_aM69), (70, x_aM70), (71, x_aM71)])) q129 e129) (cwV 3 hts (goodV m_ml_X8_435 m_im_X8_addEdge m_se_X8_addEdge m_in_X8 m_cd_X8_addEdge) rfl rfl rfl (by decide +kernel) ⟨Nat.le_of_ble_eq_true rfl, Nat.le_of_ble_eq_true rfl⟩) hN hK hP hD hS hA rfl 0 rfl rfl rfl hl.1 rfl (Nat.le_of_ble_eq_true rfl) dX8_world_129 ⟨Nat.zero_le _, Nat.zero_le _⟩ (fun H locs hP hD hS => ?_)
              refine lv_goto (tgt := 175) hx hb dX8_world_132 (by decide) ?_
              refine lv_iinc (v := (v5 + (1 : Int32))) (lv' := [(5, .int ((v5 + (1 : Int32)))), (6, .int (((aM 32) v5.toNatClampNeg))), (0, .ref (ad 0)), (3, .int v3), (4, .int v4)]) hx hb dX8_world_175 hl (k := 4) rfl rfl (by decide) rfl (fun ls hl => ?_)
              refine lv_goto (tgt := 71) hx hb dX8_world_178 (by decide) ?_
              exact ih v3 k57 hk57 v4 ((v5 + (1 : Int32))) q129.1 q129.2.1 q129.2.2.1 q129.2.2.2.1 q129.2.2.2.2.1 q129.2.2.2.2.2 H locs ls h hP hD hS (lv_sub hl [2, 3, 4, 0] rfl)
          · have h := g_t h cz
            refine lv_goto (tgt := 175) hx hb dX8_world_108 (by decide) ?_
            refine lv_iinc (v := (v5 + (1 : Int32))) (lv' := [(5, .int ((v5 + (1 : Int32)))), (6, .int (((aM 32) v5.toNatClampNeg))), (0, .ref (ad 0)), (3, .int v3), (4, .int v4)]) hx hb dX8_world_175 hl (k := 4) rfl rfl (by decide) rfl (fun ls hl => ?_)
            refine lv_goto (tgt := 71) hx hb dX8_world_178 (by decide) ?_
            exact ih v3 k57 hk57 v4 ((v5 + (1 : Int32))) x_iM66 x_iM68 x_aM67 x_aM69 x_aM70 x_aM71 H locs ls h hP hD hS (lv_sub hl [2, 3, 4, 0] rfl)
  have B57 : ∀ (n : Nat) (v3 : Int32) (x_iM66 : Int32) (x_iM68 : Int32) (x_aM67 : Nat → Int32) (x_aM69 : Nat → Int32) (x_aM70 : Nat → Int32) (x_aM71 : Nat → Int32) (H : Heap) (locs : List Loc) (ls : Array Slot), f_M_world_57 N (iM 22) (iM 36) (iM 37) (iM 66) (iM 68) (aM 21) (aM 29) (aM 32) (aM 57) (aM 58) (aM 59) (aM 60) (aM 62) (aM 67) (aM 69) (aM 70) (aM 71) n v3 x_iM66 x_iM68 x_aM67 x_aM69 x_aM70 x_aM71 = some q → va_P (dC, dI) vwCl (zzM ad cy (us iM [(66, x_iM66), (68, x_iM68)]) (us aM [(67, x_aM67), (69, x_aM69), (70, x_aM70), (71, x_aM71)])) H → va_D A (zzM ad cy (us iM [(66, x_iM66), (68, x_iM68)]) (us aM [(67, x_aM67), (69, x_aM69), (70, x_aM70), (71, x_aM71)])) → va_S A s.heap H locs → lv_has ls 7 [(0, .ref (ad 0)), (3, .int v3)] → W p l e ({ frames := 3, cells := 0, slots := 0, locals := 72 } : Room) s m args below meth c H locs 0 0 QQ (F0 m 57 ls []) := by
    intro n
    induction n with
    | zero =>
      intro v3 x_iM66 x_iM68 x_aM67 x_aM69 x_aM70 x_aM71 H locs ls h hP hD hS hl
      rw [f_M_world_57] at h
      cases h
    | succ n ih =>
      intro v3 x_iM66 x_iM68 x_aM67 x_aM69 x_aM70 x_aM71 H locs ls h hP hD hS hl
      rw [f_M_world_57] at h
      refine lv_iload_n hx hb dX8_world_57 rfl (lv_at hl 1 rfl) ?_
      refine lv_aload_n hx hb dX8_world_58 rfl (lv_at hl 0 rfl) ?_
      refine va_get (D := (dC, dI)) (ci := 8) (v := .int x_iM66) (C := RX8) (T := TX8) (N := 78) hx hb hts ki8 hown hK hP 0 rfl rfl 66 (by decide) kf359 (fun _ h9 => h9) rfl dX8_world_59 ?_
      refine lv_icmp_ge (tgt := 187) hx hb dX8_world_62 (by decide) (fun cz => ?_) (fun cz => ?_)
      · have h := g_t h cz
        refine lv_aload_n hx hb dX8_world_187 rfl (lv_at hl 0 rfl) ?_
        refine va_get (D := (dC, dI)) (ci := 8) (v := .int x_iM66) (C := RX8) (T := TX8) (N := 78) hx hb hts ki8 hown hK hP 0 rfl rfl 66 (by decide) kf359 (fun _ h9 => h9) rfl dX8_world_188 ?_
        have h' := Option.some.inj h
        rw [← hQQ]
        exact W.iret (v := x_iM66) hx hb hr (fun t ht hW => ⟨⟨x_iM66, (), rfl, by rw [← h'], by rw [← hWQ, ← h', ht]; exact hP, va_K.moved hW.alike hK⟩, hS.F ht⟩) hS.2.2 dX8_world_191
      · have h := g_f h cz
        refine lv_iconst (v := 0) hx hb dX8_world_65 (by decide) ?_
        refine lv_istore (lv' := [(4, .int ((0 : Int32))), (0, .ref (ad 0)), (3, .int v3)]) hx hb dX8_world_66 hl (by decide) rfl (fun ls hl => ?_)
        refine lv_iconst (v := 0) hx hb dX8_world_68 (by decide) ?_
        refine lv_istore (lv' := [(5, .int ((0 : Int32))), (4, .int ((0 : Int32))), (0, .ref (ad 0)), (3, .int v3)]) hx hb dX8_world_69 hl (by decide) rfl (fun ls hl => ?_)
        exact B71 N v3 (f_M_world_57 N (iM 22) (iM 36) (iM 37) (iM 66) (iM 68) (aM 21) (aM 29) (aM 32) (aM 57) (aM 58) (aM 59) (aM 60) (aM 62) (aM 67) (aM 69) (aM 70) (aM 71) n) ih ((0 : Int32)) ((0 : Int32)) x_iM66 x_iM68 x_aM67 x_aM69 x_aM70 x_aM71 H locs ls h hP hD hS (lv_sub hl [2, 3, 1, 0] rfl)
  intro H locs hP hD hS
  unfold f_M_world at h
  refine lv_aload_n hx hb dX8_world_0 rfl (lv_at hl 0 rfl) ?_
  refine va_get (D := (dC, dI)) (ci := 8) (v := .int (iM 37)) (C := RX8) (T := TX8) (N := 78) hx hb hts ki8 hown hK hP 0 rfl rfl 37 (by decide) kf356 (fun _ h9 => h9) rfl dX8_world_1 ?_
  refine lv_if_ne (tgt := 10) hx hb dX8_world_4 (by decide) (fun cz => ?_) (fun cz => ?_)
  · have h := g_f h cz
    refine lv_aload_n hx hb dX8_world_10 rfl (lv_at hl 0 rfl) ?_
    refine lv_iload_n hx hb dX8_world_11 rfl (lv_at hl 1 rfl) ?_
    obtain ⟨q12, e12, h⟩ := g_b h
    refine callVis (cc := cX8_world) (w1 := zzM ad cy iM aM) (As := [.int a1]) (rest := []) ⟨hx, hb, hml, hown, hts⟩ (c_M_noQuestion l dC dI cy ad H.size a1 iM aM q12 e12) (cwV 1 hts (goodV m_ml_X8_411 m_im_X8_noQuestion m_se_X8_noQuestion m_in_X8 m_cd_X8_noQuestion) rfl rfl rfl (by decide +kernel) ⟨Nat.le_of_ble_eq_true rfl, Nat.le_of_ble_eq_true rfl⟩) hN hK hP hD hS hA rfl 0 rfl rfl rfl hl.1 rfl (Nat.le_of_ble_eq_true rfl) dX8_world_12 ⟨Nat.zero_le _, Nat.zero_le _⟩ (fun H locs hP hD hS => ?_)
    refine lv_if_eq (tgt := 21) hx hb dX8_world_15 (by decide) (fun cz => ?_) (fun cz => ?_)
    · have h := g_t h cz
      refine lv_aload_n hx hb dX8_world_21 rfl (lv_at hl 0 rfl) ?_
      refine lv_iconst (v := 0) hx hb dX8_world_22 (by decide) ?_
      refine va_put (D := (dC, dI)) (ci := 8) (v := .int ((0 : Int32))) (ty := .int) (C := RX8) (T := TX8) (N := 78) hx hb hts ki8 tyX8 tyX8_ok nmX8 hown hK hP hD hS 0 rfl rfl 66 (by decide) kf359 (fun _ h9 => h9) rfl (by decide +kernel) rfl rfl (Nat.le_of_ble_eq_true rfl) dX8_world_23 (fun H locs hP hD hS => ?_)
      have hP : va_P (dC, dI) vwCl (zzM ad cy (us iM [(66, (0 : Int32))]) aM) H := Eq.mp (congrArg (fun w => va_P (dC, dI) vwCl w H) (sfM_iM66 ad cy iM aM ((0 : Int32)))) hP
      have hD : va_D A (zzM ad cy (us iM [(66, (0 : Int32))]) aM) := Eq.mp (congrArg (fun w => va_D A w) (sfM_iM66 ad cy iM aM ((0 : Int32)))) hD
      refine lv_aload_n hx hb dX8_world_26 rfl (lv_at hl 0 rfl) ?_
      refine lv_iconst (v := 0) hx hb dX8_world_27 (by decide) ?_
      refine va_put (D := (dC, dI)) (ci := 8) (v := .int ((0 : Int32))) (ty := .int) (C := RX8) (T := TX8) (N := 78) hx hb hts ki8 tyX8 tyX8_ok nmX8 hown hK hP hD hS 0 rfl rfl 68 (by decide) kf362 (fun _ h9 => h9) rfl (by decide +kernel) rfl rfl (Nat.le_of_ble_eq_true rfl) dX8_world_28 (fun H locs hP hD hS => ?_)
      have hP : va_P (dC, dI) vwCl (zzM ad cy (us iM [(66, (0 : Int32)), (68, (0 : Int32))]) aM) H := Eq.mp (congrArg (fun w => va_P (dC, dI) vwCl w H) (stM_iM68 ad cy iM aM [(66, (0 : Int32))] ((0 : Int32)))) hP
      have hD : va_D A (zzM ad cy (us iM [(66, (0 : Int32)), (68, (0 : Int32))]) aM) := Eq.mp (congrArg (fun w => va_D A w) (stM_iM68 ad cy iM aM [(66, (0 : Int32))] ((0 : Int32)))) hD
      refine lv_aload_n hx hb dX8_world_31 rfl (lv_at hl 0 rfl) ?_
      refine lv_iload_n hx hb dX8_world_32 rfl (lv_at hl 1 rfl) ?_
      obtain ⟨q33, e33, h⟩ := g_b h
      refine callVis (cc := cX8_world) (w1 := zzM ad cy (us iM [(66, (0 : Int32)), (68, (0 : Int32))]) aM) (As := [.int a1]) (rest := []) ⟨hx, hb, hml, hown, hts⟩ (c_M_leastOf l dC dI cy ad H.size N a1 ((us iM [(66, (0 : Int32)), (68, (0 : Int32))])) aM q33 e33) (cwV 1 hts (goodV m_ml_X8_417 m_im_X8_leastOf m_se_X8_leastOf m_in_X8 m_cd_X8_leastOf) rfl rfl rfl (by decide +kernel) ⟨Nat.le_of_ble_eq_true rfl, Nat.le_of_ble_eq_true rfl⟩) hN hK hP hD hS hA rfl 0 rfl rfl rfl hl.1 rfl (Nat.le_of_ble_eq_true rfl) dX8_world_33 ⟨Nat.zero_le _, Nat.zero_le _⟩ (fun H locs hP hD hS => ?_)
      refine lv_istore_n (lv' := [(2, .int q33), (0, .ref (ad 0)), (1, .int a1)]) hx hb dX8_world_36 rfl hl (by decide) rfl (fun ls hl => ?_)
      refine lv_iload_n hx hb dX8_world_37 rfl (lv_at hl 0 rfl) ?_
      refine lv_if_ge (tgt := 43) hx hb dX8_world_38 (by decide) (fun cz => ?_) (fun cz => ?_)
      · have h := g_t h cz
        refine lv_aload_n hx hb dX8_world_43 rfl (lv_at hl 1 rfl) ?_
        refine va_get (D := (dC, dI)) (ci := 8) (v := .ref (ad 36)) (C := RX8) (T := TX8) (N := 78) hx hb hts ki8 hown hK hP 0 rfl rfl 67 (by decide) kf123 (fun _ h9 => h9) rfl dX8_world_44 ?_
        refine lv_iconst (v := 0) hx hb dX8_world_47 (by decide) ?_
        refine lv_iload_n hx hb dX8_world_48 rfl (lv_at hl 0 rfl) ?_
        refine va_iast (f := (aM 67)) hx hb hK hP hD hS 36 0 rfl rfl (by unfold vp_in; decide) dX8_world_49 (fun H locs hP hD hS => ?_)
        have hP : va_P (dC, dI) vwCl (zzM ad cy (us iM [(66, (0 : Int32)), (68, (0 : Int32))]) (us aM [(67, (upd (aM 67) ((0 : Int32)).toNatClampNeg q33))])) H := Eq.mp (congrArg (fun w => va_P (dC, dI) vwCl w H) (sfM_aM67 ad cy (us iM [(66, (0 : Int32)), (68, (0 : Int32))]) aM ((upd (aM 67) ((0 : Int32)).toNatClampNeg q33)))) hP
        have hD : va_D A (zzM ad cy (us iM [(66, (0 : Int32)), (68, (0 : Int32))]) (us aM [(67, (upd (aM 67) ((0 : Int32)).toNatClampNeg q33))])) := Eq.mp (congrArg (fun w => va_D A w) (sfM_aM67 ad cy (us iM [(66, (0 : Int32)), (68, (0 : Int32))]) aM ((upd (aM 67) ((0 : Int32)).toNatClampNeg q33)))) hD
        refine lv_aload_n hx hb dX8_world_50 rfl (lv_at hl 1 rfl) ?_
        refine lv_iconst (v := 1) hx hb dX8_world_51 (by decide) ?_
        refine va_put (D := (dC, dI)) (ci := 8) (v := .int ((1 : Int32))) (ty := .int) (C := RX8) (T := TX8) (N := 78) hx hb hts ki8 tyX8 tyX8_ok nmX8 hown hK hP hD hS 0 rfl rfl 66 (by decide) kf359 (fun _ h9 => h9) rfl (by decide +kernel) rfl rfl (Nat.le_of_ble_eq_true rfl) dX8_world_52 (fun H locs hP hD hS => ?_)
        have hP : va_P (dC, dI) vwCl (zzM ad cy (us iM [(66, (1 : Int32)), (68, (0 : Int32))]) (us aM [(67, (upd (aM 67) ((0 : Int32)).toNatClampNeg q33))])) H := Eq.mp (congrArg (fun w => va_P (dC, dI) vwCl w H) (stM_iM66 ad cy iM (us aM [(67, (upd (aM 67) ((0 : Int32)).toNatClampNeg q33))]) [(66, (0 : Int32)), (68, (0 : Int32))] ((1 : Int32)))) hP
        have hD : va_D A (zzM ad cy (us iM [(66, (1 : Int32)), (68, (0 : Int32))]) (us aM [(67, (upd (aM 67) ((0 : Int32)).toNatClampNeg q33))])) := Eq.mp (congrArg (fun w => va_D A w) (stM_iM66 ad cy iM (us aM [(67, (upd (aM 67) ((0 : Int32)).toNatClampNeg q33))]) [(66, (0 : Int32)), (68, (0 : Int32))] ((1 : Int32)))) hD
        refine lv_iconst (v := 0) hx hb dX8_world_55 (by decide) ?_
        refine lv_istore_n (lv' := [(3, .int ((0 : Int32))), (2, .int q33), (0, .ref (ad 0)), (1, .int a1)]) hx hb dX8_world_56 rfl hl (by decide) rfl (fun ls hl => ?_)
        exact B57 N ((0 : Int32)) ((1 : Int32)) ((0 : Int32)) ((upd (aM 67) ((0 : Int32)).toNatClampNeg q33)) (aM 69) (aM 70) (aM 71) H locs ls h hP hD hS (lv_sub hl [2, 0] rfl)
      · have h := g_f h cz
        refine lv_iconst (v := 0) hx hb dX8_world_41 (by decide) ?_
        have h' := Option.some.inj h
        rw [← hQQ]
        exact W.iret (v := (0 : Int32)) hx hb hr (fun t ht hW => ⟨⟨(0 : Int32), (), rfl, by rw [← h'], by rw [← hWQ, ← h', ht]; exact hP, va_K.moved hW.alike hK⟩, hS.F ht⟩) hS.2.2 dX8_world_42
    · have h := g_f h cz
      refine lv_bipush (v := (-102)) hx hb dX8_world_18 (by decide) ?_
      have h' := Option.some.inj h
      rw [← hQQ]
      exact W.iret (v := (-102 : Int32)) hx hb hr (fun t ht hW => ⟨⟨(-102 : Int32), (), rfl, by rw [← h'], by rw [← hWQ, ← h', ht]; exact hP, va_K.moved hW.alike hK⟩, hS.F ht⟩) hS.2.2 dX8_world_20
  · have h := g_t h cz
    refine lv_bipush (v := (-101)) hx hb dX8_world_7 (by decide) ?_
    have h' := Option.some.inj h
    rw [← hQQ]
    exact W.iret (v := (-101 : Int32)) hx hb hr (fun t ht hW => ⟨⟨(-101 : Int32), (), rfl, by rw [← h'], by rw [← hWQ, ← h', ht]; exact hP, va_K.moved hW.alike hK⟩, hS.F ht⟩) hS.2.2 dX8_world_9
