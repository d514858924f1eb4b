def f_M_ask (N : Nat) (a1 : Int32) (iM22 : Int32) (iM36 : Int32) (iM37 : Int32) (aM21 : Nat → Int32) (aM57 : Nat → Int32) (aM62 : Nat → Int32) : Option Int32 := if iM37 = 0 then (some (-101 : Int32)) else ((f_M_noQuestion a1 iM22).bind fun q12 => (if q12 = 0 then ((f_M_leastOf N a1 iM36 aM21 aM57 aM62).bind fun q25 => (if q25 < 0 then (some (0 : Int32)) else (some (1 : Int32)))) else (some (-102 : Int32))))
set_option maxHeartbeats 8000000 in
set_option maxRecDepth 100000 in
theorem c_M_ask (l : Launch) (dC : Nat → ClassId) (dI : Nat → Nat → Nat) (cy : Nat → ClassId) (ad : Nat → Nat) (sz : Nat) (N : Nat) (a1 : Int32) (iM : Nat → Int32) (aM : Nat → Nat → Int32) (q : Int32) (h : f_M_ask N a1 (iM 22) (iM 36) (iM 37) (aM 21) (aM 57) (aM 62) = some q) : Met l yX8_ask wsX8_ask ({ frames := 2, cells := 0, slots := 0, locals := 46 } : Room) (cP (dC, dI) cy [.ref (ad 0), .int a1] (zzM ad cy iM aM) sz) (cQi (dC, dI) cy q (zzM ad cy iM aM) (va_A (zzM ad cy iM aM) sz)) 0 0 (va_A (zzM ad cy iM aM) sz) := by
  refine Met.ofW (cc := cX8_ask) (maxL := 2) (ret := (some .int)) (by decide) rfl ?_
  intro p e s m args below meth c s₁ B hml hv
  obtain ⟨hav, hsz, hP, hK, hD0, hN⟩ := hv
  have hx := B.exec
  have hb := B.bytes
  have hr := B.returns
  have hts := atoms_spec (ws := wsX8_ask) B.pre
  have hown : s.vm.findClass RX8 = some m.cls := findClass_of_methodNamed B.named
  have hlocks := B.notSynchronized
  subst hsz
  have hD := hD0.self (sz := s.heap.size)
  generalize hAe : va_A (zzM ad cy iM aM) s.heap.size = A at hD ⊢
  have hA : ∀ q : Nat, s.heap.size ≤ q → A q := fun q h => by rw [← hAe]; exact Or.inr h
  have hS : va_S A s.heap s.heap [] := va_S.rf
  generalize hWQ : (zzM ad cy iM aM) = WQ
  generalize hQQ : MQ below (cQi (dC, dI) cy q WQ A) args s 0 0 A = QQ
  have hl := lv_entry ([.ref (ad 0), .int a1] : List Value) (n := 2) (Nat.le_of_ble_eq_true rfl)
  have hfr := lg_entry_eq m ([.ref (ad 0), .int a1] : List Value) 2
  rw [← hav] at hfr
  rw [hfr]
  clear hfr hav
  generalize (lg_sl ([.ref (ad 0), .int a1] : List Value) ++ List.replicate (2 - (lg_sl ([.ref (ad 0), .int a1] : List Value)).length) Slot.unset).toArray = ls at hl ⊢
  have hl : lv_has ls 2 [(0, .ref (ad 0)), (1, .int a1)] := hl
  have kf356 := hts _ (List.mem_cons_of_mem _ m_fl_X8_356)
  have ki8 := (fun w h => List.mem_cons_of_mem _ (i_X8 w h) : ∀ w ∈ u_ws RX8 TX8 78, w ∈ wsX8_ask)
  refine (?_ : ∀ (H : Heap) (locs : List Loc), va_P (dC, dI) vwCl (zzM ad cy iM aM) H → va_D A (zzM ad cy iM aM) → va_S A s.heap H locs → W p l e ({ frames := 2, cells := 0, slots := 0, locals := 46 } : Room) s m args below meth c H locs 0 0 QQ (F0 m 0 ls [])) s.heap [] hP hD hS
  clear hP hD hS
  intro H locs hP hD hS
  unfold f_M_ask at h
  refine lv_aload_n hx hb dX8_ask_0 rfl (lv_at hl 0 rfl) ?_
  refine va_get (D := (dC, dI)) (ci := 8) (v := .int (iM 37)) (C := RX8) (T := TX8) (N := 78) hx hb hts ki8 hown hK hP 0 rfl rfl 37 (by decide) kf356 (fun _ h9 => h9) rfl dX8_ask_1 ?_
  refine lv_if_ne (tgt := 10) hx hb dX8_ask_4 (by decide) (fun cz => ?_) (fun cz => ?_)
  · have h := g_f h cz
    refine lv_aload_n hx hb dX8_ask_10 rfl (lv_at hl 0 rfl) ?_
    refine lv_iload_n hx hb dX8_ask_11 rfl (lv_at hl 1 rfl) ?_
    obtain ⟨q12, e12, h⟩ := g_b h
    refine callVis (cc := cX8_ask) (w1 := zzM ad cy iM aM) (As := [.int a1]) (rest := []) ⟨hx, hb, hml, hown, hts⟩ (c_M_noQuestion l dC dI cy ad H.size a1 iM aM q12 e12) (cwV 1 hts (goodV m_ml_X8_411 m_im_X8_noQuestion m_se_X8_noQuestion m_in_X8 m_cd_X8_noQuestion) rfl rfl rfl (by decide +kernel) ⟨Nat.le_of_ble_eq_true rfl, Nat.le_of_ble_eq_true rfl⟩) hN hK hP hD hS hA rfl 0 rfl rfl rfl hl.1 rfl (Nat.le_of_ble_eq_true rfl) dX8_ask_12 ⟨Nat.zero_le _, Nat.zero_le _⟩ (fun H locs hP hD hS => ?_)
    refine lv_if_eq (tgt := 23) hx hb dX8_ask_15 (by decide) (fun cz => ?_) (fun cz => ?_)
    · have h := g_t h cz
      refine lv_aload_n hx hb dX8_ask_23 rfl (lv_at hl 0 rfl) ?_
      refine lv_iload_n hx hb dX8_ask_24 rfl (lv_at hl 1 rfl) ?_
      obtain ⟨q25, e25, h⟩ := g_b h
      refine callVis (cc := cX8_ask) (w1 := zzM ad cy iM aM) (As := [.int a1]) (rest := []) ⟨hx, hb, hml, hown, hts⟩ (c_M_leastOf l dC dI cy ad H.size N a1 iM aM q25 e25) (cwV 1 hts (goodV m_ml_X8_417 m_im_X8_leastOf m_se_X8_leastOf m_in_X8 m_cd_X8_leastOf) rfl rfl rfl (by decide +kernel) ⟨Nat.le_of_ble_eq_true rfl, Nat.le_of_ble_eq_true rfl⟩) hN hK hP hD hS hA rfl 0 rfl rfl rfl hl.1 rfl (Nat.le_of_ble_eq_true rfl) dX8_ask_25 ⟨Nat.zero_le _, Nat.zero_le _⟩ (fun H locs hP hD hS => ?_)
      refine lv_if_lt (tgt := 35) hx hb dX8_ask_28 (by decide) (fun cz => ?_) (fun cz => ?_)
      · have h := g_t h cz
        refine lv_iconst (v := 0) hx hb dX8_ask_35 (by decide) ?_
        have h' := Option.some.inj h
        rw [← hQQ]
        exact W.iret (v := (0 : Int32)) hx hb hr (fun t ht hW => ⟨⟨(0 : Int32), (), rfl, by rw [← h'], by rw [← hWQ, ht]; exact hP, va_K.moved hW.alike hK⟩, hS.F ht⟩) hS.2.2 dX8_ask_36
      · have h := g_f h cz
        refine lv_iconst (v := 1) hx hb dX8_ask_31 (by decide) ?_
        refine lv_goto (tgt := 36) hx hb dX8_ask_32 (by decide) ?_
        have h' := Option.some.inj h
        rw [← hQQ]
        exact W.iret (v := (1 : Int32)) hx hb hr (fun t ht hW => ⟨⟨(1 : Int32), (), rfl, by rw [← h'], by rw [← hWQ, ht]; exact hP, va_K.moved hW.alike hK⟩, hS.F ht⟩) hS.2.2 dX8_ask_36
    · have h := g_f h cz
      refine lv_bipush (v := (-102)) hx hb dX8_ask_18 (by decide) ?_
      refine lv_goto (tgt := 36) hx hb dX8_ask_20 (by decide) ?_
      have h' := Option.some.inj h
      rw [← hQQ]
      exact W.iret (v := (-102 : Int32)) hx hb hr (fun t ht hW => ⟨⟨(-102 : Int32), (), rfl, by rw [← h'], by rw [← hWQ, ht]; exact hP, va_K.moved hW.alike hK⟩, hS.F ht⟩) hS.2.2 dX8_ask_36
  · have h := g_t h cz
    refine lv_bipush (v := (-101)) hx hb dX8_ask_7 (by decide) ?_
    have h' := Option.some.inj h
    rw [← hQQ]
    exact W.iret (v := (-101 : Int32)) hx hb hr (fun t ht hW => ⟨⟨(-101 : Int32), (), rfl, by rw [← h'], by rw [← hWQ, ht]; exact hP, va_K.moved hW.alike hK⟩, hS.F ht⟩) hS.2.2 dX8_ask_9
