def f_M_isAbove (N : Nat) (a1 : Int32) (a2 : Int32) (iM36 : Int32) (aM33 : Nat → Int32) (aM62 : Nat → Int32) : Option Int32 := (f_M_lies N a1 a2 iM36 aM33 aM62).bind fun q3 => (if q3 = 0 then (some (0 : Int32)) else ((f_M_lies N a2 a1 iM36 aM33 aM62).bind fun q12 => (if q12 = 0 then (some (1 : Int32)) else (some (0 : Int32)))))
set_option maxHeartbeats 8000000 in
set_option maxRecDepth 100000 in
theorem c_M_isAbove (l : Launch) (dC : Nat → ClassId) (dI : Nat → Nat → Nat) (cy : Nat → ClassId) (ad : Nat → Nat) (sz : Nat) (N : Nat) (a1 : Int32) (a2 : Int32) (iM : Nat → Int32) (aM : Nat → Nat → Int32) (q : Int32) (h : f_M_isAbove N a1 a2 (iM 36) (aM 33) (aM 62) = some q) : Met l yX8_isAbove wsX8_isAbove ({ frames := 2, cells := 0, slots := 0, locals := 48 } : Room) (cP (dC, dI) cy [.ref (ad 0), .int a1, .int a2] (zzM ad cy iM aM) sz) (cQi (dC, dI) cy q (zzM ad cy iM aM) (va_A (zzM ad cy iM aM) sz)) 0 0 (va_A (zzM ad cy iM aM) sz) := by
  refine Met.ofW (cc := cX8_isAbove) (maxL := 3) (ret := (some .boolean)) (by decide) rfl ?_
  intro p e s m args below meth c s₁ B hml hv
  obtain ⟨hav, hsz, hP, hK, hD0, hN⟩ := hv
  have hx := B.exec
  have hb := B.bytes
  have hr := B.returns
  have hts := atoms_spec (ws := wsX8_isAbove) B.pre
  have hown : s.vm.findClass RX8 = some m.cls := findClass_of_methodNamed B.named
  have hlocks := B.notSynchronized
  subst hsz
  have hD := hD0.self (sz := s.heap.size)
  generalize hAe : va_A (zzM ad cy iM aM) s.heap.size = A at hD ⊢
  have hA : ∀ q : Nat, s.heap.size ≤ q → A q := fun q h => by rw [← hAe]; exact Or.inr h
  have hS : va_S A s.heap s.heap [] := va_S.rf
  generalize hWQ : (zzM ad cy iM aM) = WQ
  generalize hQQ : MQ below (cQi (dC, dI) cy q WQ A) args s 0 0 A = QQ
  have hl := lv_entry ([.ref (ad 0), .int a1, .int a2] : List Value) (n := 3) (Nat.le_of_ble_eq_true rfl)
  have hfr := lg_entry_eq m ([.ref (ad 0), .int a1, .int a2] : List Value) 3
  rw [← hav] at hfr
  rw [hfr]
  clear hfr hav
  generalize (lg_sl ([.ref (ad 0), .int a1, .int a2] : List Value) ++ List.replicate (3 - (lg_sl ([.ref (ad 0), .int a1, .int a2] : List Value)).length) Slot.unset).toArray = ls at hl ⊢
  have hl : lv_has ls 3 [(0, .ref (ad 0)), (1, .int a1), (2, .int a2)] := hl
  refine (?_ : ∀ (H : Heap) (locs : List Loc), va_P (dC, dI) vwCl (zzM ad cy iM aM) H → va_D A (zzM ad cy iM aM) → va_S A s.heap H locs → W p l e ({ frames := 2, cells := 0, slots := 0, locals := 48 } : Room) s m args below meth c H locs 0 0 QQ (F0 m 0 ls [])) s.heap [] hP hD hS
  clear hP hD hS
  intro H locs hP hD hS
  unfold f_M_isAbove at h
  refine lv_aload_n hx hb dX8_isAbove_0 rfl (lv_at hl 0 rfl) ?_
  refine lv_iload_n hx hb dX8_isAbove_1 rfl (lv_at hl 1 rfl) ?_
  refine lv_iload_n hx hb dX8_isAbove_2 rfl (lv_at hl 2 rfl) ?_
  obtain ⟨q3, e3, h⟩ := g_b h
  refine callVis (cc := cX8_isAbove) (w1 := zzM ad cy iM aM) (As := [.int a1, .int a2]) (rest := []) ⟨hx, hb, hml, hown, hts⟩ (c_M_lies l dC dI cy ad H.size N a1 a2 iM aM q3 e3) (cwV 2 hts (goodV m_ml_X8_426 m_im_X8_lies m_se_X8_lies m_in_X8 m_cd_X8_lies) rfl rfl rfl (by decide +kernel) ⟨Nat.le_of_ble_eq_true rfl, Nat.le_of_ble_eq_true rfl⟩) hN hK hP hD hS hA rfl 0 rfl rfl rfl hl.1 rfl (Nat.le_of_ble_eq_true rfl) dX8_isAbove_3 ⟨Nat.zero_le _, Nat.zero_le _⟩ (fun H locs hP hD hS => ?_)
  refine lv_if_eq (tgt := 22) hx hb dX8_isAbove_6 (by decide) (fun cz => ?_) (fun cz => ?_)
  · have h := g_t h cz
    refine lv_iconst (v := 0) hx hb dX8_isAbove_22 (by decide) ?_
    have h' := Option.some.inj h
    rw [← hQQ]
    exact W.zret (v := (0 : Int32)) hx hb hr rfl (fun t ht hW => ⟨⟨(0 : Int32), (), rfl, by rw [← h'], by rw [← hWQ, ht]; exact hP, va_K.moved hW.alike hK⟩, hS.F ht⟩) hS.2.2 dX8_isAbove_23
  · have h := g_f h cz
    refine lv_aload_n hx hb dX8_isAbove_9 rfl (lv_at hl 0 rfl) ?_
    refine lv_iload_n hx hb dX8_isAbove_10 rfl (lv_at hl 2 rfl) ?_
    refine lv_iload_n hx hb dX8_isAbove_11 rfl (lv_at hl 1 rfl) ?_
    obtain ⟨q12, e12, h⟩ := g_b h
    refine callVis (cc := cX8_isAbove) (w1 := zzM ad cy iM aM) (As := [.int a2, .int a1]) (rest := []) ⟨hx, hb, hml, hown, hts⟩ (c_M_lies l dC dI cy ad H.size N a2 a1 iM aM q12 e12) (cwV 2 hts (goodV m_ml_X8_426 m_im_X8_lies m_se_X8_lies m_in_X8 m_cd_X8_lies) rfl rfl rfl (by decide +kernel) ⟨Nat.le_of_ble_eq_true rfl, Nat.le_of_ble_eq_true rfl⟩) hN hK hP hD hS hA rfl 0 rfl rfl rfl hl.1 rfl (Nat.le_of_ble_eq_true rfl) dX8_isAbove_12 ⟨Nat.zero_le _, Nat.zero_le _⟩ (fun H locs hP hD hS => ?_)
    refine lv_if_ne (tgt := 22) hx hb dX8_isAbove_15 (by decide) (fun cz => ?_) (fun cz => ?_)
    · have h := g_f h cz
      refine lv_iconst (v := 0) hx hb dX8_isAbove_22 (by decide) ?_
      have h' := Option.some.inj h
      rw [← hQQ]
      exact W.zret (v := (0 : Int32)) hx hb hr rfl (fun t ht hW => ⟨⟨(0 : Int32), (), rfl, by rw [← h'], by rw [← hWQ, ht]; exact hP, va_K.moved hW.alike hK⟩, hS.F ht⟩) hS.2.2 dX8_isAbove_23
    · have h := g_t h cz
      refine lv_iconst (v := 1) hx hb dX8_isAbove_18 (by decide) ?_
      refine lv_goto (tgt := 23) hx hb dX8_isAbove_19 (by decide) ?_
      have h' := Option.some.inj h
      rw [← hQQ]
      exact W.zret (v := (1 : Int32)) hx hb hr rfl (fun t ht hW => ⟨⟨(1 : Int32), (), rfl, by rw [← h'], by rw [← hWQ, ht]; exact hP, va_K.moved hW.alike hK⟩, hS.F ht⟩) hS.2.2 dX8_isAbove_23
