def f_M_take (N : Nat) (a1 : Int32) (iM1 : Int32) (iM2 : Int32) (iM3 : Int32) (iM4 : Int32) (iM5 : Int32) (iM6 : Int32) (iM46 : Int32) (iM47 : Int32) (aM0 : Nat → Int32) : Option (Int32 × Int32 × Int32 × Int32 × Int32 × Int32 × Int32) := (f_M_fine iM46).bind fun q1 => (if q1 = 0 then (some (iM2, iM3, iM4, iM5, iM6, iM46, iM47)) else ((f_M_isSignHere a1 iM3 iM6).bind fun q9 => (if q9 = 0 then ((f_M_misplaced iM3 iM4 iM46 iM47).bind fun q23 => (some (iM2, iM3, iM4, iM5, iM6, q23.1, q23.2))) else ((f_M_next N iM1 iM2 iM3 iM4 iM5 iM6 aM0).bind fun q16 => (some (q16.1, q16.2.1, q16.2.2.1, q16.2.2.2.1, q16.2.2.2.2, iM46, iM47))))))
set_option maxHeartbeats 8000000 in
set_option maxRecDepth 100000 in
theorem c_M_take (l : Launch) (dC : Nat → ClassId) (dI : Nat → Nat → Nat) (cy : Nat → ClassId) (ad : Nat → Nat) (sz : Nat) (N : Nat) (a1 : Int32) (iM : Nat → Int32) (aM : Nat → Nat → Int32) (q : Int32 × Int32 × Int32 × Int32 × Int32 × Int32 × Int32) (h : f_M_take N a1 (iM 1) (iM 2) (iM 3) (iM 4) (iM 5) (iM 6) (iM 46) (iM 47) (aM 0) = some q) : Met l yX8_take wsX8_take ({ frames := 3, cells := 0, slots := 0, locals := 66 } : Room) (cP (dC, dI) cy [.ref (ad 0), .int a1] (zzM ad cy iM aM) sz) (cQv (dC, dI) cy (zzM ad cy (us iM [(2, q.1), (3, q.2.1), (4, q.2.2.1), (5, q.2.2.2.1), (6, q.2.2.2.2.1), (46, q.2.2.2.2.2.1), (47, q.2.2.2.2.2.2)]) aM) (va_A (zzM ad cy iM aM) sz)) 0 0 (va_A (zzM ad cy iM aM) sz) := by
  refine Met.ofW (cc := cX8_take) (maxL := 2) (ret := none) (by decide) rfl ?_
  intro p e s m args below meth c s₁ B hml hv
  obtain ⟨hav, hsz, hP, hK, hD0, hN⟩ := hv
  have hx := B.exec
  have hb := B.bytes
  have hr := B.returns
  have hts := atoms_spec (ws := wsX8_take) B.pre
  have hown : s.vm.findClass RX8 = some m.cls := findClass_of_methodNamed B.named
  have hlocks := B.notSynchronized
  subst hsz
  have hD := hD0.self (sz := s.heap.size)
  generalize hAe : va_A (zzM ad cy iM aM) s.heap.size = A at hD ⊢
  have hA : ∀ q : Nat, s.heap.size ≤ q → A q := fun q h => by rw [← hAe]; exact Or.inr h
  have hS : va_S A s.heap s.heap [] := va_S.rf
  generalize hWQ : (zzM ad cy (us iM [(2, q.1), (3, q.2.1), (4, q.2.2.1), (5, q.2.2.2.1), (6, q.2.2.2.2.1), (46, q.2.2.2.2.2.1), (47, q.2.2.2.2.2.2)]) aM) = WQ
  generalize hQQ : MQ below (cQv (dC, dI) cy WQ A) args s 0 0 A = QQ
  have hl := lv_entry ([.ref (ad 0), .int a1] : List Value) (n := 2) (Nat.le_of_ble_eq_true rfl)
  have hfr := lg_entry_eq m ([.ref (ad 0), .int a1] : List Value) 2
  rw [← hav] at hfr
  rw [hfr]
  clear hfr hav
  generalize (lg_sl ([.ref (ad 0), .int a1] : List Value) ++ List.replicate (2 - (lg_sl ([.ref (ad 0), .int a1] : List Value)).length) Slot.unset).toArray = ls at hl ⊢
  have hl : lv_has ls 2 [(0, .ref (ad 0)), (1, .int a1)] := hl
  refine (?_ : ∀ (H : Heap) (locs : List Loc), va_P (dC, dI) vwCl (zzM ad cy iM aM) H → va_D A (zzM ad cy iM aM) → va_S A s.heap H locs → W p l e ({ frames := 3, cells := 0, slots := 0, locals := 66 } : Room) s m args below meth c H locs 0 0 QQ (F0 m 0 ls [])) s.heap [] hP hD hS
  clear hP hD hS
  intro H locs hP hD hS
  unfold f_M_take at h
  refine lv_aload_n hx hb dX8_take_0 rfl (lv_at hl 0 rfl) ?_
  obtain ⟨q1, e1, h⟩ := g_b h
  refine callVis (cc := cX8_take) (w1 := zzM ad cy iM aM) (As := []) (rest := []) ⟨hx, hb, hml, hown, hts⟩ (c_M_fine l dC dI cy ad H.size iM aM q1 e1) (cwV 0 hts (goodV m_ml_X8_198 m_im_X8_fine m_se_X8_fine m_in_X8 m_cd_X8_fine) rfl rfl rfl (by decide +kernel) ⟨Nat.le_of_ble_eq_true rfl, Nat.le_of_ble_eq_true rfl⟩) hN hK hP hD hS hA rfl 0 rfl rfl rfl hl.1 rfl (Nat.le_of_ble_eq_true rfl) dX8_take_1 ⟨Nat.zero_le _, Nat.zero_le _⟩ (fun H locs hP hD hS => ?_)
  refine lv_if_eq (tgt := 26) hx hb dX8_take_4 (by decide) (fun cz => ?_) (fun cz => ?_)
  · have h := g_t h cz
    have h' := Option.some.inj h
    rw [← hQQ]
    exact W.vret hx hb hr (fun t ht hW => ⟨⟨(), rfl, trivial, by rw [← hWQ, ← h', ht]; exact hP, va_K.moved hW.alike hK⟩, hS.F ht⟩) hS.2.2 dX8_take_26
  · have h := g_f h cz
    refine lv_aload_n hx hb dX8_take_7 rfl (lv_at hl 0 rfl) ?_
    refine lv_iload_n hx hb dX8_take_8 rfl (lv_at hl 1 rfl) ?_
    obtain ⟨q9, e9, h⟩ := g_b h
    refine callVis (cc := cX8_take) (w1 := zzM ad cy iM aM) (As := [.int a1]) (rest := []) ⟨hx, hb, hml, hown, hts⟩ (c_M_isSignHere l dC dI cy ad H.size a1 iM aM q9 e9) (cwV 1 hts (goodV m_ml_X8_202 m_im_X8_isSignHere m_se_X8_isSignHere m_in_X8 m_cd_X8_isSignHere) rfl rfl rfl (by decide +kernel) ⟨Nat.le_of_ble_eq_true rfl, Nat.le_of_ble_eq_true rfl⟩) hN hK hP hD hS hA rfl 0 rfl rfl rfl hl.1 rfl (Nat.le_of_ble_eq_true rfl) dX8_take_9 ⟨Nat.zero_le _, Nat.zero_le _⟩ (fun H locs hP hD hS => ?_)
    refine lv_if_eq (tgt := 22) hx hb dX8_take_12 (by decide) (fun cz => ?_) (fun cz => ?_)
    · have h := g_t h cz
      refine lv_aload_n hx hb dX8_take_22 rfl (lv_at hl 0 rfl) ?_
      obtain ⟨q23, e23, h⟩ := g_b h
      refine callVvs (cc := cX8_take) (w1 := zzM ad cy (us iM [(46, q23.1), (47, q23.2)]) aM) (As := []) (rest := []) ⟨hx, hb, hml, hown, hts⟩ (c_M_misplaced l dC dI cy ad H.size iM aM q23 e23) (cwV 0 hts (goodV m_ml_X8_208 m_im_X8_misplaced m_se_X8_misplaced m_in_X8 m_cd_X8_misplaced) rfl rfl rfl (by decide +kernel) ⟨Nat.le_of_ble_eq_true rfl, Nat.le_of_ble_eq_true rfl⟩) hN hK hP hD hS hA rfl 0 rfl rfl rfl hl.1 rfl (Nat.le_of_ble_eq_true rfl) dX8_take_23 ⟨Nat.zero_le _, Nat.zero_le _⟩ (fun H locs hP hD hS => ?_)
      have h' := Option.some.inj h
      rw [← hQQ]
      exact W.vret hx hb hr (fun t ht hW => ⟨⟨(), rfl, trivial, by rw [← hWQ, ← h', ht]; exact hP, va_K.moved hW.alike hK⟩, hS.F ht⟩) hS.2.2 dX8_take_26
    · have h := g_f h cz
      refine lv_aload_n hx hb dX8_take_15 rfl (lv_at hl 0 rfl) ?_
      obtain ⟨q16, e16, h⟩ := g_b h
      refine callVvs (cc := cX8_take) (w1 := zzM ad cy (us iM [(2, q16.1), (3, q16.2.1), (4, q16.2.2.1), (5, q16.2.2.2.1), (6, q16.2.2.2.2)]) aM) (As := []) (rest := []) ⟨hx, hb, hml, hown, hts⟩ (c_M_next l dC dI cy ad H.size N iM aM q16 e16) (cwV 0 hts (goodV m_ml_X8_205 m_im_X8_next m_se_X8_next m_in_X8 m_cd_X8_next) rfl rfl rfl (by decide +kernel) ⟨Nat.le_of_ble_eq_true rfl, Nat.le_of_ble_eq_true rfl⟩) hN hK hP hD hS hA rfl 0 rfl rfl rfl hl.1 rfl (Nat.le_of_ble_eq_true rfl) dX8_take_16 ⟨Nat.zero_le _, Nat.zero_le _⟩ (fun H locs hP hD hS => ?_)
      refine lv_goto (tgt := 26) hx hb dX8_take_19 (by decide) ?_
      have h' := Option.some.inj h
      rw [← hQQ]
      exact W.vret hx hb hr (fun t ht hW => ⟨⟨(), rfl, trivial, by rw [← hWQ, ← h', ht]; exact hP, va_K.moved hW.alike hK⟩, hS.F ht⟩) hS.2.2 dX8_take_26
