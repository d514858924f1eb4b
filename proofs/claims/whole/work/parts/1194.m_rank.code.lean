def f_M_rank (a1 : Int32) (iM36 : Int32) (iM37 : Int32) (aM61 : Nat → Int32) : Option Int32 := if iM37 = 0 then (some (-101 : Int32)) else ((f_M_noType a1 iM36).bind fun q14 => (if q14 = 0 then (if a1 < 0 ∨ 512 ≤ a1.toNatClampNeg then none else (some (aM61 a1.toNatClampNeg))) else (some (-102 : Int32))))
set_option maxHeartbeats 8000000 in
set_option maxRecDepth 100000 in
theorem c_M_rank (l : Launch) (dC : Nat → ClassId) (dI : Nat → Nat → Nat) (cy : Nat → ClassId) (ad : Nat → Nat) (sz : Nat) (a1 : Int32) (iM : Nat → Int32) (aM : Nat → Nat → Int32) (q : Int32) (h : f_M_rank a1 (iM 36) (iM 37) (aM 61) = some q) : Met l yX8_rank wsX8_rank ({ frames := 2, cells := 0, slots := 0, locals := 46 } : Room) (cP (dC, dI) cy [.ref (ad 0), .int a1] (zzM ad cy iM aM) sz) (cQi (dC, dI) cy q (zzM ad cy iM aM) (va_A (zzM ad cy iM aM) sz)) 0 0 (va_A (zzM ad cy iM aM) sz) := by
  refine Met.ofW (cc := cX8_rank) (maxL := 2) (ret := (some .int)) (by decide) rfl ?_
  intro p e s m args below meth c s₁ B hml hv
  obtain ⟨hav, hsz, hP, hK, hD0, hN⟩ := hv
  have hx := B.exec
  have hb := B.bytes
  have hr := B.returns
  have hts := atoms_spec (ws := wsX8_rank) B.pre
  have hown : s.vm.findClass RX8 = some m.cls := findClass_of_methodNamed B.named
  have hlocks := B.notSynchronized
  subst hsz
  have hD := hD0.self (sz := s.heap.size)
  generalize hAe : va_A (zzM ad cy iM aM) s.heap.size = A at hD ⊢
  have hA : ∀ q : Nat, s.heap.size ≤ q → A q := fun q h => by rw [← hAe]; exact Or.inr h
  have hS : va_S A s.heap s.heap [] := va_S.rf
  generalize hWQ : (zzM ad cy iM aM) = WQ
  generalize hQQ : MQ below (cQi (dC, dI) cy q WQ A) args s 0 0 A = QQ
  have hl := lv_entry ([.ref (ad 0), .int a1] : List Value) (n := 2) (Nat.le_of_ble_eq_true rfl)
  have hfr := lg_entry_eq m ([.ref (ad 0), .int a1] : List Value) 2
  rw [← hav] at hfr
  rw [hfr]
  clear hfr hav
  generalize (lg_sl ([.ref (ad 0), .int a1] : List Value) ++ List.replicate (2 - (lg_sl ([.ref (ad 0), .int a1] : List Value)).length) Slot.unset).toArray = ls at hl ⊢
  have hl : lv_has ls 2 [(0, .ref (ad 0)), (1, .int a1)] := hl
  have kf356 := hts _ (List.mem_cons_of_mem _ m_fl_X8_356)
  have ki8 := (fun w h => List.mem_cons_of_mem _ (i_X8 w h) : ∀ w ∈ u_ws RX8 TX8 78, w ∈ wsX8_rank)
  have kf114 := hts _ (List.mem_cons_of_mem _ m_fl_X8_114)
  refine (?_ : ∀ (H : Heap) (locs : List Loc), va_P (dC, dI) vwCl (zzM ad cy iM aM) H → va_D A (zzM ad cy iM aM) → va_S A s.heap H locs → W p l e ({ frames := 2, cells := 0, slots := 0, locals := 46 } : Room) s m args below meth c H locs 0 0 QQ (F0 m 0 ls [])) s.heap [] hP hD hS
  clear hP hD hS
  intro H locs hP hD hS
  unfold f_M_rank at h
  refine lv_aload_n hx hb dX8_rank_0 rfl (lv_at hl 0 rfl) ?_
  refine va_get (D := (dC, dI)) (ci := 8) (v := .int (iM 37)) (C := RX8) (T := TX8) (N := 78) hx hb hts ki8 hown hK hP 0 rfl rfl 37 (by decide) kf356 (fun _ h9 => h9) rfl dX8_rank_1 ?_
  refine lv_if_ne (tgt := 12) hx hb dX8_rank_4 (by decide) (fun cz => ?_) (fun cz => ?_)
  · have h := g_f h cz
    refine lv_aload_n hx hb dX8_rank_12 rfl (lv_at hl 0 rfl) ?_
    refine lv_iload_n hx hb dX8_rank_13 rfl (lv_at hl 1 rfl) ?_
    obtain ⟨q14, e14, h⟩ := g_b h
    refine callVis (cc := cX8_rank) (w1 := zzM ad cy iM aM) (As := [.int a1]) (rest := []) ⟨hx, hb, hml, hown, hts⟩ (c_M_noType l dC dI cy ad H.size a1 iM aM q14 e14) (cwV 1 hts (goodV m_ml_X8_408 m_im_X8_noType m_se_X8_noType m_in_X8 m_cd_X8_noType) rfl rfl rfl (by decide +kernel) ⟨Nat.le_of_ble_eq_true rfl, Nat.le_of_ble_eq_true rfl⟩) hN hK hP hD hS hA rfl 0 rfl rfl rfl hl.1 rfl (Nat.le_of_ble_eq_true rfl) dX8_rank_14 ⟨Nat.zero_le _, Nat.zero_le _⟩ (fun H locs hP hD hS => ?_)
    refine lv_if_eq (tgt := 25) hx hb dX8_rank_17 (by decide) (fun cz => ?_) (fun cz => ?_)
    · have h := g_t h cz
      refine lv_aload_n hx hb dX8_rank_25 rfl (lv_at hl 0 rfl) ?_
      refine va_get (D := (dC, dI)) (ci := 8) (v := .ref (ad 33)) (C := RX8) (T := TX8) (N := 78) hx hb hts ki8 hown hK hP 0 rfl rfl 61 (by decide) kf114 (fun _ h9 => h9) rfl dX8_rank_26 ?_
      refine lv_iload_n hx hb dX8_rank_29 rfl (lv_at hl 1 rfl) ?_
      obtain ⟨g_34, h⟩ := g_n h
      refine va_iald (f := (aM 61)) hx hb hK hP 33 0 rfl rfl g_34 dX8_rank_30 ?_
      have h' := Option.some.inj h
      rw [← hQQ]
      exact W.iret (v := ((aM 61) a1.toNatClampNeg)) hx hb hr (fun t ht hW => ⟨⟨((aM 61) a1.toNatClampNeg), (), rfl, by rw [← h'], by rw [← hWQ, ht]; exact hP, va_K.moved hW.alike hK⟩, hS.F ht⟩) hS.2.2 dX8_rank_31
    · have h := g_f h cz
      refine lv_bipush (v := (-102)) hx hb dX8_rank_20 (by decide) ?_
      refine lv_goto (tgt := 31) hx hb dX8_rank_22 (by decide) ?_
      have h' := Option.some.inj h
      rw [← hQQ]
      exact W.iret (v := (-102 : Int32)) hx hb hr (fun t ht hW => ⟨⟨(-102 : Int32), (), rfl, by rw [← h'], by rw [← hWQ, ht]; exact hP, va_K.moved hW.alike hK⟩, hS.F ht⟩) hS.2.2 dX8_rank_31
  · have h := g_t h cz
    refine lv_bipush (v := (-101)) hx hb dX8_rank_7 (by decide) ?_
    refine lv_goto (tgt := 31) hx hb dX8_rank_9 (by decide) ?_
    have h' := Option.some.inj h
    rw [← hQQ]
    exact W.iret (v := (-101 : Int32)) hx hb hr (fun t ht hW => ⟨⟨(-101 : Int32), (), rfl, by rw [← h'], by rw [← hWQ, ht]; exact hP, va_K.moved hW.alike hK⟩, hS.F ht⟩) hS.2.2 dX8_rank_31
