def f_M_feed (N : Nat) (a1 : Int32) (a2 : Int32) (a3 : Int32) (a4 : Int32) (a5 : Int32) (iM1 : Int32) (aM0 : Nat → Int32) : Option (Int32 × Int32 × (Nat → Int32)) := if (iM1 + (20 : Int32)) ≤ (2000 : Int32) then ((f_M_four N a1 iM1 aM0).bind fun q18 => ((f_M_four N a2 q18.1 q18.2).bind fun q23 => ((f_M_four N a3 q23.1 q23.2).bind fun q28 => ((f_M_four N a4 q28.1 q28.2).bind fun q34 => ((f_M_four N a5 q34.1 q34.2).bind fun q40 => (some (q40.1, q40.1, q40.2))))))) else (some ((-104 : Int32), iM1, aM0))
set_option maxHeartbeats 8000000 in
set_option maxRecDepth 100000 in
theorem c_M_feed (l : Launch) (dC : Nat → ClassId) (dI : Nat → Nat → Nat) (cy : Nat → ClassId) (ad : Nat → Nat) (sz : Nat) (N : Nat) (a1 : Int32) (a2 : Int32) (a3 : Int32) (a4 : Int32) (a5 : Int32) (iM : Nat → Int32) (aM : Nat → Nat → Int32) (q : Int32 × Int32 × (Nat → Int32)) (h : f_M_feed N a1 a2 a3 a4 a5 (iM 1) (aM 0) = some q) : Met l yX8_feed wsX8_feed ({ frames := 1, cells := 0, slots := 0, locals := 22 } : Room) (cP (dC, dI) cy [.ref (ad 0), .int a1, .int a2, .int a3, .int a4, .int a5] (zzM ad cy iM aM) sz) (cQi (dC, dI) cy q.1 (zzM ad cy (us iM [(1, q.2.1)]) (us aM [(0, q.2.2)])) (va_A (zzM ad cy iM aM) sz)) 0 0 (va_A (zzM ad cy iM aM) sz) := by
  refine Met.ofW (cc := cX8_feed) (maxL := 6) (ret := (some .int)) (by decide) rfl ?_
  intro p e s m args below meth c s₁ B hml hv
  obtain ⟨hav, hsz, hP, hK, hD0, hN⟩ := hv
  have hx := B.exec
  have hb := B.bytes
  have hr := B.returns
  have hts := atoms_spec (ws := wsX8_feed) B.pre
  have hown : s.vm.findClass RX8 = some m.cls := findClass_of_methodNamed B.named
  have hlocks := B.notSynchronized
  subst hsz
  have hD := hD0.self (sz := s.heap.size)
  generalize hAe : va_A (zzM ad cy iM aM) s.heap.size = A at hD ⊢
  have hA : ∀ q : Nat, s.heap.size ≤ q → A q := fun q h => by rw [← hAe]; exact Or.inr h
  have hS : va_S A s.heap s.heap [] := va_S.rf
  generalize hWQ : (zzM ad cy (us iM [(1, q.2.1)]) (us aM [(0, q.2.2)])) = WQ
  generalize hQQ : MQ below (cQi (dC, dI) cy q.1 WQ A) args s 0 0 A = QQ
  have hl := lv_entry ([.ref (ad 0), .int a1, .int a2, .int a3, .int a4, .int a5] : List Value) (n := 6) (Nat.le_of_ble_eq_true rfl)
  have hfr := lg_entry_eq m ([.ref (ad 0), .int a1, .int a2, .int a3, .int a4, .int a5] : List Value) 6
  rw [← hav] at hfr
  rw [hfr]
  clear hfr hav
  generalize (lg_sl ([.ref (ad 0), .int a1, .int a2, .int a3, .int a4, .int a5] : List Value) ++ List.replicate (6 - (lg_sl ([.ref (ad 0), .int a1, .int a2, .int a3, .int a4, .int a5] : List Value)).length) Slot.unset).toArray = ls at hl ⊢
  have hl : lv_has ls 6 [(0, .ref (ad 0)), (1, .int a1), (2, .int a2), (3, .int a3), (4, .int a4), (5, .int a5)] := hl
  have kf147 := hts _ (List.mem_cons_of_mem _ m_fl_X8_147)
  have ki8 := (fun w h => List.mem_cons_of_mem _ (i_X8 w h) : ∀ w ∈ u_ws RX8 TX8 78, w ∈ wsX8_feed)
  refine (?_ : ∀ (H : Heap) (locs : List Loc), va_P (dC, dI) vwCl (zzM ad cy iM aM) H → va_D A (zzM ad cy iM aM) → va_S A s.heap H locs → W p l e ({ frames := 1, cells := 0, slots := 0, locals := 22 } : Room) s m args below meth c H locs 0 0 QQ (F0 m 0 ls [])) s.heap [] hP hD hS
  clear hP hD hS
  intro H locs hP hD hS
  unfold f_M_feed at h
  refine lv_aload_n hx hb dX8_feed_0 rfl (lv_at hl 0 rfl) ?_
  refine va_get (D := (dC, dI)) (ci := 8) (v := .int (iM 1)) (C := RX8) (T := TX8) (N := 78) hx hb hts ki8 hown hK hP 0 rfl rfl 1 (by decide) kf147 (fun _ h9 => h9) rfl dX8_feed_1 ?_
  refine lv_bipush (v := 20) hx hb dX8_feed_4 (by decide) ?_
  refine lv_iadd hx hb dX8_feed_6 ?_
  refine lv_sipush (v := 2000) hx hb dX8_feed_7 (by decide) ?_
  refine lv_icmp_le (tgt := 16) hx hb dX8_feed_10 (by decide) (fun cz => ?_) (fun cz => ?_)
  · have h := g_t h cz
    refine lv_aload_n hx hb dX8_feed_16 rfl (lv_at hl 0 rfl) ?_
    refine lv_iload_n hx hb dX8_feed_17 rfl (lv_at hl 1 rfl) ?_
    obtain ⟨q18, e18, h⟩ := g_b h
    refine callVvs (cc := cX8_feed) (w1 := zzM ad cy (us iM [(1, q18.1)]) (us aM [(0, q18.2)])) (As := [.int a1]) (rest := []) ⟨hx, hb, hml, hown, hts⟩ (c_M_four l dC dI cy ad H.size N a1 iM aM q18 e18) (cwV 1 hts (goodV m_ml_X8_150 m_im_X8_four m_se_X8_four m_in_X8 m_cd_X8_four) rfl rfl rfl (by decide +kernel) ⟨Nat.le_of_ble_eq_true rfl, Nat.le_of_ble_eq_true rfl⟩) hN hK hP hD hS hA rfl 0 rfl rfl rfl hl.1 rfl (Nat.le_of_ble_eq_true rfl) dX8_feed_18 ⟨Nat.zero_le _, Nat.zero_le _⟩ (fun H locs hP hD hS => ?_)
    refine lv_aload_n hx hb dX8_feed_21 rfl (lv_at hl 0 rfl) ?_
    refine lv_iload_n hx hb dX8_feed_22 rfl (lv_at hl 2 rfl) ?_
    obtain ⟨q23, e23, h⟩ := g_b h
    refine callVvs (cc := cX8_feed) (w1 := zzM ad cy (us iM [(1, q23.1)]) (us aM [(0, q23.2)])) (As := [.int a2]) (rest := []) ⟨hx, hb, hml, hown, hts⟩ (c_M_four l dC dI cy ad H.size N a2 ((us iM [(1, q18.1)])) ((us aM [(0, q18.2)])) q23 e23) (cwV 1 hts (goodV m_ml_X8_150 m_im_X8_four m_se_X8_four m_in_X8 m_cd_X8_four) rfl rfl rfl (by decide +kernel) ⟨Nat.le_of_ble_eq_true rfl, Nat.le_of_ble_eq_true rfl⟩) hN hK hP hD hS hA rfl 0 rfl rfl rfl hl.1 rfl (Nat.le_of_ble_eq_true rfl) dX8_feed_23 ⟨Nat.zero_le _, Nat.zero_le _⟩ (fun H locs hP hD hS => ?_)
    refine lv_aload_n hx hb dX8_feed_26 rfl (lv_at hl 0 rfl) ?_
    refine lv_iload_n hx hb dX8_feed_27 rfl (lv_at hl 3 rfl) ?_
    obtain ⟨q28, e28, h⟩ := g_b h
    refine callVvs (cc := cX8_feed) (w1 := zzM ad cy (us iM [(1, q28.1)]) (us aM [(0, q28.2)])) (As := [.int a3]) (rest := []) ⟨hx, hb, hml, hown, hts⟩ (c_M_four l dC dI cy ad H.size N a3 ((us iM [(1, q23.1)])) ((us aM [(0, q23.2)])) q28 e28) (cwV 1 hts (goodV m_ml_X8_150 m_im_X8_four m_se_X8_four m_in_X8 m_cd_X8_four) rfl rfl rfl (by decide +kernel) ⟨Nat.le_of_ble_eq_true rfl, Nat.le_of_ble_eq_true rfl⟩) hN hK hP hD hS hA rfl 0 rfl rfl rfl hl.1 rfl (Nat.le_of_ble_eq_true rfl) dX8_feed_28 ⟨Nat.zero_le _, Nat.zero_le _⟩ (fun H locs hP hD hS => ?_)
    refine lv_aload_n hx hb dX8_feed_31 rfl (lv_at hl 0 rfl) ?_
    refine lv_iload hx hb dX8_feed_32 (lv_at hl 4 rfl) ?_
    obtain ⟨q34, e34, h⟩ := g_b h
    refine callVvs (cc := cX8_feed) (w1 := zzM ad cy (us iM [(1, q34.1)]) (us aM [(0, q34.2)])) (As := [.int a4]) (rest := []) ⟨hx, hb, hml, hown, hts⟩ (c_M_four l dC dI cy ad H.size N a4 ((us iM [(1, q28.1)])) ((us aM [(0, q28.2)])) q34 e34) (cwV 1 hts (goodV m_ml_X8_150 m_im_X8_four m_se_X8_four m_in_X8 m_cd_X8_four) rfl rfl rfl (by decide +kernel) ⟨Nat.le_of_ble_eq_true rfl, Nat.le_of_ble_eq_true rfl⟩) hN hK hP hD hS hA rfl 0 rfl rfl rfl hl.1 rfl (Nat.le_of_ble_eq_true rfl) dX8_feed_34 ⟨Nat.zero_le _, Nat.zero_le _⟩ (fun H locs hP hD hS => ?_)
    refine lv_aload_n hx hb dX8_feed_37 rfl (lv_at hl 0 rfl) ?_
    refine lv_iload hx hb dX8_feed_38 (lv_at hl 5 rfl) ?_
    obtain ⟨q40, e40, h⟩ := g_b h
    refine callVvs (cc := cX8_feed) (w1 := zzM ad cy (us iM [(1, q40.1)]) (us aM [(0, q40.2)])) (As := [.int a5]) (rest := []) ⟨hx, hb, hml, hown, hts⟩ (c_M_four l dC dI cy ad H.size N a5 ((us iM [(1, q34.1)])) ((us aM [(0, q34.2)])) q40 e40) (cwV 1 hts (goodV m_ml_X8_150 m_im_X8_four m_se_X8_four m_in_X8 m_cd_X8_four) rfl rfl rfl (by decide +kernel) ⟨Nat.le_of_ble_eq_true rfl, Nat.le_of_ble_eq_true rfl⟩) hN hK hP hD hS hA rfl 0 rfl rfl rfl hl.1 rfl (Nat.le_of_ble_eq_true rfl) dX8_feed_40 ⟨Nat.zero_le _, Nat.zero_le _⟩ (fun H locs hP hD hS => ?_)
    refine lv_aload_n hx hb dX8_feed_43 rfl (lv_at hl 0 rfl) ?_
    refine va_get (D := (dC, dI)) (ci := 8) (v := .int q40.1) (C := RX8) (T := TX8) (N := 78) hx hb hts ki8 hown hK hP 0 rfl rfl 1 (by decide) kf147 (fun _ h9 => h9) rfl dX8_feed_44 ?_
    have h' := Option.some.inj h
    rw [← hQQ]
    exact W.iret (v := q40.1) hx hb hr (fun t ht hW => ⟨⟨q40.1, (), rfl, by rw [← h'], by rw [← hWQ, ← h', ht]; exact hP, va_K.moved hW.alike hK⟩, hS.F ht⟩) hS.2.2 dX8_feed_47
  · have h := g_f h cz
    refine lv_bipush (v := (-104)) hx hb dX8_feed_13 (by decide) ?_
    have h' := Option.some.inj h
    rw [← hQQ]
    exact W.iret (v := (-104 : Int32)) hx hb hr (fun t ht hW => ⟨⟨(-104 : Int32), (), rfl, by rw [← h'], by rw [← hWQ, ← h', ht]; exact hP, va_K.moved hW.alike hK⟩, hS.F ht⟩) hS.2.2 dX8_feed_15
