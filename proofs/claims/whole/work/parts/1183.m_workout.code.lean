def f_M_workOut (N : Nat) (iM : Nat → Int32) (aM : Nat → Nat → Int32) : Option ((Nat → Int32) × (Nat → Nat → Int32)) := (f_M_findTruths N ((iM 14)) ((iM 36)) ((aM 8)) ((aM 9)) ((aM 10)) ((aM 11)) ((aM 13)) ((aM 30)) ((aM 32)) ((aM 34)) ((aM 35)) ((aM 57)) ((aM 58)) ((aM 59)) ((aM 60))).bind fun q1 => ((f_M_sift N ((0 : Int32)) ((1 : Int32)) ((iM 20)) ((iM 28)) ((iM 36)) ((iM 64)) ((iM 65)) ((aM 15)) ((aM 16)) ((aM 17)) ((aM 19)) ((aM 29)) q1.1 q1.2.1 q1.2.2.1 q1.2.2.2 ((aM 61)) ((aM 62)) ((aM 63))).bind fun q7 => (some ((us iM [(64, q7.1), (65, q7.2.1)]), (us aM [(57, q1.1), (58, q1.2.1), (59, q1.2.2.1), (60, q1.2.2.2), (61, q7.2.2.1), (62, q7.2.2.2.1), (63, q7.2.2.2.2)]))))
set_option maxHeartbeats 8000000 in
set_option maxRecDepth 100000 in
theorem c_M_workOut (l : Launch) (dC : Nat → ClassId) (dI : Nat → Nat → Nat) (cy : Nat → ClassId) (ad : Nat → Nat) (sz : Nat) (N : Nat) (iM : Nat → Int32) (aM : Nat → Nat → Int32) (q : (Nat → Int32) × (Nat → Nat → Int32)) (h : f_M_workOut N iM aM = some q) : Met l yX8_workOut wsX8_workOut ({ frames := 4, cells := 0, slots := 0, locals := 100 } : Room) (cP (dC, dI) cy [.ref (ad 0)] (zzM ad cy iM aM) sz) (cQv (dC, dI) cy (zzM ad cy q.1 q.2) (va_A (zzM ad cy iM aM) sz)) 0 0 (va_A (zzM ad cy iM aM) sz) := by
  refine Met.ofW (cc := cX8_workOut) (maxL := 1) (ret := none) (by decide) rfl ?_
  intro p e s m args below meth c s₁ B hml hv
  obtain ⟨hav, hsz, hP, hK, hD0, hN⟩ := hv
  have hx := B.exec
  have hb := B.bytes
  have hr := B.returns
  have hts := atoms_spec (ws := wsX8_workOut) B.pre
  have hown : s.vm.findClass RX8 = some m.cls := findClass_of_methodNamed B.named
  have hlocks := B.notSynchronized
  subst hsz
  have hD := hD0.self (sz := s.heap.size)
  generalize hAe : va_A (zzM ad cy iM aM) s.heap.size = A at hD ⊢
  have hA : ∀ q : Nat, s.heap.size ≤ q → A q := fun q h => by rw [← hAe]; exact Or.inr h
  have hS : va_S A s.heap s.heap [] := va_S.rf
  generalize hWQ : (zzM ad cy q.1 q.2) = WQ
  generalize hQQ : MQ below (cQv (dC, dI) cy WQ A) args s 0 0 A = QQ
  have hl := lv_entry ([.ref (ad 0)] : List Value) (n := 1) (Nat.le_of_ble_eq_true rfl)
  have hfr := lg_entry_eq m ([.ref (ad 0)] : List Value) 1
  rw [← hav] at hfr
  rw [hfr]
  clear hfr hav
  generalize (lg_sl ([.ref (ad 0)] : List Value) ++ List.replicate (1 - (lg_sl ([.ref (ad 0)] : List Value)).length) Slot.unset).toArray = ls at hl ⊢
  have hl : lv_has ls 1 [(0, .ref (ad 0))] := hl
  refine (?_ : ∀ (H : Heap) (locs : List Loc), va_P (dC, dI) vwCl (zzM ad cy iM aM) H → va_D A (zzM ad cy iM aM) → va_S A s.heap H locs → W p l e ({ frames := 4, cells := 0, slots := 0, locals := 100 } : Room) s m args below meth c H locs 0 0 QQ (F0 m 0 ls [])) s.heap [] hP hD hS
  clear hP hD hS
  intro H locs hP hD hS
  unfold f_M_workOut at h
  refine lv_aload_n hx hb dX8_workOut_0 rfl (lv_at hl 0 rfl) ?_
  obtain ⟨q1, e1, h⟩ := g_b h
  refine callVvs (cc := cX8_workOut) (w1 := zzM ad cy iM (us aM [(57, q1.1), (58, q1.2.1), (59, q1.2.2.1), (60, q1.2.2.2)])) (As := []) (rest := []) ⟨hx, hb, hml, hown, hts⟩ (c_M_findTruths l dC dI cy ad H.size N iM aM q1 e1) (cwV 0 hts (goodV m_ml_X8_395 m_im_X8_findTruths m_se_X8_findTruths m_in_X8 m_cd_X8_findTruths) rfl rfl rfl (by decide +kernel) ⟨Nat.le_of_ble_eq_true rfl, Nat.le_of_ble_eq_true rfl⟩) hN hK hP hD hS hA rfl 0 rfl rfl rfl hl.1 rfl (Nat.le_of_ble_eq_true rfl) dX8_workOut_1 ⟨Nat.zero_le _, Nat.zero_le _⟩ (fun H locs hP hD hS => ?_)
  refine lv_aload_n hx hb dX8_workOut_4 rfl (lv_at hl 0 rfl) ?_
  refine lv_iconst (v := 0) hx hb dX8_workOut_5 (by decide) ?_
  refine lv_iconst (v := 1) hx hb dX8_workOut_6 (by decide) ?_
  obtain ⟨q7, e7, h⟩ := g_b h
  refine callVvs (cc := cX8_workOut) (w1 := zzM ad cy (us iM [(64, q7.1), (65, q7.2.1)]) (us aM [(57, q1.1), (58, q1.2.1), (59, q1.2.2.1), (60, q1.2.2.2), (61, q7.2.2.1), (62, q7.2.2.2.1), (63, q7.2.2.2.2)])) (As := [.int ((0 : Int32)), .int ((1 : Int32))]) (rest := []) ⟨hx, hb, hml, hown, hts⟩ (c_M_sift l dC dI cy ad H.size N ((0 : Int32)) ((1 : Int32)) iM ((us aM [(57, q1.1), (58, q1.2.1), (59, q1.2.2.1), (60, q1.2.2.2)])) q7 e7) (cwV 2 hts (goodV m_ml_X8_398 m_im_X8_sift m_se_X8_sift m_in_X8 m_cd_X8_sift) rfl rfl rfl (by decide +kernel) ⟨Nat.le_of_ble_eq_true rfl, Nat.le_of_ble_eq_true rfl⟩) hN hK hP hD hS hA rfl 0 rfl rfl rfl hl.1 rfl (Nat.le_of_ble_eq_true rfl) dX8_workOut_7 ⟨Nat.zero_le _, Nat.zero_le _⟩ (fun H locs hP hD hS => ?_)
  have h' := Option.some.inj h
  rw [← hQQ]
  exact W.vret hx hb hr (fun t ht hW => ⟨⟨(), rfl, trivial, by rw [← hWQ, ← h', ht]; exact hP, va_K.moved hW.alike hK⟩, hS.F ht⟩) hS.2.2 dX8_workOut_10
