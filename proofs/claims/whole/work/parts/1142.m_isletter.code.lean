def f_M_isLetter (a0 : Int32) : Option Int32 := (f_M_in (a0).toInt64 ((97 : Int64)) ((122 : Int64))).bind fun q8 => (if vp_nar .boolean q8 = q8 then (some q8) else none)
set_option maxHeartbeats 8000000 in
set_option maxRecDepth 100000 in
theorem c_M_isLetter (l : Launch) (dC : Nat → ClassId) (dI : Nat → Nat → Nat) (cy : Nat → ClassId) (ad : Nat → Nat) (sz : Nat) (a0 : Int32) (q : Int32) (h : f_M_isLetter a0 = some q) : Met l yX8_isLetter wsX8_isLetter ({ frames := 1, cells := 0, slots := 0, locals := 25 } : Room) (cP (dC, dI) cy [.int a0] (zzE ad cy) sz) (cQi (dC, dI) cy q (zzE ad cy) (va_A (zzE ad cy) sz)) 0 0 (va_A (zzE ad cy) sz) := by
  refine Met.ofW (cc := cX8_isLetter) (maxL := 1) (ret := (some .boolean)) (by decide) rfl ?_
  intro p e s m args below meth c s₁ B hml hv
  obtain ⟨hav, hsz, hP, hK, hD0, hN⟩ := hv
  have hx := B.exec
  have hb := B.bytes
  have hr := B.returns
  have hts := atoms_spec (ws := wsX8_isLetter) B.pre
  have hown : s.vm.findClass RX8 = some m.cls := findClass_of_methodNamed B.named
  have hlocks := B.notSynchronized
  subst hsz
  have hD := hD0.self (sz := s.heap.size)
  generalize hAe : va_A (zzE ad cy) s.heap.size = A at hD ⊢
  have hA : ∀ q : Nat, s.heap.size ≤ q → A q := fun q h => by rw [← hAe]; exact Or.inr h
  have hS : va_S A s.heap s.heap [] := va_S.rf
  generalize hWQ : (zzE ad cy) = WQ
  generalize hQQ : MQ below (cQi (dC, dI) cy q WQ A) args s 0 0 A = QQ
  have hl := lv_entry ([.int a0] : List Value) (n := 1) (Nat.le_of_ble_eq_true rfl)
  have hfr := lg_entry_eq m ([.int a0] : List Value) 1
  rw [← hav] at hfr
  rw [hfr]
  clear hfr hav
  generalize (lg_sl ([.int a0] : List Value) ++ List.replicate (1 - (lg_sl ([.int a0] : List Value)).length) Slot.unset).toArray = ls at hl ⊢
  have hl : lv_has ls 1 [(0, .int a0)] := hl
  have kc158 := hts _ (List.mem_cons_of_mem _ m_kl_X8_158)
  have kc160 := hts _ (List.mem_cons_of_mem _ m_kl_X8_160)
  refine (?_ : ∀ (H : Heap) (locs : List Loc), va_P (dC, dI) vwCl (zzE ad cy) H → va_D A (zzE ad cy) → va_S A s.heap H locs → W p l e ({ frames := 1, cells := 0, slots := 0, locals := 25 } : Room) s m args below meth c H locs 0 0 QQ (F0 m 0 ls [])) s.heap [] hP hD hS
  clear hP hD hS
  intro H locs hP hD hS
  unfold f_M_isLetter at h
  refine lv_iload_n hx hb dX8_isLetter_0 rfl (lv_at hl 0 rfl) ?_
  refine lv_i2l (v := (a0).toInt64) hx hb dX8_isLetter_1 rfl ?_
  refine lv_ldc2 (v := 97) hx hb hown kc158 dX8_isLetter_2 ?_
  refine lv_ldc2 (v := 122) hx hb hown kc160 dX8_isLetter_5 ?_
  obtain ⟨q8, e8, h⟩ := g_b h
  refine callSis (cc := cX8_isLetter) (w1 := zzE ad cy) (As := [.long (a0).toInt64, .long ((97 : Int64)), .long ((122 : Int64))]) (rest := []) ⟨hx, hb, hml, hown, hts⟩ (c_M_in l dC dI cy ad H.size (a0).toInt64 ((97 : Int64)) ((122 : Int64)) q8 e8) (va_cwS 3 hts (goodS m_ml_X8_154 m_st_X8_in m_in_X8 m_cd_X8_in) rfl rfl rfl (by decide +kernel) ⟨Nat.le_of_ble_eq_true rfl, Nat.le_of_ble_eq_true rfl⟩) hN hK hP hD hS hA rfl rfl hl.1 rfl (Nat.le_of_ble_eq_true rfl) dX8_isLetter_8 ⟨Nat.zero_le _, Nat.zero_le _⟩ (fun H locs hP hD hS => ?_)
  obtain ⟨gz, h⟩ := g_p h
  have h' := Option.some.inj h
  rw [← hQQ]
  exact W.zret (v := q8) hx hb hr (g_zr _ gz) (fun t ht hW => ⟨⟨q8, (), rfl, by rw [← h'], by rw [← hWQ, ht]; exact hP, va_K.moved hW.alike hK⟩, hS.F ht⟩) hS.2.2 dX8_isLetter_11
