def f_W_to (a1 : Int32) (iW4 : Int32) (aW3 : Nat → Int32) : Option Int32 := (f_W_edgeAt a1 iW4 aW3).bind fun q2 => (some ((q2 >>> ((10 : Int32) &&& 31)) &&& (1023 : Int32)))
set_option maxHeartbeats 8000000 in
set_option maxRecDepth 100000 in
theorem c_W_to (l : Launch) (dC : Nat → ClassId) (dI : Nat → Nat → Nat) (cy : Nat → ClassId) (ad : Nat → Nat) (sz : Nat) (a1 : Int32) (iW : Nat → Int32) (aW : Nat → Nat → Int32) (q : Int32) (h : f_W_to a1 (iW 4) (aW 3) = some q) : Met l yX6_to wsX6_to ({ frames := 1, cells := 0, slots := 0, locals := 21 } : Room) (cP (dC, dI) cy [.ref (ad 0), .int a1] (zzw ad cy iW aW) sz) (cQi (dC, dI) cy q (zzw ad cy iW aW) (va_A (zzw ad cy iW aW) sz)) 0 0 (va_A (zzw ad cy iW aW) sz) := by
  refine Met.ofW (cc := cX6_to) (maxL := 2) (ret := (some .int)) (by decide) rfl ?_
  intro p e s m args below meth c s₁ B hml hv
  obtain ⟨hav, hsz, hP, hK, hD0, hN⟩ := hv
  have hx := B.exec
  have hb := B.bytes
  have hr := B.returns
  have hts := atoms_spec (ws := wsX6_to) B.pre
  have hown : s.vm.findClass RX6 = some m.cls := findClass_of_methodNamed B.named
  have hlocks := B.notSynchronized
  subst hsz
  have hD := hD0.self (sz := s.heap.size)
  generalize hAe : va_A (zzw ad cy iW aW) s.heap.size = A at hD ⊢
  have hA : ∀ q : Nat, s.heap.size ≤ q → A q := fun q h => by rw [← hAe]; exact Or.inr h
  have hS : va_S A s.heap s.heap [] := va_S.rf
  generalize hWQ : (zzw ad cy iW aW) = WQ
  generalize hQQ : MQ below (cQi (dC, dI) cy q WQ A) args s 0 0 A = QQ
  have hl := lv_entry ([.ref (ad 0), .int a1] : List Value) (n := 2) (Nat.le_of_ble_eq_true rfl)
  have hfr := lg_entry_eq m ([.ref (ad 0), .int a1] : List Value) 2
  rw [← hav] at hfr
  rw [hfr]
  clear hfr hav
  generalize (lg_sl ([.ref (ad 0), .int a1] : List Value) ++ List.replicate (2 - (lg_sl ([.ref (ad 0), .int a1] : List Value)).length) Slot.unset).toArray = ls at hl ⊢
  have hl : lv_has ls 2 [(0, .ref (ad 0)), (1, .int a1)] := hl
  refine (?_ : ∀ (H : Heap) (locs : List Loc), va_P (dC, dI) vwCl (zzw ad cy iW aW) H → va_D A (zzw ad cy iW aW) → va_S A s.heap H locs → W p l e ({ frames := 1, cells := 0, slots := 0, locals := 21 } : Room) s m args below meth c H locs 0 0 QQ (F0 m 0 ls [])) s.heap [] hP hD hS
  clear hP hD hS
  intro H locs hP hD hS
  unfold f_W_to at h
  refine lv_aload_n hx hb dX6_to_0 rfl (lv_at hl 0 rfl) ?_
  refine lv_iload_n hx hb dX6_to_1 rfl (lv_at hl 1 rfl) ?_
  obtain ⟨q2, e2, h⟩ := g_b h
  refine callVis (cc := cX6_to) (w1 := zzw ad cy iW aW) (As := [.int a1]) (rest := []) ⟨hx, hb, hml, hown, hts⟩ (c_W_edgeAt l dC dI cy ad H.size a1 iW aW q2 e2) (cwV 1 hts (goodV m_ml_X6_67 m_im_X6_edgeAt m_se_X6_edgeAt m_in_X6 m_cd_X6_edgeAt) rfl rfl rfl (by decide +kernel) ⟨Nat.le_of_ble_eq_true rfl, Nat.le_of_ble_eq_true rfl⟩) hN hK hP hD hS hA rfl 0 rfl rfl rfl hl.1 rfl (Nat.le_of_ble_eq_true rfl) dX6_to_2 ⟨Nat.zero_le _, Nat.zero_le _⟩ (fun H locs hP hD hS => ?_)
  refine lv_bipush (v := 10) hx hb dX6_to_5 (by decide) ?_
  refine lv_ishr hx hb dX6_to_7 ?_
  refine lv_sipush (v := 1023) hx hb dX6_to_8 (by decide) ?_
  refine lv_iand hx hb dX6_to_11 ?_
  have h' := Option.some.inj h
  rw [← hQQ]
  exact W.iret (v := ((q2 >>> ((10 : Int32) &&& 31)) &&& (1023 : Int32))) hx hb hr (fun t ht hW => ⟨⟨((q2 >>> ((10 : Int32) &&& 31)) &&& (1023 : Int32)), (), rfl, by rw [← h'], by rw [← hWQ, ht]; exact hP, va_K.moved hW.alike hK⟩, hS.F ht⟩) hS.2.2 dX6_to_12
