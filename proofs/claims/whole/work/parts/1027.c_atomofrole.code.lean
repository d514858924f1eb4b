def f_C_atomOfRole_26 (N : Nat) (iC4 : Int32) (iC9 : Int32) (aC0 : Nat → Int32) (aC1 : Nat → Int32) (aC5 : Nat → Int32) (aC6 : Nat → Int32) (aC7 : Nat → Int32) (aC8 : Nat → Int32) (v1 : Int32) (v2 : Int32) (v3 : Int32) : Option (Int32 × Int32 × (Nat → Int32) × (Nat → Int32) × (Nat → Int32) × (Nat → Int32)) := (f_C_atomFor N v1 ((-1 : Int32)) v2 v3 iC9 aC5 aC6 aC7 aC8).bind fun q31 => (some (q31.1, q31.2.1, q31.2.2.1, q31.2.2.2.1, q31.2.2.2.2.1, q31.2.2.2.2.2))
def f_C_atomOfRole (N : Nat) (a1 : Int32) (a2 : Int32) (a3 : Int32) (iC4 : Int32) (iC9 : Int32) (aC0 : Nat → Int32) (aC1 : Nat → Int32) (aC5 : Nat → Int32) (aC6 : Nat → Int32) (aC7 : Nat → Int32) (aC8 : Nat → Int32) : Option (Int32 × Int32 × (Nat → Int32) × (Nat → Int32) × (Nat → Int32) × (Nat → Int32)) := if a3 = 0 then ((f_C_sortOf a2 iC4 aC0).bind fun q6 => (if q6 = (3 : Int32) then ((f_C_leftOf a2 iC4 aC1).bind fun q18 => ((f_C_atomFor N a1 ((-1 : Int32)) q18 ((1 : Int32)) iC9 aC5 aC6 aC7 aC8).bind fun q22 => (some (q22.1, q22.2.1, q22.2.2.1, q22.2.2.2.1, q22.2.2.2.2.1, q22.2.2.2.2.2)))) else (f_C_atomOfRole_26 N iC4 iC9 aC0 aC1 aC5 aC6 aC7 aC8 a1 a2 a3))) else (f_C_atomOfRole_26 N iC4 iC9 aC0 aC1 aC5 aC6 aC7 aC8 a1 a2 a3)
set_option maxHeartbeats 8000000 in
set_option maxRecDepth 100000 in
theorem c_C_atomOfRole (l : Launch) (dC : Nat → ClassId) (dI : Nat → Nat → Nat) (cy : Nat → ClassId) (ad : Nat → Nat) (sz : Nat) (N : Nat) (a1 : Int32) (a2 : Int32) (a3 : Int32) (iC : Nat → Int32) (aC : Nat → Nat → Int32) (q : Int32 × Int32 × (Nat → Int32) × (Nat → Int32) × (Nat → Int32) × (Nat → Int32)) (h : f_C_atomOfRole N a1 a2 a3 (iC 4) (iC 9) (aC 0) (aC 1) (aC 5) (aC 6) (aC 7) (aC 8) = some q) : Met l yX1_atomOfRole wsX1_atomOfRole ({ frames := 1, cells := 0, slots := 0, locals := 25 } : Room) (cP (dC, dI) cy [.ref (ad 0), .int a1, .int a2, .int a3] (zzC ad cy iC aC) sz) (cQi (dC, dI) cy q.1 (zzC ad cy (us iC [(9, q.2.1)]) (us aC [(5, q.2.2.1), (6, q.2.2.2.1), (7, q.2.2.2.2.1), (8, q.2.2.2.2.2)])) (va_A (zzC ad cy iC aC) sz)) 0 0 (va_A (zzC ad cy iC aC) sz) := by
  refine Met.ofW (cc := cX1_atomOfRole) (maxL := 4) (ret := (some .int)) (by decide) rfl ?_
  intro p e s m args below meth c s₁ B hml hv
  obtain ⟨hav, hsz, hP, hK, hD0, hN⟩ := hv
  have hx := B.exec
  have hb := B.bytes
  have hr := B.returns
  have hts := atoms_spec (ws := wsX1_atomOfRole) B.pre
  have hown : s.vm.findClass RX1 = some m.cls := findClass_of_methodNamed B.named
  have hlocks := B.notSynchronized
  subst hsz
  have hD := hD0.self (sz := s.heap.size)
  generalize hAe : va_A (zzC ad cy iC aC) s.heap.size = A at hD ⊢
  have hA : ∀ q : Nat, s.heap.size ≤ q → A q := fun q h => by rw [← hAe]; exact Or.inr h
  have hS : va_S A s.heap s.heap [] := va_S.rf
  generalize hWQ : (zzC ad cy (us iC [(9, q.2.1)]) (us aC [(5, q.2.2.1), (6, q.2.2.2.1), (7, q.2.2.2.2.1), (8, q.2.2.2.2.2)])) = WQ
  generalize hQQ : MQ below (cQi (dC, dI) cy q.1 WQ A) args s 0 0 A = QQ
  have hl := lv_entry ([.ref (ad 0), .int a1, .int a2, .int a3] : List Value) (n := 4) (Nat.le_of_ble_eq_true rfl)
  have hfr := lg_entry_eq m ([.ref (ad 0), .int a1, .int a2, .int a3] : List Value) 4
  rw [← hav] at hfr
  rw [hfr]
  clear hfr hav
  generalize (lg_sl ([.ref (ad 0), .int a1, .int a2, .int a3] : List Value) ++ List.replicate (4 - (lg_sl ([.ref (ad 0), .int a1, .int a2, .int a3] : List Value)).length) Slot.unset).toArray = ls at hl ⊢
  have hl : lv_has ls 4 [(0, .ref (ad 0)), (1, .int a1), (2, .int a2), (3, .int a3)] := hl
  refine (?_ : ∀ (H : Heap) (locs : List Loc), va_P (dC, dI) vwCl (zzC ad cy iC aC) H → va_D A (zzC ad cy iC aC) → va_S A s.heap H locs → W p l e ({ frames := 1, cells := 0, slots := 0, locals := 25 } : Room) s m args below meth c H locs 0 0 QQ (F0 m 0 ls [])) s.heap [] hP hD hS
  clear hP hD hS
  have B26 : ∀ (v1 : Int32) (v2 : Int32) (v3 : Int32) (H : Heap) (locs : List Loc) (ls : Array Slot), f_C_atomOfRole_26 N (iC 4) (iC 9) (aC 0) (aC 1) (aC 5) (aC 6) (aC 7) (aC 8) v1 v2 v3 = some q → va_P (dC, dI) vwCl (zzC ad cy iC aC) H → va_D A (zzC ad cy iC aC) → va_S A s.heap H locs → lv_has ls 4 [(0, .ref (ad 0)), (1, .int v1), (2, .int v2), (3, .int v3)] → W p l e ({ frames := 1, cells := 0, slots := 0, locals := 25 } : Room) s m args below meth c H locs 0 0 QQ (F0 m 26 ls []) := by
    intro v1 v2 v3 H locs ls h hP hD hS hl
    unfold f_C_atomOfRole_26 at h
    refine lv_aload_n hx hb dX1_atomOfRole_26 rfl (lv_at hl 0 rfl) ?_
    refine lv_iload_n hx hb dX1_atomOfRole_27 rfl (lv_at hl 1 rfl) ?_
    refine lv_iconst (v := (-1)) hx hb dX1_atomOfRole_28 (by decide) ?_
    refine lv_iload_n hx hb dX1_atomOfRole_29 rfl (lv_at hl 2 rfl) ?_
    refine lv_iload_n hx hb dX1_atomOfRole_30 rfl (lv_at hl 3 rfl) ?_
    obtain ⟨q31, e31, h⟩ := g_b h
    refine callVis (cc := cX1_atomOfRole) (w1 := zzC ad cy (us iC [(9, q31.2.1)]) (us aC [(5, q31.2.2.1), (6, q31.2.2.2.1), (7, q31.2.2.2.2.1), (8, q31.2.2.2.2.2)])) (As := [.int v1, .int ((-1 : Int32)), .int v2, .int v3]) (rest := []) ⟨hx, hb, hml, hown, hts⟩ (c_C_atomFor l dC dI cy ad H.size N v1 ((-1 : Int32)) v2 v3 iC aC q31 e31) (cwV 4 hts (goodV m_ml_X1_47 m_im_X1_atomFor m_se_X1_atomFor m_in_X1 m_cd_X1_atomFor) rfl rfl rfl (by decide +kernel) ⟨Nat.le_of_ble_eq_true rfl, Nat.le_of_ble_eq_true rfl⟩) hN hK hP hD hS hA rfl 0 rfl rfl rfl hl.1 rfl (Nat.le_of_ble_eq_true rfl) dX1_atomOfRole_31 ⟨Nat.zero_le _, Nat.zero_le _⟩ (fun H locs hP hD hS => ?_)
    have h' := Option.some.inj h
    rw [← hQQ]
    exact W.iret (v := q31.1) hx hb hr (fun t ht hW => ⟨⟨q31.1, (), rfl, by rw [← h'], by rw [← hWQ, ← h', ht]; exact hP, va_K.moved hW.alike hK⟩, hS.F ht⟩) hS.2.2 dX1_atomOfRole_34
  intro H locs hP hD hS
  unfold f_C_atomOfRole at h
  refine lv_iload_n hx hb dX1_atomOfRole_0 rfl (lv_at hl 3 rfl) ?_
  refine lv_if_ne (tgt := 26) hx hb dX1_atomOfRole_1 (by decide) (fun cz => ?_) (fun cz => ?_)
  · have h := g_f h cz
    exact B26 a1 a2 a3 H locs ls h hP hD hS (lv_sub hl [0, 1, 2, 3] rfl)
  · have h := g_t h cz
    refine lv_aload_n hx hb dX1_atomOfRole_4 rfl (lv_at hl 0 rfl) ?_
    refine lv_iload_n hx hb dX1_atomOfRole_5 rfl (lv_at hl 2 rfl) ?_
    obtain ⟨q6, e6, h⟩ := g_b h
    refine callVis (cc := cX1_atomOfRole) (w1 := zzC ad cy iC aC) (As := [.int a2]) (rest := []) ⟨hx, hb, hml, hown, hts⟩ (c_C_sortOf l dC dI cy ad H.size a2 iC aC q6 e6) (cwV 1 hts (goodV m_ml_X1_54 m_im_X1_sortOf m_se_X1_sortOf m_in_X1 m_cd_X1_sortOf) rfl rfl rfl (by decide +kernel) ⟨Nat.le_of_ble_eq_true rfl, Nat.le_of_ble_eq_true rfl⟩) hN hK hP hD hS hA rfl 0 rfl rfl rfl hl.1 rfl (Nat.le_of_ble_eq_true rfl) dX1_atomOfRole_6 ⟨Nat.zero_le _, Nat.zero_le _⟩ (fun H locs hP hD hS => ?_)
    refine lv_iconst (v := 3) hx hb dX1_atomOfRole_9 (by decide) ?_
    refine lv_icmp_ne (tgt := 26) hx hb dX1_atomOfRole_10 (by decide) (fun cz => ?_) (fun cz => ?_)
    · have h := g_f h cz
      exact B26 a1 a2 a3 H locs ls h hP hD hS (lv_sub hl [0, 1, 2, 3] rfl)
    · have h := g_t h cz
      refine lv_aload_n hx hb dX1_atomOfRole_13 rfl (lv_at hl 0 rfl) ?_
      refine lv_iload_n hx hb dX1_atomOfRole_14 rfl (lv_at hl 1 rfl) ?_
      refine lv_iconst (v := (-1)) hx hb dX1_atomOfRole_15 (by decide) ?_
      refine lv_aload_n hx hb dX1_atomOfRole_16 rfl (lv_at hl 0 rfl) ?_
      refine lv_iload_n hx hb dX1_atomOfRole_17 rfl (lv_at hl 2 rfl) ?_
      obtain ⟨q18, e18, h⟩ := g_b h
      refine callVis (cc := cX1_atomOfRole) (w1 := zzC ad cy iC aC) (As := [.int a2]) (rest := [.int ((-1 : Int32)), .int a1, .ref (ad 0)]) ⟨hx, hb, hml, hown, hts⟩ (c_C_leftOf l dC dI cy ad H.size a2 iC aC q18 e18) (cwV 1 hts (goodV m_ml_X1_58 m_im_X1_leftOf m_se_X1_leftOf m_in_X1 m_cd_X1_leftOf) rfl rfl rfl (by decide +kernel) ⟨Nat.le_of_ble_eq_true rfl, Nat.le_of_ble_eq_true rfl⟩) hN hK hP hD hS hA rfl 0 rfl rfl rfl hl.1 rfl (Nat.le_of_ble_eq_true rfl) dX1_atomOfRole_18 ⟨Nat.zero_le _, Nat.zero_le _⟩ (fun H locs hP hD hS => ?_)
      refine lv_iconst (v := 1) hx hb dX1_atomOfRole_21 (by decide) ?_
      obtain ⟨q22, e22, h⟩ := g_b h
      refine callVis (cc := cX1_atomOfRole) (w1 := zzC ad cy (us iC [(9, q22.2.1)]) (us aC [(5, q22.2.2.1), (6, q22.2.2.2.1), (7, q22.2.2.2.2.1), (8, q22.2.2.2.2.2)])) (As := [.int a1, .int ((-1 : Int32)), .int q18, .int ((1 : Int32))]) (rest := []) ⟨hx, hb, hml, hown, hts⟩ (c_C_atomFor l dC dI cy ad H.size N a1 ((-1 : Int32)) q18 ((1 : Int32)) iC aC q22 e22) (cwV 4 hts (goodV m_ml_X1_47 m_im_X1_atomFor m_se_X1_atomFor m_in_X1 m_cd_X1_atomFor) rfl rfl rfl (by decide +kernel) ⟨Nat.le_of_ble_eq_true rfl, Nat.le_of_ble_eq_true rfl⟩) hN hK hP hD hS hA rfl 0 rfl rfl rfl hl.1 rfl (Nat.le_of_ble_eq_true rfl) dX1_atomOfRole_22 ⟨Nat.zero_le _, Nat.zero_le _⟩ (fun H locs hP hD hS => ?_)
      have h' := Option.some.inj h
      rw [← hQQ]
      exact W.iret (v := q22.1) hx hb hr (fun t ht hW => ⟨⟨q22.1, (), rfl, by rw [← h'], by rw [← hWQ, ← h', ht]; exact hP, va_K.moved hW.alike hK⟩, hS.F ht⟩) hS.2.2 dX1_atomOfRole_25
