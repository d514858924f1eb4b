def f_M_same_34 (N : Nat) (iM22 : Int32) (iM36 : Int32) (iM37 : Int32) (aM21 : Nat → Int32) (aM57 : Nat → Int32) (aM62 : Nat → Int32) (v1 : Int32) (v2 : Int32) : Nat → Int32 → Int32 → Option Int32
  | 0, _, _ => none
  | n + 1, v3, v4 => (f_M_types iM36).bind fun q37 => (if q37 ≤ v4 then (if v3 = 0 then (some (0 : Int32)) else (some (1 : Int32))) else (if v3 = 0 then (f_M_same_34 N iM22 iM36 iM37 aM21 aM57 aM62 v1 v2 n ((0 : Int32)) ((v4 + (1 : Int32)))) else (if v4 < 0 ∨ 512 ≤ v4.toNatClampNeg then none else (if (aM62 v4.toNatClampNeg) = 0 then (f_M_same_34 N iM22 iM36 iM37 aM21 aM57 aM62 v1 v2 n ((1 : Int32)) ((v4 + (1 : Int32)))) else ((f_M_isAt v1 v4 aM21 aM57).bind fun q61 => ((f_M_isAt v2 v4 aM21 aM57).bind fun q68 => (if q61 = q68 then (f_M_same_34 N iM22 iM36 iM37 aM21 aM57 aM62 v1 v2 n ((1 : Int32)) ((v4 + (1 : Int32)))) else (f_M_same_34 N iM22 iM36 iM37 aM21 aM57 aM62 v1 v2 n ((0 : Int32)) ((v4 + (1 : Int32)))))))))))
def f_M_same (N : Nat) (a1 : Int32) (a2 : Int32) (iM22 : Int32) (iM36 : Int32) (iM37 : Int32) (aM21 : Nat → Int32) (aM57 : Nat → Int32) (aM62 : Nat → Int32) : Option Int32 := if iM37 = 0 then (some (-101 : Int32)) else ((f_M_noQuestion a1 iM22).bind fun q12 => (if q12 = 0 then ((f_M_noQuestion a2 iM22).bind fun q20 => (if q20 = 0 then (f_M_same_34 N iM22 iM36 iM37 aM21 aM57 aM62 a1 a2 N ((1 : Int32)) ((0 : Int32))) else (some (-102 : Int32)))) else (some (-102 : Int32))))
set_option maxHeartbeats 8000000 in
set_option maxRecDepth 100000 in
theorem c_M_same (l : Launch) (dC : Nat → ClassId) (dI : Nat → Nat → Nat) (cy : Nat → ClassId) (ad : Nat → Nat) (sz : Nat) (N : Nat) (a1 : Int32) (a2 : Int32) (iM : Nat → Int32) (aM : Nat → Nat → Int32) (q : Int32) (h : f_M_same N a1 a2 (iM 22) (iM 36) (iM 37) (aM 21) (aM 57) (aM 62) = some q) : Met l yX8_same wsX8_same ({ frames := 2, cells := 0, slots := 0, locals := 46 } : Room) (cP (dC, dI) cy [.ref (ad 0), .int a1, .int a2] (zzM ad cy iM aM) sz) (cQi (dC, dI) cy q (zzM ad cy iM aM) (va_A (zzM ad cy iM aM) sz)) 0 0 (va_A (zzM ad cy iM aM) sz) := by
  refine Met.ofW (cc := cX8_same) (maxL := 5) (ret := (some .int)) (by decide) rfl ?_
  intro p e s m args below meth c s₁ B hml hv
  obtain ⟨hav, hsz, hP, hK, hD0, hN⟩ := hv
  have hx := B.exec
  have hb := B.bytes
  have hr := B.returns
  have hts := atoms_spec (ws := wsX8_same) B.pre
  have hown : s.vm.findClass RX8 = some m.cls := findClass_of_methodNamed B.named
  have hlocks := B.notSynchronized
  subst hsz
  have hD := hD0.self (sz := s.heap.size)
  generalize hAe : va_A (zzM ad cy iM aM) s.heap.size = A at hD ⊢
  have hA : ∀ q : Nat, s.heap.size ≤ q → A q := fun q h => by rw [← hAe]; exact Or.inr h
  have hS : va_S A s.heap s.heap [] := va_S.rf
  generalize hWQ : (zzM ad cy iM aM) = WQ
  generalize hQQ : MQ below (cQi (dC, dI) cy q WQ A) args s 0 0 A = QQ
  have hl := lv_entry ([.ref (ad 0), .int a1, .int a2] : List Value) (n := 5) (Nat.le_of_ble_eq_true rfl)
  have hfr := lg_entry_eq m ([.ref (ad 0), .int a1, .int a2] : List Value) 5
  rw [← hav] at hfr
  rw [hfr]
  clear hfr hav
  generalize (lg_sl ([.ref (ad 0), .int a1, .int a2] : List Value) ++ List.replicate (5 - (lg_sl ([.ref (ad 0), .int a1, .int a2] : List Value)).length) Slot.unset).toArray = ls at hl ⊢
  have hl : lv_has ls 5 [(0, .ref (ad 0)), (1, .int a1), (2, .int a2)] := hl
  have kf117 := hts _ (List.mem_cons_of_mem _ m_fl_X8_117)
  have ki8 := (fun w h => List.mem_cons_of_mem _ (i_X8 w h) : ∀ w ∈ u_ws RX8 TX8 78, w ∈ wsX8_same)
  have kf356 := hts _ (List.mem_cons_of_mem _ m_fl_X8_356)
  refine (?_ : ∀ (H : Heap) (locs : List Loc), va_P (dC, dI) vwCl (zzM ad cy iM aM) H → va_D A (zzM ad cy iM aM) → va_S A s.heap H locs → W p l e ({ frames := 2, cells := 0, slots := 0, locals := 46 } : Room) s m args below meth c H locs 0 0 QQ (F0 m 0 ls [])) s.heap [] hP hD hS
  clear hP hD hS
  have B34 : ∀ (n : Nat) (v1 : Int32) (v2 : Int32) (v3 : Int32) (v4 : Int32) (H : Heap) (locs : List Loc) (ls : Array Slot), f_M_same_34 N (iM 22) (iM 36) (iM 37) (aM 21) (aM 57) (aM 62) v1 v2 n v3 v4 = some q → va_P (dC, dI) vwCl (zzM ad cy iM aM) H → va_D A (zzM ad cy iM aM) → va_S A s.heap H locs → lv_has ls 5 [(0, .ref (ad 0)), (1, .int v1), (2, .int v2), (3, .int v3), (4, .int v4)] → W p l e ({ frames := 2, cells := 0, slots := 0, locals := 46 } : Room) s m args below meth c H locs 0 0 QQ (F0 m 34 ls []) := by
    intro n
    induction n with
    | zero =>
      intro v1 v2 v3 v4 H locs ls h hP hD hS hl
      rw [f_M_same_34] at h
      cases h
    | succ n ih =>
      intro v1 v2 v3 v4 H locs ls h hP hD hS hl
      rw [f_M_same_34] at h
      refine lv_iload hx hb dX8_same_34 (lv_at hl 4 rfl) ?_
      refine lv_aload_n hx hb dX8_same_36 rfl (lv_at hl 0 rfl) ?_
      obtain ⟨q37, e37, h⟩ := g_b h
      refine callVis (cc := cX8_same) (w1 := zzM ad cy iM aM) (As := []) (rest := [.int v4]) ⟨hx, hb, hml, hown, hts⟩ (c_M_types l dC dI cy ad H.size iM aM q37 e37) (cwV 0 hts (goodV m_ml_X8_368 m_im_X8_types m_se_X8_types m_in_X8 m_cd_X8_types) rfl rfl rfl (by decide +kernel) ⟨Nat.le_of_ble_eq_true rfl, Nat.le_of_ble_eq_true rfl⟩) hN hK hP hD hS hA rfl 0 rfl rfl rfl hl.1 rfl (Nat.le_of_ble_eq_true rfl) dX8_same_37 ⟨Nat.zero_le _, Nat.zero_le _⟩ (fun H locs hP hD hS => ?_)
      refine lv_icmp_ge (tgt := 86) hx hb dX8_same_40 (by decide) (fun cz => ?_) (fun cz => ?_)
      · have h := g_t h cz
        refine lv_iload_n hx hb dX8_same_86 rfl (lv_at hl 3 rfl) ?_
        refine lv_if_eq (tgt := 94) hx hb dX8_same_87 (by decide) (fun cz => ?_) (fun cz => ?_)
        · have h := g_t h cz
          refine lv_iconst (v := 0) hx hb dX8_same_94 (by decide) ?_
          have h' := Option.some.inj h
          rw [← hQQ]
          exact W.iret (v := (0 : Int32)) hx hb hr (fun t ht hW => ⟨⟨(0 : Int32), (), rfl, by rw [← h'], by rw [← hWQ, ht]; exact hP, va_K.moved hW.alike hK⟩, hS.F ht⟩) hS.2.2 dX8_same_95
        · have h := g_f h cz
          refine lv_iconst (v := 1) hx hb dX8_same_90 (by decide) ?_
          refine lv_goto (tgt := 95) hx hb dX8_same_91 (by decide) ?_
          have h' := Option.some.inj h
          rw [← hQQ]
          exact W.iret (v := (1 : Int32)) hx hb hr (fun t ht hW => ⟨⟨(1 : Int32), (), rfl, by rw [← h'], by rw [← hWQ, ht]; exact hP, va_K.moved hW.alike hK⟩, hS.F ht⟩) hS.2.2 dX8_same_95
      · have h := g_f h cz
        refine lv_iload_n hx hb dX8_same_43 rfl (lv_at hl 3 rfl) ?_
        refine lv_if_eq (tgt := 78) hx hb dX8_same_44 (by decide) (fun cz => ?_) (fun cz => ?_)
        · have h := g_t h cz
          refine lv_iconst (v := 0) hx hb dX8_same_78 (by decide) ?_
          refine lv_istore_n (lv' := [(3, .int ((0 : Int32))), (0, .ref (ad 0)), (1, .int v1), (2, .int v2), (4, .int v4)]) hx hb dX8_same_79 rfl hl (by decide) rfl (fun ls hl => ?_)
          refine lv_iinc (v := (v4 + (1 : Int32))) (lv' := [(4, .int ((v4 + (1 : Int32)))), (3, .int ((0 : Int32))), (0, .ref (ad 0)), (1, .int v1), (2, .int v2)]) hx hb dX8_same_80 hl (k := 4) rfl rfl (by decide) rfl (fun ls hl => ?_)
          refine lv_goto (tgt := 34) hx hb dX8_same_83 (by decide) ?_
          exact ih v1 v2 ((0 : Int32)) ((v4 + (1 : Int32))) H locs ls h hP hD hS (lv_sub hl [2, 3, 4, 1, 0] rfl)
        · have h := g_f h cz
          refine lv_aload_n hx hb dX8_same_47 rfl (lv_at hl 0 rfl) ?_
          refine va_get (D := (dC, dI)) (ci := 8) (v := .ref (ad 34)) (C := RX8) (T := TX8) (N := 78) hx hb hts ki8 hown hK hP 0 rfl rfl 62 (by decide) kf117 (fun _ h9 => h9) rfl dX8_same_48 ?_
          refine lv_iload hx hb dX8_same_51 (lv_at hl 4 rfl) ?_
          obtain ⟨g_28, h⟩ := g_n h
          refine va_zald (f := (aM 62)) hx hb hK hP 34 4 rfl rfl g_28 dX8_same_53 ?_
          refine lv_if_eq (tgt := 74) hx hb dX8_same_54 (by decide) (fun cz => ?_) (fun cz => ?_)
          · have h := g_t h cz
            refine lv_iconst (v := 1) hx hb dX8_same_74 (by decide) ?_
            refine lv_goto (tgt := 79) hx hb dX8_same_75 (by decide) ?_
            refine lv_istore_n (lv' := [(3, .int ((1 : Int32))), (0, .ref (ad 0)), (1, .int v1), (2, .int v2), (4, .int v4)]) hx hb dX8_same_79 rfl hl (by decide) rfl (fun ls hl => ?_)
            refine lv_iinc (v := (v4 + (1 : Int32))) (lv' := [(4, .int ((v4 + (1 : Int32)))), (3, .int ((1 : Int32))), (0, .ref (ad 0)), (1, .int v1), (2, .int v2)]) hx hb dX8_same_80 hl (k := 4) rfl rfl (by decide) rfl (fun ls hl => ?_)
            refine lv_goto (tgt := 34) hx hb dX8_same_83 (by decide) ?_
            exact ih v1 v2 ((1 : Int32)) ((v4 + (1 : Int32))) H locs ls h hP hD hS (lv_sub hl [2, 3, 4, 1, 0] rfl)
          · have h := g_f h cz
            refine lv_aload_n hx hb dX8_same_57 rfl (lv_at hl 0 rfl) ?_
            refine lv_iload_n hx hb dX8_same_58 rfl (lv_at hl 1 rfl) ?_
            refine lv_iload hx hb dX8_same_59 (lv_at hl 4 rfl) ?_
            obtain ⟨q61, e61, h⟩ := g_b h
            refine callVis (cc := cX8_same) (w1 := zzM ad cy iM aM) (As := [.int v1, .int v4]) (rest := []) ⟨hx, hb, hml, hown, hts⟩ (c_M_isAt l dC dI cy ad H.size v1 v4 iM aM q61 e61) (cwV 2 hts (goodV m_ml_X8_414 m_im_X8_isAt m_se_X8_isAt m_in_X8 m_cd_X8_isAt) rfl rfl rfl (by decide +kernel) ⟨Nat.le_of_ble_eq_true rfl, Nat.le_of_ble_eq_true rfl⟩) hN hK hP hD hS hA rfl 0 rfl rfl rfl hl.1 rfl (Nat.le_of_ble_eq_true rfl) dX8_same_61 ⟨Nat.zero_le _, Nat.zero_le _⟩ (fun H locs hP hD hS => ?_)
            refine lv_aload_n hx hb dX8_same_64 rfl (lv_at hl 0 rfl) ?_
            refine lv_iload_n hx hb dX8_same_65 rfl (lv_at hl 2 rfl) ?_
            refine lv_iload hx hb dX8_same_66 (lv_at hl 4 rfl) ?_
            obtain ⟨q68, e68, h⟩ := g_b h
            refine callVis (cc := cX8_same) (w1 := zzM ad cy iM aM) (As := [.int v2, .int v4]) (rest := [.int q61]) ⟨hx, hb, hml, hown, hts⟩ (c_M_isAt l dC dI cy ad H.size v2 v4 iM aM q68 e68) (cwV 2 hts (goodV m_ml_X8_414 m_im_X8_isAt m_se_X8_isAt m_in_X8 m_cd_X8_isAt) rfl rfl rfl (by decide +kernel) ⟨Nat.le_of_ble_eq_true rfl, Nat.le_of_ble_eq_true rfl⟩) hN hK hP hD hS hA rfl 0 rfl rfl rfl hl.1 rfl (Nat.le_of_ble_eq_true rfl) dX8_same_68 ⟨Nat.zero_le _, Nat.zero_le _⟩ (fun H locs hP hD hS => ?_)
            refine lv_icmp_ne (tgt := 78) hx hb dX8_same_71 (by decide) (fun cz => ?_) (fun cz => ?_)
            · have h := g_f h cz
              refine lv_iconst (v := 0) hx hb dX8_same_78 (by decide) ?_
              refine lv_istore_n (lv' := [(3, .int ((0 : Int32))), (0, .ref (ad 0)), (1, .int v1), (2, .int v2), (4, .int v4)]) hx hb dX8_same_79 rfl hl (by decide) rfl (fun ls hl => ?_)
              refine lv_iinc (v := (v4 + (1 : Int32))) (lv' := [(4, .int ((v4 + (1 : Int32)))), (3, .int ((0 : Int32))), (0, .ref (ad 0)), (1, .int v1), (2, .int v2)]) hx hb dX8_same_80 hl (k := 4) rfl rfl (by decide) rfl (fun ls hl => ?_)
              refine lv_goto (tgt := 34) hx hb dX8_same_83 (by decide) ?_
              exact ih v1 v2 ((0 : Int32)) ((v4 + (1 : Int32))) H locs ls h hP hD hS (lv_sub hl [2, 3, 4, 1, 0] rfl)
            · have h := g_t h cz
              refine lv_iconst (v := 1) hx hb dX8_same_74 (by decide) ?_
              refine lv_goto (tgt := 79) hx hb dX8_same_75 (by decide) ?_
              refine lv_istore_n (lv' := [(3, .int ((1 : Int32))), (0, .ref (ad 0)), (1, .int v1), (2, .int v2), (4, .int v4)]) hx hb dX8_same_79 rfl hl (by decide) rfl (fun ls hl => ?_)
              refine lv_iinc (v := (v4 + (1 : Int32))) (lv' := [(4, .int ((v4 + (1 : Int32)))), (3, .int ((1 : Int32))), (0, .ref (ad 0)), (1, .int v1), (2, .int v2)]) hx hb dX8_same_80 hl (k := 4) rfl rfl (by decide) rfl (fun ls hl => ?_)
              refine lv_goto (tgt := 34) hx hb dX8_same_83 (by decide) ?_
              exact ih v1 v2 ((1 : Int32)) ((v4 + (1 : Int32))) H locs ls h hP hD hS (lv_sub hl [2, 3, 4, 1, 0] rfl)
  intro H locs hP hD hS
  unfold f_M_same at h
  refine lv_aload_n hx hb dX8_same_0 rfl (lv_at hl 0 rfl) ?_
  refine va_get (D := (dC, dI)) (ci := 8) (v := .int (iM 37)) (C := RX8) (T := TX8) (N := 78) hx hb hts ki8 hown hK hP 0 rfl rfl 37 (by decide) kf356 (fun _ h9 => h9) rfl dX8_same_1 ?_
  refine lv_if_ne (tgt := 10) hx hb dX8_same_4 (by decide) (fun cz => ?_) (fun cz => ?_)
  · have h := g_f h cz
    refine lv_aload_n hx hb dX8_same_10 rfl (lv_at hl 0 rfl) ?_
    refine lv_iload_n hx hb dX8_same_11 rfl (lv_at hl 1 rfl) ?_
    obtain ⟨q12, e12, h⟩ := g_b h
    refine callVis (cc := cX8_same) (w1 := zzM ad cy iM aM) (As := [.int a1]) (rest := []) ⟨hx, hb, hml, hown, hts⟩ (c_M_noQuestion l dC dI cy ad H.size a1 iM aM q12 e12) (cwV 1 hts (goodV m_ml_X8_411 m_im_X8_noQuestion m_se_X8_noQuestion m_in_X8 m_cd_X8_noQuestion) rfl rfl rfl (by decide +kernel) ⟨Nat.le_of_ble_eq_true rfl, Nat.le_of_ble_eq_true rfl⟩) hN hK hP hD hS hA rfl 0 rfl rfl rfl hl.1 rfl (Nat.le_of_ble_eq_true rfl) dX8_same_12 ⟨Nat.zero_le _, Nat.zero_le _⟩ (fun H locs hP hD hS => ?_)
    refine lv_if_ne (tgt := 26) hx hb dX8_same_15 (by decide) (fun cz => ?_) (fun cz => ?_)
    · have h := g_f h cz
      refine lv_bipush (v := (-102)) hx hb dX8_same_26 (by decide) ?_
      have h' := Option.some.inj h
      rw [← hQQ]
      exact W.iret (v := (-102 : Int32)) hx hb hr (fun t ht hW => ⟨⟨(-102 : Int32), (), rfl, by rw [← h'], by rw [← hWQ, ht]; exact hP, va_K.moved hW.alike hK⟩, hS.F ht⟩) hS.2.2 dX8_same_28
    · have h := g_t h cz
      refine lv_aload_n hx hb dX8_same_18 rfl (lv_at hl 0 rfl) ?_
      refine lv_iload_n hx hb dX8_same_19 rfl (lv_at hl 2 rfl) ?_
      obtain ⟨q20, e20, h⟩ := g_b h
      refine callVis (cc := cX8_same) (w1 := zzM ad cy iM aM) (As := [.int a2]) (rest := []) ⟨hx, hb, hml, hown, hts⟩ (c_M_noQuestion l dC dI cy ad H.size a2 iM aM q20 e20) (cwV 1 hts (goodV m_ml_X8_411 m_im_X8_noQuestion m_se_X8_noQuestion m_in_X8 m_cd_X8_noQuestion) rfl rfl rfl (by decide +kernel) ⟨Nat.le_of_ble_eq_true rfl, Nat.le_of_ble_eq_true rfl⟩) hN hK hP hD hS hA rfl 0 rfl rfl rfl hl.1 rfl (Nat.le_of_ble_eq_true rfl) dX8_same_20 ⟨Nat.zero_le _, Nat.zero_le _⟩ (fun H locs hP hD hS => ?_)
      refine lv_if_eq (tgt := 29) hx hb dX8_same_23 (by decide) (fun cz => ?_) (fun cz => ?_)
      · have h := g_t h cz
        refine lv_iconst (v := 1) hx hb dX8_same_29 (by decide) ?_
        refine lv_istore_n (lv' := [(3, .int ((1 : Int32))), (0, .ref (ad 0)), (1, .int a1), (2, .int a2)]) hx hb dX8_same_30 rfl hl (by decide) rfl (fun ls hl => ?_)
        refine lv_iconst (v := 0) hx hb dX8_same_31 (by decide) ?_
        refine lv_istore (lv' := [(4, .int ((0 : Int32))), (3, .int ((1 : Int32))), (0, .ref (ad 0)), (1, .int a1), (2, .int a2)]) hx hb dX8_same_32 hl (by decide) rfl (fun ls hl => ?_)
        exact B34 N a1 a2 ((1 : Int32)) ((0 : Int32)) H locs ls h hP hD hS (lv_sub hl [2, 3, 4, 1, 0] rfl)
      · have h := g_f h cz
        refine lv_bipush (v := (-102)) hx hb dX8_same_26 (by decide) ?_
        have h' := Option.some.inj h
        rw [← hQQ]
        exact W.iret (v := (-102 : Int32)) hx hb hr (fun t ht hW => ⟨⟨(-102 : Int32), (), rfl, by rw [← h'], by rw [← hWQ, ht]; exact hP, va_K.moved hW.alike hK⟩, hS.F ht⟩) hS.2.2 dX8_same_28
  · have h := g_t h cz
    refine lv_bipush (v := (-101)) hx hb dX8_same_7 (by decide) ?_
    have h' := Option.some.inj h
    rw [← hQQ]
    exact W.iret (v := (-101 : Int32)) hx hb hr (fun t ht hW => ⟨⟨(-101 : Int32), (), rfl, by rw [← h'], by rw [← hWQ, ht]; exact hP, va_K.moved hW.alike hK⟩, hS.F ht⟩) hS.2.2 dX8_same_9
