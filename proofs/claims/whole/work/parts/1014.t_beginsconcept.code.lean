def f_T_beginsConcept (iT4 : Int32) (wT : Int64) : Option Int32 := if iT4 = (4 : Int32) then (some (1 : Int32)) else (if wT = (7630704 : Int64) then (some (1 : Int32)) else (if wT = (108230834679661 : Int64) then (some (1 : Int32)) else ((f_T_holdsConcept wT).bind fun q31 => (if q31 = 0 then (some (0 : Int32)) else (some (1 : Int32))))))
set_option maxHeartbeats 8000000 in
set_option maxRecDepth 100000 in
theorem c_T_beginsConcept (l : Launch) (dC : Nat → ClassId) (dI : Nat → Nat → Nat) (cy : Nat → ClassId) (ad : Nat → Nat) (sz : Nat) (iT : Nat → Int32) (wT : Int64) (tx : Nat → Int32) (q : Int32) (h : f_T_beginsConcept (iT 4) wT = some q) : Met l yX5_beginsConcept wsX5_beginsConcept ({ frames := 1, cells := 0, slots := 0, locals := 20 } : Room) (cP (dC, dI) cy [.ref (ad 0)] (zzT ad cy iT wT tx) sz) (cQi (dC, dI) cy q (zzT ad cy iT wT tx) (va_A (zzT ad cy iT wT tx) sz)) 0 0 (va_A (zzT ad cy iT wT tx) sz) := by
  refine Met.ofW (cc := cX5_beginsConcept) (maxL := 1) (ret := (some .boolean)) (by decide) rfl ?_
  intro p e s m args below meth c s₁ B hml hv
  obtain ⟨hav, hsz, hP, hK, hD0, hN⟩ := hv
  have hx := B.exec
  have hb := B.bytes
  have hr := B.returns
  have hts := atoms_spec (ws := wsX5_beginsConcept) B.pre
  have hown : s.vm.findClass RX5 = some m.cls := findClass_of_methodNamed B.named
  have hlocks := B.notSynchronized
  subst hsz
  have hD := hD0.self (sz := s.heap.size)
  generalize hAe : va_A (zzT ad cy iT wT tx) s.heap.size = A at hD ⊢
  have hA : ∀ q : Nat, s.heap.size ≤ q → A q := fun q h => by rw [← hAe]; exact Or.inr h
  have hS : va_S A s.heap s.heap [] := va_S.rf
  generalize hWQ : (zzT ad cy iT wT tx) = WQ
  generalize hQQ : MQ below (cQi (dC, dI) cy q WQ A) args s 0 0 A = QQ
  have hl := lv_entry ([.ref (ad 0)] : List Value) (n := 1) (Nat.le_of_ble_eq_true rfl)
  have hfr := lg_entry_eq m ([.ref (ad 0)] : List Value) 1
  rw [← hav] at hfr
  rw [hfr]
  clear hfr hav
  generalize (lg_sl ([.ref (ad 0)] : List Value) ++ List.replicate (1 - (lg_sl ([.ref (ad 0)] : List Value)).length) Slot.unset).toArray = ls at hl ⊢
  have hl : lv_has ls 1 [(0, .ref (ad 0))] := hl
  have kf41 := hts _ (List.mem_cons_of_mem _ m_fl_X5_41)
  have ki5 := (fun w h => List.mem_cons_of_mem _ (i_X5 w h) : ∀ w ∈ u_ws RX5 TX5 6, w ∈ wsX5_beginsConcept)
  have kf37 := hts _ (List.mem_cons_of_mem _ m_fl_X5_37)
  have kc87 := hts _ (List.mem_cons_of_mem _ m_kl_X5_87)
  have kc89 := hts _ (List.mem_cons_of_mem _ m_kl_X5_89)
  refine (?_ : ∀ (H : Heap) (locs : List Loc), va_P (dC, dI) vwCl (zzT ad cy iT wT tx) H → va_D A (zzT ad cy iT wT tx) → va_S A s.heap H locs → W p l e ({ frames := 1, cells := 0, slots := 0, locals := 20 } : Room) s m args below meth c H locs 0 0 QQ (F0 m 0 ls [])) s.heap [] hP hD hS
  clear hP hD hS
  intro H locs hP hD hS
  unfold f_T_beginsConcept at h
  refine lv_aload_n hx hb dX5_beginsConcept_0 rfl (lv_at hl 0 rfl) ?_
  refine va_get (D := (dC, dI)) (ci := 5) (v := .int (iT 4)) (C := RX5) (T := TX5) (N := 6) hx hb hts ki5 hown hK hP 0 rfl rfl 4 (by decide) kf41 (fun _ h9 => h9) rfl dX5_beginsConcept_1 ?_
  refine lv_iconst (v := 4) hx hb dX5_beginsConcept_4 (by decide) ?_
  refine lv_icmp_eq (tgt := 37) hx hb dX5_beginsConcept_5 (by decide) (fun cz => ?_) (fun cz => ?_)
  · have h := g_t h cz
    refine lv_iconst (v := 1) hx hb dX5_beginsConcept_37 (by decide) ?_
    refine lv_goto (tgt := 42) hx hb dX5_beginsConcept_38 (by decide) ?_
    have h' := Option.some.inj h
    rw [← hQQ]
    exact W.zret (v := (1 : Int32)) hx hb hr rfl (fun t ht hW => ⟨⟨(1 : Int32), (), rfl, by rw [← h'], by rw [← hWQ, ht]; exact hP, va_K.moved hW.alike hK⟩, hS.F ht⟩) hS.2.2 dX5_beginsConcept_42
  · have h := g_f h cz
    refine lv_aload_n hx hb dX5_beginsConcept_8 rfl (lv_at hl 0 rfl) ?_
    refine va_get (D := (dC, dI)) (ci := 5) (v := .long wT) (C := RX5) (T := TX5) (N := 6) hx hb hts ki5 hown hK hP 0 rfl rfl 5 (by decide) kf37 (fun _ h9 => h9) rfl dX5_beginsConcept_9 ?_
    refine lv_ldc2 (v := 7630704) hx hb hown kc87 dX5_beginsConcept_12 ?_
    refine W.lcmp hx hb dX5_beginsConcept_15 ?_
    refine lv_if_eq (tgt := 37) hx hb dX5_beginsConcept_16 (by decide) (fun cz => ?_) (fun cz => ?_)
    · have h := g_t h (lg_cmp0.mp cz)
      refine lv_iconst (v := 1) hx hb dX5_beginsConcept_37 (by decide) ?_
      refine lv_goto (tgt := 42) hx hb dX5_beginsConcept_38 (by decide) ?_
      have h' := Option.some.inj h
      rw [← hQQ]
      exact W.zret (v := (1 : Int32)) hx hb hr rfl (fun t ht hW => ⟨⟨(1 : Int32), (), rfl, by rw [← h'], by rw [← hWQ, ht]; exact hP, va_K.moved hW.alike hK⟩, hS.F ht⟩) hS.2.2 dX5_beginsConcept_42
    · have h := g_f h (fun z => cz (lg_cmp0.mpr z))
      refine lv_aload_n hx hb dX5_beginsConcept_19 rfl (lv_at hl 0 rfl) ?_
      refine va_get (D := (dC, dI)) (ci := 5) (v := .long wT) (C := RX5) (T := TX5) (N := 6) hx hb hts ki5 hown hK hP 0 rfl rfl 5 (by decide) kf37 (fun _ h9 => h9) rfl dX5_beginsConcept_20 ?_
      refine lv_ldc2 (v := 108230834679661) hx hb hown kc89 dX5_beginsConcept_23 ?_
      refine W.lcmp hx hb dX5_beginsConcept_26 ?_
      refine lv_if_eq (tgt := 37) hx hb dX5_beginsConcept_27 (by decide) (fun cz => ?_) (fun cz => ?_)
      · have h := g_t h (lg_cmp0.mp cz)
        refine lv_iconst (v := 1) hx hb dX5_beginsConcept_37 (by decide) ?_
        refine lv_goto (tgt := 42) hx hb dX5_beginsConcept_38 (by decide) ?_
        have h' := Option.some.inj h
        rw [← hQQ]
        exact W.zret (v := (1 : Int32)) hx hb hr rfl (fun t ht hW => ⟨⟨(1 : Int32), (), rfl, by rw [← h'], by rw [← hWQ, ht]; exact hP, va_K.moved hW.alike hK⟩, hS.F ht⟩) hS.2.2 dX5_beginsConcept_42
      · have h := g_f h (fun z => cz (lg_cmp0.mpr z))
        refine lv_aload_n hx hb dX5_beginsConcept_30 rfl (lv_at hl 0 rfl) ?_
        obtain ⟨q31, e31, h⟩ := g_b h
        refine callVis (cc := cX5_beginsConcept) (w1 := zzT ad cy iT wT tx) (As := []) (rest := []) ⟨hx, hb, hml, hown, hts⟩ (c_T_holdsConcept l dC dI cy ad H.size iT wT tx q31 e31) (cwV 0 hts (goodV m_ml_X5_91 m_im_X5_holdsConcept m_se_X5_holdsConcept m_in_X5 m_cd_X5_holdsConcept) rfl rfl rfl (by decide +kernel) ⟨Nat.le_of_ble_eq_true rfl, Nat.le_of_ble_eq_true rfl⟩) hN hK hP hD hS hA rfl 0 rfl rfl rfl hl.1 rfl (Nat.le_of_ble_eq_true rfl) dX5_beginsConcept_31 ⟨Nat.zero_le _, Nat.zero_le _⟩ (fun H locs hP hD hS => ?_)
        refine lv_if_eq (tgt := 41) hx hb dX5_beginsConcept_34 (by decide) (fun cz => ?_) (fun cz => ?_)
        · have h := g_t h cz
          refine lv_iconst (v := 0) hx hb dX5_beginsConcept_41 (by decide) ?_
          have h' := Option.some.inj h
          rw [← hQQ]
          exact W.zret (v := (0 : Int32)) hx hb hr rfl (fun t ht hW => ⟨⟨(0 : Int32), (), rfl, by rw [← h'], by rw [← hWQ, ht]; exact hP, va_K.moved hW.alike hK⟩, hS.F ht⟩) hS.2.2 dX5_beginsConcept_42
        · have h := g_f h cz
          refine lv_iconst (v := 1) hx hb dX5_beginsConcept_37 (by decide) ?_
          refine lv_goto (tgt := 42) hx hb dX5_beginsConcept_38 (by decide) ?_
          have h' := Option.some.inj h
          rw [← hQQ]
          exact W.zret (v := (1 : Int32)) hx hb hr rfl (fun t ht hW => ⟨⟨(1 : Int32), (), rfl, by rw [← h'], by rw [← hWQ, ht]; exact hP, va_K.moved hW.alike hK⟩, hS.F ht⟩) hS.2.2 dX5_beginsConcept_42
