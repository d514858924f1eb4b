def f_M_nameHere_2 (N : Nat) (iM4 : Int32) (iM5 : Int32) (iM43 : Int32) (aM0 : Nat → Int32) (aM23 : Nat → Int32) (aM24 : Nat → Int32)  : Nat → Int32 → Option Int32
  | 0, _ => none
  | n + 1, v1 => if iM43 ≤ v1 then (some (-1 : Int32)) else (if ((5 : Int32) + v1) < 0 ∨ 10 ≤ (((5 : Int32) + v1)).toNatClampNeg then none else ((f_M_isHere_nameLetters N (((8 : Int32) * ((5 : Int32) + v1))) ((aM24 (((5 : Int32) + v1)).toNatClampNeg)) iM4 iM5 aM0 aM23).bind fun q29 => (if q29 = 0 then (f_M_nameHere_2 N iM4 iM5 iM43 aM0 aM23 aM24 n ((v1 + (1 : Int32)))) else (some v1))))
def f_M_nameHere (N : Nat) (iM4 : Int32) (iM5 : Int32) (iM43 : Int32) (aM0 : Nat → Int32) (aM23 : Nat → Int32) (aM24 : Nat → Int32) : Option Int32 := f_M_nameHere_2 N iM4 iM5 iM43 aM0 aM23 aM24 N ((0 : Int32))
set_option maxHeartbeats 8000000 in
set_option maxRecDepth 100000 in
theorem c_M_nameHere (l : Launch) (dC : Nat → ClassId) (dI : Nat → Nat → Nat) (cy : Nat → ClassId) (ad : Nat → Nat) (sz : Nat) (N : Nat) (iM : Nat → Int32) (aM : Nat → Nat → Int32) (q : Int32) (h : f_M_nameHere N (iM 4) (iM 5) (iM 43) (aM 0) (aM 23) (aM 24) = some q) : Met l yX8_nameHere wsX8_nameHere ({ frames := 1, cells := 0, slots := 0, locals := 25 } : Room) (cP (dC, dI) cy [.ref (ad 0)] (zzM ad cy iM aM) sz) (cQi (dC, dI) cy q (zzM ad cy iM aM) (va_A (zzM ad cy iM aM) sz)) 0 0 (va_A (zzM ad cy iM aM) sz) := by
  refine Met.ofW (cc := cX8_nameHere) (maxL := 2) (ret := (some .int)) (by decide) rfl ?_
  intro p e s m args below meth c s₁ B hml hv
  obtain ⟨hav, hsz, hP, hK, hD0, hN⟩ := hv
  have hx := B.exec
  have hb := B.bytes
  have hr := B.returns
  have hts := atoms_spec (ws := wsX8_nameHere) B.pre
  have hown : s.vm.findClass RX8 = some m.cls := findClass_of_methodNamed B.named
  have hlocks := B.notSynchronized
  subst hsz
  have hD := hD0.self (sz := s.heap.size)
  generalize hAe : va_A (zzM ad cy iM aM) s.heap.size = A at hD ⊢
  have hA : ∀ q : Nat, s.heap.size ≤ q → A q := fun q h => by rw [← hAe]; exact Or.inr h
  have hS : va_S A s.heap s.heap [] := va_S.rf
  generalize hWQ : (zzM ad cy iM aM) = WQ
  generalize hQQ : MQ below (cQi (dC, dI) cy q WQ A) args s 0 0 A = QQ
  have hl := lv_entry ([.ref (ad 0)] : List Value) (n := 2) (Nat.le_of_ble_eq_true rfl)
  have hfr := lg_entry_eq m ([.ref (ad 0)] : List Value) 2
  rw [← hav] at hfr
  rw [hfr]
  clear hfr hav
  generalize (lg_sl ([.ref (ad 0)] : List Value) ++ List.replicate (2 - (lg_sl ([.ref (ad 0)] : List Value)).length) Slot.unset).toArray = ls at hl ⊢
  have hl : lv_has ls 2 [(0, .ref (ad 0))] := hl
  have kf214 := hts _ (List.mem_cons_of_mem _ m_fl_X8_214)
  have ki8 := (fun w h => List.mem_cons_of_mem _ (i_X8 w h) : ∀ w ∈ u_ws RX8 TX8 78, w ∈ wsX8_nameHere)
  have kf51 := hts _ (List.mem_cons_of_mem _ m_fl_X8_51)
  have kf54 := hts _ (List.mem_cons_of_mem _ m_fl_X8_54)
  refine (?_ : ∀ (H : Heap) (locs : List Loc), va_P (dC, dI) vwCl (zzM ad cy iM aM) H → va_D A (zzM ad cy iM aM) → va_S A s.heap H locs → W p l e ({ frames := 1, cells := 0, slots := 0, locals := 25 } : Room) s m args below meth c H locs 0 0 QQ (F0 m 0 ls [])) s.heap [] hP hD hS
  clear hP hD hS
  have B2 : ∀ (n : Nat) (v1 : Int32) (H : Heap) (locs : List Loc) (ls : Array Slot), f_M_nameHere_2 N (iM 4) (iM 5) (iM 43) (aM 0) (aM 23) (aM 24) n v1 = some q → va_P (dC, dI) vwCl (zzM ad cy iM aM) H → va_D A (zzM ad cy iM aM) → va_S A s.heap H locs → lv_has ls 2 [(0, .ref (ad 0)), (1, .int v1)] → W p l e ({ frames := 1, cells := 0, slots := 0, locals := 25 } : Room) s m args below meth c H locs 0 0 QQ (F0 m 2 ls []) := by
    intro n
    induction n with
    | zero =>
      intro v1 H locs ls h hP hD hS hl
      rw [f_M_nameHere_2] at h
      cases h
    | succ n ih =>
      intro v1 H locs ls h hP hD hS hl
      rw [f_M_nameHere_2] at h
      refine lv_iload_n hx hb dX8_nameHere_2 rfl (lv_at hl 1 rfl) ?_
      refine lv_aload_n hx hb dX8_nameHere_3 rfl (lv_at hl 0 rfl) ?_
      refine va_get (D := (dC, dI)) (ci := 8) (v := .int (iM 43)) (C := RX8) (T := TX8) (N := 78) hx hb hts ki8 hown hK hP 0 rfl rfl 43 (by decide) kf214 (fun _ h9 => h9) rfl dX8_nameHere_4 ?_
      refine lv_icmp_ge (tgt := 43) hx hb dX8_nameHere_7 (by decide) (fun cz => ?_) (fun cz => ?_)
      · have h := g_t h cz
        refine lv_iconst (v := (-1)) hx hb dX8_nameHere_43 (by decide) ?_
        have h' := Option.some.inj h
        rw [← hQQ]
        exact W.iret (v := (-1 : Int32)) hx hb hr (fun t ht hW => ⟨⟨(-1 : Int32), (), rfl, by rw [← h'], by rw [← hWQ, ht]; exact hP, va_K.moved hW.alike hK⟩, hS.F ht⟩) hS.2.2 dX8_nameHere_44
      · have h := g_f h cz
        refine lv_aload_n hx hb dX8_nameHere_10 rfl (lv_at hl 0 rfl) ?_
        refine lv_aload_n hx hb dX8_nameHere_11 rfl (lv_at hl 0 rfl) ?_
        refine va_get (D := (dC, dI)) (ci := 8) (v := .ref (ad 14)) (C := RX8) (T := TX8) (N := 78) hx hb hts ki8 hown hK hP 0 rfl rfl 23 (by decide) kf51 (fun _ h9 => h9) rfl dX8_nameHere_12 ?_
        refine lv_bipush (v := 8) hx hb dX8_nameHere_15 (by decide) ?_
        refine lv_iconst (v := 5) hx hb dX8_nameHere_17 (by decide) ?_
        refine lv_iload_n hx hb dX8_nameHere_18 rfl (lv_at hl 1 rfl) ?_
        refine lv_iadd hx hb dX8_nameHere_19 ?_
        refine lv_imul hx hb dX8_nameHere_20 ?_
        refine lv_aload_n hx hb dX8_nameHere_21 rfl (lv_at hl 0 rfl) ?_
        refine va_get (D := (dC, dI)) (ci := 8) (v := .ref (ad 15)) (C := RX8) (T := TX8) (N := 78) hx hb hts ki8 hown hK hP 0 rfl rfl 24 (by decide) kf54 (fun _ h9 => h9) rfl dX8_nameHere_22 ?_
        refine lv_iconst (v := 5) hx hb dX8_nameHere_25 (by decide) ?_
        refine lv_iload_n hx hb dX8_nameHere_26 rfl (lv_at hl 1 rfl) ?_
        refine lv_iadd hx hb dX8_nameHere_27 ?_
        obtain ⟨g_55, h⟩ := g_n h
        refine va_iald (f := (aM 24)) hx hb hK hP 15 0 rfl rfl g_55 dX8_nameHere_28 ?_
        obtain ⟨q29, e29, h⟩ := g_b h
        refine callVis (cc := cX8_nameHere) (w1 := zzM ad cy iM aM) (As := [.ref (ad 14), .int (((8 : Int32) * ((5 : Int32) + v1))), .int (((aM 24) (((5 : Int32) + v1)).toNatClampNeg))]) (rest := []) ⟨hx, hb, hml, hown, hts⟩ (c_M_isHere_nameLetters l dC dI cy ad H.size N (((8 : Int32) * ((5 : Int32) + v1))) (((aM 24) (((5 : Int32) + v1)).toNatClampNeg)) iM aM q29 e29) (cwV 3 hts (goodV m_ml_X8_217 m_im_X8_isHere m_se_X8_isHere m_in_X8 m_cd_X8_isHere) rfl rfl rfl (by decide +kernel) ⟨Nat.le_of_ble_eq_true rfl, Nat.le_of_ble_eq_true rfl⟩) hN hK hP hD hS hA rfl 0 rfl rfl rfl hl.1 rfl (Nat.le_of_ble_eq_true rfl) dX8_nameHere_29 ⟨Nat.zero_le _, Nat.zero_le _⟩ (fun H locs hP hD hS => ?_)
        refine lv_if_eq (tgt := 37) hx hb dX8_nameHere_32 (by decide) (fun cz => ?_) (fun cz => ?_)
        · have h := g_t h cz
          refine lv_iinc (v := (v1 + (1 : Int32))) (lv' := [(1, .int ((v1 + (1 : Int32)))), (0, .ref (ad 0))]) hx hb dX8_nameHere_37 hl (k := 1) rfl rfl (by decide) rfl (fun ls hl => ?_)
          refine lv_goto (tgt := 2) hx hb dX8_nameHere_40 (by decide) ?_
          exact ih ((v1 + (1 : Int32))) H locs ls h hP hD hS (lv_sub hl [1, 0] rfl)
        · have h := g_f h cz
          refine lv_iload_n hx hb dX8_nameHere_35 rfl (lv_at hl 1 rfl) ?_
          have h' := Option.some.inj h
          rw [← hQQ]
          exact W.iret (v := v1) hx hb hr (fun t ht hW => ⟨⟨v1, (), rfl, by rw [← h'], by rw [← hWQ, ht]; exact hP, va_K.moved hW.alike hK⟩, hS.F ht⟩) hS.2.2 dX8_nameHere_36
  intro H locs hP hD hS
  unfold f_M_nameHere at h
  refine lv_iconst (v := 0) hx hb dX8_nameHere_0 (by decide) ?_
  refine lv_istore_n (lv' := [(1, .int ((0 : Int32))), (0, .ref (ad 0))]) hx hb dX8_nameHere_1 rfl hl (by decide) rfl (fun ls hl => ?_)
  exact B2 N ((0 : Int32)) H locs ls h hP hD hS (lv_sub hl [1, 0] rfl)
