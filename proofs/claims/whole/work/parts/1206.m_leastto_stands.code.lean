def f_M_leastTo_stands_3 (N : Nat) (iM36 : Int32) (aM58 : Nat → Int32) (aM59 : Nat → Int32) (aM62 : Nat → Int32) (v1 : Int32) (v2 : Int32) (v3 : Int32) : Nat → Int32 → Option Int32
  | 0, _ => none
  | n + 1, v5 => (f_M_types iM36).bind fun q6 => (if q6 ≤ v5 then (some (-1 : Int32)) else (if v5 < 0 ∨ 512 ≤ v5.toNatClampNeg then none else (if (aM62 v5.toNatClampNeg) = 0 then (f_M_leastTo_stands_3 N iM36 aM58 aM59 aM62 v1 v2 v3 n ((v5 + (1 : Int32)))) else ((f_M_goesTo v1 v2 v5 aM58 aM59).bind fun q25 => (if q25 = 0 then (f_M_leastTo_stands_3 N iM36 aM58 aM59 aM62 v1 v2 v3 n ((v5 + (1 : Int32)))) else (if ((aM58 v5.toNatClampNeg) &&& v3) = v3 then (some v5) else (f_M_leastTo_stands_3 N iM36 aM58 aM59 aM62 v1 v2 v3 n ((v5 + (1 : Int32))))))))))
def f_M_leastTo_stands (N : Nat) (a1 : Int32) (a2 : Int32) (a3 : Int32) (iM36 : Int32) (aM58 : Nat → Int32) (aM59 : Nat → Int32) (aM62 : Nat → Int32) : Option Int32 := f_M_leastTo_stands_3 N iM36 aM58 aM59 aM62 a1 a2 a3 N ((0 : Int32))
set_option maxHeartbeats 8000000 in
set_option maxRecDepth 100000 in
theorem c_M_leastTo_stands (l : Launch) (dC : Nat → ClassId) (dI : Nat → Nat → Nat) (cy : Nat → ClassId) (ad : Nat → Nat) (sz : Nat) (N : Nat) (a1 : Int32) (a2 : Int32) (a3 : Int32) (iM : Nat → Int32) (aM : Nat → Nat → Int32) (q : Int32) (h : f_M_leastTo_stands N a1 a2 a3 (iM 36) (aM 58) (aM 59) (aM 62) = some q) : Met l yX8_leastTo wsX8_leastTo ({ frames := 1, cells := 0, slots := 0, locals := 23 } : Room) (cP (dC, dI) cy [.ref (ad 0), .int a1, .int a2, .int a3, .ref (ad 34)] (zzM ad cy iM aM) sz) (cQi (dC, dI) cy q (zzM ad cy iM aM) (va_A (zzM ad cy iM aM) sz)) 0 0 (va_A (zzM ad cy iM aM) sz) := by
  refine Met.ofW (cc := cX8_leastTo) (maxL := 6) (ret := (some .int)) (by decide) rfl ?_
  intro p e s m args below meth c s₁ B hml hv
  obtain ⟨hav, hsz, hP, hK, hD0, hN⟩ := hv
  have hx := B.exec
  have hb := B.bytes
  have hr := B.returns
  have hts := atoms_spec (ws := wsX8_leastTo) B.pre
  have hown : s.vm.findClass RX8 = some m.cls := findClass_of_methodNamed B.named
  have hlocks := B.notSynchronized
  subst hsz
  have hD := hD0.self (sz := s.heap.size)
  generalize hAe : va_A (zzM ad cy iM aM) s.heap.size = A at hD ⊢
  have hA : ∀ q : Nat, s.heap.size ≤ q → A q := fun q h => by rw [← hAe]; exact Or.inr h
  have hS : va_S A s.heap s.heap [] := va_S.rf
  generalize hWQ : (zzM ad cy iM aM) = WQ
  generalize hQQ : MQ below (cQi (dC, dI) cy q WQ A) args s 0 0 A = QQ
  have hl := lv_entry ([.ref (ad 0), .int a1, .int a2, .int a3, .ref (ad 34)] : List Value) (n := 6) (Nat.le_of_ble_eq_true rfl)
  have hfr := lg_entry_eq m ([.ref (ad 0), .int a1, .int a2, .int a3, .ref (ad 34)] : List Value) 6
  rw [← hav] at hfr
  rw [hfr]
  clear hfr hav
  generalize (lg_sl ([.ref (ad 0), .int a1, .int a2, .int a3, .ref (ad 34)] : List Value) ++ List.replicate (6 - (lg_sl ([.ref (ad 0), .int a1, .int a2, .int a3, .ref (ad 34)] : List Value)).length) Slot.unset).toArray = ls at hl ⊢
  have hl : lv_has ls 6 [(0, .ref (ad 0)), (1, .int a1), (2, .int a2), (3, .int a3), (4, .ref (ad 34))] := hl
  have kf105 := hts _ (List.mem_cons_of_mem _ m_fl_X8_105)
  have ki8 := (fun w h => List.mem_cons_of_mem _ (i_X8 w h) : ∀ w ∈ u_ws RX8 TX8 78, w ∈ wsX8_leastTo)
  refine (?_ : ∀ (H : Heap) (locs : List Loc), va_P (dC, dI) vwCl (zzM ad cy iM aM) H → va_D A (zzM ad cy iM aM) → va_S A s.heap H locs → W p l e ({ frames := 1, cells := 0, slots := 0, locals := 23 } : Room) s m args below meth c H locs 0 0 QQ (F0 m 0 ls [])) s.heap [] hP hD hS
  clear hP hD hS
  have B3 : ∀ (n : Nat) (v1 : Int32) (v2 : Int32) (v3 : Int32) (v5 : Int32) (H : Heap) (locs : List Loc) (ls : Array Slot), f_M_leastTo_stands_3 N (iM 36) (aM 58) (aM 59) (aM 62) v1 v2 v3 n v5 = some q → va_P (dC, dI) vwCl (zzM ad cy iM aM) H → va_D A (zzM ad cy iM aM) → va_S A s.heap H locs → lv_has ls 6 [(0, .ref (ad 0)), (1, .int v1), (2, .int v2), (3, .int v3), (4, .ref (ad 34)), (5, .int v5)] → W p l e ({ frames := 1, cells := 0, slots := 0, locals := 23 } : Room) s m args below meth c H locs 0 0 QQ (F0 m 3 ls []) := by
    intro n
    induction n with
    | zero =>
      intro v1 v2 v3 v5 H locs ls h hP hD hS hl
      rw [f_M_leastTo_stands_3] at h
      cases h
    | succ n ih =>
      intro v1 v2 v3 v5 H locs ls h hP hD hS hl
      rw [f_M_leastTo_stands_3] at h
      refine lv_iload hx hb dX8_leastTo_3 (lv_at hl 5 rfl) ?_
      refine lv_aload_n hx hb dX8_leastTo_5 rfl (lv_at hl 0 rfl) ?_
      obtain ⟨q6, e6, h⟩ := g_b h
      refine callVis (cc := cX8_leastTo) (w1 := zzM ad cy iM aM) (As := []) (rest := [.int v5]) ⟨hx, hb, hml, hown, hts⟩ (c_M_types l dC dI cy ad H.size iM aM q6 e6) (cwV 0 hts (goodV m_ml_X8_368 m_im_X8_types m_se_X8_types m_in_X8 m_cd_X8_types) rfl rfl rfl (by decide +kernel) ⟨Nat.le_of_ble_eq_true rfl, Nat.le_of_ble_eq_true rfl⟩) hN hK hP hD hS hA rfl 0 rfl rfl rfl hl.1 rfl (Nat.le_of_ble_eq_true rfl) dX8_leastTo_6 ⟨Nat.zero_le _, Nat.zero_le _⟩ (fun H locs hP hD hS => ?_)
      refine lv_icmp_ge (tgt := 53) hx hb dX8_leastTo_9 (by decide) (fun cz => ?_) (fun cz => ?_)
      · have h := g_t h cz
        refine lv_iconst (v := (-1)) hx hb dX8_leastTo_53 (by decide) ?_
        have h' := Option.some.inj h
        rw [← hQQ]
        exact W.iret (v := (-1 : Int32)) hx hb hr (fun t ht hW => ⟨⟨(-1 : Int32), (), rfl, by rw [← h'], by rw [← hWQ, ht]; exact hP, va_K.moved hW.alike hK⟩, hS.F ht⟩) hS.2.2 dX8_leastTo_54
      · have h := g_f h cz
        refine lv_aload hx hb dX8_leastTo_12 (lv_at hl 4 rfl) ?_
        refine lv_iload hx hb dX8_leastTo_14 (lv_at hl 5 rfl) ?_
        obtain ⟨g_108, h⟩ := g_n h
        refine va_zald (f := (aM 62)) hx hb hK hP 34 4 rfl rfl g_108 dX8_leastTo_16 ?_
        refine lv_if_eq (tgt := 47) hx hb dX8_leastTo_17 (by decide) (fun cz => ?_) (fun cz => ?_)
        · have h := g_t h cz
          refine lv_iinc (v := (v5 + (1 : Int32))) (lv' := [(5, .int ((v5 + (1 : Int32)))), (0, .ref (ad 0)), (1, .int v1), (2, .int v2), (3, .int v3), (4, .ref (ad 34))]) hx hb dX8_leastTo_47 hl (k := 5) rfl rfl (by decide) rfl (fun ls hl => ?_)
          refine lv_goto (tgt := 3) hx hb dX8_leastTo_50 (by decide) ?_
          exact ih v1 v2 v3 ((v5 + (1 : Int32))) H locs ls h hP hD hS (lv_sub hl [1, 2, 3, 4, 5, 0] rfl)
        · have h := g_f h cz
          refine lv_aload_n hx hb dX8_leastTo_20 rfl (lv_at hl 0 rfl) ?_
          refine lv_iload_n hx hb dX8_leastTo_21 rfl (lv_at hl 1 rfl) ?_
          refine lv_iload_n hx hb dX8_leastTo_22 rfl (lv_at hl 2 rfl) ?_
          refine lv_iload hx hb dX8_leastTo_23 (lv_at hl 5 rfl) ?_
          obtain ⟨q25, e25, h⟩ := g_b h
          refine callVis (cc := cX8_leastTo) (w1 := zzM ad cy iM aM) (As := [.int v1, .int v2, .int v5]) (rest := []) ⟨hx, hb, hml, hown, hts⟩ (c_M_goesTo l dC dI cy ad H.size v1 v2 v5 iM aM q25 e25) (cwV 3 hts (goodV m_ml_X8_374 m_im_X8_goesTo m_se_X8_goesTo m_in_X8 m_cd_X8_goesTo) rfl rfl rfl (by decide +kernel) ⟨Nat.le_of_ble_eq_true rfl, Nat.le_of_ble_eq_true rfl⟩) hN hK hP hD hS hA rfl 0 rfl rfl rfl hl.1 rfl (Nat.le_of_ble_eq_true rfl) dX8_leastTo_25 ⟨Nat.zero_le _, Nat.zero_le _⟩ (fun H locs hP hD hS => ?_)
          refine lv_if_eq (tgt := 47) hx hb dX8_leastTo_28 (by decide) (fun cz => ?_) (fun cz => ?_)
          · have h := g_t h cz
            refine lv_iinc (v := (v5 + (1 : Int32))) (lv' := [(5, .int ((v5 + (1 : Int32)))), (0, .ref (ad 0)), (1, .int v1), (2, .int v2), (3, .int v3), (4, .ref (ad 34))]) hx hb dX8_leastTo_47 hl (k := 5) rfl rfl (by decide) rfl (fun ls hl => ?_)
            refine lv_goto (tgt := 3) hx hb dX8_leastTo_50 (by decide) ?_
            exact ih v1 v2 v3 ((v5 + (1 : Int32))) H locs ls h hP hD hS (lv_sub hl [1, 2, 3, 4, 5, 0] rfl)
          · have h := g_f h cz
            refine lv_aload_n hx hb dX8_leastTo_31 rfl (lv_at hl 0 rfl) ?_
            refine va_get (D := (dC, dI)) (ci := 8) (v := .ref (ad 30)) (C := RX8) (T := TX8) (N := 78) hx hb hts ki8 hown hK hP 0 rfl rfl 58 (by decide) kf105 (fun _ h9 => h9) rfl dX8_leastTo_32 ?_
            refine lv_iload hx hb dX8_leastTo_35 (lv_at hl 5 rfl) ?_
            refine va_iald (f := (aM 58)) hx hb hK hP 30 0 rfl rfl g_108 dX8_leastTo_37 ?_
            refine lv_iload_n hx hb dX8_leastTo_38 rfl (lv_at hl 3 rfl) ?_
            refine lv_iand hx hb dX8_leastTo_39 ?_
            refine lv_iload_n hx hb dX8_leastTo_40 rfl (lv_at hl 3 rfl) ?_
            refine lv_icmp_ne (tgt := 47) hx hb dX8_leastTo_41 (by decide) (fun cz => ?_) (fun cz => ?_)
            · have h := g_f h cz
              refine lv_iinc (v := (v5 + (1 : Int32))) (lv' := [(5, .int ((v5 + (1 : Int32)))), (0, .ref (ad 0)), (1, .int v1), (2, .int v2), (3, .int v3), (4, .ref (ad 34))]) hx hb dX8_leastTo_47 hl (k := 5) rfl rfl (by decide) rfl (fun ls hl => ?_)
              refine lv_goto (tgt := 3) hx hb dX8_leastTo_50 (by decide) ?_
              exact ih v1 v2 v3 ((v5 + (1 : Int32))) H locs ls h hP hD hS (lv_sub hl [1, 2, 3, 4, 5, 0] rfl)
            · have h := g_t h cz
              refine lv_iload hx hb dX8_leastTo_44 (lv_at hl 5 rfl) ?_
              have h' := Option.some.inj h
              rw [← hQQ]
              exact W.iret (v := v5) hx hb hr (fun t ht hW => ⟨⟨v5, (), rfl, by rw [← h'], by rw [← hWQ, ht]; exact hP, va_K.moved hW.alike hK⟩, hS.F ht⟩) hS.2.2 dX8_leastTo_46
  intro H locs hP hD hS
  unfold f_M_leastTo_stands at h
  refine lv_iconst (v := 0) hx hb dX8_leastTo_0 (by decide) ?_
  refine lv_istore (lv' := [(5, .int ((0 : Int32))), (0, .ref (ad 0)), (1, .int a1), (2, .int a2), (3, .int a3), (4, .ref (ad 34))]) hx hb dX8_leastTo_1 hl (by decide) rfl (fun ls hl => ?_)
  exact B3 N a1 a2 a3 ((0 : Int32)) H locs ls h hP hD hS (lv_sub hl [1, 2, 3, 4, 5, 0] rfl)
