def f_M_isHere_nameLetters_18 (N : Nat) (iM4 : Int32) (iM5 : Int32) (aM0 : Nat → Int32) (aM23 : Nat → Int32) (v2 : Int32) (v3 : Int32) : Nat → Int32 → Int32 → Option Int32
  | 0, _, _ => none
  | n + 1, v4, v5 => if v3 ≤ v5 then (if vp_nar .boolean v4 = v4 then (some v4) else none) else (if v4 = 0 then (if vp_nar .boolean v4 = v4 then (some v4) else none) else (if (v2 + v5) < 0 ∨ 80 ≤ ((v2 + v5)).toNatClampNeg then none else (if (iM4 + v5) < 0 ∨ 2000 ≤ ((iM4 + v5)).toNatClampNeg then none else (if (aM23 ((v2 + v5)).toNatClampNeg) = (aM0 ((iM4 + v5)).toNatClampNeg) then (f_M_isHere_nameLetters_18 N iM4 iM5 aM0 aM23 v2 v3 n ((1 : Int32)) ((v5 + (1 : Int32)))) else (f_M_isHere_nameLetters_18 N iM4 iM5 aM0 aM23 v2 v3 n ((0 : Int32)) ((v5 + (1 : Int32))))))))
def f_M_isHere_nameLetters (N : Nat) (a2 : Int32) (a3 : Int32) (iM4 : Int32) (iM5 : Int32) (aM0 : Nat → Int32) (aM23 : Nat → Int32) : Option Int32 := if a3 = iM5 then (f_M_isHere_nameLetters_18 N iM4 iM5 aM0 aM23 a2 a3 N ((1 : Int32)) ((0 : Int32))) else (f_M_isHere_nameLetters_18 N iM4 iM5 aM0 aM23 a2 a3 N ((0 : Int32)) ((0 : Int32)))
set_option maxHeartbeats 8000000 in
set_option maxRecDepth 100000 in
theorem c_M_isHere_nameLetters (l : Launch) (dC : Nat → ClassId) (dI : Nat → Nat → Nat) (cy : Nat → ClassId) (ad : Nat → Nat) (sz : Nat) (N : Nat) (a2 : Int32) (a3 : Int32) (iM : Nat → Int32) (aM : Nat → Nat → Int32) (q : Int32) (h : f_M_isHere_nameLetters N a2 a3 (iM 4) (iM 5) (aM 0) (aM 23) = some q) : Met l yX8_isHere wsX8_isHere ({ frames := 0, cells := 0, slots := 0, locals := 0 } : Room) (cP (dC, dI) cy [.ref (ad 0), .ref (ad 14), .int a2, .int a3] (zzM ad cy iM aM) sz) (cQi (dC, dI) cy q (zzM ad cy iM aM) (va_A (zzM ad cy iM aM) sz)) 0 0 (va_A (zzM ad cy iM aM) sz) := by
  refine Met.ofW (cc := cX8_isHere) (maxL := 6) (ret := (some .boolean)) (by decide) rfl ?_
  intro p e s m args below meth c s₁ B hml hv
  obtain ⟨hav, hsz, hP, hK, hD0, hN⟩ := hv
  have hx := B.exec
  have hb := B.bytes
  have hr := B.returns
  have hts := atoms_spec (ws := wsX8_isHere) B.pre
  have hown : s.vm.findClass RX8 = some m.cls := findClass_of_methodNamed B.named
  have hlocks := B.notSynchronized
  subst hsz
  have hD := hD0.self (sz := s.heap.size)
  generalize hAe : va_A (zzM ad cy iM aM) s.heap.size = A at hD ⊢
  have hA : ∀ q : Nat, s.heap.size ≤ q → A q := fun q h => by rw [← hAe]; exact Or.inr h
  have hS : va_S A s.heap s.heap [] := va_S.rf
  generalize hWQ : (zzM ad cy iM aM) = WQ
  generalize hQQ : MQ below (cQi (dC, dI) cy q WQ A) args s 0 0 A = QQ
  have hl := lv_entry ([.ref (ad 0), .ref (ad 14), .int a2, .int a3] : List Value) (n := 6) (Nat.le_of_ble_eq_true rfl)
  have hfr := lg_entry_eq m ([.ref (ad 0), .ref (ad 14), .int a2, .int a3] : List Value) 6
  rw [← hav] at hfr
  rw [hfr]
  clear hfr hav
  generalize (lg_sl ([.ref (ad 0), .ref (ad 14), .int a2, .int a3] : List Value) ++ List.replicate (6 - (lg_sl ([.ref (ad 0), .ref (ad 14), .int a2, .int a3] : List Value)).length) Slot.unset).toArray = ls at hl ⊢
  have hl : lv_has ls 6 [(0, .ref (ad 0)), (1, .ref (ad 14)), (2, .int a2), (3, .int a3)] := hl
  have kf7 := hts _ (List.mem_cons_of_mem _ m_fl_X8_7)
  have ki8 := (fun w h => List.mem_cons_of_mem _ (i_X8 w h) : ∀ w ∈ u_ws RX8 TX8 78, w ∈ wsX8_isHere)
  have kf169 := hts _ (List.mem_cons_of_mem _ m_fl_X8_169)
  have kf172 := hts _ (List.mem_cons_of_mem _ m_fl_X8_172)
  refine (?_ : ∀ (H : Heap) (locs : List Loc), va_P (dC, dI) vwCl (zzM ad cy iM aM) H → va_D A (zzM ad cy iM aM) → va_S A s.heap H locs → W p l e ({ frames := 0, cells := 0, slots := 0, locals := 0 } : Room) s m args below meth c H locs 0 0 QQ (F0 m 0 ls [])) s.heap [] hP hD hS
  clear hP hD hS
  have B18 : ∀ (n : Nat) (v2 : Int32) (v3 : Int32) (v4 : Int32) (v5 : Int32) (H : Heap) (locs : List Loc) (ls : Array Slot), f_M_isHere_nameLetters_18 N (iM 4) (iM 5) (aM 0) (aM 23) v2 v3 n v4 v5 = some q → va_P (dC, dI) vwCl (zzM ad cy iM aM) H → va_D A (zzM ad cy iM aM) → va_S A s.heap H locs → lv_has ls 6 [(0, .ref (ad 0)), (1, .ref (ad 14)), (2, .int v2), (3, .int v3), (4, .int v4), (5, .int v5)] → W p l e ({ frames := 0, cells := 0, slots := 0, locals := 0 } : Room) s m args below meth c H locs 0 0 QQ (F0 m 18 ls []) := by
    intro n
    induction n with
    | zero =>
      intro v2 v3 v4 v5 H locs ls h hP hD hS hl
      rw [f_M_isHere_nameLetters_18] at h
      cases h
    | succ n ih =>
      intro v2 v3 v4 v5 H locs ls h hP hD hS hl
      rw [f_M_isHere_nameLetters_18] at h
      refine lv_iload hx hb dX8_isHere_18 (lv_at hl 5 rfl) ?_
      refine lv_iload_n hx hb dX8_isHere_20 rfl (lv_at hl 3 rfl) ?_
      refine lv_icmp_ge (tgt := 63) hx hb dX8_isHere_21 (by decide) (fun cz => ?_) (fun cz => ?_)
      · have h := g_t h cz
        refine lv_iload hx hb dX8_isHere_63 (lv_at hl 4 rfl) ?_
        obtain ⟨gz, h⟩ := g_p h
        have h' := Option.some.inj h
        rw [← hQQ]
        exact W.zret (v := v4) hx hb hr (g_zr _ gz) (fun t ht hW => ⟨⟨v4, (), rfl, by rw [← h'], by rw [← hWQ, ht]; exact hP, va_K.moved hW.alike hK⟩, hS.F ht⟩) hS.2.2 dX8_isHere_65
      · have h := g_f h cz
        refine lv_iload hx hb dX8_isHere_24 (lv_at hl 4 rfl) ?_
        refine lv_if_eq (tgt := 63) hx hb dX8_isHere_26 (by decide) (fun cz => ?_) (fun cz => ?_)
        · have h := g_t h cz
          refine lv_iload hx hb dX8_isHere_63 (lv_at hl 4 rfl) ?_
          obtain ⟨gz, h⟩ := g_p h
          have h' := Option.some.inj h
          rw [← hQQ]
          exact W.zret (v := v4) hx hb hr (g_zr _ gz) (fun t ht hW => ⟨⟨v4, (), rfl, by rw [← h'], by rw [← hWQ, ht]; exact hP, va_K.moved hW.alike hK⟩, hS.F ht⟩) hS.2.2 dX8_isHere_65
        · have h := g_f h cz
          refine lv_aload_n hx hb dX8_isHere_29 rfl (lv_at hl 1 rfl) ?_
          refine lv_iload_n hx hb dX8_isHere_30 rfl (lv_at hl 2 rfl) ?_
          refine lv_iload hx hb dX8_isHere_31 (lv_at hl 5 rfl) ?_
          refine lv_iadd hx hb dX8_isHere_33 ?_
          obtain ⟨g_54, h⟩ := g_n h
          refine va_bald (f := (aM 23)) hx hb hK hP 14 1 rfl rfl g_54 dX8_isHere_34 ?_
          refine lv_aload_n hx hb dX8_isHere_35 rfl (lv_at hl 0 rfl) ?_
          refine va_get (D := (dC, dI)) (ci := 8) (v := .ref (ad 1)) (C := RX8) (T := TX8) (N := 78) hx hb hts ki8 hown hK hP 0 rfl rfl 0 (by decide) kf7 (fun _ h9 => h9) rfl dX8_isHere_36 ?_
          refine lv_aload_n hx hb dX8_isHere_39 rfl (lv_at hl 0 rfl) ?_
          refine va_get (D := (dC, dI)) (ci := 8) (v := .int (iM 4)) (C := RX8) (T := TX8) (N := 78) hx hb hts ki8 hown hK hP 0 rfl rfl 4 (by decide) kf169 (fun _ h9 => h9) rfl dX8_isHere_40 ?_
          refine lv_iload hx hb dX8_isHere_43 (lv_at hl 5 rfl) ?_
          refine lv_iadd hx hb dX8_isHere_45 ?_
          obtain ⟨g_50, h⟩ := g_n h
          refine va_bald (f := (aM 0)) hx hb hK hP 1 1 rfl rfl g_50 dX8_isHere_46 ?_
          refine lv_icmp_ne (tgt := 54) hx hb dX8_isHere_47 (by decide) (fun cz => ?_) (fun cz => ?_)
          · have h := g_f h cz
            refine lv_iconst (v := 0) hx hb dX8_isHere_54 (by decide) ?_
            refine lv_istore (lv' := [(4, .int ((0 : Int32))), (0, .ref (ad 0)), (1, .ref (ad 14)), (2, .int v2), (3, .int v3), (5, .int v5)]) hx hb dX8_isHere_55 hl (by decide) rfl (fun ls hl => ?_)
            refine lv_iinc (v := (v5 + (1 : Int32))) (lv' := [(5, .int ((v5 + (1 : Int32)))), (4, .int ((0 : Int32))), (0, .ref (ad 0)), (1, .ref (ad 14)), (2, .int v2), (3, .int v3)]) hx hb dX8_isHere_57 hl (k := 5) rfl rfl (by decide) rfl (fun ls hl => ?_)
            refine lv_goto (tgt := 18) hx hb dX8_isHere_60 (by decide) ?_
            exact ih v2 v3 ((0 : Int32)) ((v5 + (1 : Int32))) H locs ls h hP hD hS (lv_sub hl [2, 3, 4, 5, 1, 0] rfl)
          · have h := g_t h cz
            refine lv_iconst (v := 1) hx hb dX8_isHere_50 (by decide) ?_
            refine lv_goto (tgt := 55) hx hb dX8_isHere_51 (by decide) ?_
            refine lv_istore (lv' := [(4, .int ((1 : Int32))), (0, .ref (ad 0)), (1, .ref (ad 14)), (2, .int v2), (3, .int v3), (5, .int v5)]) hx hb dX8_isHere_55 hl (by decide) rfl (fun ls hl => ?_)
            refine lv_iinc (v := (v5 + (1 : Int32))) (lv' := [(5, .int ((v5 + (1 : Int32)))), (4, .int ((1 : Int32))), (0, .ref (ad 0)), (1, .ref (ad 14)), (2, .int v2), (3, .int v3)]) hx hb dX8_isHere_57 hl (k := 5) rfl rfl (by decide) rfl (fun ls hl => ?_)
            refine lv_goto (tgt := 18) hx hb dX8_isHere_60 (by decide) ?_
            exact ih v2 v3 ((1 : Int32)) ((v5 + (1 : Int32))) H locs ls h hP hD hS (lv_sub hl [2, 3, 4, 5, 1, 0] rfl)
  intro H locs hP hD hS
  unfold f_M_isHere_nameLetters at h
  refine lv_iload_n hx hb dX8_isHere_0 rfl (lv_at hl 3 rfl) ?_
  refine lv_aload_n hx hb dX8_isHere_1 rfl (lv_at hl 0 rfl) ?_
  refine va_get (D := (dC, dI)) (ci := 8) (v := .int (iM 5)) (C := RX8) (T := TX8) (N := 78) hx hb hts ki8 hown hK hP 0 rfl rfl 5 (by decide) kf172 (fun _ h9 => h9) rfl dX8_isHere_2 ?_
  refine lv_icmp_ne (tgt := 12) hx hb dX8_isHere_5 (by decide) (fun cz => ?_) (fun cz => ?_)
  · have h := g_f h cz
    refine lv_iconst (v := 0) hx hb dX8_isHere_12 (by decide) ?_
    refine lv_istore (lv' := [(4, .int ((0 : Int32))), (0, .ref (ad 0)), (1, .ref (ad 14)), (2, .int a2), (3, .int a3)]) hx hb dX8_isHere_13 hl (by decide) rfl (fun ls hl => ?_)
    refine lv_iconst (v := 0) hx hb dX8_isHere_15 (by decide) ?_
    refine lv_istore (lv' := [(5, .int ((0 : Int32))), (4, .int ((0 : Int32))), (0, .ref (ad 0)), (1, .ref (ad 14)), (2, .int a2), (3, .int a3)]) hx hb dX8_isHere_16 hl (by decide) rfl (fun ls hl => ?_)
    exact B18 N a2 a3 ((0 : Int32)) ((0 : Int32)) H locs ls h hP hD hS (lv_sub hl [2, 3, 4, 5, 1, 0] rfl)
  · have h := g_t h cz
    refine lv_iconst (v := 1) hx hb dX8_isHere_8 (by decide) ?_
    refine lv_goto (tgt := 13) hx hb dX8_isHere_9 (by decide) ?_
    refine lv_istore (lv' := [(4, .int ((1 : Int32))), (0, .ref (ad 0)), (1, .ref (ad 14)), (2, .int a2), (3, .int a3)]) hx hb dX8_isHere_13 hl (by decide) rfl (fun ls hl => ?_)
    refine lv_iconst (v := 0) hx hb dX8_isHere_15 (by decide) ?_
    refine lv_istore (lv' := [(5, .int ((0 : Int32))), (4, .int ((1 : Int32))), (0, .ref (ad 0)), (1, .ref (ad 14)), (2, .int a2), (3, .int a3)]) hx hb dX8_isHere_16 hl (by decide) rfl (fun ls hl => ?_)
    exact B18 N a2 a3 ((1 : Int32)) ((0 : Int32)) H locs ls h hP hD hS (lv_sub hl [2, 3, 4, 5, 1, 0] rfl)
