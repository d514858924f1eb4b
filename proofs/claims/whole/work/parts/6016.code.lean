set_option maxHeartbeats 8000000 in
set_option maxRecDepth 100000 in
theorem c_M_back (l : Launch) (dC : Nat → ClassId) (dI : Nat → Nat → Nat) (cy : Nat → ClassId) (ad : Nat → Nat) (sz : Nat) (N : Nat) (iM : Nat → Int32) (aM : Nat → Nat → Int32) (q : Int32 × Int32 × (Nat → Int32)) (h : f_M_back N (iM 1) (iM 73) (aM 0) (aM 72) = some q) : Met l yX8_back wsX8_back ({ frames := 0, cells := 0, slots := 0, locals := 0 } : Room) (cP (dC, dI) cy [.ref (ad 0)] (zzM ad cy iM aM) sz) (cQi (dC, dI) cy q.1 (zzM ad cy (us iM [(1, q.2.1)]) (us aM [(0, q.2.2)])) (va_A (zzM ad cy iM aM) sz)) 0 0 (va_A (zzM ad cy iM aM) sz) := by
  refine Met.ofW (cc := cX8_back) (maxL := 3) (ret := (some .int)) (by decide) rfl ?_
  intro p e s m args below meth c s₁ B hml hv
  obtain ⟨hav, hsz, hP, hK, hD0, hN⟩ := hv
  have hx := B.exec
  have hb := B.bytes
  have hr := B.returns
  have hts := atoms_spec (ws := wsX8_back) B.pre
  have hown : s.vm.findClass RX8 = some m.cls := findClass_of_methodNamed B.named
  have hlocks := B.notSynchronized
  subst hsz
  have hD := hD0.self (sz := s.heap.size)
  generalize hAe : va_A (zzM ad cy iM aM) s.heap.size = A at hD ⊢
  have hA : ∀ q : Nat, s.heap.size ≤ q → A q := fun q h => by rw [← hAe]; exact Or.inr h
  have hS : va_S A s.heap s.heap [] := va_S.rf
  generalize hWQ : (zzM ad cy (us iM [(1, q.2.1)]) (us aM [(0, q.2.2)])) = WQ
  generalize hQQ : MQ below (cQi (dC, dI) cy q.1 WQ A) args s 0 0 A = QQ
  have hl := lv_entry ([.ref (ad 0)] : List Value) (n := 3) (Nat.le_of_ble_eq_true rfl)
  have hfr := lg_entry_eq m ([.ref (ad 0)] : List Value) 3
  rw [← hav] at hfr
  rw [hfr]
  clear hfr hav
  generalize (lg_sl ([.ref (ad 0)] : List Value) ++ List.replicate (3 - (lg_sl ([.ref (ad 0)] : List Value)).length) Slot.unset).toArray = ls at hl ⊢
  have hl : lv_has ls 3 [(0, .ref (ad 0))] := hl
  have kf147 := hts _ (List.mem_cons_of_mem _ m_fl_X8_147)
  have ki8 := (fun w h => List.mem_cons_of_mem _ (i_X8 w h) : ∀ w ∈ u_ws RX8 TX8 78, w ∈ wsX8_back)
  have kf7 := hts _ (List.mem_cons_of_mem _ m_fl_X8_7)
  have kf135 := hts _ (List.mem_cons_of_mem _ m_fl_X8_135)
  have kf402 := hts _ (List.mem_cons_of_mem _ m_fl_X8_402)
  refine (?_ : ∀ (H : Heap) (locs : List Loc), va_P (dC, dI) vwCl (zzM ad cy iM aM) H → va_D A (zzM ad cy iM aM) → va_S A s.heap H locs → W p l e ({ frames := 0, cells := 0, slots := 0, locals := 0 } : Room) s m args below meth c H locs 0 0 QQ (F0 m 0 ls [])) s.heap [] hP hD hS
  clear hP hD hS
  have B23 : ∀ (n : Nat) (v1 : Int32) (v2 : Int32) (x_aM0 : Nat → Int32) (H : Heap) (locs : List Loc) (ls : Array Slot), f_M_back_23 N (iM 1) (iM 73) (aM 0) (aM 72) v1 n v2 x_aM0 = some q → va_P (dC, dI) vwCl (zzM ad cy iM (us aM [(0, x_aM0)])) H → va_D A (zzM ad cy iM (us aM [(0, x_aM0)])) → va_S A s.heap H locs → lv_has ls 3 [(0, .ref (ad 0)), (1, .int v1), (2, .int v2)] → W p l e ({ frames := 0, cells := 0, slots := 0, locals := 0 } : Room) s m args below meth c H locs 0 0 QQ (F0 m 23 ls []) := by
    intro n
    induction n with
    | zero =>
      intro v1 v2 x_aM0 H locs ls h hP hD hS hl
      rw [f_M_back_23] at h
      cases h
    | succ n ih =>
      intro v1 v2 x_aM0 H locs ls h hP hD hS hl
      rw [f_M_back_23] at h
      refine lv_iload_n hx hb dX8_back_23 rfl (lv_at hl 2 rfl) ?_
      refine lv_iload_n hx hb dX8_back_24 rfl (lv_at hl 1 rfl) ?_
      refine lv_icmp_ge (tgt := 46) hx hb dX8_back_25 (by decide) (fun cz => ?_) (fun cz => ?_)
      · have h := g_t h cz
        refine lv_aload_n hx hb dX8_back_46 rfl (lv_at hl 0 rfl) ?_
        refine lv_iload_n hx hb dX8_back_47 rfl (lv_at hl 1 rfl) ?_
        refine va_put (D := (dC, dI)) (ci := 8) (v := .int v1) (ty := .int) (C := RX8) (T := TX8) (N := 78) hx hb hts ki8 tyX8 tyX8_ok nmX8 hown hK hP hD hS 0 rfl rfl 1 (by decide) kf147 (fun _ h9 => h9) rfl (by decide +kernel) rfl rfl (Nat.le_of_ble_eq_true rfl) dX8_back_48 (fun H locs hP hD hS => ?_)
        have hP : va_P (dC, dI) vwCl (zzM ad cy (us iM [(1, v1)]) (us aM [(0, x_aM0)])) H := Eq.mp (congrArg (fun w => va_P (dC, dI) vwCl w H) (sfM_iM1 ad cy iM (us aM [(0, x_aM0)]) v1)) hP
        have hD : va_D A (zzM ad cy (us iM [(1, v1)]) (us aM [(0, x_aM0)])) := Eq.mp (congrArg (fun w => va_D A w) (sfM_iM1 ad cy iM (us aM [(0, x_aM0)]) v1)) hD
        refine lv_iload_n hx hb dX8_back_51 rfl (lv_at hl 1 rfl) ?_
        have h' := Option.some.inj h
        rw [← hQQ]
        exact W.iret (v := v1) hx hb hr (fun t ht hW => ⟨⟨v1, (), rfl, by rw [← h'], by rw [← hWQ, ← h', ht]; exact hP, va_K.moved hW.alike hK⟩, hS.F ht⟩) hS.2.2 dX8_back_52
      · have h := g_f h cz
        refine lv_aload_n hx hb dX8_back_28 rfl (lv_at hl 0 rfl) ?_
        refine va_get (D := (dC, dI)) (ci := 8) (v := .ref (ad 1)) (C := RX8) (T := TX8) (N := 78) hx hb hts ki8 hown hK hP 0 rfl rfl 0 (by decide) kf7 (fun _ h9 => h9) rfl dX8_back_29 ?_
        refine lv_iload_n hx hb dX8_back_32 rfl (lv_at hl 2 rfl) ?_
        refine lv_aload_n hx hb dX8_back_33 rfl (lv_at hl 0 rfl) ?_
        refine va_get (D := (dC, dI)) (ci := 8) (v := .ref (ad 40)) (C := RX8) (T := TX8) (N := 78) hx hb hts ki8 hown hK hP 0 rfl rfl 72 (by decide) kf135 (fun _ h9 => h9) rfl dX8_back_34 ?_
        refine lv_iload_n hx hb dX8_back_37 rfl (lv_at hl 2 rfl) ?_
        obtain ⟨g_147, h⟩ := g_n h
        refine va_bald (f := (aM 72)) hx hb hK hP 40 1 rfl rfl g_147 dX8_back_38 ?_
        obtain ⟨g_148, h⟩ := g_n h
        refine va_bast (f := x_aM0) hx hb hK hP hD hS 1 1 rfl rfl g_148 dX8_back_39 (fun H locs hP hD hS => ?_)
        have hP : va_P (dC, dI) vwCl (zzM ad cy iM (us aM [(0, (upd x_aM0 v2.toNatClampNeg (vp_nar .byte (((aM 72) v2.toNatClampNeg)))))])) H := Eq.mp (congrArg (fun w => va_P (dC, dI) vwCl w H) (stM_aM0 ad cy iM aM [(0, x_aM0)] ((upd x_aM0 v2.toNatClampNeg (vp_nar .byte (((aM 72) v2.toNatClampNeg))))))) hP
        have hD : va_D A (zzM ad cy iM (us aM [(0, (upd x_aM0 v2.toNatClampNeg (vp_nar .byte (((aM 72) v2.toNatClampNeg)))))])) := Eq.mp (congrArg (fun w => va_D A w) (stM_aM0 ad cy iM aM [(0, x_aM0)] ((upd x_aM0 v2.toNatClampNeg (vp_nar .byte (((aM 72) v2.toNatClampNeg))))))) hD
        refine lv_iinc (v := (v2 + (1 : Int32))) (lv' := [(2, .int ((v2 + (1 : Int32)))), (0, .ref (ad 0)), (1, .int v1)]) hx hb dX8_back_40 hl (k := 2) rfl rfl (by decide) rfl (fun ls hl => ?_)
        refine lv_goto (tgt := 23) hx hb dX8_back_43 (by decide) ?_
        exact ih v1 ((v2 + (1 : Int32))) ((upd x_aM0 v2.toNatClampNeg (vp_nar .byte (((aM 72) v2.toNatClampNeg))))) H locs ls h hP hD hS (lv_sub hl [1, 2, 0] rfl)
  intro H locs hP hD hS
  unfold f_M_back at h
  refine lv_aload_n hx hb dX8_back_0 rfl (lv_at hl 0 rfl) ?_
  refine va_get (D := (dC, dI)) (ci := 8) (v := .int (iM 73)) (C := RX8) (T := TX8) (N := 78) hx hb hts ki8 hown hK hP 0 rfl rfl 73 (by decide) kf402 (fun _ h9 => h9) rfl dX8_back_1 ?_
  refine lv_sipush (v := 2000) hx hb dX8_back_4 (by decide) ?_
  refine lv_icmp_ge (tgt := 17) hx hb dX8_back_7 (by decide) (fun cz => ?_) (fun cz => ?_)
  · have h := g_t h cz
    refine lv_sipush (v := 2000) hx hb dX8_back_17 (by decide) ?_
    refine lv_istore_n (lv' := [(1, .int ((2000 : Int32))), (0, .ref (ad 0))]) hx hb dX8_back_20 rfl hl (by decide) rfl (fun ls hl => ?_)
    refine lv_iconst (v := 0) hx hb dX8_back_21 (by decide) ?_
    refine lv_istore_n (lv' := [(2, .int ((0 : Int32))), (1, .int ((2000 : Int32))), (0, .ref (ad 0))]) hx hb dX8_back_22 rfl hl (by decide) rfl (fun ls hl => ?_)
    exact B23 N ((2000 : Int32)) ((0 : Int32)) (aM 0) H locs ls h hP hD hS (lv_sub hl [2, 1, 0] rfl)
  · have h := g_f h cz
    refine lv_aload_n hx hb dX8_back_10 rfl (lv_at hl 0 rfl) ?_
    refine va_get (D := (dC, dI)) (ci := 8) (v := .int (iM 73)) (C := RX8) (T := TX8) (N := 78) hx hb hts ki8 hown hK hP 0 rfl rfl 73 (by decide) kf402 (fun _ h9 => h9) rfl dX8_back_11 ?_
    refine lv_goto (tgt := 20) hx hb dX8_back_14 (by decide) ?_
    refine lv_istore_n (lv' := [(1, .int (iM 73)), (0, .ref (ad 0))]) hx hb dX8_back_20 rfl hl (by decide) rfl (fun ls hl => ?_)
    refine lv_iconst (v := 0) hx hb dX8_back_21 (by decide) ?_
    refine lv_istore_n (lv' := [(2, .int ((0 : Int32))), (1, .int (iM 73)), (0, .ref (ad 0))]) hx hb dX8_back_22 rfl hl (by decide) rfl (fun ls hl => ?_)
    exact B23 N (iM 73) ((0 : Int32)) (aM 0) H locs ls h hP hD hS (lv_sub hl [2, 1, 0] rfl)
