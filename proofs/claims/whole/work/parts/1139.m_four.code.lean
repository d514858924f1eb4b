def f_M_four_2 (N : Nat) (iM1 : Int32) (aM0 : Nat → Int32) (v1 : Int32) : Nat → Int32 → Int32 → (Nat → Int32) → Option (Int32 × (Nat → Int32))
  | 0, _, _, _ => none
  | n + 1, v2, x_iM1, x_aM0 => if v2 < 0 then (some (x_iM1, x_aM0)) else (if x_iM1 < 0 ∨ 2000 ≤ x_iM1.toNatClampNeg then none else (f_M_four_2 N iM1 aM0 v1 n ((v2 + (-1 : Int32))) ((x_iM1 + (1 : Int32))) ((upd x_aM0 x_iM1.toNatClampNeg (vp_nar .byte (((v1 >>> (((8 : Int32) * v2) &&& 31))).toInt8.toInt32))))))
def f_M_four (N : Nat) (a1 : Int32) (iM1 : Int32) (aM0 : Nat → Int32) : Option (Int32 × (Nat → Int32)) := f_M_four_2 N iM1 aM0 a1 N ((3 : Int32)) iM1 aM0
set_option maxHeartbeats 8000000 in
set_option maxRecDepth 100000 in
theorem c_M_four (l : Launch) (dC : Nat → ClassId) (dI : Nat → Nat → Nat) (cy : Nat → ClassId) (ad : Nat → Nat) (sz : Nat) (N : Nat) (a1 : Int32) (iM : Nat → Int32) (aM : Nat → Nat → Int32) (q : Int32 × (Nat → Int32)) (h : f_M_four N a1 (iM 1) (aM 0) = some q) : Met l yX8_four wsX8_four ({ frames := 0, cells := 0, slots := 0, locals := 0 } : Room) (cP (dC, dI) cy [.ref (ad 0), .int a1] (zzM ad cy iM aM) sz) (cQv (dC, dI) cy (zzM ad cy (us iM [(1, q.1)]) (us aM [(0, q.2)])) (va_A (zzM ad cy iM aM) sz)) 0 0 (va_A (zzM ad cy iM aM) sz) := by
  refine Met.ofW (cc := cX8_four) (maxL := 3) (ret := none) (by decide) rfl ?_
  intro p e s m args below meth c s₁ B hml hv
  obtain ⟨hav, hsz, hP, hK, hD0, hN⟩ := hv
  have hx := B.exec
  have hb := B.bytes
  have hr := B.returns
  have hts := atoms_spec (ws := wsX8_four) B.pre
  have hown : s.vm.findClass RX8 = some m.cls := findClass_of_methodNamed B.named
  have hlocks := B.notSynchronized
  subst hsz
  have hD := hD0.self (sz := s.heap.size)
  generalize hAe : va_A (zzM ad cy iM aM) s.heap.size = A at hD ⊢
  have hA : ∀ q : Nat, s.heap.size ≤ q → A q := fun q h => by rw [← hAe]; exact Or.inr h
  have hS : va_S A s.heap s.heap [] := va_S.rf
  generalize hWQ : (zzM ad cy (us iM [(1, q.1)]) (us aM [(0, q.2)])) = WQ
  generalize hQQ : MQ below (cQv (dC, dI) cy WQ A) args s 0 0 A = QQ
  have hl := lv_entry ([.ref (ad 0), .int a1] : List Value) (n := 3) (Nat.le_of_ble_eq_true rfl)
  have hfr := lg_entry_eq m ([.ref (ad 0), .int a1] : List Value) 3
  rw [← hav] at hfr
  rw [hfr]
  clear hfr hav
  generalize (lg_sl ([.ref (ad 0), .int a1] : List Value) ++ List.replicate (3 - (lg_sl ([.ref (ad 0), .int a1] : List Value)).length) Slot.unset).toArray = ls at hl ⊢
  have hl : lv_has ls 3 [(0, .ref (ad 0)), (1, .int a1)] := hl
  have kf7 := hts _ (List.mem_cons_of_mem _ m_fl_X8_7)
  have ki8 := (fun w h => List.mem_cons_of_mem _ (i_X8 w h) : ∀ w ∈ u_ws RX8 TX8 78, w ∈ wsX8_four)
  have kf147 := hts _ (List.mem_cons_of_mem _ m_fl_X8_147)
  refine (?_ : ∀ (H : Heap) (locs : List Loc), va_P (dC, dI) vwCl (zzM ad cy iM aM) H → va_D A (zzM ad cy iM aM) → va_S A s.heap H locs → W p l e ({ frames := 0, cells := 0, slots := 0, locals := 0 } : Room) s m args below meth c H locs 0 0 QQ (F0 m 0 ls [])) s.heap [] hP hD hS
  clear hP hD hS
  have B2 : ∀ (n : Nat) (v1 : Int32) (v2 : Int32) (x_iM1 : Int32) (x_aM0 : Nat → Int32) (H : Heap) (locs : List Loc) (ls : Array Slot), f_M_four_2 N (iM 1) (aM 0) v1 n v2 x_iM1 x_aM0 = some q → va_P (dC, dI) vwCl (zzM ad cy (us iM [(1, x_iM1)]) (us aM [(0, x_aM0)])) H → va_D A (zzM ad cy (us iM [(1, x_iM1)]) (us aM [(0, x_aM0)])) → va_S A s.heap H locs → lv_has ls 3 [(0, .ref (ad 0)), (1, .int v1), (2, .int v2)] → W p l e ({ frames := 0, cells := 0, slots := 0, locals := 0 } : Room) s m args below meth c H locs 0 0 QQ (F0 m 2 ls []) := by
    intro n
    induction n with
    | zero =>
      intro v1 v2 x_iM1 x_aM0 H locs ls h hP hD hS hl
      rw [f_M_four_2] at h
      cases h
    | succ n ih =>
      intro v1 v2 x_iM1 x_aM0 H locs ls h hP hD hS hl
      rw [f_M_four_2] at h
      refine lv_iload_n hx hb dX8_four_2 rfl (lv_at hl 2 rfl) ?_
      refine lv_if_lt (tgt := 38) hx hb dX8_four_3 (by decide) (fun cz => ?_) (fun cz => ?_)
      · have h := g_t h cz
        have h' := Option.some.inj h
        rw [← hQQ]
        exact W.vret hx hb hr (fun t ht hW => ⟨⟨(), rfl, trivial, by rw [← hWQ, ← h', ht]; exact hP, va_K.moved hW.alike hK⟩, hS.F ht⟩) hS.2.2 dX8_four_38
      · have h := g_f h cz
        refine lv_aload_n hx hb dX8_four_6 rfl (lv_at hl 0 rfl) ?_
        refine va_get (D := (dC, dI)) (ci := 8) (v := .ref (ad 1)) (C := RX8) (T := TX8) (N := 78) hx hb hts ki8 hown hK hP 0 rfl rfl 0 (by decide) kf7 (fun _ h9 => h9) rfl dX8_four_7 ?_
        refine lv_aload_n hx hb dX8_four_10 rfl (lv_at hl 0 rfl) ?_
        refine va_get (D := (dC, dI)) (ci := 8) (v := .int x_iM1) (C := RX8) (T := TX8) (N := 78) hx hb hts ki8 hown hK hP 0 rfl rfl 1 (by decide) kf147 (fun _ h9 => h9) rfl dX8_four_11 ?_
        refine lv_iload_n hx hb dX8_four_14 rfl (lv_at hl 1 rfl) ?_
        refine lv_bipush (v := 8) hx hb dX8_four_15 (by decide) ?_
        refine lv_iload_n hx hb dX8_four_17 rfl (lv_at hl 2 rfl) ?_
        refine lv_imul hx hb dX8_four_18 ?_
        refine lv_ishr hx hb dX8_four_19 ?_
        refine lv_i2b (v := ((v1 >>> (((8 : Int32) * v2) &&& 31))).toInt8.toInt32) hx hb dX8_four_20 rfl ?_
        obtain ⟨g_47, h⟩ := g_n h
        refine va_bast (f := x_aM0) hx hb hK hP hD hS 1 1 rfl rfl g_47 dX8_four_21 (fun H locs hP hD hS => ?_)
        have hP : va_P (dC, dI) vwCl (zzM ad cy (us iM [(1, x_iM1)]) (us aM [(0, (upd x_aM0 x_iM1.toNatClampNeg (vp_nar .byte (((v1 >>> (((8 : Int32) * v2) &&& 31))).toInt8.toInt32))))])) H := Eq.mp (congrArg (fun w => va_P (dC, dI) vwCl w H) (stM_aM0 ad cy (us iM [(1, x_iM1)]) aM [(0, x_aM0)] ((upd x_aM0 x_iM1.toNatClampNeg (vp_nar .byte (((v1 >>> (((8 : Int32) * v2) &&& 31))).toInt8.toInt32)))))) hP
        have hD : va_D A (zzM ad cy (us iM [(1, x_iM1)]) (us aM [(0, (upd x_aM0 x_iM1.toNatClampNeg (vp_nar .byte (((v1 >>> (((8 : Int32) * v2) &&& 31))).toInt8.toInt32))))])) := Eq.mp (congrArg (fun w => va_D A w) (stM_aM0 ad cy (us iM [(1, x_iM1)]) aM [(0, x_aM0)] ((upd x_aM0 x_iM1.toNatClampNeg (vp_nar .byte (((v1 >>> (((8 : Int32) * v2) &&& 31))).toInt8.toInt32)))))) hD
        refine lv_aload_n hx hb dX8_four_22 rfl (lv_at hl 0 rfl) ?_
        refine lv_dup hx hb dX8_four_23 rfl ?_
        refine va_get (D := (dC, dI)) (ci := 8) (v := .int x_iM1) (C := RX8) (T := TX8) (N := 78) hx hb hts ki8 hown hK hP 0 rfl rfl 1 (by decide) kf147 (fun _ h9 => h9) rfl dX8_four_24 ?_
        refine lv_iconst (v := 1) hx hb dX8_four_27 (by decide) ?_
        refine lv_iadd hx hb dX8_four_28 ?_
        refine va_put (D := (dC, dI)) (ci := 8) (v := .int ((x_iM1 + (1 : Int32)))) (ty := .int) (C := RX8) (T := TX8) (N := 78) hx hb hts ki8 tyX8 tyX8_ok nmX8 hown hK hP hD hS 0 rfl rfl 1 (by decide) kf147 (fun _ h9 => h9) rfl (by decide +kernel) rfl rfl (Nat.le_of_ble_eq_true rfl) dX8_four_29 (fun H locs hP hD hS => ?_)
        have hP : va_P (dC, dI) vwCl (zzM ad cy (us iM [(1, (x_iM1 + (1 : Int32)))]) (us aM [(0, (upd x_aM0 x_iM1.toNatClampNeg (vp_nar .byte (((v1 >>> (((8 : Int32) * v2) &&& 31))).toInt8.toInt32))))])) H := Eq.mp (congrArg (fun w => va_P (dC, dI) vwCl w H) (stM_iM1 ad cy iM (us aM [(0, (upd x_aM0 x_iM1.toNatClampNeg (vp_nar .byte (((v1 >>> (((8 : Int32) * v2) &&& 31))).toInt8.toInt32))))]) [(1, x_iM1)] ((x_iM1 + (1 : Int32))))) hP
        have hD : va_D A (zzM ad cy (us iM [(1, (x_iM1 + (1 : Int32)))]) (us aM [(0, (upd x_aM0 x_iM1.toNatClampNeg (vp_nar .byte (((v1 >>> (((8 : Int32) * v2) &&& 31))).toInt8.toInt32))))])) := Eq.mp (congrArg (fun w => va_D A w) (stM_iM1 ad cy iM (us aM [(0, (upd x_aM0 x_iM1.toNatClampNeg (vp_nar .byte (((v1 >>> (((8 : Int32) * v2) &&& 31))).toInt8.toInt32))))]) [(1, x_iM1)] ((x_iM1 + (1 : Int32))))) hD
        refine lv_iinc (v := (v2 + (-1 : Int32))) (lv' := [(2, .int ((v2 + (-1 : Int32)))), (0, .ref (ad 0)), (1, .int v1)]) hx hb dX8_four_32 hl (k := 2) rfl rfl (by decide) rfl (fun ls hl => ?_)
        refine lv_goto (tgt := 2) hx hb dX8_four_35 (by decide) ?_
        exact ih v1 ((v2 + (-1 : Int32))) ((x_iM1 + (1 : Int32))) ((upd x_aM0 x_iM1.toNatClampNeg (vp_nar .byte (((v1 >>> (((8 : Int32) * v2) &&& 31))).toInt8.toInt32)))) H locs ls h hP hD hS (lv_sub hl [1, 2, 0] rfl)
  intro H locs hP hD hS
  unfold f_M_four at h
  refine lv_iconst (v := 3) hx hb dX8_four_0 (by decide) ?_
  refine lv_istore_n (lv' := [(2, .int ((3 : Int32))), (0, .ref (ad 0)), (1, .int a1)]) hx hb dX8_four_1 rfl hl (by decide) rfl (fun ls hl => ?_)
  exact B2 N a1 ((3 : Int32)) (iM 1) (aM 0) H locs ls h hP hD hS (lv_sub hl [1, 2, 0] rfl)
