def f_M_thingOf_2 (N : Nat) (iM66 : Int32) (aM67 : Nat → Int32) (v1 : Int32) : Nat → Int32 → Option (Int32 × Int32 × (Nat → Int32))
  | 0, _ => none
  | n + 1, v2 => if iM66 ≤ v2 then (if iM66 < 0 ∨ 512 ≤ iM66.toNatClampNeg then none else (some (((iM66 + (1 : Int32)) - (1 : Int32)), (iM66 + (1 : Int32)), (upd aM67 iM66.toNatClampNeg v1)))) else (if v2 < 0 ∨ 512 ≤ v2.toNatClampNeg then none else (if (aM67 v2.toNatClampNeg) = v1 then (some (v2, iM66, aM67)) else (f_M_thingOf_2 N iM66 aM67 v1 n ((v2 + (1 : Int32))))))
def f_M_thingOf (N : Nat) (a1 : Int32) (iM66 : Int32) (aM67 : Nat → Int32) : Option (Int32 × Int32 × (Nat → Int32)) := f_M_thingOf_2 N iM66 aM67 a1 N ((0 : Int32))
set_option maxHeartbeats 8000000 in
set_option maxRecDepth 100000 in
theorem c_M_thingOf (l : Launch) (dC : Nat → ClassId) (dI : Nat → Nat → Nat) (cy : Nat → ClassId) (ad : Nat → Nat) (sz : Nat) (N : Nat) (a1 : Int32) (iM : Nat → Int32) (aM : Nat → Nat → Int32) (q : Int32 × Int32 × (Nat → Int32)) (h : f_M_thingOf N a1 (iM 66) (aM 67) = some q) : Met l yX8_thingOf wsX8_thingOf ({ frames := 0, cells := 0, slots := 0, locals := 0 } : Room) (cP (dC, dI) cy [.ref (ad 0), .int a1] (zzM ad cy iM aM) sz) (cQi (dC, dI) cy q.1 (zzM ad cy (us iM [(66, q.2.1)]) (us aM [(67, q.2.2)])) (va_A (zzM ad cy iM aM) sz)) 0 0 (va_A (zzM ad cy iM aM) sz) := by
  refine Met.ofW (cc := cX8_thingOf) (maxL := 3) (ret := (some .int)) (by decide) rfl ?_
  intro p e s m args below meth c s₁ B hml hv
  obtain ⟨hav, hsz, hP, hK, hD0, hN⟩ := hv
  have hx := B.exec
  have hb := B.bytes
  have hr := B.returns
  have hts := atoms_spec (ws := wsX8_thingOf) B.pre
  have hown : s.vm.findClass RX8 = some m.cls := findClass_of_methodNamed B.named
  have hlocks := B.notSynchronized
  subst hsz
  have hD := hD0.self (sz := s.heap.size)
  generalize hAe : va_A (zzM ad cy iM aM) s.heap.size = A at hD ⊢
  have hA : ∀ q : Nat, s.heap.size ≤ q → A q := fun q h => by rw [← hAe]; exact Or.inr h
  have hS : va_S A s.heap s.heap [] := va_S.rf
  generalize hWQ : (zzM ad cy (us iM [(66, q.2.1)]) (us aM [(67, q.2.2)])) = WQ
  generalize hQQ : MQ below (cQi (dC, dI) cy q.1 WQ A) args s 0 0 A = QQ
  have hl := lv_entry ([.ref (ad 0), .int a1] : List Value) (n := 3) (Nat.le_of_ble_eq_true rfl)
  have hfr := lg_entry_eq m ([.ref (ad 0), .int a1] : List Value) 3
  rw [← hav] at hfr
  rw [hfr]
  clear hfr hav
  generalize (lg_sl ([.ref (ad 0), .int a1] : List Value) ++ List.replicate (3 - (lg_sl ([.ref (ad 0), .int a1] : List Value)).length) Slot.unset).toArray = ls at hl ⊢
  have hl : lv_has ls 3 [(0, .ref (ad 0)), (1, .int a1)] := hl
  have kf359 := hts _ (List.mem_cons_of_mem _ m_fl_X8_359)
  have ki8 := (fun w h => List.mem_cons_of_mem _ (i_X8 w h) : ∀ w ∈ u_ws RX8 TX8 78, w ∈ wsX8_thingOf)
  have kf123 := hts _ (List.mem_cons_of_mem _ m_fl_X8_123)
  refine (?_ : ∀ (H : Heap) (locs : List Loc), va_P (dC, dI) vwCl (zzM ad cy iM aM) H → va_D A (zzM ad cy iM aM) → va_S A s.heap H locs → W p l e ({ frames := 0, cells := 0, slots := 0, locals := 0 } : Room) s m args below meth c H locs 0 0 QQ (F0 m 0 ls [])) s.heap [] hP hD hS
  clear hP hD hS
  have B2 : ∀ (n : Nat) (v1 : Int32) (v2 : Int32) (H : Heap) (locs : List Loc) (ls : Array Slot), f_M_thingOf_2 N (iM 66) (aM 67) v1 n v2 = some q → va_P (dC, dI) vwCl (zzM ad cy iM aM) H → va_D A (zzM ad cy iM aM) → va_S A s.heap H locs → lv_has ls 3 [(0, .ref (ad 0)), (1, .int v1), (2, .int v2)] → W p l e ({ frames := 0, cells := 0, slots := 0, locals := 0 } : Room) s m args below meth c H locs 0 0 QQ (F0 m 2 ls []) := by
    intro n
    induction n with
    | zero =>
      intro v1 v2 H locs ls h hP hD hS hl
      rw [f_M_thingOf_2] at h
      cases h
    | succ n ih =>
      intro v1 v2 H locs ls h hP hD hS hl
      rw [f_M_thingOf_2] at h
      refine lv_iload_n hx hb dX8_thingOf_2 rfl (lv_at hl 2 rfl) ?_
      refine lv_aload_n hx hb dX8_thingOf_3 rfl (lv_at hl 0 rfl) ?_
      refine va_get (D := (dC, dI)) (ci := 8) (v := .int (iM 66)) (C := RX8) (T := TX8) (N := 78) hx hb hts ki8 hown hK hP 0 rfl rfl 66 (by decide) kf359 (fun _ h9 => h9) rfl dX8_thingOf_4 ?_
      refine lv_icmp_ge (tgt := 28) hx hb dX8_thingOf_7 (by decide) (fun cz => ?_) (fun cz => ?_)
      · have h := g_t h cz
        refine lv_aload_n hx hb dX8_thingOf_28 rfl (lv_at hl 0 rfl) ?_
        refine va_get (D := (dC, dI)) (ci := 8) (v := .ref (ad 36)) (C := RX8) (T := TX8) (N := 78) hx hb hts ki8 hown hK hP 0 rfl rfl 67 (by decide) kf123 (fun _ h9 => h9) rfl dX8_thingOf_29 ?_
        refine lv_aload_n hx hb dX8_thingOf_32 rfl (lv_at hl 0 rfl) ?_
        refine va_get (D := (dC, dI)) (ci := 8) (v := .int (iM 66)) (C := RX8) (T := TX8) (N := 78) hx hb hts ki8 hown hK hP 0 rfl rfl 66 (by decide) kf359 (fun _ h9 => h9) rfl dX8_thingOf_33 ?_
        refine lv_iload_n hx hb dX8_thingOf_36 rfl (lv_at hl 1 rfl) ?_
        obtain ⟨g_133, h⟩ := g_n h
        refine va_iast (f := (aM 67)) hx hb hK hP hD hS 36 0 rfl rfl g_133 dX8_thingOf_37 (fun H locs hP hD hS => ?_)
        have hP : va_P (dC, dI) vwCl (zzM ad cy iM (us aM [(67, (upd (aM 67) (iM 66).toNatClampNeg v1))])) H := Eq.mp (congrArg (fun w => va_P (dC, dI) vwCl w H) (sfM_aM67 ad cy iM aM ((upd (aM 67) (iM 66).toNatClampNeg v1)))) hP
        have hD : va_D A (zzM ad cy iM (us aM [(67, (upd (aM 67) (iM 66).toNatClampNeg v1))])) := Eq.mp (congrArg (fun w => va_D A w) (sfM_aM67 ad cy iM aM ((upd (aM 67) (iM 66).toNatClampNeg v1)))) hD
        refine lv_aload_n hx hb dX8_thingOf_38 rfl (lv_at hl 0 rfl) ?_
        refine lv_dup hx hb dX8_thingOf_39 rfl ?_
        refine va_get (D := (dC, dI)) (ci := 8) (v := .int (iM 66)) (C := RX8) (T := TX8) (N := 78) hx hb hts ki8 hown hK hP 0 rfl rfl 66 (by decide) kf359 (fun _ h9 => h9) rfl dX8_thingOf_40 ?_
        refine lv_iconst (v := 1) hx hb dX8_thingOf_43 (by decide) ?_
        refine lv_iadd hx hb dX8_thingOf_44 ?_
        refine va_put (D := (dC, dI)) (ci := 8) (v := .int (((iM 66) + (1 : Int32)))) (ty := .int) (C := RX8) (T := TX8) (N := 78) hx hb hts ki8 tyX8 tyX8_ok nmX8 hown hK hP hD hS 0 rfl rfl 66 (by decide) kf359 (fun _ h9 => h9) rfl (by decide +kernel) rfl rfl (Nat.le_of_ble_eq_true rfl) dX8_thingOf_45 (fun H locs hP hD hS => ?_)
        have hP : va_P (dC, dI) vwCl (zzM ad cy (us iM [(66, ((iM 66) + (1 : Int32)))]) (us aM [(67, (upd (aM 67) (iM 66).toNatClampNeg v1))])) H := Eq.mp (congrArg (fun w => va_P (dC, dI) vwCl w H) (sfM_iM66 ad cy iM (us aM [(67, (upd (aM 67) (iM 66).toNatClampNeg v1))]) (((iM 66) + (1 : Int32))))) hP
        have hD : va_D A (zzM ad cy (us iM [(66, ((iM 66) + (1 : Int32)))]) (us aM [(67, (upd (aM 67) (iM 66).toNatClampNeg v1))])) := Eq.mp (congrArg (fun w => va_D A w) (sfM_iM66 ad cy iM (us aM [(67, (upd (aM 67) (iM 66).toNatClampNeg v1))]) (((iM 66) + (1 : Int32))))) hD
        refine lv_aload_n hx hb dX8_thingOf_48 rfl (lv_at hl 0 rfl) ?_
        refine va_get (D := (dC, dI)) (ci := 8) (v := .int (((iM 66) + (1 : Int32)))) (C := RX8) (T := TX8) (N := 78) hx hb hts ki8 hown hK hP 0 rfl rfl 66 (by decide) kf359 (fun _ h9 => h9) rfl dX8_thingOf_49 ?_
        refine lv_iconst (v := 1) hx hb dX8_thingOf_52 (by decide) ?_
        refine lv_isub hx hb dX8_thingOf_53 ?_
        have h' := Option.some.inj h
        rw [← hQQ]
        exact W.iret (v := (((iM 66) + (1 : Int32)) - (1 : Int32))) hx hb hr (fun t ht hW => ⟨⟨(((iM 66) + (1 : Int32)) - (1 : Int32)), (), rfl, by rw [← h'], by rw [← hWQ, ← h', ht]; exact hP, va_K.moved hW.alike hK⟩, hS.F ht⟩) hS.2.2 dX8_thingOf_54
      · have h := g_f h cz
        refine lv_aload_n hx hb dX8_thingOf_10 rfl (lv_at hl 0 rfl) ?_
        refine va_get (D := (dC, dI)) (ci := 8) (v := .ref (ad 36)) (C := RX8) (T := TX8) (N := 78) hx hb hts ki8 hown hK hP 0 rfl rfl 67 (by decide) kf123 (fun _ h9 => h9) rfl dX8_thingOf_11 ?_
        refine lv_iload_n hx hb dX8_thingOf_14 rfl (lv_at hl 2 rfl) ?_
        obtain ⟨g_129, h⟩ := g_n h
        refine va_iald (f := (aM 67)) hx hb hK hP 36 0 rfl rfl g_129 dX8_thingOf_15 ?_
        refine lv_iload_n hx hb dX8_thingOf_16 rfl (lv_at hl 1 rfl) ?_
        refine lv_icmp_ne (tgt := 22) hx hb dX8_thingOf_17 (by decide) (fun cz => ?_) (fun cz => ?_)
        · have h := g_f h cz
          refine lv_iinc (v := (v2 + (1 : Int32))) (lv' := [(2, .int ((v2 + (1 : Int32)))), (0, .ref (ad 0)), (1, .int v1)]) hx hb dX8_thingOf_22 hl (k := 2) rfl rfl (by decide) rfl (fun ls hl => ?_)
          refine lv_goto (tgt := 2) hx hb dX8_thingOf_25 (by decide) ?_
          exact ih v1 ((v2 + (1 : Int32))) H locs ls h hP hD hS (lv_sub hl [1, 2, 0] rfl)
        · have h := g_t h cz
          refine lv_iload_n hx hb dX8_thingOf_20 rfl (lv_at hl 2 rfl) ?_
          have h' := Option.some.inj h
          rw [← hQQ]
          exact W.iret (v := v2) hx hb hr (fun t ht hW => ⟨⟨v2, (), rfl, by rw [← h'], by rw [← hWQ, ← h', ht]; exact hP, va_K.moved hW.alike hK⟩, hS.F ht⟩) hS.2.2 dX8_thingOf_21
  intro H locs hP hD hS
  unfold f_M_thingOf at h
  refine lv_iconst (v := 0) hx hb dX8_thingOf_0 (by decide) ?_
  refine lv_istore_n (lv' := [(2, .int ((0 : Int32))), (0, .ref (ad 0)), (1, .int a1)]) hx hb dX8_thingOf_1 rfl hl (by decide) rfl (fun ls hl => ?_)
  exact B2 N a1 ((0 : Int32)) H locs ls h hP hD hS (lv_sub hl [1, 2, 0] rfl)
