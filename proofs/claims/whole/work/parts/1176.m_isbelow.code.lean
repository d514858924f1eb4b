def f_M_isBelow_14 (N : Nat) (aM30 : Nat → Int32) (v1 : Int32) (v2 : Int32) : Nat → Int32 → Int32 → Option Int32
  | 0, _, _ => none
  | n + 1, v3, v4 => if (3 : Int32) ≤ v4 then (if vp_nar .boolean v3 = v3 then (some v3) else none) else (if v3 = 0 then (if (((3 : Int32) * v1) + v4) < 0 ∨ 18 ≤ ((((3 : Int32) * v1) + v4)).toNatClampNeg then none else (if (aM30 ((((3 : Int32) * v1) + v4)).toNatClampNeg) = 0 then (f_M_isBelow_14 N aM30 v1 v2 n ((0 : Int32)) ((v4 + (1 : Int32)))) else (if (((3 : Int32) * v4) + v2) < 0 ∨ 18 ≤ ((((3 : Int32) * v4) + v2)).toNatClampNeg then none else (if (aM30 ((((3 : Int32) * v4) + v2)).toNatClampNeg) = 0 then (f_M_isBelow_14 N aM30 v1 v2 n ((0 : Int32)) ((v4 + (1 : Int32)))) else (f_M_isBelow_14 N aM30 v1 v2 n ((1 : Int32)) ((v4 + (1 : Int32)))))))) else (f_M_isBelow_14 N aM30 v1 v2 n ((1 : Int32)) ((v4 + (1 : Int32)))))
def f_M_isBelow (N : Nat) (a1 : Int32) (a2 : Int32) (aM30 : Nat → Int32) : Option Int32 := if (((3 : Int32) * a1) + a2) < 0 ∨ 18 ≤ ((((3 : Int32) * a1) + a2)).toNatClampNeg then none else (f_M_isBelow_14 N aM30 a1 a2 N ((aM30 ((((3 : Int32) * a1) + a2)).toNatClampNeg)) ((0 : Int32)))
set_option maxHeartbeats 8000000 in
set_option maxRecDepth 100000 in
theorem c_M_isBelow (l : Launch) (dC : Nat → ClassId) (dI : Nat → Nat → Nat) (cy : Nat → ClassId) (ad : Nat → Nat) (sz : Nat) (N : Nat) (a1 : Int32) (a2 : Int32) (iM : Nat → Int32) (aM : Nat → Nat → Int32) (q : Int32) (h : f_M_isBelow N a1 a2 (aM 30) = some q) : Met l yX8_isBelow wsX8_isBelow ({ frames := 0, cells := 0, slots := 0, locals := 0 } : Room) (cP (dC, dI) cy [.ref (ad 0), .int a1, .int a2] (zzM ad cy iM aM) sz) (cQi (dC, dI) cy q (zzM ad cy iM aM) (va_A (zzM ad cy iM aM) sz)) 0 0 (va_A (zzM ad cy iM aM) sz) := by
  refine Met.ofW (cc := cX8_isBelow) (maxL := 5) (ret := (some .boolean)) (by decide) rfl ?_
  intro p e s m args below meth c s₁ B hml hv
  obtain ⟨hav, hsz, hP, hK, hD0, hN⟩ := hv
  have hx := B.exec
  have hb := B.bytes
  have hr := B.returns
  have hts := atoms_spec (ws := wsX8_isBelow) B.pre
  have hown : s.vm.findClass RX8 = some m.cls := findClass_of_methodNamed B.named
  have hlocks := B.notSynchronized
  subst hsz
  have hD := hD0.self (sz := s.heap.size)
  generalize hAe : va_A (zzM ad cy iM aM) s.heap.size = A at hD ⊢
  have hA : ∀ q : Nat, s.heap.size ≤ q → A q := fun q h => by rw [← hAe]; exact Or.inr h
  have hS : va_S A s.heap s.heap [] := va_S.rf
  generalize hWQ : (zzM ad cy iM aM) = WQ
  generalize hQQ : MQ below (cQi (dC, dI) cy q WQ A) args s 0 0 A = QQ
  have hl := lv_entry ([.ref (ad 0), .int a1, .int a2] : List Value) (n := 5) (Nat.le_of_ble_eq_true rfl)
  have hfr := lg_entry_eq m ([.ref (ad 0), .int a1, .int a2] : List Value) 5
  rw [← hav] at hfr
  rw [hfr]
  clear hfr hav
  generalize (lg_sl ([.ref (ad 0), .int a1, .int a2] : List Value) ++ List.replicate (5 - (lg_sl ([.ref (ad 0), .int a1, .int a2] : List Value)).length) Slot.unset).toArray = ls at hl ⊢
  have hl : lv_has ls 5 [(0, .ref (ad 0)), (1, .int a1), (2, .int a2)] := hl
  have kf67 := hts _ (List.mem_cons_of_mem _ m_fl_X8_67)
  have ki8 := (fun w h => List.mem_cons_of_mem _ (i_X8 w h) : ∀ w ∈ u_ws RX8 TX8 78, w ∈ wsX8_isBelow)
  refine (?_ : ∀ (H : Heap) (locs : List Loc), va_P (dC, dI) vwCl (zzM ad cy iM aM) H → va_D A (zzM ad cy iM aM) → va_S A s.heap H locs → W p l e ({ frames := 0, cells := 0, slots := 0, locals := 0 } : Room) s m args below meth c H locs 0 0 QQ (F0 m 0 ls [])) s.heap [] hP hD hS
  clear hP hD hS
  have B14 : ∀ (n : Nat) (v1 : Int32) (v2 : Int32) (v3 : Int32) (v4 : Int32) (H : Heap) (locs : List Loc) (ls : Array Slot), f_M_isBelow_14 N (aM 30) v1 v2 n v3 v4 = some q → va_P (dC, dI) vwCl (zzM ad cy iM aM) H → va_D A (zzM ad cy iM aM) → va_S A s.heap H locs → lv_has ls 5 [(0, .ref (ad 0)), (1, .int v1), (2, .int v2), (3, .int v3), (4, .int v4)] → W p l e ({ frames := 0, cells := 0, slots := 0, locals := 0 } : Room) s m args below meth c H locs 0 0 QQ (F0 m 14 ls []) := by
    intro n
    induction n with
    | zero =>
      intro v1 v2 v3 v4 H locs ls h hP hD hS hl
      rw [f_M_isBelow_14] at h
      cases h
    | succ n ih =>
      intro v1 v2 v3 v4 H locs ls h hP hD hS hl
      rw [f_M_isBelow_14] at h
      refine lv_iload hx hb dX8_isBelow_14 (lv_at hl 4 rfl) ?_
      refine lv_iconst (v := 3) hx hb dX8_isBelow_16 (by decide) ?_
      refine lv_icmp_ge (tgt := 64) hx hb dX8_isBelow_17 (by decide) (fun cz => ?_) (fun cz => ?_)
      · have h := g_t h cz
        refine lv_iload_n hx hb dX8_isBelow_64 rfl (lv_at hl 3 rfl) ?_
        obtain ⟨gz, h⟩ := g_p h
        have h' := Option.some.inj h
        rw [← hQQ]
        exact W.zret (v := v3) hx hb hr (g_zr _ gz) (fun t ht hW => ⟨⟨v3, (), rfl, by rw [← h'], by rw [← hWQ, ht]; exact hP, va_K.moved hW.alike hK⟩, hS.F ht⟩) hS.2.2 dX8_isBelow_65
      · have h := g_f h cz
        refine lv_iload_n hx hb dX8_isBelow_20 rfl (lv_at hl 3 rfl) ?_
        refine lv_if_ne (tgt := 52) hx hb dX8_isBelow_21 (by decide) (fun cz => ?_) (fun cz => ?_)
        · have h := g_f h cz
          refine lv_iconst (v := 1) hx hb dX8_isBelow_52 (by decide) ?_
          refine lv_goto (tgt := 57) hx hb dX8_isBelow_53 (by decide) ?_
          refine lv_istore_n (lv' := [(3, .int ((1 : Int32))), (0, .ref (ad 0)), (1, .int v1), (2, .int v2), (4, .int v4)]) hx hb dX8_isBelow_57 rfl hl (by decide) rfl (fun ls hl => ?_)
          refine lv_iinc (v := (v4 + (1 : Int32))) (lv' := [(4, .int ((v4 + (1 : Int32)))), (3, .int ((1 : Int32))), (0, .ref (ad 0)), (1, .int v1), (2, .int v2)]) hx hb dX8_isBelow_58 hl (k := 4) rfl rfl (by decide) rfl (fun ls hl => ?_)
          refine lv_goto (tgt := 14) hx hb dX8_isBelow_61 (by decide) ?_
          exact ih v1 v2 ((1 : Int32)) ((v4 + (1 : Int32))) H locs ls h hP hD hS (lv_sub hl [2, 3, 4, 1, 0] rfl)
        · have h := g_t h cz
          refine lv_aload_n hx hb dX8_isBelow_24 rfl (lv_at hl 0 rfl) ?_
          refine va_get (D := (dC, dI)) (ci := 8) (v := .ref (ad 19)) (C := RX8) (T := TX8) (N := 78) hx hb hts ki8 hown hK hP 0 rfl rfl 30 (by decide) kf67 (fun _ h9 => h9) rfl dX8_isBelow_25 ?_
          refine lv_iconst (v := 3) hx hb dX8_isBelow_28 (by decide) ?_
          refine lv_iload_n hx hb dX8_isBelow_29 rfl (lv_at hl 1 rfl) ?_
          refine lv_imul hx hb dX8_isBelow_30 ?_
          refine lv_iload hx hb dX8_isBelow_31 (lv_at hl 4 rfl) ?_
          refine lv_iadd hx hb dX8_isBelow_33 ?_
          obtain ⟨g_95, h⟩ := g_n h
          refine va_zald (f := (aM 30)) hx hb hK hP 19 4 rfl rfl g_95 dX8_isBelow_34 ?_
          refine lv_if_eq (tgt := 56) hx hb dX8_isBelow_35 (by decide) (fun cz => ?_) (fun cz => ?_)
          · have h := g_t h cz
            refine lv_iconst (v := 0) hx hb dX8_isBelow_56 (by decide) ?_
            refine lv_istore_n (lv' := [(3, .int ((0 : Int32))), (0, .ref (ad 0)), (1, .int v1), (2, .int v2), (4, .int v4)]) hx hb dX8_isBelow_57 rfl hl (by decide) rfl (fun ls hl => ?_)
            refine lv_iinc (v := (v4 + (1 : Int32))) (lv' := [(4, .int ((v4 + (1 : Int32)))), (3, .int ((0 : Int32))), (0, .ref (ad 0)), (1, .int v1), (2, .int v2)]) hx hb dX8_isBelow_58 hl (k := 4) rfl rfl (by decide) rfl (fun ls hl => ?_)
            refine lv_goto (tgt := 14) hx hb dX8_isBelow_61 (by decide) ?_
            exact ih v1 v2 ((0 : Int32)) ((v4 + (1 : Int32))) H locs ls h hP hD hS (lv_sub hl [2, 3, 4, 1, 0] rfl)
          · have h := g_f h cz
            refine lv_aload_n hx hb dX8_isBelow_38 rfl (lv_at hl 0 rfl) ?_
            refine va_get (D := (dC, dI)) (ci := 8) (v := .ref (ad 19)) (C := RX8) (T := TX8) (N := 78) hx hb hts ki8 hown hK hP 0 rfl rfl 30 (by decide) kf67 (fun _ h9 => h9) rfl dX8_isBelow_39 ?_
            refine lv_iconst (v := 3) hx hb dX8_isBelow_42 (by decide) ?_
            refine lv_iload hx hb dX8_isBelow_43 (lv_at hl 4 rfl) ?_
            refine lv_imul hx hb dX8_isBelow_45 ?_
            refine lv_iload_n hx hb dX8_isBelow_46 rfl (lv_at hl 2 rfl) ?_
            refine lv_iadd hx hb dX8_isBelow_47 ?_
            obtain ⟨g_96, h⟩ := g_n h
            refine va_zald (f := (aM 30)) hx hb hK hP 19 4 rfl rfl g_96 dX8_isBelow_48 ?_
            refine lv_if_eq (tgt := 56) hx hb dX8_isBelow_49 (by decide) (fun cz => ?_) (fun cz => ?_)
            · have h := g_t h cz
              refine lv_iconst (v := 0) hx hb dX8_isBelow_56 (by decide) ?_
              refine lv_istore_n (lv' := [(3, .int ((0 : Int32))), (0, .ref (ad 0)), (1, .int v1), (2, .int v2), (4, .int v4)]) hx hb dX8_isBelow_57 rfl hl (by decide) rfl (fun ls hl => ?_)
              refine lv_iinc (v := (v4 + (1 : Int32))) (lv' := [(4, .int ((v4 + (1 : Int32)))), (3, .int ((0 : Int32))), (0, .ref (ad 0)), (1, .int v1), (2, .int v2)]) hx hb dX8_isBelow_58 hl (k := 4) rfl rfl (by decide) rfl (fun ls hl => ?_)
              refine lv_goto (tgt := 14) hx hb dX8_isBelow_61 (by decide) ?_
              exact ih v1 v2 ((0 : Int32)) ((v4 + (1 : Int32))) H locs ls h hP hD hS (lv_sub hl [2, 3, 4, 1, 0] rfl)
            · have h := g_f h cz
              refine lv_iconst (v := 1) hx hb dX8_isBelow_52 (by decide) ?_
              refine lv_goto (tgt := 57) hx hb dX8_isBelow_53 (by decide) ?_
              refine lv_istore_n (lv' := [(3, .int ((1 : Int32))), (0, .ref (ad 0)), (1, .int v1), (2, .int v2), (4, .int v4)]) hx hb dX8_isBelow_57 rfl hl (by decide) rfl (fun ls hl => ?_)
              refine lv_iinc (v := (v4 + (1 : Int32))) (lv' := [(4, .int ((v4 + (1 : Int32)))), (3, .int ((1 : Int32))), (0, .ref (ad 0)), (1, .int v1), (2, .int v2)]) hx hb dX8_isBelow_58 hl (k := 4) rfl rfl (by decide) rfl (fun ls hl => ?_)
              refine lv_goto (tgt := 14) hx hb dX8_isBelow_61 (by decide) ?_
              exact ih v1 v2 ((1 : Int32)) ((v4 + (1 : Int32))) H locs ls h hP hD hS (lv_sub hl [2, 3, 4, 1, 0] rfl)
  intro H locs hP hD hS
  unfold f_M_isBelow at h
  refine lv_aload_n hx hb dX8_isBelow_0 rfl (lv_at hl 0 rfl) ?_
  refine va_get (D := (dC, dI)) (ci := 8) (v := .ref (ad 19)) (C := RX8) (T := TX8) (N := 78) hx hb hts ki8 hown hK hP 0 rfl rfl 30 (by decide) kf67 (fun _ h9 => h9) rfl dX8_isBelow_1 ?_
  refine lv_iconst (v := 3) hx hb dX8_isBelow_4 (by decide) ?_
  refine lv_iload_n hx hb dX8_isBelow_5 rfl (lv_at hl 1 rfl) ?_
  refine lv_imul hx hb dX8_isBelow_6 ?_
  refine lv_iload_n hx hb dX8_isBelow_7 rfl (lv_at hl 2 rfl) ?_
  refine lv_iadd hx hb dX8_isBelow_8 ?_
  obtain ⟨g_97, h⟩ := g_n h
  refine va_zald (f := (aM 30)) hx hb hK hP 19 4 rfl rfl g_97 dX8_isBelow_9 ?_
  refine lv_istore_n (lv' := [(3, .int (((aM 30) ((((3 : Int32) * a1) + a2)).toNatClampNeg))), (0, .ref (ad 0)), (1, .int a1), (2, .int a2)]) hx hb dX8_isBelow_10 rfl hl (by decide) rfl (fun ls hl => ?_)
  refine lv_iconst (v := 0) hx hb dX8_isBelow_11 (by decide) ?_
  refine lv_istore (lv' := [(4, .int ((0 : Int32))), (3, .int (((aM 30) ((((3 : Int32) * a1) + a2)).toNatClampNeg))), (0, .ref (ad 0)), (1, .int a1), (2, .int a2)]) hx hb dX8_isBelow_12 hl (by decide) rfl (fun ls hl => ?_)
  exact B14 N a1 a2 (((aM 30) ((((3 : Int32) * a1) + a2)).toNatClampNeg)) ((0 : Int32)) H locs ls h hP hD hS (lv_sub hl [2, 3, 4, 1, 0] rfl)
