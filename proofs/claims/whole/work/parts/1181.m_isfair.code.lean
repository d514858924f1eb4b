def f_M_isFair_5 (N : Nat) (iM20 : Int32) (aM15 : Nat → Int32) (aM16 : Nat → Int32) (aM17 : Nat → Int32) (aM19 : Nat → Int32) (aM57 : Nat → Int32) (v1 : Int32) (v2 : Int32) : Nat → Int32 → Int32 → Option Int32
  | 0, _, _ => none
  | n + 1, v3, v4 => if iM20 ≤ v4 then (if vp_nar .boolean v3 = v3 then (some v3) else none) else (if ((v2 >>> (v4 &&& 31)) &&& (1 : Int32)) = 0 then (if v4 < 0 ∨ 24 ≤ v4.toNatClampNeg then none else (if (aM19 v4.toNatClampNeg) < 0 ∨ 500 ≤ ((aM19 v4.toNatClampNeg)).toNatClampNeg then none else (if (((512 : Int32) * (aM16 ((aM19 v4.toNatClampNeg)).toNatClampNeg)) + v1) < 0 ∨ 102400 ≤ ((((512 : Int32) * (aM16 ((aM19 v4.toNatClampNeg)).toNatClampNeg)) + v1)).toNatClampNeg then none else (if (((512 : Int32) * (aM17 ((aM19 v4.toNatClampNeg)).toNatClampNeg)) + v1) < 0 ∨ 102400 ≤ ((((512 : Int32) * (aM17 ((aM19 v4.toNatClampNeg)).toNatClampNeg)) + v1)).toNatClampNeg then none else (if v3 = 0 then (f_M_isFair_5 N iM20 aM15 aM16 aM17 aM19 aM57 v1 v2 n ((0 : Int32)) ((v4 + (1 : Int32)))) else (if (aM15 ((aM19 v4.toNatClampNeg)).toNatClampNeg) = 0 then (if (aM57 ((((512 : Int32) * (aM16 ((aM19 v4.toNatClampNeg)).toNatClampNeg)) + v1)).toNatClampNeg) = 0 then (f_M_isFair_5 N iM20 aM15 aM16 aM17 aM19 aM57 v1 v2 n ((1 : Int32)) ((v4 + (1 : Int32)))) else (if (aM57 ((((512 : Int32) * (aM17 ((aM19 v4.toNatClampNeg)).toNatClampNeg)) + v1)).toNatClampNeg) = 0 then (f_M_isFair_5 N iM20 aM15 aM16 aM17 aM19 aM57 v1 v2 n ((0 : Int32)) ((v4 + (1 : Int32)))) else (f_M_isFair_5 N iM20 aM15 aM16 aM17 aM19 aM57 v1 v2 n ((1 : Int32)) ((v4 + (1 : Int32)))))) else (if (aM57 ((((512 : Int32) * (aM16 ((aM19 v4.toNatClampNeg)).toNatClampNeg)) + v1)).toNatClampNeg) = (aM57 ((((512 : Int32) * (aM17 ((aM19 v4.toNatClampNeg)).toNatClampNeg)) + v1)).toNatClampNeg) then (f_M_isFair_5 N iM20 aM15 aM16 aM17 aM19 aM57 v1 v2 n ((1 : Int32)) ((v4 + (1 : Int32)))) else (f_M_isFair_5 N iM20 aM15 aM16 aM17 aM19 aM57 v1 v2 n ((0 : Int32)) ((v4 + (1 : Int32))))))))))) else (f_M_isFair_5 N iM20 aM15 aM16 aM17 aM19 aM57 v1 v2 n v3 ((v4 + (1 : Int32)))))
def f_M_isFair (N : Nat) (a1 : Int32) (a2 : Int32) (iM20 : Int32) (aM15 : Nat → Int32) (aM16 : Nat → Int32) (aM17 : Nat → Int32) (aM19 : Nat → Int32) (aM57 : Nat → Int32) : Option Int32 := f_M_isFair_5 N iM20 aM15 aM16 aM17 aM19 aM57 a1 a2 N ((1 : Int32)) ((0 : Int32))
set_option maxHeartbeats 8000000 in
set_option maxRecDepth 100000 in
theorem c_M_isFair (l : Launch) (dC : Nat → ClassId) (dI : Nat → Nat → Nat) (cy : Nat → ClassId) (ad : Nat → Nat) (sz : Nat) (N : Nat) (a1 : Int32) (a2 : Int32) (iM : Nat → Int32) (aM : Nat → Nat → Int32) (q : Int32) (h : f_M_isFair N a1 a2 (iM 20) (aM 15) (aM 16) (aM 17) (aM 19) (aM 57) = some q) : Met l yX8_isFair wsX8_isFair ({ frames := 0, cells := 0, slots := 0, locals := 0 } : Room) (cP (dC, dI) cy [.ref (ad 0), .int a1, .int a2] (zzM ad cy iM aM) sz) (cQi (dC, dI) cy q (zzM ad cy iM aM) (va_A (zzM ad cy iM aM) sz)) 0 0 (va_A (zzM ad cy iM aM) sz) := by
  refine Met.ofW (cc := cX8_isFair) (maxL := 8) (ret := (some .boolean)) (by decide) rfl ?_
  intro p e s m args below meth c s₁ B hml hv
  obtain ⟨hav, hsz, hP, hK, hD0, hN⟩ := hv
  have hx := B.exec
  have hb := B.bytes
  have hr := B.returns
  have hts := atoms_spec (ws := wsX8_isFair) B.pre
  have hown : s.vm.findClass RX8 = some m.cls := findClass_of_methodNamed B.named
  have hlocks := B.notSynchronized
  subst hsz
  have hD := hD0.self (sz := s.heap.size)
  generalize hAe : va_A (zzM ad cy iM aM) s.heap.size = A at hD ⊢
  have hA : ∀ q : Nat, s.heap.size ≤ q → A q := fun q h => by rw [← hAe]; exact Or.inr h
  have hS : va_S A s.heap s.heap [] := va_S.rf
  generalize hWQ : (zzM ad cy iM aM) = WQ
  generalize hQQ : MQ below (cQi (dC, dI) cy q WQ A) args s 0 0 A = QQ
  have hl := lv_entry ([.ref (ad 0), .int a1, .int a2] : List Value) (n := 8) (Nat.le_of_ble_eq_true rfl)
  have hfr := lg_entry_eq m ([.ref (ad 0), .int a1, .int a2] : List Value) 8
  rw [← hav] at hfr
  rw [hfr]
  clear hfr hav
  generalize (lg_sl ([.ref (ad 0), .int a1, .int a2] : List Value) ++ List.replicate (8 - (lg_sl ([.ref (ad 0), .int a1, .int a2] : List Value)).length) Slot.unset).toArray = ls at hl ⊢
  have hl : lv_has ls 8 [(0, .ref (ad 0)), (1, .int a1), (2, .int a2)] := hl
  have kf341 := hts _ (List.mem_cons_of_mem _ m_fl_X8_341)
  have ki8 := (fun w h => List.mem_cons_of_mem _ (i_X8 w h) : ∀ w ∈ u_ws RX8 TX8 78, w ∈ wsX8_isFair)
  have kf45 := hts _ (List.mem_cons_of_mem _ m_fl_X8_45)
  have kf102 := hts _ (List.mem_cons_of_mem _ m_fl_X8_102)
  have kf39 := hts _ (List.mem_cons_of_mem _ m_fl_X8_39)
  have kf42 := hts _ (List.mem_cons_of_mem _ m_fl_X8_42)
  have kf36 := hts _ (List.mem_cons_of_mem _ m_fl_X8_36)
  refine (?_ : ∀ (H : Heap) (locs : List Loc), va_P (dC, dI) vwCl (zzM ad cy iM aM) H → va_D A (zzM ad cy iM aM) → va_S A s.heap H locs → W p l e ({ frames := 0, cells := 0, slots := 0, locals := 0 } : Room) s m args below meth c H locs 0 0 QQ (F0 m 0 ls [])) s.heap [] hP hD hS
  clear hP hD hS
  have B5 : ∀ (n : Nat) (v1 : Int32) (v2 : Int32) (v3 : Int32) (v4 : Int32) (H : Heap) (locs : List Loc) (ls : Array Slot), f_M_isFair_5 N (iM 20) (aM 15) (aM 16) (aM 17) (aM 19) (aM 57) v1 v2 n v3 v4 = some q → va_P (dC, dI) vwCl (zzM ad cy iM aM) H → va_D A (zzM ad cy iM aM) → va_S A s.heap H locs → lv_has ls 8 [(0, .ref (ad 0)), (1, .int v1), (2, .int v2), (3, .int v3), (4, .int v4)] → W p l e ({ frames := 0, cells := 0, slots := 0, locals := 0 } : Room) s m args below meth c H locs 0 0 QQ (F0 m 5 ls []) := by
    intro n
    induction n with
    | zero =>
      intro v1 v2 v3 v4 H locs ls h hP hD hS hl
      rw [f_M_isFair_5] at h
      cases h
    | succ n ih =>
      intro v1 v2 v3 v4 H locs ls h hP hD hS hl
      rw [f_M_isFair_5] at h
      refine lv_iload hx hb dX8_isFair_5 (lv_at hl 4 rfl) ?_
      refine lv_aload_n hx hb dX8_isFair_7 rfl (lv_at hl 0 rfl) ?_
      refine va_get (D := (dC, dI)) (ci := 8) (v := .int (iM 20)) (C := RX8) (T := TX8) (N := 78) hx hb hts ki8 hown hK hP 0 rfl rfl 20 (by decide) kf341 (fun _ h9 => h9) rfl dX8_isFair_8 ?_
      refine lv_icmp_ge (tgt := 118) hx hb dX8_isFair_11 (by decide) (fun cz => ?_) (fun cz => ?_)
      · have h := g_t h cz
        refine lv_iload_n hx hb dX8_isFair_118 rfl (lv_at hl 3 rfl) ?_
        obtain ⟨gz, h⟩ := g_p h
        have h' := Option.some.inj h
        rw [← hQQ]
        exact W.zret (v := v3) hx hb hr (g_zr _ gz) (fun t ht hW => ⟨⟨v3, (), rfl, by rw [← h'], by rw [← hWQ, ht]; exact hP, va_K.moved hW.alike hK⟩, hS.F ht⟩) hS.2.2 dX8_isFair_119
      · have h := g_f h cz
        refine lv_iload_n hx hb dX8_isFair_14 rfl (lv_at hl 2 rfl) ?_
        refine lv_iload hx hb dX8_isFair_15 (lv_at hl 4 rfl) ?_
        refine lv_ishr hx hb dX8_isFair_17 ?_
        refine lv_iconst (v := 1) hx hb dX8_isFair_18 (by decide) ?_
        refine lv_iand hx hb dX8_isFair_19 ?_
        refine lv_if_ne (tgt := 112) hx hb dX8_isFair_20 (by decide) (fun cz => ?_) (fun cz => ?_)
        · have h := g_f h cz
          refine lv_iinc (v := (v4 + (1 : Int32))) (lv' := [(4, .int ((v4 + (1 : Int32)))), (0, .ref (ad 0)), (1, .int v1), (2, .int v2), (3, .int v3)]) hx hb dX8_isFair_112 hl (k := 4) rfl rfl (by decide) rfl (fun ls hl => ?_)
          refine lv_goto (tgt := 5) hx hb dX8_isFair_115 (by decide) ?_
          exact ih v1 v2 v3 ((v4 + (1 : Int32))) H locs ls h hP hD hS (lv_sub hl [1, 2, 3, 4, 0] rfl)
        · have h := g_t h cz
          refine lv_aload_n hx hb dX8_isFair_23 rfl (lv_at hl 0 rfl) ?_
          refine va_get (D := (dC, dI)) (ci := 8) (v := .ref (ad 12)) (C := RX8) (T := TX8) (N := 78) hx hb hts ki8 hown hK hP 0 rfl rfl 19 (by decide) kf45 (fun _ h9 => h9) rfl dX8_isFair_24 ?_
          refine lv_iload hx hb dX8_isFair_27 (lv_at hl 4 rfl) ?_
          obtain ⟨g_110, h⟩ := g_n h
          refine va_iald (f := (aM 19)) hx hb hK hP 12 0 rfl rfl g_110 dX8_isFair_29 ?_
          refine lv_istore (lv' := [(5, .int (((aM 19) v4.toNatClampNeg))), (0, .ref (ad 0)), (1, .int v1), (2, .int v2), (3, .int v3), (4, .int v4)]) hx hb dX8_isFair_30 hl (by decide) rfl (fun ls hl => ?_)
          refine lv_aload_n hx hb dX8_isFair_32 rfl (lv_at hl 1 rfl) ?_
          refine va_get (D := (dC, dI)) (ci := 8) (v := .ref (ad 29)) (C := RX8) (T := TX8) (N := 78) hx hb hts ki8 hown hK hP 0 rfl rfl 57 (by decide) kf102 (fun _ h9 => h9) rfl dX8_isFair_33 ?_
          refine lv_sipush (v := 512) hx hb dX8_isFair_36 (by decide) ?_
          refine lv_aload_n hx hb dX8_isFair_39 rfl (lv_at hl 1 rfl) ?_
          refine va_get (D := (dC, dI)) (ci := 8) (v := .ref (ad 10)) (C := RX8) (T := TX8) (N := 78) hx hb hts ki8 hown hK hP 0 rfl rfl 16 (by decide) kf39 (fun _ h9 => h9) rfl dX8_isFair_40 ?_
          refine lv_iload hx hb dX8_isFair_43 (lv_at hl 0 rfl) ?_
          obtain ⟨g_111, h⟩ := g_n h
          refine va_iald (f := (aM 16)) hx hb hK hP 10 0 rfl rfl g_111 dX8_isFair_45 ?_
          refine lv_imul hx hb dX8_isFair_46 ?_
          refine lv_iload_n hx hb dX8_isFair_47 rfl (lv_at hl 2 rfl) ?_
          refine lv_iadd hx hb dX8_isFair_48 ?_
          obtain ⟨g_112, h⟩ := g_n h
          refine va_zald (f := (aM 57)) hx hb hK hP 29 4 rfl rfl g_112 dX8_isFair_49 ?_
          refine lv_istore (lv' := [(6, .int (((aM 57) ((((512 : Int32) * ((aM 16) (((aM 19) v4.toNatClampNeg)).toNatClampNeg)) + v1)).toNatClampNeg))), (5, .int (((aM 19) v4.toNatClampNeg))), (0, .ref (ad 0)), (1, .int v1), (2, .int v2), (3, .int v3), (4, .int v4)]) hx hb dX8_isFair_50 hl (by decide) rfl (fun ls hl => ?_)
          refine lv_aload_n hx hb dX8_isFair_52 rfl (lv_at hl 2 rfl) ?_
          refine va_get (D := (dC, dI)) (ci := 8) (v := .ref (ad 29)) (C := RX8) (T := TX8) (N := 78) hx hb hts ki8 hown hK hP 0 rfl rfl 57 (by decide) kf102 (fun _ h9 => h9) rfl dX8_isFair_53 ?_
          refine lv_sipush (v := 512) hx hb dX8_isFair_56 (by decide) ?_
          refine lv_aload_n hx hb dX8_isFair_59 rfl (lv_at hl 2 rfl) ?_
          refine va_get (D := (dC, dI)) (ci := 8) (v := .ref (ad 11)) (C := RX8) (T := TX8) (N := 78) hx hb hts ki8 hown hK hP 0 rfl rfl 17 (by decide) kf42 (fun _ h9 => h9) rfl dX8_isFair_60 ?_
          refine lv_iload hx hb dX8_isFair_63 (lv_at hl 1 rfl) ?_
          refine va_iald (f := (aM 17)) hx hb hK hP 11 0 rfl rfl g_111 dX8_isFair_65 ?_
          refine lv_imul hx hb dX8_isFair_66 ?_
          refine lv_iload_n hx hb dX8_isFair_67 rfl (lv_at hl 3 rfl) ?_
          refine lv_iadd hx hb dX8_isFair_68 ?_
          obtain ⟨g_113, h⟩ := g_n h
          refine va_zald (f := (aM 57)) hx hb hK hP 29 4 rfl rfl g_113 dX8_isFair_69 ?_
          refine lv_istore (lv' := [(7, .int (((aM 57) ((((512 : Int32) * ((aM 17) (((aM 19) v4.toNatClampNeg)).toNatClampNeg)) + v1)).toNatClampNeg))), (6, .int (((aM 57) ((((512 : Int32) * ((aM 16) (((aM 19) v4.toNatClampNeg)).toNatClampNeg)) + v1)).toNatClampNeg))), (5, .int (((aM 19) v4.toNatClampNeg))), (0, .ref (ad 0)), (1, .int v1), (2, .int v2), (3, .int v3), (4, .int v4)]) hx hb dX8_isFair_70 hl (by decide) rfl (fun ls hl => ?_)
          refine lv_iload_n hx hb dX8_isFair_72 rfl (lv_at hl 6 rfl) ?_
          refine lv_if_eq (tgt := 110) hx hb dX8_isFair_73 (by decide) (fun cz => ?_) (fun cz => ?_)
          · have h := g_t h cz
            refine lv_iconst (v := 0) hx hb dX8_isFair_110 (by decide) ?_
            refine lv_istore_n (lv' := [(3, .int ((0 : Int32))), (7, .int (((aM 57) ((((512 : Int32) * ((aM 17) (((aM 19) v4.toNatClampNeg)).toNatClampNeg)) + v1)).toNatClampNeg))), (6, .int (((aM 57) ((((512 : Int32) * ((aM 16) (((aM 19) v4.toNatClampNeg)).toNatClampNeg)) + v1)).toNatClampNeg))), (5, .int (((aM 19) v4.toNatClampNeg))), (0, .ref (ad 0)), (1, .int v1), (2, .int v2), (4, .int v4)]) hx hb dX8_isFair_111 rfl hl (by decide) rfl (fun ls hl => ?_)
            refine lv_iinc (v := (v4 + (1 : Int32))) (lv' := [(4, .int ((v4 + (1 : Int32)))), (3, .int ((0 : Int32))), (7, .int (((aM 57) ((((512 : Int32) * ((aM 17) (((aM 19) v4.toNatClampNeg)).toNatClampNeg)) + v1)).toNatClampNeg))), (6, .int (((aM 57) ((((512 : Int32) * ((aM 16) (((aM 19) v4.toNatClampNeg)).toNatClampNeg)) + v1)).toNatClampNeg))), (5, .int (((aM 19) v4.toNatClampNeg))), (0, .ref (ad 0)), (1, .int v1), (2, .int v2)]) hx hb dX8_isFair_112 hl (k := 7) rfl rfl (by decide) rfl (fun ls hl => ?_)
            refine lv_goto (tgt := 5) hx hb dX8_isFair_115 (by decide) ?_
            exact ih v1 v2 ((0 : Int32)) ((v4 + (1 : Int32))) H locs ls h hP hD hS (lv_sub hl [5, 6, 7, 1, 0] rfl)
          · have h := g_f h cz
            refine lv_aload_n hx hb dX8_isFair_76 rfl (lv_at hl 3 rfl) ?_
            refine va_get (D := (dC, dI)) (ci := 8) (v := .ref (ad 9)) (C := RX8) (T := TX8) (N := 78) hx hb hts ki8 hown hK hP 0 rfl rfl 15 (by decide) kf36 (fun _ h9 => h9) rfl dX8_isFair_77 ?_
            refine lv_iload hx hb dX8_isFair_80 (lv_at hl 2 rfl) ?_
            refine va_iald (f := (aM 15)) hx hb hK hP 9 0 rfl rfl g_111 dX8_isFair_82 ?_
            refine lv_if_ne (tgt := 99) hx hb dX8_isFair_83 (by decide) (fun cz => ?_) (fun cz => ?_)
            · have h := g_f h cz
              refine lv_iload hx hb dX8_isFair_99 (lv_at hl 1 rfl) ?_
              refine lv_iload hx hb dX8_isFair_101 (lv_at hl 0 rfl) ?_
              refine lv_icmp_ne (tgt := 110) hx hb dX8_isFair_103 (by decide) (fun cz => ?_) (fun cz => ?_)
              · have h := g_f h cz
                refine lv_iconst (v := 0) hx hb dX8_isFair_110 (by decide) ?_
                refine lv_istore_n (lv' := [(3, .int ((0 : Int32))), (7, .int (((aM 57) ((((512 : Int32) * ((aM 17) (((aM 19) v4.toNatClampNeg)).toNatClampNeg)) + v1)).toNatClampNeg))), (6, .int (((aM 57) ((((512 : Int32) * ((aM 16) (((aM 19) v4.toNatClampNeg)).toNatClampNeg)) + v1)).toNatClampNeg))), (5, .int (((aM 19) v4.toNatClampNeg))), (0, .ref (ad 0)), (1, .int v1), (2, .int v2), (4, .int v4)]) hx hb dX8_isFair_111 rfl hl (by decide) rfl (fun ls hl => ?_)
                refine lv_iinc (v := (v4 + (1 : Int32))) (lv' := [(4, .int ((v4 + (1 : Int32)))), (3, .int ((0 : Int32))), (7, .int (((aM 57) ((((512 : Int32) * ((aM 17) (((aM 19) v4.toNatClampNeg)).toNatClampNeg)) + v1)).toNatClampNeg))), (6, .int (((aM 57) ((((512 : Int32) * ((aM 16) (((aM 19) v4.toNatClampNeg)).toNatClampNeg)) + v1)).toNatClampNeg))), (5, .int (((aM 19) v4.toNatClampNeg))), (0, .ref (ad 0)), (1, .int v1), (2, .int v2)]) hx hb dX8_isFair_112 hl (k := 7) rfl rfl (by decide) rfl (fun ls hl => ?_)
                refine lv_goto (tgt := 5) hx hb dX8_isFair_115 (by decide) ?_
                exact ih v1 v2 ((0 : Int32)) ((v4 + (1 : Int32))) H locs ls h hP hD hS (lv_sub hl [5, 6, 7, 1, 0] rfl)
              · have h := g_t h cz
                refine lv_iconst (v := 1) hx hb dX8_isFair_106 (by decide) ?_
                refine lv_goto (tgt := 111) hx hb dX8_isFair_107 (by decide) ?_
                refine lv_istore_n (lv' := [(3, .int ((1 : Int32))), (7, .int (((aM 57) ((((512 : Int32) * ((aM 17) (((aM 19) v4.toNatClampNeg)).toNatClampNeg)) + v1)).toNatClampNeg))), (6, .int (((aM 57) ((((512 : Int32) * ((aM 16) (((aM 19) v4.toNatClampNeg)).toNatClampNeg)) + v1)).toNatClampNeg))), (5, .int (((aM 19) v4.toNatClampNeg))), (0, .ref (ad 0)), (1, .int v1), (2, .int v2), (4, .int v4)]) hx hb dX8_isFair_111 rfl hl (by decide) rfl (fun ls hl => ?_)
                refine lv_iinc (v := (v4 + (1 : Int32))) (lv' := [(4, .int ((v4 + (1 : Int32)))), (3, .int ((1 : Int32))), (7, .int (((aM 57) ((((512 : Int32) * ((aM 17) (((aM 19) v4.toNatClampNeg)).toNatClampNeg)) + v1)).toNatClampNeg))), (6, .int (((aM 57) ((((512 : Int32) * ((aM 16) (((aM 19) v4.toNatClampNeg)).toNatClampNeg)) + v1)).toNatClampNeg))), (5, .int (((aM 19) v4.toNatClampNeg))), (0, .ref (ad 0)), (1, .int v1), (2, .int v2)]) hx hb dX8_isFair_112 hl (k := 7) rfl rfl (by decide) rfl (fun ls hl => ?_)
                refine lv_goto (tgt := 5) hx hb dX8_isFair_115 (by decide) ?_
                exact ih v1 v2 ((1 : Int32)) ((v4 + (1 : Int32))) H locs ls h hP hD hS (lv_sub hl [5, 6, 7, 1, 0] rfl)
            · have h := g_t h cz
              refine lv_iload hx hb dX8_isFair_86 (lv_at hl 1 rfl) ?_
              refine lv_if_eq (tgt := 106) hx hb dX8_isFair_88 (by decide) (fun cz => ?_) (fun cz => ?_)
              · have h := g_t h cz
                refine lv_iconst (v := 1) hx hb dX8_isFair_106 (by decide) ?_
                refine lv_goto (tgt := 111) hx hb dX8_isFair_107 (by decide) ?_
                refine lv_istore_n (lv' := [(3, .int ((1 : Int32))), (7, .int (((aM 57) ((((512 : Int32) * ((aM 17) (((aM 19) v4.toNatClampNeg)).toNatClampNeg)) + v1)).toNatClampNeg))), (6, .int (((aM 57) ((((512 : Int32) * ((aM 16) (((aM 19) v4.toNatClampNeg)).toNatClampNeg)) + v1)).toNatClampNeg))), (5, .int (((aM 19) v4.toNatClampNeg))), (0, .ref (ad 0)), (1, .int v1), (2, .int v2), (4, .int v4)]) hx hb dX8_isFair_111 rfl hl (by decide) rfl (fun ls hl => ?_)
                refine lv_iinc (v := (v4 + (1 : Int32))) (lv' := [(4, .int ((v4 + (1 : Int32)))), (3, .int ((1 : Int32))), (7, .int (((aM 57) ((((512 : Int32) * ((aM 17) (((aM 19) v4.toNatClampNeg)).toNatClampNeg)) + v1)).toNatClampNeg))), (6, .int (((aM 57) ((((512 : Int32) * ((aM 16) (((aM 19) v4.toNatClampNeg)).toNatClampNeg)) + v1)).toNatClampNeg))), (5, .int (((aM 19) v4.toNatClampNeg))), (0, .ref (ad 0)), (1, .int v1), (2, .int v2)]) hx hb dX8_isFair_112 hl (k := 7) rfl rfl (by decide) rfl (fun ls hl => ?_)
                refine lv_goto (tgt := 5) hx hb dX8_isFair_115 (by decide) ?_
                exact ih v1 v2 ((1 : Int32)) ((v4 + (1 : Int32))) H locs ls h hP hD hS (lv_sub hl [5, 6, 7, 1, 0] rfl)
              · have h := g_f h cz
                refine lv_iload hx hb dX8_isFair_91 (lv_at hl 0 rfl) ?_
                refine lv_if_eq (tgt := 110) hx hb dX8_isFair_93 (by decide) (fun cz => ?_) (fun cz => ?_)
                · have h := g_t h cz
                  refine lv_iconst (v := 0) hx hb dX8_isFair_110 (by decide) ?_
                  refine lv_istore_n (lv' := [(3, .int ((0 : Int32))), (7, .int (((aM 57) ((((512 : Int32) * ((aM 17) (((aM 19) v4.toNatClampNeg)).toNatClampNeg)) + v1)).toNatClampNeg))), (6, .int (((aM 57) ((((512 : Int32) * ((aM 16) (((aM 19) v4.toNatClampNeg)).toNatClampNeg)) + v1)).toNatClampNeg))), (5, .int (((aM 19) v4.toNatClampNeg))), (0, .ref (ad 0)), (1, .int v1), (2, .int v2), (4, .int v4)]) hx hb dX8_isFair_111 rfl hl (by decide) rfl (fun ls hl => ?_)
                  refine lv_iinc (v := (v4 + (1 : Int32))) (lv' := [(4, .int ((v4 + (1 : Int32)))), (3, .int ((0 : Int32))), (7, .int (((aM 57) ((((512 : Int32) * ((aM 17) (((aM 19) v4.toNatClampNeg)).toNatClampNeg)) + v1)).toNatClampNeg))), (6, .int (((aM 57) ((((512 : Int32) * ((aM 16) (((aM 19) v4.toNatClampNeg)).toNatClampNeg)) + v1)).toNatClampNeg))), (5, .int (((aM 19) v4.toNatClampNeg))), (0, .ref (ad 0)), (1, .int v1), (2, .int v2)]) hx hb dX8_isFair_112 hl (k := 7) rfl rfl (by decide) rfl (fun ls hl => ?_)
                  refine lv_goto (tgt := 5) hx hb dX8_isFair_115 (by decide) ?_
                  exact ih v1 v2 ((0 : Int32)) ((v4 + (1 : Int32))) H locs ls h hP hD hS (lv_sub hl [5, 6, 7, 1, 0] rfl)
                · have h := g_f h cz
                  refine lv_goto (tgt := 106) hx hb dX8_isFair_96 (by decide) ?_
                  refine lv_iconst (v := 1) hx hb dX8_isFair_106 (by decide) ?_
                  refine lv_goto (tgt := 111) hx hb dX8_isFair_107 (by decide) ?_
                  refine lv_istore_n (lv' := [(3, .int ((1 : Int32))), (7, .int (((aM 57) ((((512 : Int32) * ((aM 17) (((aM 19) v4.toNatClampNeg)).toNatClampNeg)) + v1)).toNatClampNeg))), (6, .int (((aM 57) ((((512 : Int32) * ((aM 16) (((aM 19) v4.toNatClampNeg)).toNatClampNeg)) + v1)).toNatClampNeg))), (5, .int (((aM 19) v4.toNatClampNeg))), (0, .ref (ad 0)), (1, .int v1), (2, .int v2), (4, .int v4)]) hx hb dX8_isFair_111 rfl hl (by decide) rfl (fun ls hl => ?_)
                  refine lv_iinc (v := (v4 + (1 : Int32))) (lv' := [(4, .int ((v4 + (1 : Int32)))), (3, .int ((1 : Int32))), (7, .int (((aM 57) ((((512 : Int32) * ((aM 17) (((aM 19) v4.toNatClampNeg)).toNatClampNeg)) + v1)).toNatClampNeg))), (6, .int (((aM 57) ((((512 : Int32) * ((aM 16) (((aM 19) v4.toNatClampNeg)).toNatClampNeg)) + v1)).toNatClampNeg))), (5, .int (((aM 19) v4.toNatClampNeg))), (0, .ref (ad 0)), (1, .int v1), (2, .int v2)]) hx hb dX8_isFair_112 hl (k := 7) rfl rfl (by decide) rfl (fun ls hl => ?_)
                  refine lv_goto (tgt := 5) hx hb dX8_isFair_115 (by decide) ?_
                  exact ih v1 v2 ((1 : Int32)) ((v4 + (1 : Int32))) H locs ls h hP hD hS (lv_sub hl [5, 6, 7, 1, 0] rfl)
  intro H locs hP hD hS
  unfold f_M_isFair at h
  refine lv_iconst (v := 1) hx hb dX8_isFair_0 (by decide) ?_
  refine lv_istore_n (lv' := [(3, .int ((1 : Int32))), (0, .ref (ad 0)), (1, .int a1), (2, .int a2)]) hx hb dX8_isFair_1 rfl hl (by decide) rfl (fun ls hl => ?_)
  refine lv_iconst (v := 0) hx hb dX8_isFair_2 (by decide) ?_
  refine lv_istore (lv' := [(4, .int ((0 : Int32))), (3, .int ((1 : Int32))), (0, .ref (ad 0)), (1, .int a1), (2, .int a2)]) hx hb dX8_isFair_3 hl (by decide) rfl (fun ls hl => ?_)
  exact B5 N a1 a2 ((1 : Int32)) ((0 : Int32)) H locs ls h hP hD hS (lv_sub hl [2, 3, 4, 1, 0] rfl)
