set_option maxHeartbeats 8000000 in
set_option maxRecDepth 100000 in
theorem c_M_isBelow (l : Launch) (dC : Nat → ClassId) (dI : Nat → Nat → Nat) (cy : Nat → ClassId) (ad : Nat → Nat) (sz : Nat) (N : Nat) (a1 : Int32) (a2 : Int32) (iM : Nat → Int32) (aM : Nat → Nat → Int32) (q : Int32) (h : f_M_isBelow N a1 a2 (aM 30) = some q) : Met l yX8_isBelow wsX8_isBelow ({ frames := 0, cells := 0, slots := 0, locals := 0 } : Room) (cP (dC, dI) cy [.ref (ad 0), .int a1, .int a2] (zzM ad cy iM aM) sz) (cQi (dC, dI) cy q (zzM ad cy iM aM) (va_A (zzM ad cy iM aM) sz)) 0 0 (va_A (zzM ad cy iM aM) sz) := by
  refine Met.ofW (cc := cX8_isBelow) (maxL := 5) (ret := (some .boolean)) (by decide) rfl ?_
  intro p e s m args below meth c s₁ B hml hv
  obtain ⟨hav, hsz, hP, hK, hD0, hN⟩ := hv
  have hx := B.exec
  have hb := B.bytes
  have hr := B.returns
  have hts := atoms_spec (ws := wsX8_isBelow) B.pre
  have hown : s.vm.findClass RX8 = some m.cls := findClass_of_methodNamed B.named
  have hlocks := B.notSynchronized
  subst hsz
  have hD := hD0.self (sz := s.heap.size)
  generalize hAe : va_A (zzM ad cy iM aM) s.heap.size = A at hD ⊢
  have hA : ∀ q : Nat, s.heap.size ≤ q → A q := fun q h => by rw [← hAe]; exact Or.inr h
  have hS : va_S A s.heap s.heap [] := va_S.rf
  generalize hWQ : (zzM ad cy iM aM) = WQ
  generalize hQQ : MQ below (cQi (dC, dI) cy q WQ A) args s 0 0 A = QQ
  have hl := lv_entry ([.ref (ad 0), .int a1, .int a2] : List Value) (n := 5) (Nat.le_of_ble_eq_true rfl)
  have hfr := lg_entry_eq m ([.ref (ad 0), .int a1, .int a2] : List Value) 5
  rw [← hav] at hfr
  rw [hfr]
  clear hfr hav
  generalize (lg_sl ([.ref (ad 0), .int a1, .int a2] : List Value) ++ List.replicate (5 - (lg_sl ([.ref (ad 0), .int a1, .int a2] : List Value)).length) Slot.unset).toArray = ls at hl ⊢
  have hl : lv_has ls 5 [(0, .ref (ad 0)), (1, .int a1), (2, .int a2)] := hl
  have kf67 := hts _ (List.mem_cons_of_mem _ m_fl_X8_67)
  have ki8 := (fun w h => List.mem_cons_of_mem _ (i_X8 w h) : ∀ w ∈ u_ws RX8 TX8 78, w ∈ wsX8_isBelow)
  refine (?_ : ∀ (H : Heap) (locs : List Loc), va_P (dC, dI) vwCl (zzM ad cy iM aM) H → va_D A (zzM ad cy iM aM) → va_S A s.heap H locs → W p l e ({ frames := 0, cells := 0, slots := 0, locals := 0 } : Room) s m args below meth c H locs 0 0 QQ (F0 m 0 ls [])) s.heap [] hP hD hS
  clear hP hD hS
  have B14 : ∀ (n : Nat) (v1 : Int32) (v2 : Int32) (v3 : Int32) (v4 : Int32) (H : Heap) (locs : List Loc) (ls : Array Slot), f_M_isBelow_14 N (aM 30) v1 v2 n v3 v4 = some q → va_P (dC, dI) vwCl (zzM ad cy iM aM) H → va_D A (zzM ad cy iM aM) → va_S A s.heap H locs → lv_has ls 5 [(0, .ref (ad 0)), (1, .int v1), (2, .int v2), (3, .int v3), (4, .int v4)] → W p l e ({ frames := 0, cells := 0, slots := 0, locals := 0 } : Room) s m args below meth c H locs 0 0 QQ (F0 m 14 ls []) := by
    intro n
    induction n with
    | zero =>
      intro v1 v2 v3 v4 H locs ls h hP hD hS hl
      rw [f_M_isBelow_14] at h
      cases h
    | succ n ih =>
      intro v1 v2 v3 v4 H locs ls h hP hD hS hl
      rw [f_M_isBelow_14] at h
      refine lv_iload hx hb dX8_isBelow_14 (lv_at hl 4 rfl) ?_
      refine lv_iconst (v := 3) hx hb dX8_isBelow_16 (by decide) ?_
      refine lv_icmp_ge (tgt := 64) hx hb dX8_isBelow_17 (by decide) (fun cz => ?_) (fun cz => ?_)
      · have h := g_t h cz
        refine lv_iload_n hx hb dX8_isBelow_64 rfl (lv_at hl 3 rfl) ?_
        obtain ⟨gz, h⟩ := g_p h
        have h' := Option.some.inj h
        rw [← hQQ]
        exact W.zret (v := v3) hx hb hr (g_zr _ gz) (fun t ht hW => ⟨⟨v3, (), rfl, by rw [← h'], by rw [← hWQ, ht]; exact hP, va_K.moved hW.alike hK⟩, hS.F ht⟩) hS.2.2 dX8_isBelow_65
      · have h := g_f h cz
        refine lv_iload_n hx hb dX8_isBelow_20 rfl (lv_at hl 3 rfl) ?_
        refine lv_if_ne (tgt := 52) hx hb dX8_isBelow_21 (by decide) (fun cz => ?_) (fun cz => ?_)
        · have h := g_f h cz
          refine lv_iconst (v := 1) hx hb dX8_isBelow_52 (by decide) ?_
          refine lv_goto (tgt := 57) hx hb dX8_isBelow_53 (by decide) ?_
          refine lv_istore_n (lv' := [(3, .int ((1 : Int32))), (0, .ref (ad 0)), (1, .int v1), (2, .int v2), (4, .int v4)]) hx hb dX8_isBelow_57 rfl hl (by decide) rfl (fun ls hl => ?_)
          refine lv_iinc (v := (v4 + (1 : Int32))) (lv' := [(4, .int ((v4 + (1 : Int32)))), (3, .int ((1 : Int32))), (0, .ref (ad 0)), (1, .int v1), (2, .int v2)]) hx hb dX8_isBelow_58 hl (k := 4) rfl rfl (by decide) rfl (fun ls hl => ?_)
          refine lv_goto (tgt := 14) hx hb dX8_isBelow_61 (by decide) ?_
          exact ih v1 v2 ((1 : Int32)) ((v4 + (1 : Int32))) H locs ls h hP hD hS (lv_sub hl [2, 3, 4, 1, 0] rfl)
        · have h := g_t h cz
          refine lv_aload_n hx hb dX8_isBelow_24 rfl (lv_at hl 0 rfl) ?_
          refine va_get (D := (dC, dI)) (ci := 8) (v := .ref (ad 19)) (C := RX8) (T := TX8) (N := 78) hx hb hts ki8 hown hK hP 0 rfl rfl 30 (by decide) kf67 (fun _ h9 => h9) rfl dX8_isBelow_25 ?_
          refine lv_iconst (v := 3) hx hb dX8_isBelow_28 (by decide) ?_
          refine lv_iload_n hx hb dX8_isBelow_29 rfl (lv_at hl 1 rfl) ?_
          refine lv_imul hx hb dX8_isBelow_30 ?_
          refine lv_iload hx hb dX8_isBelow_31 (lv_at hl 4 rfl) ?_
          refine lv_iadd hx hb dX8_isBelow_33 ?_
          obtain ⟨g_95, h⟩ := g_n h
          refine va_zald (f := (aM 30)) hx hb hK hP 19 4 rfl rfl g_95 dX8_isBelow_34 ?_
          refine lv_if_eq (tgt := 56) hx hb dX8_isBelow_35 (by decide) (fun cz => ?_) (fun cz => ?_)
          · have h := g_t h cz
            refine lv_iconst (v := 0) hx hb dX8_isBelow_56 (by decide) ?_
            refine lv_istore_n (lv' := [(3, .int ((0 : Int32))), (0, .ref (ad 0)), (1, .int v1), (2, .int v2), (4, .int v4)]) hx hb dX8_isBelow_57 rfl hl (by decide) rfl (fun ls hl => ?_)
            refine lv_iinc (v := (v4 + (1 : Int32))) (lv' := [(4, .int ((v4 + (1 : Int32)))), (3, .int ((0 : Int32))), (0, .ref (ad 0)), (1, .int v1), (2, .int v2)]) hx hb dX8_isBelow_58 hl (k := 4) rfl rfl (by decide) rfl (fun ls hl => ?_)
            refine lv_goto (tgt := 14) hx hb dX8_isBelow_61 (by decide) ?_
            exact ih v1 v2 ((0 : Int32)) ((v4 + (1 : Int32))) H locs ls h hP hD hS (lv_sub hl [2, 3, 4, 1, 0] rfl)
          · have h := g_f h cz
            refine lv_aload_n hx hb dX8_isBelow_38 rfl (lv_at hl 0 rfl) ?_
            refine va_get (D := (dC, dI)) (ci := 8) (v := .ref (ad 19)) (C := RX8) (T := TX8) (N := 78) hx hb hts ki8 hown hK hP 0 rfl rfl 30 (by decide) kf67 (fun _ h9 => h9) rfl dX8_isBelow_39 ?_
            refine lv_iconst (v := 3) hx hb dX8_isBelow_42 (by decide) ?_
            refine lv_iload hx hb dX8_isBelow_43 (lv_at hl 4 rfl) ?_
            refine lv_imul hx hb dX8_isBelow_45 ?_
            refine lv_iload_n hx hb dX8_isBelow_46 rfl (lv_at hl 2 rfl) ?_
            refine lv_iadd hx hb dX8_isBelow_47 ?_
            obtain ⟨g_96, h⟩ := g_n h
            refine va_zald (f := (aM 30)) hx hb hK hP 19 4 rfl rfl g_96 dX8_isBelow_48 ?_
            refine lv_if_eq (tgt := 56) hx hb dX8_isBelow_49 (by decide) (fun cz => ?_) (fun cz => ?_)
            · have h := g_t h cz
              refine lv_iconst (v := 0) hx hb dX8_isBelow_56 (by decide) ?_
              refine lv_istore_n (lv' := [(3, .int ((0 : Int32))), (0, .ref (ad 0)), (1, .int v1), (2, .int v2), (4, .int v4)]) hx hb dX8_isBelow_57 rfl hl (by decide) rfl (fun ls hl => ?_)
              refine lv_iinc (v := (v4 + (1 : Int32))) (lv' := [(4, .int ((v4 + (1 : Int32)))), (3, .int ((0 : Int32))), (0, .ref (ad 0)), (1, .int v1), (2, .int v2)]) hx hb dX8_isBelow_58 hl (k := 4) rfl rfl (by decide) rfl (fun ls hl => ?_)
              refine lv_goto (tgt := 14) hx hb dX8_isBelow_61 (by decide) ?_
              exact ih v1 v2 ((0 : Int32)) ((v4 + (1 : Int32))) H locs ls h hP hD hS (lv_sub hl [2, 3, 4, 1, 0] rfl)
            · have h := g_f h cz
              refine lv_iconst (v := 1) hx hb dX8_isBelow_52 (by decide) ?_
              refine lv_goto (tgt := 57) hx hb dX8_isBelow_53 (by decide) ?_
              refine lv_istore_n (lv' := [(3, .int ((1 : Int32))), (0, .ref (ad 0)), (1, .int v1), (2, .int v2), (4, .int v4)]) hx hb dX8_isBelow_57 rfl hl (by decide) rfl (fun ls hl => ?_)
              refine lv_iinc (v := (v4 + (1 : Int32))) (lv' := [(4, .int ((v4 + (1 : Int32)))), (3, .int ((1 : Int32))), (0, .ref (ad 0)), (1, .int v1), (2, .int v2)]) hx hb dX8_isBelow_58 hl (k := 4) rfl rfl (by decide) rfl (fun ls hl => ?_)
              refine lv_goto (tgt := 14) hx hb dX8_isBelow_61 (by decide) ?_
              exact ih v1 v2 ((1 : Int32)) ((v4 + (1 : Int32))) H locs ls h hP hD hS (lv_sub hl [2, 3, 4, 1, 0] rfl)
  intro H locs hP hD hS
  unfold f_M_isBelow at h
  refine lv_aload_n hx hb dX8_isBelow_0 rfl (lv_at hl 0 rfl) ?_
  refine va_get (D := (dC, dI)) (ci := 8) (v := .ref (ad 19)) (C := RX8) (T := TX8) (N := 78) hx hb hts ki8 hown hK hP 0 rfl rfl 30 (by decide) kf67 (fun _ h9 => h9) rfl dX8_isBelow_1 ?_
  refine lv_iconst (v := 3) hx hb dX8_isBelow_4 (by decide) ?_
  refine lv_iload_n hx hb dX8_isBelow_5 rfl (lv_at hl 1 rfl) ?_
  refine lv_imul hx hb dX8_isBelow_6 ?_
  refine lv_iload_n hx hb dX8_isBelow_7 rfl (lv_at hl 2 rfl) ?_
  refine lv_iadd hx hb dX8_isBelow_8 ?_
  obtain ⟨g_97, h⟩ := g_n h
  refine va_zald (f := (aM 30)) hx hb hK hP 19 4 rfl rfl g_97 dX8_isBelow_9 ?_
  refine lv_istore_n (lv' := [(3, .int (((aM 30) ((((3 : Int32) * a1) + a2)).toNatClampNeg))), (0, .ref (ad 0)), (1, .int a1), (2, .int a2)]) hx hb dX8_isBelow_10 rfl hl (by decide) rfl (fun ls hl => ?_)
  refine lv_iconst (v := 0) hx hb dX8_isBelow_11 (by decide) ?_
  refine lv_istore (lv' := [(4, .int ((0 : Int32))), (3, .int (((aM 30) ((((3 : Int32) * a1) + a2)).toNatClampNeg))), (0, .ref (ad 0)), (1, .int a1), (2, .int a2)]) hx hb dX8_isBelow_12 hl (by decide) rfl (fun ls hl => ?_)
  exact B14 N a1 a2 (((aM 30) ((((3 : Int32) * a1) + a2)).toNatClampNeg)) ((0 : Int32)) H locs ls h hP hD hS (lv_sub hl [2, 3, 4, 1, 0] rfl)
set_option maxHeartbeats 8000000 in
set_option maxRecDepth 100000 in
theorem c_M_findTruths (l : Launch) (dC : Nat → ClassId) (dI : Nat → Nat → Nat) (cy : Nat → ClassId) (ad : Nat → Nat) (sz : Nat) (N : Nat) (iM : Nat → Int32) (aM : Nat → Nat → Int32) (q : (Nat → Int32) × (Nat → Int32) × (Nat → Int32) × (Nat → Int32)) (h : f_M_findTruths N (iM 14) (iM 36) (aM 8) (aM 9) (aM 10) (aM 11) (aM 13) (aM 30) (aM 32) (aM 34) (aM 35) (aM 57) (aM 58) (aM 59) (aM 60) = some q) : Met l yX8_findTruths wsX8_findTruths ({ frames := 1, cells := 0, slots := 0, locals := 24 } : Room) (cP (dC, dI) cy [.ref (ad 0)] (zzM ad cy iM aM) sz) (cQv (dC, dI) cy (zzM ad cy iM (us aM [(57, q.1), (58, q.2.1), (59, q.2.2.1), (60, q.2.2.2)])) (va_A (zzM ad cy iM aM) sz)) 0 0 (va_A (zzM ad cy iM aM) sz) := by
  refine Met.ofW (cc := cX8_findTruths) (maxL := 5) (ret := none) (by decide) rfl ?_
  intro p e s m args below meth c s₁ B hml hv
  obtain ⟨hav, hsz, hP, hK, hD0, hN⟩ := hv
  have hx := B.exec
  have hb := B.bytes
  have hr := B.returns
  have hts := atoms_spec (ws := wsX8_findTruths) B.pre
  have hown : s.vm.findClass RX8 = some m.cls := findClass_of_methodNamed B.named
  have hlocks := B.notSynchronized
  subst hsz
  have hD := hD0.self (sz := s.heap.size)
  generalize hAe : va_A (zzM ad cy iM aM) s.heap.size = A at hD ⊢
  have hA : ∀ q : Nat, s.heap.size ≤ q → A q := fun q h => by rw [← hAe]; exact Or.inr h
  have hS : va_S A s.heap s.heap [] := va_S.rf
  generalize hWQ : (zzM ad cy iM (us aM [(57, q.1), (58, q.2.1), (59, q.2.2.1), (60, q.2.2.2)])) = WQ
  generalize hQQ : MQ below (cQv (dC, dI) cy WQ A) args s 0 0 A = QQ
  have hl := lv_entry ([.ref (ad 0)] : List Value) (n := 5) (Nat.le_of_ble_eq_true rfl)
  have hfr := lg_entry_eq m ([.ref (ad 0)] : List Value) 5
  rw [← hav] at hfr
  rw [hfr]
  clear hfr hav
  generalize (lg_sl ([.ref (ad 0)] : List Value) ++ List.replicate (5 - (lg_sl ([.ref (ad 0)] : List Value)).length) Slot.unset).toArray = ls at hl ⊢
  have hl : lv_has ls 5 [(0, .ref (ad 0))] := hl
  have kf353 := hts _ (List.mem_cons_of_mem _ m_fl_X8_353)
  have ki8 := (fun w h => List.mem_cons_of_mem _ (i_X8 w h) : ∀ w ∈ u_ws RX8 TX8 78, w ∈ wsX8_findTruths)
  have kf73 := hts _ (List.mem_cons_of_mem _ m_fl_X8_73)
  have kf102 := hts _ (List.mem_cons_of_mem _ m_fl_X8_102)
  have kf79 := hts _ (List.mem_cons_of_mem _ m_fl_X8_79)
  have kf82 := hts _ (List.mem_cons_of_mem _ m_fl_X8_82)
  have kf105 := hts _ (List.mem_cons_of_mem _ m_fl_X8_105)
  have kf332 := hts _ (List.mem_cons_of_mem _ m_fl_X8_332)
  have kf33 := hts _ (List.mem_cons_of_mem _ m_fl_X8_33)
  have kf17 := hts _ (List.mem_cons_of_mem _ m_fl_X8_17)
  have kf27 := hts _ (List.mem_cons_of_mem _ m_fl_X8_27)
  have kf24 := hts _ (List.mem_cons_of_mem _ m_fl_X8_24)
  have kf21 := hts _ (List.mem_cons_of_mem _ m_fl_X8_21)
  have kf111 := hts _ (List.mem_cons_of_mem _ m_fl_X8_111)
  have kf108 := hts _ (List.mem_cons_of_mem _ m_fl_X8_108)
  refine (?_ : ∀ (H : Heap) (locs : List Loc), va_P (dC, dI) vwCl (zzM ad cy iM aM) H → va_D A (zzM ad cy iM aM) → va_S A s.heap H locs → W p l e ({ frames := 1, cells := 0, slots := 0, locals := 24 } : Room) s m args below meth c H locs 0 0 QQ (F0 m 0 ls [])) s.heap [] hP hD hS
  clear hP hD hS
  have B109 : ∀ (v1 : Int32) (v2 : Int32) (s1 : Int32) (s2 : Int32) (x_aM57 : Nat → Int32) (x_aM58 : Nat → Int32) (k12 : Int32 → (Nat → Int32) → Option ((Nat → Int32) × (Nat → Int32) × (Nat → Int32) × (Nat → Int32))) (hk12 : ∀ (v2' : Int32) (x_aM57' : Nat → Int32) (H : Heap) (locs : List Loc) (ls : Array Slot), k12 v2' x_aM57' = some q → va_P (dC, dI) vwCl (zzM ad cy iM (us aM [(57, x_aM57'), (58, x_aM58)])) H → va_D A (zzM ad cy iM (us aM [(57, x_aM57'), (58, x_aM58)])) → va_S A s.heap H locs → lv_has ls 5 [(0, .ref (ad 0)), (1, .int v1), (2, .int v2')] → W p l e ({ frames := 1, cells := 0, slots := 0, locals := 24 } : Room) s m args below meth c H locs 0 0 QQ (F0 m 12 ls [])) (H : Heap) (locs : List Loc) (ls : Array Slot), f_M_findTruths_109 N (iM 14) (iM 36) (aM 8) (aM 9) (aM 10) (aM 11) (aM 13) (aM 30) (aM 32) (aM 34) (aM 35) (aM 57) (aM 58) (aM 59) (aM 60) k12 v1 v2 s1 s2 x_aM57 x_aM58 = some q → va_P (dC, dI) vwCl (zzM ad cy iM (us aM [(57, x_aM57), (58, x_aM58)])) H → va_D A (zzM ad cy iM (us aM [(57, x_aM57), (58, x_aM58)])) → va_S A s.heap H locs → lv_has ls 5 [(0, .ref (ad 0)), (1, .int v1), (2, .int v2)] → W p l e ({ frames := 1, cells := 0, slots := 0, locals := 24 } : Room) s m args below meth c H locs 0 0 QQ (F0 m 109 ls [.int s2, .int s1, .ref (ad 29)]) := by
    intro v1 v2 s1 s2 x_aM57 x_aM58 k12 hk12 H locs ls h hP hD hS hl
    unfold f_M_findTruths_109 at h
    obtain ⟨g_98, h⟩ := g_n h
    refine va_zast (f := x_aM57) hx hb hK hP hD hS 29 4 rfl rfl g_98 dX8_findTruths_109 (fun H locs hP hD hS => ?_)
    have hP : va_P (dC, dI) vwCl (zzM ad cy iM (us aM [(57, (upd x_aM57 s1.toNatClampNeg (vp_nar .boolean s2))), (58, x_aM58)])) H := Eq.mp (congrArg (fun w => va_P (dC, dI) vwCl w H) (stM_aM57 ad cy iM aM [(57, x_aM57), (58, x_aM58)] ((upd x_aM57 s1.toNatClampNeg (vp_nar .boolean s2))))) hP
    have hD : va_D A (zzM ad cy iM (us aM [(57, (upd x_aM57 s1.toNatClampNeg (vp_nar .boolean s2))), (58, x_aM58)])) := Eq.mp (congrArg (fun w => va_D A w) (stM_aM57 ad cy iM aM [(57, x_aM57), (58, x_aM58)] ((upd x_aM57 s1.toNatClampNeg (vp_nar .boolean s2))))) hD
    refine lv_goto (tgt := 305) hx hb dX8_findTruths_110 (by decide) ?_
    refine lv_iinc (v := (v2 + (1 : Int32))) (lv' := [(2, .int ((v2 + (1 : Int32)))), (0, .ref (ad 0)), (1, .int v1)]) hx hb dX8_findTruths_305 hl (k := 2) rfl rfl (by decide) rfl (fun ls hl => ?_)
    refine lv_goto (tgt := 12) hx hb dX8_findTruths_308 (by decide) ?_
    exact hk12 ((v2 + (1 : Int32))) ((upd x_aM57 s1.toNatClampNeg (vp_nar .boolean s2))) H locs ls h hP hD hS (lv_sub hl [1, 2, 0] rfl)
  have B137 : ∀ (v1 : Int32) (v2 : Int32) (s1 : Int32) (s2 : Int32) (x_aM57 : Nat → Int32) (x_aM58 : Nat → Int32) (k12 : Int32 → (Nat → Int32) → Option ((Nat → Int32) × (Nat → Int32) × (Nat → Int32) × (Nat → Int32))) (hk12 : ∀ (v2' : Int32) (x_aM57' : Nat → Int32) (H : Heap) (locs : List Loc) (ls : Array Slot), k12 v2' x_aM57' = some q → va_P (dC, dI) vwCl (zzM ad cy iM (us aM [(57, x_aM57'), (58, x_aM58)])) H → va_D A (zzM ad cy iM (us aM [(57, x_aM57'), (58, x_aM58)])) → va_S A s.heap H locs → lv_has ls 5 [(0, .ref (ad 0)), (1, .int v1), (2, .int v2')] → W p l e ({ frames := 1, cells := 0, slots := 0, locals := 24 } : Room) s m args below meth c H locs 0 0 QQ (F0 m 12 ls [])) (H : Heap) (locs : List Loc) (ls : Array Slot), f_M_findTruths_137 N (iM 14) (iM 36) (aM 8) (aM 9) (aM 10) (aM 11) (aM 13) (aM 30) (aM 32) (aM 34) (aM 35) (aM 57) (aM 58) (aM 59) (aM 60) k12 v1 v2 s1 s2 x_aM57 x_aM58 = some q → va_P (dC, dI) vwCl (zzM ad cy iM (us aM [(57, x_aM57), (58, x_aM58)])) H → va_D A (zzM ad cy iM (us aM [(57, x_aM57), (58, x_aM58)])) → va_S A s.heap H locs → lv_has ls 5 [(0, .ref (ad 0)), (1, .int v1), (2, .int v2)] → W p l e ({ frames := 1, cells := 0, slots := 0, locals := 24 } : Room) s m args below meth c H locs 0 0 QQ (F0 m 137 ls [.int s2, .int s1, .ref (ad 29)]) := by
    intro v1 v2 s1 s2 x_aM57 x_aM58 k12 hk12 H locs ls h hP hD hS hl
    unfold f_M_findTruths_137 at h
    obtain ⟨g_98, h⟩ := g_n h
    refine va_zast (f := x_aM57) hx hb hK hP hD hS 29 4 rfl rfl g_98 dX8_findTruths_137 (fun H locs hP hD hS => ?_)
    have hP : va_P (dC, dI) vwCl (zzM ad cy iM (us aM [(57, (upd x_aM57 s1.toNatClampNeg (vp_nar .boolean s2))), (58, x_aM58)])) H := Eq.mp (congrArg (fun w => va_P (dC, dI) vwCl w H) (stM_aM57 ad cy iM aM [(57, x_aM57), (58, x_aM58)] ((upd x_aM57 s1.toNatClampNeg (vp_nar .boolean s2))))) hP
    have hD : va_D A (zzM ad cy iM (us aM [(57, (upd x_aM57 s1.toNatClampNeg (vp_nar .boolean s2))), (58, x_aM58)])) := Eq.mp (congrArg (fun w => va_D A w) (stM_aM57 ad cy iM aM [(57, x_aM57), (58, x_aM58)] ((upd x_aM57 s1.toNatClampNeg (vp_nar .boolean s2))))) hD
    refine lv_goto (tgt := 305) hx hb dX8_findTruths_138 (by decide) ?_
    refine lv_iinc (v := (v2 + (1 : Int32))) (lv' := [(2, .int ((v2 + (1 : Int32)))), (0, .ref (ad 0)), (1, .int v1)]) hx hb dX8_findTruths_305 hl (k := 2) rfl rfl (by decide) rfl (fun ls hl => ?_)
    refine lv_goto (tgt := 12) hx hb dX8_findTruths_308 (by decide) ?_
    exact hk12 ((v2 + (1 : Int32))) ((upd x_aM57 s1.toNatClampNeg (vp_nar .boolean s2))) H locs ls h hP hD hS (lv_sub hl [1, 2, 0] rfl)
  have B194 : ∀ (v1 : Int32) (v2 : Int32) (s1 : Int32) (s2 : Int32) (x_aM57 : Nat → Int32) (x_aM58 : Nat → Int32) (k12 : Int32 → (Nat → Int32) → Option ((Nat → Int32) × (Nat → Int32) × (Nat → Int32) × (Nat → Int32))) (hk12 : ∀ (v2' : Int32) (x_aM57' : Nat → Int32) (H : Heap) (locs : List Loc) (ls : Array Slot), k12 v2' x_aM57' = some q → va_P (dC, dI) vwCl (zzM ad cy iM (us aM [(57, x_aM57'), (58, x_aM58)])) H → va_D A (zzM ad cy iM (us aM [(57, x_aM57'), (58, x_aM58)])) → va_S A s.heap H locs → lv_has ls 5 [(0, .ref (ad 0)), (1, .int v1), (2, .int v2')] → W p l e ({ frames := 1, cells := 0, slots := 0, locals := 24 } : Room) s m args below meth c H locs 0 0 QQ (F0 m 12 ls [])) (H : Heap) (locs : List Loc) (ls : Array Slot), f_M_findTruths_194 N (iM 14) (iM 36) (aM 8) (aM 9) (aM 10) (aM 11) (aM 13) (aM 30) (aM 32) (aM 34) (aM 35) (aM 57) (aM 58) (aM 59) (aM 60) k12 v1 v2 s1 s2 x_aM57 x_aM58 = some q → va_P (dC, dI) vwCl (zzM ad cy iM (us aM [(57, x_aM57), (58, x_aM58)])) H → va_D A (zzM ad cy iM (us aM [(57, x_aM57), (58, x_aM58)])) → va_S A s.heap H locs → lv_has ls 5 [(0, .ref (ad 0)), (1, .int v1), (2, .int v2)] → W p l e ({ frames := 1, cells := 0, slots := 0, locals := 24 } : Room) s m args below meth c H locs 0 0 QQ (F0 m 194 ls [.int s2, .int s1, .ref (ad 29)]) := by
    intro v1 v2 s1 s2 x_aM57 x_aM58 k12 hk12 H locs ls h hP hD hS hl
    unfold f_M_findTruths_194 at h
    obtain ⟨g_98, h⟩ := g_n h
    refine va_zast (f := x_aM57) hx hb hK hP hD hS 29 4 rfl rfl g_98 dX8_findTruths_194 (fun H locs hP hD hS => ?_)
    have hP : va_P (dC, dI) vwCl (zzM ad cy iM (us aM [(57, (upd x_aM57 s1.toNatClampNeg (vp_nar .boolean s2))), (58, x_aM58)])) H := Eq.mp (congrArg (fun w => va_P (dC, dI) vwCl w H) (stM_aM57 ad cy iM aM [(57, x_aM57), (58, x_aM58)] ((upd x_aM57 s1.toNatClampNeg (vp_nar .boolean s2))))) hP
    have hD : va_D A (zzM ad cy iM (us aM [(57, (upd x_aM57 s1.toNatClampNeg (vp_nar .boolean s2))), (58, x_aM58)])) := Eq.mp (congrArg (fun w => va_D A w) (stM_aM57 ad cy iM aM [(57, x_aM57), (58, x_aM58)] ((upd x_aM57 s1.toNatClampNeg (vp_nar .boolean s2))))) hD
    refine lv_goto (tgt := 305) hx hb dX8_findTruths_195 (by decide) ?_
    refine lv_iinc (v := (v2 + (1 : Int32))) (lv' := [(2, .int ((v2 + (1 : Int32)))), (0, .ref (ad 0)), (1, .int v1)]) hx hb dX8_findTruths_305 hl (k := 2) rfl rfl (by decide) rfl (fun ls hl => ?_)
    refine lv_goto (tgt := 12) hx hb dX8_findTruths_308 (by decide) ?_
    exact hk12 ((v2 + (1 : Int32))) ((upd x_aM57 s1.toNatClampNeg (vp_nar .boolean s2))) H locs ls h hP hD hS (lv_sub hl [1, 2, 0] rfl)
  have B249 : ∀ (v1 : Int32) (v2 : Int32) (s1 : Int32) (s2 : Int32) (x_aM57 : Nat → Int32) (x_aM58 : Nat → Int32) (k12 : Int32 → (Nat → Int32) → Option ((Nat → Int32) × (Nat → Int32) × (Nat → Int32) × (Nat → Int32))) (hk12 : ∀ (v2' : Int32) (x_aM57' : Nat → Int32) (H : Heap) (locs : List Loc) (ls : Array Slot), k12 v2' x_aM57' = some q → va_P (dC, dI) vwCl (zzM ad cy iM (us aM [(57, x_aM57'), (58, x_aM58)])) H → va_D A (zzM ad cy iM (us aM [(57, x_aM57'), (58, x_aM58)])) → va_S A s.heap H locs → lv_has ls 5 [(0, .ref (ad 0)), (1, .int v1), (2, .int v2')] → W p l e ({ frames := 1, cells := 0, slots := 0, locals := 24 } : Room) s m args below meth c H locs 0 0 QQ (F0 m 12 ls [])) (H : Heap) (locs : List Loc) (ls : Array Slot), f_M_findTruths_249 N (iM 14) (iM 36) (aM 8) (aM 9) (aM 10) (aM 11) (aM 13) (aM 30) (aM 32) (aM 34) (aM 35) (aM 57) (aM 58) (aM 59) (aM 60) k12 v1 v2 s1 s2 x_aM57 x_aM58 = some q → va_P (dC, dI) vwCl (zzM ad cy iM (us aM [(57, x_aM57), (58, x_aM58)])) H → va_D A (zzM ad cy iM (us aM [(57, x_aM57), (58, x_aM58)])) → va_S A s.heap H locs → lv_has ls 5 [(0, .ref (ad 0)), (1, .int v1), (2, .int v2)] → W p l e ({ frames := 1, cells := 0, slots := 0, locals := 24 } : Room) s m args below meth c H locs 0 0 QQ (F0 m 249 ls [.int s2, .int s1, .ref (ad 29)]) := by
    intro v1 v2 s1 s2 x_aM57 x_aM58 k12 hk12 H locs ls h hP hD hS hl
    unfold f_M_findTruths_249 at h
    obtain ⟨g_98, h⟩ := g_n h
    refine va_zast (f := x_aM57) hx hb hK hP hD hS 29 4 rfl rfl g_98 dX8_findTruths_249 (fun H locs hP hD hS => ?_)
    have hP : va_P (dC, dI) vwCl (zzM ad cy iM (us aM [(57, (upd x_aM57 s1.toNatClampNeg (vp_nar .boolean s2))), (58, x_aM58)])) H := Eq.mp (congrArg (fun w => va_P (dC, dI) vwCl w H) (stM_aM57 ad cy iM aM [(57, x_aM57), (58, x_aM58)] ((upd x_aM57 s1.toNatClampNeg (vp_nar .boolean s2))))) hP
    have hD : va_D A (zzM ad cy iM (us aM [(57, (upd x_aM57 s1.toNatClampNeg (vp_nar .boolean s2))), (58, x_aM58)])) := Eq.mp (congrArg (fun w => va_D A w) (stM_aM57 ad cy iM aM [(57, x_aM57), (58, x_aM58)] ((upd x_aM57 s1.toNatClampNeg (vp_nar .boolean s2))))) hD
    refine lv_goto (tgt := 305) hx hb dX8_findTruths_250 (by decide) ?_
    refine lv_iinc (v := (v2 + (1 : Int32))) (lv' := [(2, .int ((v2 + (1 : Int32)))), (0, .ref (ad 0)), (1, .int v1)]) hx hb dX8_findTruths_305 hl (k := 2) rfl rfl (by decide) rfl (fun ls hl => ?_)
    refine lv_goto (tgt := 12) hx hb dX8_findTruths_308 (by decide) ?_
    exact hk12 ((v2 + (1 : Int32))) ((upd x_aM57 s1.toNatClampNeg (vp_nar .boolean s2))) H locs ls h hP hD hS (lv_sub hl [1, 2, 0] rfl)
  have B304 : ∀ (v1 : Int32) (v2 : Int32) (s1 : Int32) (s2 : Int32) (x_aM57 : Nat → Int32) (x_aM58 : Nat → Int32) (k12 : Int32 → (Nat → Int32) → Option ((Nat → Int32) × (Nat → Int32) × (Nat → Int32) × (Nat → Int32))) (hk12 : ∀ (v2' : Int32) (x_aM57' : Nat → Int32) (H : Heap) (locs : List Loc) (ls : Array Slot), k12 v2' x_aM57' = some q → va_P (dC, dI) vwCl (zzM ad cy iM (us aM [(57, x_aM57'), (58, x_aM58)])) H → va_D A (zzM ad cy iM (us aM [(57, x_aM57'), (58, x_aM58)])) → va_S A s.heap H locs → lv_has ls 5 [(0, .ref (ad 0)), (1, .int v1), (2, .int v2')] → W p l e ({ frames := 1, cells := 0, slots := 0, locals := 24 } : Room) s m args below meth c H locs 0 0 QQ (F0 m 12 ls [])) (H : Heap) (locs : List Loc) (ls : Array Slot), f_M_findTruths_304 N (iM 14) (iM 36) (aM 8) (aM 9) (aM 10) (aM 11) (aM 13) (aM 30) (aM 32) (aM 34) (aM 35) (aM 57) (aM 58) (aM 59) (aM 60) k12 v1 v2 s1 s2 x_aM57 x_aM58 = some q → va_P (dC, dI) vwCl (zzM ad cy iM (us aM [(57, x_aM57), (58, x_aM58)])) H → va_D A (zzM ad cy iM (us aM [(57, x_aM57), (58, x_aM58)])) → va_S A s.heap H locs → lv_has ls 5 [(0, .ref (ad 0)), (1, .int v1), (2, .int v2)] → W p l e ({ frames := 1, cells := 0, slots := 0, locals := 24 } : Room) s m args below meth c H locs 0 0 QQ (F0 m 304 ls [.int s2, .int s1, .ref (ad 29)]) := by
    intro v1 v2 s1 s2 x_aM57 x_aM58 k12 hk12 H locs ls h hP hD hS hl
    unfold f_M_findTruths_304 at h
    obtain ⟨g_98, h⟩ := g_n h
    refine va_zast (f := x_aM57) hx hb hK hP hD hS 29 4 rfl rfl g_98 dX8_findTruths_304 (fun H locs hP hD hS => ?_)
    have hP : va_P (dC, dI) vwCl (zzM ad cy iM (us aM [(57, (upd x_aM57 s1.toNatClampNeg (vp_nar .boolean s2))), (58, x_aM58)])) H := Eq.mp (congrArg (fun w => va_P (dC, dI) vwCl w H) (stM_aM57 ad cy iM aM [(57, x_aM57), (58, x_aM58)] ((upd x_aM57 s1.toNatClampNeg (vp_nar .boolean s2))))) hP
    have hD : va_D A (zzM ad cy iM (us aM [(57, (upd x_aM57 s1.toNatClampNeg (vp_nar .boolean s2))), (58, x_aM58)])) := Eq.mp (congrArg (fun w => va_D A w) (stM_aM57 ad cy iM aM [(57, x_aM57), (58, x_aM58)] ((upd x_aM57 s1.toNatClampNeg (vp_nar .boolean s2))))) hD
    refine lv_iinc (v := (v2 + (1 : Int32))) (lv' := [(2, .int ((v2 + (1 : Int32)))), (0, .ref (ad 0)), (1, .int v1)]) hx hb dX8_findTruths_305 hl (k := 2) rfl rfl (by decide) rfl (fun ls hl => ?_)
    refine lv_goto (tgt := 12) hx hb dX8_findTruths_308 (by decide) ?_
    exact hk12 ((v2 + (1 : Int32))) ((upd x_aM57 s1.toNatClampNeg (vp_nar .boolean s2))) H locs ls h hP hD hS (lv_sub hl [1, 2, 0] rfl)
  have B320 : ∀ (n : Nat) (v1 : Int32) (x_aM57 : Nat → Int32) (k2 : Int32 → (Nat → Int32) → (Nat → Int32) → Option ((Nat → Int32) × (Nat → Int32) × (Nat → Int32) × (Nat → Int32))) (hk2 : ∀ (v1' : Int32) (x_aM57' : Nat → Int32) (x_aM58' : Nat → Int32) (H : Heap) (locs : List Loc) (ls : Array Slot), k2 v1' x_aM57' x_aM58' = some q → va_P (dC, dI) vwCl (zzM ad cy iM (us aM [(57, x_aM57'), (58, x_aM58')])) H → va_D A (zzM ad cy iM (us aM [(57, x_aM57'), (58, x_aM58')])) → va_S A s.heap H locs → lv_has ls 5 [(0, .ref (ad 0)), (1, .int v1')] → W p l e ({ frames := 1, cells := 0, slots := 0, locals := 24 } : Room) s m args below meth c H locs 0 0 QQ (F0 m 2 ls [])) (v2 : Int32) (x_aM58 : Nat → Int32) (H : Heap) (locs : List Loc) (ls : Array Slot), f_M_findTruths_320 N (iM 14) (iM 36) (aM 8) (aM 9) (aM 10) (aM 11) (aM 13) (aM 30) (aM 32) (aM 34) (aM 35) (aM 57) (aM 58) (aM 59) (aM 60) k2 v1 x_aM57 n v2 x_aM58 = some q → va_P (dC, dI) vwCl (zzM ad cy iM (us aM [(57, x_aM57), (58, x_aM58)])) H → va_D A (zzM ad cy iM (us aM [(57, x_aM57), (58, x_aM58)])) → va_S A s.heap H locs → lv_has ls 5 [(0, .ref (ad 0)), (1, .int v1), (2, .int v2)] → W p l e ({ frames := 1, cells := 0, slots := 0, locals := 24 } : Room) s m args below meth c H locs 0 0 QQ (F0 m 320 ls []) := by
    intro n
    induction n with
    | zero =>
      intro v1 x_aM57 k2 hk2 v2 x_aM58 H locs ls h hP hD hS hl
      rw [f_M_findTruths_320] at h
      cases h
    | succ n ih =>
      intro v1 x_aM57 k2 hk2 v2 x_aM58 H locs ls h hP hD hS hl
      rw [f_M_findTruths_320] at h
      refine lv_iload_n hx hb dX8_findTruths_320 rfl (lv_at hl 2 rfl) ?_
      refine lv_aload_n hx hb dX8_findTruths_321 rfl (lv_at hl 0 rfl) ?_
      refine va_get (D := (dC, dI)) (ci := 8) (v := .int (iM 36)) (C := RX8) (T := TX8) (N := 78) hx hb hts ki8 hown hK hP 0 rfl rfl 36 (by decide) kf353 (fun _ h9 => h9) rfl dX8_findTruths_322 ?_
      refine lv_icmp_ge (tgt := 381) hx hb dX8_findTruths_325 (by decide) (fun cz => ?_) (fun cz => ?_)
      · have h := g_t h cz
        refine lv_iinc (v := (v1 + (1 : Int32))) (lv' := [(1, .int ((v1 + (1 : Int32)))), (0, .ref (ad 0)), (2, .int v2)]) hx hb dX8_findTruths_381 hl (k := 1) rfl rfl (by decide) rfl (fun ls hl => ?_)
        refine lv_goto (tgt := 2) hx hb dX8_findTruths_384 (by decide) ?_
        exact hk2 ((v1 + (1 : Int32))) x_aM57 x_aM58 H locs ls h hP hD hS (lv_sub hl [1, 0] rfl)
      · have h := g_f h cz
        refine lv_aload_n hx hb dX8_findTruths_328 rfl (lv_at hl 0 rfl) ?_
        refine va_get (D := (dC, dI)) (ci := 8) (v := .ref (ad 21)) (C := RX8) (T := TX8) (N := 78) hx hb hts ki8 hown hK hP 0 rfl rfl 32 (by decide) kf73 (fun _ h9 => h9) rfl dX8_findTruths_329 ?_
        refine lv_iload_n hx hb dX8_findTruths_332 rfl (lv_at hl 2 rfl) ?_
        obtain ⟨g_99, h⟩ := g_n h
        refine va_iald (f := (aM 32)) hx hb hK hP 21 0 rfl rfl g_99 dX8_findTruths_333 ?_
        refine lv_if_lt (tgt := 375) hx hb dX8_findTruths_334 (by decide) (fun cz => ?_) (fun cz => ?_)
        · have h := g_t h cz
          refine lv_iinc (v := (v2 + (1 : Int32))) (lv' := [(2, .int ((v2 + (1 : Int32)))), (0, .ref (ad 0)), (1, .int v1)]) hx hb dX8_findTruths_375 hl (k := 2) rfl rfl (by decide) rfl (fun ls hl => ?_)
          refine lv_goto (tgt := 320) hx hb dX8_findTruths_378 (by decide) ?_
          exact ih v1 x_aM57 k2 hk2 ((v2 + (1 : Int32))) x_aM58 H locs ls h hP hD hS (lv_sub hl [1, 2, 0] rfl)
        · have h := g_f h cz
          refine lv_aload_n hx hb dX8_findTruths_337 rfl (lv_at hl 0 rfl) ?_
          refine va_get (D := (dC, dI)) (ci := 8) (v := .ref (ad 29)) (C := RX8) (T := TX8) (N := 78) hx hb hts ki8 hown hK hP 0 rfl rfl 57 (by decide) kf102 (fun _ h9 => h9) rfl dX8_findTruths_338 ?_
          refine lv_sipush (v := 512) hx hb dX8_findTruths_341 (by decide) ?_
          refine lv_aload_n hx hb dX8_findTruths_344 rfl (lv_at hl 0 rfl) ?_
          refine va_get (D := (dC, dI)) (ci := 8) (v := .ref (ad 23)) (C := RX8) (T := TX8) (N := 78) hx hb hts ki8 hown hK hP 0 rfl rfl 34 (by decide) kf79 (fun _ h9 => h9) rfl dX8_findTruths_345 ?_
          refine lv_iload_n hx hb dX8_findTruths_348 rfl (lv_at hl 2 rfl) ?_
          refine va_iald (f := (aM 34)) hx hb hK hP 23 0 rfl rfl g_99 dX8_findTruths_349 ?_
          refine lv_imul hx hb dX8_findTruths_350 ?_
          refine lv_iload_n hx hb dX8_findTruths_351 rfl (lv_at hl 1 rfl) ?_
          refine lv_iadd hx hb dX8_findTruths_352 ?_
          obtain ⟨g_100, h⟩ := g_n h
          refine va_zald (f := x_aM57) hx hb hK hP 29 4 rfl rfl g_100 dX8_findTruths_353 ?_
          refine lv_aload_n hx hb dX8_findTruths_354 rfl (lv_at hl 0 rfl) ?_
          refine va_get (D := (dC, dI)) (ci := 8) (v := .ref (ad 24)) (C := RX8) (T := TX8) (N := 78) hx hb hts ki8 hown hK hP 0 rfl rfl 35 (by decide) kf82 (fun _ h9 => h9) rfl dX8_findTruths_355 ?_
          refine lv_iload_n hx hb dX8_findTruths_358 rfl (lv_at hl 2 rfl) ?_
          refine va_zald (f := (aM 35)) hx hb hK hP 24 4 rfl rfl g_99 dX8_findTruths_359 ?_
          refine lv_icmp_eq (tgt := 375) hx hb dX8_findTruths_360 (by decide) (fun cz => ?_) (fun cz => ?_)
          · have h := g_t h cz
            refine lv_iinc (v := (v2 + (1 : Int32))) (lv' := [(2, .int ((v2 + (1 : Int32)))), (0, .ref (ad 0)), (1, .int v1)]) hx hb dX8_findTruths_375 hl (k := 2) rfl rfl (by decide) rfl (fun ls hl => ?_)
            refine lv_goto (tgt := 320) hx hb dX8_findTruths_378 (by decide) ?_
            exact ih v1 x_aM57 k2 hk2 ((v2 + (1 : Int32))) x_aM58 H locs ls h hP hD hS (lv_sub hl [1, 2, 0] rfl)
          · have h := g_f h cz
            refine lv_aload_n hx hb dX8_findTruths_363 rfl (lv_at hl 0 rfl) ?_
            refine va_get (D := (dC, dI)) (ci := 8) (v := .ref (ad 30)) (C := RX8) (T := TX8) (N := 78) hx hb hts ki8 hown hK hP 0 rfl rfl 58 (by decide) kf105 (fun _ h9 => h9) rfl dX8_findTruths_364 ?_
            refine lv_iload_n hx hb dX8_findTruths_367 rfl (lv_at hl 1 rfl) ?_
            refine lv_dup2_11 hx hb dX8_findTruths_368 rfl rfl ?_
            obtain ⟨g_32, h⟩ := g_n h
            refine va_iald (f := x_aM58) hx hb hK hP 30 0 rfl rfl g_32 dX8_findTruths_369 ?_
            refine lv_iconst (v := 1) hx hb dX8_findTruths_370 (by decide) ?_
            refine lv_iload_n hx hb dX8_findTruths_371 rfl (lv_at hl 2 rfl) ?_
            refine lv_ishl hx hb dX8_findTruths_372 ?_
            refine lv_ior hx hb dX8_findTruths_373 ?_
            refine va_iast (f := x_aM58) hx hb hK hP hD hS 30 0 rfl rfl g_32 dX8_findTruths_374 (fun H locs hP hD hS => ?_)
            have hP : va_P (dC, dI) vwCl (zzM ad cy iM (us aM [(57, x_aM57), (58, (upd x_aM58 v1.toNatClampNeg (((x_aM58 v1.toNatClampNeg) ||| ((1 : Int32) <<< (v2 &&& 31))))))])) H := Eq.mp (congrArg (fun w => va_P (dC, dI) vwCl w H) (stM_aM58 ad cy iM aM [(57, x_aM57), (58, x_aM58)] ((upd x_aM58 v1.toNatClampNeg (((x_aM58 v1.toNatClampNeg) ||| ((1 : Int32) <<< (v2 &&& 31)))))))) hP
            have hD : va_D A (zzM ad cy iM (us aM [(57, x_aM57), (58, (upd x_aM58 v1.toNatClampNeg (((x_aM58 v1.toNatClampNeg) ||| ((1 : Int32) <<< (v2 &&& 31))))))])) := Eq.mp (congrArg (fun w => va_D A w) (stM_aM58 ad cy iM aM [(57, x_aM57), (58, x_aM58)] ((upd x_aM58 v1.toNatClampNeg (((x_aM58 v1.toNatClampNeg) ||| ((1 : Int32) <<< (v2 &&& 31)))))))) hD
            refine lv_iinc (v := (v2 + (1 : Int32))) (lv' := [(2, .int ((v2 + (1 : Int32)))), (0, .ref (ad 0)), (1, .int v1)]) hx hb dX8_findTruths_375 hl (k := 2) rfl rfl (by decide) rfl (fun ls hl => ?_)
            refine lv_goto (tgt := 320) hx hb dX8_findTruths_378 (by decide) ?_
            exact ih v1 x_aM57 k2 hk2 ((v2 + (1 : Int32))) ((upd x_aM58 v1.toNatClampNeg (((x_aM58 v1.toNatClampNeg) ||| ((1 : Int32) <<< (v2 &&& 31)))))) H locs ls h hP hD hS (lv_sub hl [1, 2, 0] rfl)
  have B12 : ∀ (n : Nat) (v1 : Int32) (x_aM58 : Nat → Int32) (k2 : Int32 → (Nat → Int32) → (Nat → Int32) → Option ((Nat → Int32) × (Nat → Int32) × (Nat → Int32) × (Nat → Int32))) (hk2 : ∀ (v1' : Int32) (x_aM57' : Nat → Int32) (x_aM58' : Nat → Int32) (H : Heap) (locs : List Loc) (ls : Array Slot), k2 v1' x_aM57' x_aM58' = some q → va_P (dC, dI) vwCl (zzM ad cy iM (us aM [(57, x_aM57'), (58, x_aM58')])) H → va_D A (zzM ad cy iM (us aM [(57, x_aM57'), (58, x_aM58')])) → va_S A s.heap H locs → lv_has ls 5 [(0, .ref (ad 0)), (1, .int v1')] → W p l e ({ frames := 1, cells := 0, slots := 0, locals := 24 } : Room) s m args below meth c H locs 0 0 QQ (F0 m 2 ls [])) (v2 : Int32) (x_aM57 : Nat → Int32) (H : Heap) (locs : List Loc) (ls : Array Slot), f_M_findTruths_12 N (iM 14) (iM 36) (aM 8) (aM 9) (aM 10) (aM 11) (aM 13) (aM 30) (aM 32) (aM 34) (aM 35) (aM 57) (aM 58) (aM 59) (aM 60) k2 v1 x_aM58 n v2 x_aM57 = some q → va_P (dC, dI) vwCl (zzM ad cy iM (us aM [(57, x_aM57), (58, x_aM58)])) H → va_D A (zzM ad cy iM (us aM [(57, x_aM57), (58, x_aM58)])) → va_S A s.heap H locs → lv_has ls 5 [(0, .ref (ad 0)), (1, .int v1), (2, .int v2)] → W p l e ({ frames := 1, cells := 0, slots := 0, locals := 24 } : Room) s m args below meth c H locs 0 0 QQ (F0 m 12 ls []) := by
    intro n
    induction n with
    | zero =>
      intro v1 x_aM58 k2 hk2 v2 x_aM57 H locs ls h hP hD hS hl
      rw [f_M_findTruths_12] at h
      cases h
    | succ n ih =>
      intro v1 x_aM58 k2 hk2 v2 x_aM57 H locs ls h hP hD hS hl
      rw [f_M_findTruths_12] at h
      refine lv_iload_n hx hb dX8_findTruths_12 rfl (lv_at hl 2 rfl) ?_
      refine lv_aload_n hx hb dX8_findTruths_13 rfl (lv_at hl 0 rfl) ?_
      refine va_get (D := (dC, dI)) (ci := 8) (v := .int (iM 14)) (C := RX8) (T := TX8) (N := 78) hx hb hts ki8 hown hK hP 0 rfl rfl 14 (by decide) kf332 (fun _ h9 => h9) rfl dX8_findTruths_14 ?_
      refine lv_icmp_ge (tgt := 311) hx hb dX8_findTruths_17 (by decide) (fun cz => ?_) (fun cz => ?_)
      · have h := g_t h cz
        refine lv_aload_n hx hb dX8_findTruths_311 rfl (lv_at hl 0 rfl) ?_
        refine va_get (D := (dC, dI)) (ci := 8) (v := .ref (ad 30)) (C := RX8) (T := TX8) (N := 78) hx hb hts ki8 hown hK hP 0 rfl rfl 58 (by decide) kf105 (fun _ h9 => h9) rfl dX8_findTruths_312 ?_
        refine lv_iload_n hx hb dX8_findTruths_315 rfl (lv_at hl 1 rfl) ?_
        refine lv_iconst (v := 0) hx hb dX8_findTruths_316 (by decide) ?_
        obtain ⟨g_32, h⟩ := g_n h
        refine va_iast (f := x_aM58) hx hb hK hP hD hS 30 0 rfl rfl g_32 dX8_findTruths_317 (fun H locs hP hD hS => ?_)
        have hP : va_P (dC, dI) vwCl (zzM ad cy iM (us aM [(57, x_aM57), (58, (upd x_aM58 v1.toNatClampNeg ((0 : Int32))))])) H := Eq.mp (congrArg (fun w => va_P (dC, dI) vwCl w H) (stM_aM58 ad cy iM aM [(57, x_aM57), (58, x_aM58)] ((upd x_aM58 v1.toNatClampNeg ((0 : Int32)))))) hP
        have hD : va_D A (zzM ad cy iM (us aM [(57, x_aM57), (58, (upd x_aM58 v1.toNatClampNeg ((0 : Int32))))])) := Eq.mp (congrArg (fun w => va_D A w) (stM_aM58 ad cy iM aM [(57, x_aM57), (58, x_aM58)] ((upd x_aM58 v1.toNatClampNeg ((0 : Int32)))))) hD
        refine lv_iconst (v := 0) hx hb dX8_findTruths_318 (by decide) ?_
        refine lv_istore_n (lv' := [(2, .int ((0 : Int32))), (0, .ref (ad 0)), (1, .int v1)]) hx hb dX8_findTruths_319 rfl hl (by decide) rfl (fun ls hl => ?_)
        exact B320 N v1 x_aM57 k2 hk2 ((0 : Int32)) ((upd x_aM58 v1.toNatClampNeg ((0 : Int32)))) H locs ls h hP hD hS (lv_sub hl [1, 2, 0] rfl)
      · have h := g_f h cz
        refine lv_aload_n hx hb dX8_findTruths_20 rfl (lv_at hl 0 rfl) ?_
        refine va_get (D := (dC, dI)) (ci := 8) (v := .ref (ad 8)) (C := RX8) (T := TX8) (N := 78) hx hb hts ki8 hown hK hP 0 rfl rfl 13 (by decide) kf33 (fun _ h9 => h9) rfl dX8_findTruths_21 ?_
        refine lv_iload_n hx hb dX8_findTruths_24 rfl (lv_at hl 2 rfl) ?_
        obtain ⟨g_101, h⟩ := g_n h
        refine va_iald (f := (aM 13)) hx hb hK hP 8 0 rfl rfl g_101 dX8_findTruths_25 ?_
        refine lv_istore_n (lv' := [(3, .int (((aM 13) v2.toNatClampNeg))), (0, .ref (ad 0)), (1, .int v1), (2, .int v2)]) hx hb dX8_findTruths_26 rfl hl (by decide) rfl (fun ls hl => ?_)
        refine lv_sipush (v := 512) hx hb dX8_findTruths_27 (by decide) ?_
        refine lv_iload_n hx hb dX8_findTruths_30 rfl (lv_at hl 0 rfl) ?_
        refine lv_imul hx hb dX8_findTruths_31 ?_
        refine lv_iload_n hx hb dX8_findTruths_32 rfl (lv_at hl 2 rfl) ?_
        refine lv_iadd hx hb dX8_findTruths_33 ?_
        refine lv_istore (lv' := [(4, .int ((((512 : Int32) * ((aM 13) v2.toNatClampNeg)) + v1))), (3, .int (((aM 13) v2.toNatClampNeg))), (0, .ref (ad 0)), (1, .int v1), (2, .int v2)]) hx hb dX8_findTruths_34 hl (by decide) rfl (fun ls hl => ?_)
        refine lv_aload_n hx hb dX8_findTruths_36 rfl (lv_at hl 2 rfl) ?_
        refine va_get (D := (dC, dI)) (ci := 8) (v := .ref (ad 3)) (C := RX8) (T := TX8) (N := 78) hx hb hts ki8 hown hK hP 0 rfl rfl 8 (by decide) kf17 (fun _ h9 => h9) rfl dX8_findTruths_37 ?_
        refine lv_iload_n hx hb dX8_findTruths_40 rfl (lv_at hl 1 rfl) ?_
        obtain ⟨g_102, h⟩ := g_n h
        refine va_iald (f := (aM 8)) hx hb hK hP 3 0 rfl rfl g_102 dX8_findTruths_41 ?_
        rcases Decidable.em (((aM 8) (((aM 13) v2.toNatClampNeg)).toNatClampNeg) = (0 : Int32)) with c0 | c0
        · have h := g_t h c0
          refine lv_tableIn (off := 42) (tgt := 84) hx hb dX8_findTruths_42 (by rw [c0]; decide) (by rw [c0]; decide) (by rw [c0]; rfl) (by decide) ?_
          refine lv_aload_n hx hb dX8_findTruths_84 rfl (lv_at hl 2 rfl) ?_
          refine va_get (D := (dC, dI)) (ci := 8) (v := .ref (ad 29)) (C := RX8) (T := TX8) (N := 78) hx hb hts ki8 hown hK hP 0 rfl rfl 57 (by decide) kf102 (fun _ h9 => h9) rfl dX8_findTruths_85 ?_
          refine lv_iload hx hb dX8_findTruths_88 (lv_at hl 0 rfl) ?_
          refine lv_iload_n hx hb dX8_findTruths_90 rfl (lv_at hl 3 rfl) ?_
          refine lv_aload_n hx hb dX8_findTruths_91 rfl (lv_at hl 2 rfl) ?_
          refine va_get (D := (dC, dI)) (ci := 8) (v := .ref (ad 6)) (C := RX8) (T := TX8) (N := 78) hx hb hts ki8 hown hK hP 0 rfl rfl 11 (by decide) kf27 (fun _ h9 => h9) rfl dX8_findTruths_92 ?_
          refine lv_iload_n hx hb dX8_findTruths_95 rfl (lv_at hl 1 rfl) ?_
          refine va_iald (f := (aM 11)) hx hb hK hP 6 0 rfl rfl g_102 dX8_findTruths_96 ?_
          refine lv_ishr hx hb dX8_findTruths_97 ?_
          refine lv_iconst (v := 1) hx hb dX8_findTruths_98 (by decide) ?_
          refine lv_iand hx hb dX8_findTruths_99 ?_
          refine lv_iconst (v := 1) hx hb dX8_findTruths_100 (by decide) ?_
          refine lv_icmp_ne (tgt := 108) hx hb dX8_findTruths_101 (by decide) (fun cz => ?_) (fun cz => ?_)
          · have h := g_f h cz
            refine lv_iconst (v := 0) hx hb dX8_findTruths_108 (by decide) ?_
            exact B109 v1 v2 ((((512 : Int32) * ((aM 13) v2.toNatClampNeg)) + v1)) ((0 : Int32)) x_aM57 x_aM58 (f_M_findTruths_12 N (iM 14) (iM 36) (aM 8) (aM 9) (aM 10) (aM 11) (aM 13) (aM 30) (aM 32) (aM 34) (aM 35) (aM 57) (aM 58) (aM 59) (aM 60) k2 v1 x_aM58 n) (ih v1 x_aM58 k2 hk2) H locs ls h hP hD hS (lv_sub hl [2, 3, 4] rfl)
          · have h := g_t h cz
            refine lv_iconst (v := 1) hx hb dX8_findTruths_104 (by decide) ?_
            refine lv_goto (tgt := 109) hx hb dX8_findTruths_105 (by decide) ?_
            exact B109 v1 v2 ((((512 : Int32) * ((aM 13) v2.toNatClampNeg)) + v1)) ((1 : Int32)) x_aM57 x_aM58 (f_M_findTruths_12 N (iM 14) (iM 36) (aM 8) (aM 9) (aM 10) (aM 11) (aM 13) (aM 30) (aM 32) (aM 34) (aM 35) (aM 57) (aM 58) (aM 59) (aM 60) k2 v1 x_aM58 n) (ih v1 x_aM58 k2 hk2) H locs ls h hP hD hS (lv_sub hl [2, 3, 4] rfl)
        · have h := g_f h c0
          rcases Decidable.em (((aM 8) (((aM 13) v2.toNatClampNeg)).toNatClampNeg) = (1 : Int32)) with c1 | c1
          · have h := g_t h c1
            refine lv_tableIn (off := 99) (tgt := 141) hx hb dX8_findTruths_42 (by rw [c1]; decide) (by rw [c1]; decide) (by rw [c1]; rfl) (by decide) ?_
            refine lv_aload_n hx hb dX8_findTruths_141 rfl (lv_at hl 2 rfl) ?_
            refine va_get (D := (dC, dI)) (ci := 8) (v := .ref (ad 29)) (C := RX8) (T := TX8) (N := 78) hx hb hts ki8 hown hK hP 0 rfl rfl 57 (by decide) kf102 (fun _ h9 => h9) rfl dX8_findTruths_142 ?_
            refine lv_iload hx hb dX8_findTruths_145 (lv_at hl 0 rfl) ?_
            refine lv_iconst (v := 1) hx hb dX8_findTruths_147 (by decide) ?_
            obtain ⟨g_103, h⟩ := g_n h
            refine va_zast (f := x_aM57) hx hb hK hP hD hS 29 4 rfl rfl g_103 dX8_findTruths_148 (fun H locs hP hD hS => ?_)
            have hP : va_P (dC, dI) vwCl (zzM ad cy iM (us aM [(57, (upd x_aM57 ((((512 : Int32) * ((aM 13) v2.toNatClampNeg)) + v1)).toNatClampNeg (vp_nar .boolean ((1 : Int32))))), (58, x_aM58)])) H := Eq.mp (congrArg (fun w => va_P (dC, dI) vwCl w H) (stM_aM57 ad cy iM aM [(57, x_aM57), (58, x_aM58)] ((upd x_aM57 ((((512 : Int32) * ((aM 13) v2.toNatClampNeg)) + v1)).toNatClampNeg (vp_nar .boolean ((1 : Int32))))))) hP
            have hD : va_D A (zzM ad cy iM (us aM [(57, (upd x_aM57 ((((512 : Int32) * ((aM 13) v2.toNatClampNeg)) + v1)).toNatClampNeg (vp_nar .boolean ((1 : Int32))))), (58, x_aM58)])) := Eq.mp (congrArg (fun w => va_D A w) (stM_aM57 ad cy iM aM [(57, x_aM57), (58, x_aM58)] ((upd x_aM57 ((((512 : Int32) * ((aM 13) v2.toNatClampNeg)) + v1)).toNatClampNeg (vp_nar .boolean ((1 : Int32))))))) hD
            refine lv_goto (tgt := 305) hx hb dX8_findTruths_149 (by decide) ?_
            refine lv_iinc (v := (v2 + (1 : Int32))) (lv' := [(2, .int ((v2 + (1 : Int32)))), (4, .int ((((512 : Int32) * ((aM 13) v2.toNatClampNeg)) + v1))), (3, .int (((aM 13) v2.toNatClampNeg))), (0, .ref (ad 0)), (1, .int v1)]) hx hb dX8_findTruths_305 hl (k := 4) rfl rfl (by decide) rfl (fun ls hl => ?_)
            refine lv_goto (tgt := 12) hx hb dX8_findTruths_308 (by decide) ?_
            exact ih v1 x_aM58 k2 hk2 ((v2 + (1 : Int32))) ((upd x_aM57 ((((512 : Int32) * ((aM 13) v2.toNatClampNeg)) + v1)).toNatClampNeg (vp_nar .boolean ((1 : Int32))))) H locs ls h hP hD hS (lv_sub hl [3, 4, 0] rfl)
          · have h := g_f h c1
            rcases Decidable.em (((aM 8) (((aM 13) v2.toNatClampNeg)).toNatClampNeg) = (2 : Int32)) with c2 | c2
            · have h := g_t h c2
              refine lv_tableIn (off := 110) (tgt := 152) hx hb dX8_findTruths_42 (by rw [c2]; decide) (by rw [c2]; decide) (by rw [c2]; rfl) (by decide) ?_
              refine lv_aload_n hx hb dX8_findTruths_152 rfl (lv_at hl 2 rfl) ?_
              refine va_get (D := (dC, dI)) (ci := 8) (v := .ref (ad 29)) (C := RX8) (T := TX8) (N := 78) hx hb hts ki8 hown hK hP 0 rfl rfl 57 (by decide) kf102 (fun _ h9 => h9) rfl dX8_findTruths_153 ?_
              refine lv_iload hx hb dX8_findTruths_156 (lv_at hl 0 rfl) ?_
              refine lv_iconst (v := 0) hx hb dX8_findTruths_158 (by decide) ?_
              obtain ⟨g_103, h⟩ := g_n h
              refine va_zast (f := x_aM57) hx hb hK hP hD hS 29 4 rfl rfl g_103 dX8_findTruths_159 (fun H locs hP hD hS => ?_)
              have hP : va_P (dC, dI) vwCl (zzM ad cy iM (us aM [(57, (upd x_aM57 ((((512 : Int32) * ((aM 13) v2.toNatClampNeg)) + v1)).toNatClampNeg (vp_nar .boolean ((0 : Int32))))), (58, x_aM58)])) H := Eq.mp (congrArg (fun w => va_P (dC, dI) vwCl w H) (stM_aM57 ad cy iM aM [(57, x_aM57), (58, x_aM58)] ((upd x_aM57 ((((512 : Int32) * ((aM 13) v2.toNatClampNeg)) + v1)).toNatClampNeg (vp_nar .boolean ((0 : Int32))))))) hP
              have hD : va_D A (zzM ad cy iM (us aM [(57, (upd x_aM57 ((((512 : Int32) * ((aM 13) v2.toNatClampNeg)) + v1)).toNatClampNeg (vp_nar .boolean ((0 : Int32))))), (58, x_aM58)])) := Eq.mp (congrArg (fun w => va_D A w) (stM_aM57 ad cy iM aM [(57, x_aM57), (58, x_aM58)] ((upd x_aM57 ((((512 : Int32) * ((aM 13) v2.toNatClampNeg)) + v1)).toNatClampNeg (vp_nar .boolean ((0 : Int32))))))) hD
              refine lv_goto (tgt := 305) hx hb dX8_findTruths_160 (by decide) ?_
              refine lv_iinc (v := (v2 + (1 : Int32))) (lv' := [(2, .int ((v2 + (1 : Int32)))), (4, .int ((((512 : Int32) * ((aM 13) v2.toNatClampNeg)) + v1))), (3, .int (((aM 13) v2.toNatClampNeg))), (0, .ref (ad 0)), (1, .int v1)]) hx hb dX8_findTruths_305 hl (k := 4) rfl rfl (by decide) rfl (fun ls hl => ?_)
              refine lv_goto (tgt := 12) hx hb dX8_findTruths_308 (by decide) ?_
              exact ih v1 x_aM58 k2 hk2 ((v2 + (1 : Int32))) ((upd x_aM57 ((((512 : Int32) * ((aM 13) v2.toNatClampNeg)) + v1)).toNatClampNeg (vp_nar .boolean ((0 : Int32))))) H locs ls h hP hD hS (lv_sub hl [3, 4, 0] rfl)
            · have h := g_f h c2
              rcases Decidable.em (((aM 8) (((aM 13) v2.toNatClampNeg)).toNatClampNeg) = (3 : Int32)) with c3 | c3
              · have h := g_t h c3
                refine lv_tableIn (off := 121) (tgt := 163) hx hb dX8_findTruths_42 (by rw [c3]; decide) (by rw [c3]; decide) (by rw [c3]; rfl) (by decide) ?_
                refine lv_aload_n hx hb dX8_findTruths_163 rfl (lv_at hl 2 rfl) ?_
                refine va_get (D := (dC, dI)) (ci := 8) (v := .ref (ad 29)) (C := RX8) (T := TX8) (N := 78) hx hb hts ki8 hown hK hP 0 rfl rfl 57 (by decide) kf102 (fun _ h9 => h9) rfl dX8_findTruths_164 ?_
                refine lv_iload hx hb dX8_findTruths_167 (lv_at hl 0 rfl) ?_
                refine lv_aload_n hx hb dX8_findTruths_169 rfl (lv_at hl 2 rfl) ?_
                refine va_get (D := (dC, dI)) (ci := 8) (v := .ref (ad 29)) (C := RX8) (T := TX8) (N := 78) hx hb hts ki8 hown hK hP 0 rfl rfl 57 (by decide) kf102 (fun _ h9 => h9) rfl dX8_findTruths_170 ?_
                refine lv_sipush (v := 512) hx hb dX8_findTruths_173 (by decide) ?_
                refine lv_aload_n hx hb dX8_findTruths_176 rfl (lv_at hl 2 rfl) ?_
                refine va_get (D := (dC, dI)) (ci := 8) (v := .ref (ad 5)) (C := RX8) (T := TX8) (N := 78) hx hb hts ki8 hown hK hP 0 rfl rfl 10 (by decide) kf24 (fun _ h9 => h9) rfl dX8_findTruths_177 ?_
                refine lv_iload_n hx hb dX8_findTruths_180 rfl (lv_at hl 1 rfl) ?_
                refine va_iald (f := (aM 10)) hx hb hK hP 5 0 rfl rfl g_102 dX8_findTruths_181 ?_
                refine lv_imul hx hb dX8_findTruths_182 ?_
                refine lv_iload_n hx hb dX8_findTruths_183 rfl (lv_at hl 3 rfl) ?_
                refine lv_iadd hx hb dX8_findTruths_184 ?_
                obtain ⟨g_104, h⟩ := g_n h
                refine va_zald (f := x_aM57) hx hb hK hP 29 4 rfl rfl g_104 dX8_findTruths_185 ?_
                refine lv_if_ne (tgt := 193) hx hb dX8_findTruths_186 (by decide) (fun cz => ?_) (fun cz => ?_)
                · have h := g_f h cz
                  refine lv_iconst (v := 0) hx hb dX8_findTruths_193 (by decide) ?_
                  exact B194 v1 v2 ((((512 : Int32) * ((aM 13) v2.toNatClampNeg)) + v1)) ((0 : Int32)) x_aM57 x_aM58 (f_M_findTruths_12 N (iM 14) (iM 36) (aM 8) (aM 9) (aM 10) (aM 11) (aM 13) (aM 30) (aM 32) (aM 34) (aM 35) (aM 57) (aM 58) (aM 59) (aM 60) k2 v1 x_aM58 n) (ih v1 x_aM58 k2 hk2) H locs ls h hP hD hS (lv_sub hl [2, 3, 4] rfl)
                · have h := g_t h cz
                  refine lv_iconst (v := 1) hx hb dX8_findTruths_189 (by decide) ?_
                  refine lv_goto (tgt := 194) hx hb dX8_findTruths_190 (by decide) ?_
                  exact B194 v1 v2 ((((512 : Int32) * ((aM 13) v2.toNatClampNeg)) + v1)) ((1 : Int32)) x_aM57 x_aM58 (f_M_findTruths_12 N (iM 14) (iM 36) (aM 8) (aM 9) (aM 10) (aM 11) (aM 13) (aM 30) (aM 32) (aM 34) (aM 35) (aM 57) (aM 58) (aM 59) (aM 60) k2 v1 x_aM58 n) (ih v1 x_aM58 k2 hk2) H locs ls h hP hD hS (lv_sub hl [2, 3, 4] rfl)
              · have h := g_f h c3
                rcases Decidable.em (((aM 8) (((aM 13) v2.toNatClampNeg)).toNatClampNeg) = (4 : Int32)) with c4 | c4
                · have h := g_t h c4
                  refine lv_tableIn (off := 42) (tgt := 84) hx hb dX8_findTruths_42 (by rw [c4]; decide) (by rw [c4]; decide) (by rw [c4]; rfl) (by decide) ?_
                  refine lv_aload_n hx hb dX8_findTruths_84 rfl (lv_at hl 2 rfl) ?_
                  refine va_get (D := (dC, dI)) (ci := 8) (v := .ref (ad 29)) (C := RX8) (T := TX8) (N := 78) hx hb hts ki8 hown hK hP 0 rfl rfl 57 (by decide) kf102 (fun _ h9 => h9) rfl dX8_findTruths_85 ?_
                  refine lv_iload hx hb dX8_findTruths_88 (lv_at hl 0 rfl) ?_
                  refine lv_iload_n hx hb dX8_findTruths_90 rfl (lv_at hl 3 rfl) ?_
                  refine lv_aload_n hx hb dX8_findTruths_91 rfl (lv_at hl 2 rfl) ?_
                  refine va_get (D := (dC, dI)) (ci := 8) (v := .ref (ad 6)) (C := RX8) (T := TX8) (N := 78) hx hb hts ki8 hown hK hP 0 rfl rfl 11 (by decide) kf27 (fun _ h9 => h9) rfl dX8_findTruths_92 ?_
                  refine lv_iload_n hx hb dX8_findTruths_95 rfl (lv_at hl 1 rfl) ?_
                  refine va_iald (f := (aM 11)) hx hb hK hP 6 0 rfl rfl g_102 dX8_findTruths_96 ?_
                  refine lv_ishr hx hb dX8_findTruths_97 ?_
                  refine lv_iconst (v := 1) hx hb dX8_findTruths_98 (by decide) ?_
                  refine lv_iand hx hb dX8_findTruths_99 ?_
                  refine lv_iconst (v := 1) hx hb dX8_findTruths_100 (by decide) ?_
                  refine lv_icmp_ne (tgt := 108) hx hb dX8_findTruths_101 (by decide) (fun cz => ?_) (fun cz => ?_)
                  · have h := g_f h cz
                    refine lv_iconst (v := 0) hx hb dX8_findTruths_108 (by decide) ?_
                    exact B109 v1 v2 ((((512 : Int32) * ((aM 13) v2.toNatClampNeg)) + v1)) ((0 : Int32)) x_aM57 x_aM58 (f_M_findTruths_12 N (iM 14) (iM 36) (aM 8) (aM 9) (aM 10) (aM 11) (aM 13) (aM 30) (aM 32) (aM 34) (aM 35) (aM 57) (aM 58) (aM 59) (aM 60) k2 v1 x_aM58 n) (ih v1 x_aM58 k2 hk2) H locs ls h hP hD hS (lv_sub hl [2, 3, 4] rfl)
                  · have h := g_t h cz
                    refine lv_iconst (v := 1) hx hb dX8_findTruths_104 (by decide) ?_
                    refine lv_goto (tgt := 109) hx hb dX8_findTruths_105 (by decide) ?_
                    exact B109 v1 v2 ((((512 : Int32) * ((aM 13) v2.toNatClampNeg)) + v1)) ((1 : Int32)) x_aM57 x_aM58 (f_M_findTruths_12 N (iM 14) (iM 36) (aM 8) (aM 9) (aM 10) (aM 11) (aM 13) (aM 30) (aM 32) (aM 34) (aM 35) (aM 57) (aM 58) (aM 59) (aM 60) k2 v1 x_aM58 n) (ih v1 x_aM58 k2 hk2) H locs ls h hP hD hS (lv_sub hl [2, 3, 4] rfl)
                · have h := g_f h c4
                  rcases Decidable.em (((aM 8) (((aM 13) v2.toNatClampNeg)).toNatClampNeg) = (5 : Int32)) with c5 | c5
                  · have h := g_t h c5
                    refine lv_tableIn (off := 71) (tgt := 113) hx hb dX8_findTruths_42 (by rw [c5]; decide) (by rw [c5]; decide) (by rw [c5]; rfl) (by decide) ?_
                    refine lv_aload_n hx hb dX8_findTruths_113 rfl (lv_at hl 2 rfl) ?_
                    refine va_get (D := (dC, dI)) (ci := 8) (v := .ref (ad 29)) (C := RX8) (T := TX8) (N := 78) hx hb hts ki8 hown hK hP 0 rfl rfl 57 (by decide) kf102 (fun _ h9 => h9) rfl dX8_findTruths_114 ?_
                    refine lv_iload hx hb dX8_findTruths_117 (lv_at hl 0 rfl) ?_
                    refine lv_iload_n hx hb dX8_findTruths_119 rfl (lv_at hl 3 rfl) ?_
                    refine lv_aload_n hx hb dX8_findTruths_120 rfl (lv_at hl 2 rfl) ?_
                    refine va_get (D := (dC, dI)) (ci := 8) (v := .ref (ad 6)) (C := RX8) (T := TX8) (N := 78) hx hb hts ki8 hown hK hP 0 rfl rfl 11 (by decide) kf27 (fun _ h9 => h9) rfl dX8_findTruths_121 ?_
                    refine lv_iload_n hx hb dX8_findTruths_124 rfl (lv_at hl 1 rfl) ?_
                    refine va_iald (f := (aM 11)) hx hb hK hP 6 0 rfl rfl g_102 dX8_findTruths_125 ?_
                    refine lv_ishr hx hb dX8_findTruths_126 ?_
                    refine lv_iconst (v := 1) hx hb dX8_findTruths_127 (by decide) ?_
                    refine lv_iand hx hb dX8_findTruths_128 ?_
                    refine lv_if_ne (tgt := 136) hx hb dX8_findTruths_129 (by decide) (fun cz => ?_) (fun cz => ?_)
                    · have h := g_f h cz
                      refine lv_iconst (v := 0) hx hb dX8_findTruths_136 (by decide) ?_
                      exact B137 v1 v2 ((((512 : Int32) * ((aM 13) v2.toNatClampNeg)) + v1)) ((0 : Int32)) x_aM57 x_aM58 (f_M_findTruths_12 N (iM 14) (iM 36) (aM 8) (aM 9) (aM 10) (aM 11) (aM 13) (aM 30) (aM 32) (aM 34) (aM 35) (aM 57) (aM 58) (aM 59) (aM 60) k2 v1 x_aM58 n) (ih v1 x_aM58 k2 hk2) H locs ls h hP hD hS (lv_sub hl [2, 3, 4] rfl)
                    · have h := g_t h cz
                      refine lv_iconst (v := 1) hx hb dX8_findTruths_132 (by decide) ?_
                      refine lv_goto (tgt := 137) hx hb dX8_findTruths_133 (by decide) ?_
                      exact B137 v1 v2 ((((512 : Int32) * ((aM 13) v2.toNatClampNeg)) + v1)) ((1 : Int32)) x_aM57 x_aM58 (f_M_findTruths_12 N (iM 14) (iM 36) (aM 8) (aM 9) (aM 10) (aM 11) (aM 13) (aM 30) (aM 32) (aM 34) (aM 35) (aM 57) (aM 58) (aM 59) (aM 60) k2 v1 x_aM58 n) (ih v1 x_aM58 k2 hk2) H locs ls h hP hD hS (lv_sub hl [2, 3, 4] rfl)
                  · have h := g_f h c5
                    rcases Decidable.em (((aM 8) (((aM 13) v2.toNatClampNeg)).toNatClampNeg) = (6 : Int32)) with c6 | c6
                    · have h := g_t h c6
                      refine lv_tableIn (off := 156) (tgt := 198) hx hb dX8_findTruths_42 (by rw [c6]; decide) (by rw [c6]; decide) (by rw [c6]; rfl) (by decide) ?_
                      refine lv_aload_n hx hb dX8_findTruths_198 rfl (lv_at hl 2 rfl) ?_
                      refine va_get (D := (dC, dI)) (ci := 8) (v := .ref (ad 29)) (C := RX8) (T := TX8) (N := 78) hx hb hts ki8 hown hK hP 0 rfl rfl 57 (by decide) kf102 (fun _ h9 => h9) rfl dX8_findTruths_199 ?_
                      refine lv_iload hx hb dX8_findTruths_202 (lv_at hl 0 rfl) ?_
                      refine lv_aload_n hx hb dX8_findTruths_204 rfl (lv_at hl 2 rfl) ?_
                      refine va_get (D := (dC, dI)) (ci := 8) (v := .ref (ad 29)) (C := RX8) (T := TX8) (N := 78) hx hb hts ki8 hown hK hP 0 rfl rfl 57 (by decide) kf102 (fun _ h9 => h9) rfl dX8_findTruths_205 ?_
                      refine lv_sipush (v := 512) hx hb dX8_findTruths_208 (by decide) ?_
                      refine lv_aload_n hx hb dX8_findTruths_211 rfl (lv_at hl 2 rfl) ?_
                      refine va_get (D := (dC, dI)) (ci := 8) (v := .ref (ad 4)) (C := RX8) (T := TX8) (N := 78) hx hb hts ki8 hown hK hP 0 rfl rfl 9 (by decide) kf21 (fun _ h9 => h9) rfl dX8_findTruths_212 ?_
                      refine lv_iload_n hx hb dX8_findTruths_215 rfl (lv_at hl 1 rfl) ?_
                      refine va_iald (f := (aM 9)) hx hb hK hP 4 0 rfl rfl g_102 dX8_findTruths_216 ?_
                      refine lv_imul hx hb dX8_findTruths_217 ?_
                      refine lv_iload_n hx hb dX8_findTruths_218 rfl (lv_at hl 3 rfl) ?_
                      refine lv_iadd hx hb dX8_findTruths_219 ?_
                      obtain ⟨g_105, h⟩ := g_n h
                      refine va_zald (f := x_aM57) hx hb hK hP 29 4 rfl rfl g_105 dX8_findTruths_220 ?_
                      refine lv_if_eq (tgt := 248) hx hb dX8_findTruths_221 (by decide) (fun cz => ?_) (fun cz => ?_)
                      · have h := g_t h cz
                        refine lv_iconst (v := 0) hx hb dX8_findTruths_248 (by decide) ?_
                        exact B249 v1 v2 ((((512 : Int32) * ((aM 13) v2.toNatClampNeg)) + v1)) ((0 : Int32)) x_aM57 x_aM58 (f_M_findTruths_12 N (iM 14) (iM 36) (aM 8) (aM 9) (aM 10) (aM 11) (aM 13) (aM 30) (aM 32) (aM 34) (aM 35) (aM 57) (aM 58) (aM 59) (aM 60) k2 v1 x_aM58 n) (ih v1 x_aM58 k2 hk2) H locs ls h hP hD hS (lv_sub hl [2, 3, 4] rfl)
                      · have h := g_f h cz
                        refine lv_aload_n hx hb dX8_findTruths_224 rfl (lv_at hl 2 rfl) ?_
                        refine va_get (D := (dC, dI)) (ci := 8) (v := .ref (ad 29)) (C := RX8) (T := TX8) (N := 78) hx hb hts ki8 hown hK hP 0 rfl rfl 57 (by decide) kf102 (fun _ h9 => h9) rfl dX8_findTruths_225 ?_
                        refine lv_sipush (v := 512) hx hb dX8_findTruths_228 (by decide) ?_
                        refine lv_aload_n hx hb dX8_findTruths_231 rfl (lv_at hl 2 rfl) ?_
                        refine va_get (D := (dC, dI)) (ci := 8) (v := .ref (ad 5)) (C := RX8) (T := TX8) (N := 78) hx hb hts ki8 hown hK hP 0 rfl rfl 10 (by decide) kf24 (fun _ h9 => h9) rfl dX8_findTruths_232 ?_
                        refine lv_iload_n hx hb dX8_findTruths_235 rfl (lv_at hl 1 rfl) ?_
                        refine va_iald (f := (aM 10)) hx hb hK hP 5 0 rfl rfl g_102 dX8_findTruths_236 ?_
                        refine lv_imul hx hb dX8_findTruths_237 ?_
                        refine lv_iload_n hx hb dX8_findTruths_238 rfl (lv_at hl 3 rfl) ?_
                        refine lv_iadd hx hb dX8_findTruths_239 ?_
                        obtain ⟨g_104, h⟩ := g_n h
                        refine va_zald (f := x_aM57) hx hb hK hP 29 4 rfl rfl g_104 dX8_findTruths_240 ?_
                        refine lv_if_eq (tgt := 248) hx hb dX8_findTruths_241 (by decide) (fun cz => ?_) (fun cz => ?_)
                        · have h := g_t h cz
                          refine lv_iconst (v := 0) hx hb dX8_findTruths_248 (by decide) ?_
                          exact B249 v1 v2 ((((512 : Int32) * ((aM 13) v2.toNatClampNeg)) + v1)) ((0 : Int32)) x_aM57 x_aM58 (f_M_findTruths_12 N (iM 14) (iM 36) (aM 8) (aM 9) (aM 10) (aM 11) (aM 13) (aM 30) (aM 32) (aM 34) (aM 35) (aM 57) (aM 58) (aM 59) (aM 60) k2 v1 x_aM58 n) (ih v1 x_aM58 k2 hk2) H locs ls h hP hD hS (lv_sub hl [2, 3, 4] rfl)
                        · have h := g_f h cz
                          refine lv_iconst (v := 1) hx hb dX8_findTruths_244 (by decide) ?_
                          refine lv_goto (tgt := 249) hx hb dX8_findTruths_245 (by decide) ?_
                          exact B249 v1 v2 ((((512 : Int32) * ((aM 13) v2.toNatClampNeg)) + v1)) ((1 : Int32)) x_aM57 x_aM58 (f_M_findTruths_12 N (iM 14) (iM 36) (aM 8) (aM 9) (aM 10) (aM 11) (aM 13) (aM 30) (aM 32) (aM 34) (aM 35) (aM 57) (aM 58) (aM 59) (aM 60) k2 v1 x_aM58 n) (ih v1 x_aM58 k2 hk2) H locs ls h hP hD hS (lv_sub hl [2, 3, 4] rfl)
                    · have h := g_f h c6
                      refine lv_tableOut (tgt := 253) hx hb dX8_findTruths_42 (by have z0 := tne (n := 0) (by decide) c0; have z1 := tne (n := 1) (by decide) c1; have z2 := tne (n := 2) (by decide) c2; have z3 := tne (n := 3) (by decide) c3; have z4 := tne (n := 4) (by decide) c4; have z5 := tne (n := 5) (by decide) c5; have z6 := tne (n := 6) (by decide) c6; omega) (by decide) ?_
                      refine lv_aload_n hx hb dX8_findTruths_253 rfl (lv_at hl 2 rfl) ?_
                      refine va_get (D := (dC, dI)) (ci := 8) (v := .ref (ad 29)) (C := RX8) (T := TX8) (N := 78) hx hb hts ki8 hown hK hP 0 rfl rfl 57 (by decide) kf102 (fun _ h9 => h9) rfl dX8_findTruths_254 ?_
                      refine lv_iload hx hb dX8_findTruths_257 (lv_at hl 0 rfl) ?_
                      refine lv_aload_n hx hb dX8_findTruths_259 rfl (lv_at hl 2 rfl) ?_
                      refine va_get (D := (dC, dI)) (ci := 8) (v := .ref (ad 29)) (C := RX8) (T := TX8) (N := 78) hx hb hts ki8 hown hK hP 0 rfl rfl 57 (by decide) kf102 (fun _ h9 => h9) rfl dX8_findTruths_260 ?_
                      refine lv_sipush (v := 512) hx hb dX8_findTruths_263 (by decide) ?_
                      refine lv_aload_n hx hb dX8_findTruths_266 rfl (lv_at hl 2 rfl) ?_
                      refine va_get (D := (dC, dI)) (ci := 8) (v := .ref (ad 4)) (C := RX8) (T := TX8) (N := 78) hx hb hts ki8 hown hK hP 0 rfl rfl 9 (by decide) kf21 (fun _ h9 => h9) rfl dX8_findTruths_267 ?_
                      refine lv_iload_n hx hb dX8_findTruths_270 rfl (lv_at hl 1 rfl) ?_
                      refine va_iald (f := (aM 9)) hx hb hK hP 4 0 rfl rfl g_102 dX8_findTruths_271 ?_
                      refine lv_imul hx hb dX8_findTruths_272 ?_
                      refine lv_iload_n hx hb dX8_findTruths_273 rfl (lv_at hl 3 rfl) ?_
                      refine lv_iadd hx hb dX8_findTruths_274 ?_
                      obtain ⟨g_105, h⟩ := g_n h
                      refine va_zald (f := x_aM57) hx hb hK hP 29 4 rfl rfl g_105 dX8_findTruths_275 ?_
                      refine lv_if_ne (tgt := 299) hx hb dX8_findTruths_276 (by decide) (fun cz => ?_) (fun cz => ?_)
                      · have h := g_f h cz
                        refine lv_iconst (v := 1) hx hb dX8_findTruths_299 (by decide) ?_
                        refine lv_goto (tgt := 304) hx hb dX8_findTruths_300 (by decide) ?_
                        exact B304 v1 v2 ((((512 : Int32) * ((aM 13) v2.toNatClampNeg)) + v1)) ((1 : Int32)) x_aM57 x_aM58 (f_M_findTruths_12 N (iM 14) (iM 36) (aM 8) (aM 9) (aM 10) (aM 11) (aM 13) (aM 30) (aM 32) (aM 34) (aM 35) (aM 57) (aM 58) (aM 59) (aM 60) k2 v1 x_aM58 n) (ih v1 x_aM58 k2 hk2) H locs ls h hP hD hS (lv_sub hl [2, 3, 4] rfl)
                      · have h := g_t h cz
                        refine lv_aload_n hx hb dX8_findTruths_279 rfl (lv_at hl 2 rfl) ?_
                        refine va_get (D := (dC, dI)) (ci := 8) (v := .ref (ad 29)) (C := RX8) (T := TX8) (N := 78) hx hb hts ki8 hown hK hP 0 rfl rfl 57 (by decide) kf102 (fun _ h9 => h9) rfl dX8_findTruths_280 ?_
                        refine lv_sipush (v := 512) hx hb dX8_findTruths_283 (by decide) ?_
                        refine lv_aload_n hx hb dX8_findTruths_286 rfl (lv_at hl 2 rfl) ?_
                        refine va_get (D := (dC, dI)) (ci := 8) (v := .ref (ad 5)) (C := RX8) (T := TX8) (N := 78) hx hb hts ki8 hown hK hP 0 rfl rfl 10 (by decide) kf24 (fun _ h9 => h9) rfl dX8_findTruths_287 ?_
                        refine lv_iload_n hx hb dX8_findTruths_290 rfl (lv_at hl 1 rfl) ?_
                        refine va_iald (f := (aM 10)) hx hb hK hP 5 0 rfl rfl g_102 dX8_findTruths_291 ?_
                        refine lv_imul hx hb dX8_findTruths_292 ?_
                        refine lv_iload_n hx hb dX8_findTruths_293 rfl (lv_at hl 3 rfl) ?_
                        refine lv_iadd hx hb dX8_findTruths_294 ?_
                        obtain ⟨g_104, h⟩ := g_n h
                        refine va_zald (f := x_aM57) hx hb hK hP 29 4 rfl rfl g_104 dX8_findTruths_295 ?_
                        refine lv_if_eq (tgt := 303) hx hb dX8_findTruths_296 (by decide) (fun cz => ?_) (fun cz => ?_)
                        · have h := g_t h cz
                          refine lv_iconst (v := 0) hx hb dX8_findTruths_303 (by decide) ?_
                          exact B304 v1 v2 ((((512 : Int32) * ((aM 13) v2.toNatClampNeg)) + v1)) ((0 : Int32)) x_aM57 x_aM58 (f_M_findTruths_12 N (iM 14) (iM 36) (aM 8) (aM 9) (aM 10) (aM 11) (aM 13) (aM 30) (aM 32) (aM 34) (aM 35) (aM 57) (aM 58) (aM 59) (aM 60) k2 v1 x_aM58 n) (ih v1 x_aM58 k2 hk2) H locs ls h hP hD hS (lv_sub hl [2, 3, 4] rfl)
                        · have h := g_f h cz
                          refine lv_iconst (v := 1) hx hb dX8_findTruths_299 (by decide) ?_
                          refine lv_goto (tgt := 304) hx hb dX8_findTruths_300 (by decide) ?_
                          exact B304 v1 v2 ((((512 : Int32) * ((aM 13) v2.toNatClampNeg)) + v1)) ((1 : Int32)) x_aM57 x_aM58 (f_M_findTruths_12 N (iM 14) (iM 36) (aM 8) (aM 9) (aM 10) (aM 11) (aM 13) (aM 30) (aM 32) (aM 34) (aM 35) (aM 57) (aM 58) (aM 59) (aM 60) k2 v1 x_aM58 n) (ih v1 x_aM58 k2 hk2) H locs ls h hP hD hS (lv_sub hl [2, 3, 4] rfl)
  have B474 : ∀ (v1 : Int32) (v2 : Int32) (s1 : Int32) (s2 : Int32) (s3 : Int32) (x_aM57 : Nat → Int32) (x_aM58 : Nat → Int32) (x_aM59 : Nat → Int32) (x_aM60 : Nat → Int32) (k410 : Int32 → (Nat → Int32) → (Nat → Int32) → Option ((Nat → Int32) × (Nat → Int32) × (Nat → Int32) × (Nat → Int32))) (hk410 : ∀ (v2' : Int32) (x_aM59' : Nat → Int32) (x_aM60' : Nat → Int32) (H : Heap) (locs : List Loc) (ls : Array Slot), k410 v2' x_aM59' x_aM60' = some q → va_P (dC, dI) vwCl (zzM ad cy iM (us aM [(57, x_aM57), (58, x_aM58), (59, x_aM59'), (60, x_aM60')])) H → va_D A (zzM ad cy iM (us aM [(57, x_aM57), (58, x_aM58), (59, x_aM59'), (60, x_aM60')])) → va_S A s.heap H locs → lv_has ls 5 [(0, .ref (ad 0)), (1, .int v1), (2, .int v2')] → W p l e ({ frames := 1, cells := 0, slots := 0, locals := 24 } : Room) s m args below meth c H locs 0 0 QQ (F0 m 410 ls [])) (H : Heap) (locs : List Loc) (ls : Array Slot), f_M_findTruths_474 N (iM 14) (iM 36) (aM 8) (aM 9) (aM 10) (aM 11) (aM 13) (aM 30) (aM 32) (aM 34) (aM 35) (aM 57) (aM 58) (aM 59) (aM 60) k410 v1 v2 s1 s2 s3 x_aM57 x_aM58 x_aM59 x_aM60 = some q → va_P (dC, dI) vwCl (zzM ad cy iM (us aM [(57, x_aM57), (58, x_aM58), (59, x_aM59), (60, x_aM60)])) H → va_D A (zzM ad cy iM (us aM [(57, x_aM57), (58, x_aM58), (59, x_aM59), (60, x_aM60)])) → va_S A s.heap H locs → lv_has ls 5 [(0, .ref (ad 0)), (1, .int v1), (2, .int v2)] → W p l e ({ frames := 1, cells := 0, slots := 0, locals := 24 } : Room) s m args below meth c H locs 0 0 QQ (F0 m 474 ls [.int s3, .int s2, .int s1, .ref (ad 32)]) := by
    intro v1 v2 s1 s2 s3 x_aM57 x_aM58 x_aM59 x_aM60 k410 hk410 H locs ls h hP hD hS hl
    unfold f_M_findTruths_474 at h
    refine lv_ior hx hb dX8_findTruths_474 ?_
    obtain ⟨g_106, h⟩ := g_n h
    refine va_iast (f := x_aM60) hx hb hK hP hD hS 32 0 rfl rfl g_106 dX8_findTruths_475 (fun H locs hP hD hS => ?_)
    have hP : va_P (dC, dI) vwCl (zzM ad cy iM (us aM [(57, x_aM57), (58, x_aM58), (59, x_aM59), (60, (upd x_aM60 s1.toNatClampNeg ((s2 ||| s3))))])) H := Eq.mp (congrArg (fun w => va_P (dC, dI) vwCl w H) (stM_aM60 ad cy iM aM [(57, x_aM57), (58, x_aM58), (59, x_aM59), (60, x_aM60)] ((upd x_aM60 s1.toNatClampNeg ((s2 ||| s3)))))) hP
    have hD : va_D A (zzM ad cy iM (us aM [(57, x_aM57), (58, x_aM58), (59, x_aM59), (60, (upd x_aM60 s1.toNatClampNeg ((s2 ||| s3))))])) := Eq.mp (congrArg (fun w => va_D A w) (stM_aM60 ad cy iM aM [(57, x_aM57), (58, x_aM58), (59, x_aM59), (60, x_aM60)] ((upd x_aM60 s1.toNatClampNeg ((s2 ||| s3)))))) hD
    refine lv_iinc (v := (v2 + (1 : Int32))) (lv' := [(2, .int ((v2 + (1 : Int32)))), (0, .ref (ad 0)), (1, .int v1)]) hx hb dX8_findTruths_476 hl (k := 2) rfl rfl (by decide) rfl (fun ls hl => ?_)
    refine lv_goto (tgt := 410) hx hb dX8_findTruths_479 (by decide) ?_
    exact hk410 ((v2 + (1 : Int32))) x_aM59 ((upd x_aM60 s1.toNatClampNeg ((s2 ||| s3)))) H locs ls h hP hD hS (lv_sub hl [1, 2, 0] rfl)
  have B455 : ∀ (v1 : Int32) (v2 : Int32) (v3 : Int32) (x_aM57 : Nat → Int32) (x_aM58 : Nat → Int32) (x_aM59 : Nat → Int32) (x_aM60 : Nat → Int32) (k410 : Int32 → (Nat → Int32) → (Nat → Int32) → Option ((Nat → Int32) × (Nat → Int32) × (Nat → Int32) × (Nat → Int32))) (hk410 : ∀ (v2' : Int32) (x_aM59' : Nat → Int32) (x_aM60' : Nat → Int32) (H : Heap) (locs : List Loc) (ls : Array Slot), k410 v2' x_aM59' x_aM60' = some q → va_P (dC, dI) vwCl (zzM ad cy iM (us aM [(57, x_aM57), (58, x_aM58), (59, x_aM59'), (60, x_aM60')])) H → va_D A (zzM ad cy iM (us aM [(57, x_aM57), (58, x_aM58), (59, x_aM59'), (60, x_aM60')])) → va_S A s.heap H locs → lv_has ls 5 [(0, .ref (ad 0)), (1, .int v1), (2, .int v2')] → W p l e ({ frames := 1, cells := 0, slots := 0, locals := 24 } : Room) s m args below meth c H locs 0 0 QQ (F0 m 410 ls [])) (H : Heap) (locs : List Loc) (ls : Array Slot), f_M_findTruths_455 N (iM 14) (iM 36) (aM 8) (aM 9) (aM 10) (aM 11) (aM 13) (aM 30) (aM 32) (aM 34) (aM 35) (aM 57) (aM 58) (aM 59) (aM 60) k410 v1 v2 v3 x_aM57 x_aM58 x_aM59 x_aM60 = some q → va_P (dC, dI) vwCl (zzM ad cy iM (us aM [(57, x_aM57), (58, x_aM58), (59, x_aM59), (60, x_aM60)])) H → va_D A (zzM ad cy iM (us aM [(57, x_aM57), (58, x_aM58), (59, x_aM59), (60, x_aM60)])) → va_S A s.heap H locs → lv_has ls 5 [(0, .ref (ad 0)), (1, .int v1), (2, .int v2), (3, .int v3)] → W p l e ({ frames := 1, cells := 0, slots := 0, locals := 24 } : Room) s m args below meth c H locs 0 0 QQ (F0 m 455 ls []) := by
    intro v1 v2 v3 x_aM57 x_aM58 x_aM59 x_aM60 k410 hk410 H locs ls h hP hD hS hl
    unfold f_M_findTruths_455 at h
    refine lv_aload_n hx hb dX8_findTruths_455 rfl (lv_at hl 0 rfl) ?_
    refine va_get (D := (dC, dI)) (ci := 8) (v := .ref (ad 32)) (C := RX8) (T := TX8) (N := 78) hx hb hts ki8 hown hK hP 0 rfl rfl 60 (by decide) kf111 (fun _ h9 => h9) rfl dX8_findTruths_456 ?_
    refine lv_iload_n hx hb dX8_findTruths_459 rfl (lv_at hl 1 rfl) ?_
    refine lv_dup2_11 hx hb dX8_findTruths_460 rfl rfl ?_
    obtain ⟨g_1, h⟩ := g_n h
    refine va_iald (f := x_aM60) hx hb hK hP 32 0 rfl rfl g_1 dX8_findTruths_461 ?_
    refine lv_iload_n hx hb dX8_findTruths_462 rfl (lv_at hl 3 rfl) ?_
    refine lv_iload_n hx hb dX8_findTruths_463 rfl (lv_at hl 1 rfl) ?_
    refine lv_icmp_ne (tgt := 473) hx hb dX8_findTruths_464 (by decide) (fun cz => ?_) (fun cz => ?_)
    · have h := g_f h cz
      refine lv_iconst (v := 0) hx hb dX8_findTruths_473 (by decide) ?_
      exact B474 v1 v2 v1 ((x_aM60 v1.toNatClampNeg)) ((0 : Int32)) x_aM57 x_aM58 x_aM59 x_aM60 k410 hk410 H locs ls h hP hD hS (lv_sub hl [0, 1, 2] rfl)
    · have h := g_t h cz
      refine lv_iconst (v := 1) hx hb dX8_findTruths_467 (by decide) ?_
      refine lv_iload_n hx hb dX8_findTruths_468 rfl (lv_at hl 2 rfl) ?_
      refine lv_ishl hx hb dX8_findTruths_469 ?_
      refine lv_goto (tgt := 474) hx hb dX8_findTruths_470 (by decide) ?_
      exact B474 v1 v2 v1 ((x_aM60 v1.toNatClampNeg)) (((1 : Int32) <<< (v2 &&& 31))) x_aM57 x_aM58 x_aM59 x_aM60 k410 hk410 H locs ls h hP hD hS (lv_sub hl [0, 1, 2] rfl)
  have B443 : ∀ (v1 : Int32) (v2 : Int32) (v3 : Int32) (x_aM57 : Nat → Int32) (x_aM58 : Nat → Int32) (x_aM59 : Nat → Int32) (x_aM60 : Nat → Int32) (k410 : Int32 → (Nat → Int32) → (Nat → Int32) → Option ((Nat → Int32) × (Nat → Int32) × (Nat → Int32) × (Nat → Int32))) (hk410 : ∀ (v2' : Int32) (x_aM59' : Nat → Int32) (x_aM60' : Nat → Int32) (H : Heap) (locs : List Loc) (ls : Array Slot), k410 v2' x_aM59' x_aM60' = some q → va_P (dC, dI) vwCl (zzM ad cy iM (us aM [(57, x_aM57), (58, x_aM58), (59, x_aM59'), (60, x_aM60')])) H → va_D A (zzM ad cy iM (us aM [(57, x_aM57), (58, x_aM58), (59, x_aM59'), (60, x_aM60')])) → va_S A s.heap H locs → lv_has ls 5 [(0, .ref (ad 0)), (1, .int v1), (2, .int v2')] → W p l e ({ frames := 1, cells := 0, slots := 0, locals := 24 } : Room) s m args below meth c H locs 0 0 QQ (F0 m 410 ls [])) (H : Heap) (locs : List Loc) (ls : Array Slot), f_M_findTruths_443 N (iM 14) (iM 36) (aM 8) (aM 9) (aM 10) (aM 11) (aM 13) (aM 30) (aM 32) (aM 34) (aM 35) (aM 57) (aM 58) (aM 59) (aM 60) k410 v1 v2 v3 x_aM57 x_aM58 x_aM59 x_aM60 = some q → va_P (dC, dI) vwCl (zzM ad cy iM (us aM [(57, x_aM57), (58, x_aM58), (59, x_aM59), (60, x_aM60)])) H → va_D A (zzM ad cy iM (us aM [(57, x_aM57), (58, x_aM58), (59, x_aM59), (60, x_aM60)])) → va_S A s.heap H locs → lv_has ls 5 [(0, .ref (ad 0)), (1, .int v1), (2, .int v2), (3, .int v3)] → W p l e ({ frames := 1, cells := 0, slots := 0, locals := 24 } : Room) s m args below meth c H locs 0 0 QQ (F0 m 443 ls []) := by
    intro v1 v2 v3 x_aM57 x_aM58 x_aM59 x_aM60 k410 hk410 H locs ls h hP hD hS hl
    unfold f_M_findTruths_443 at h
    refine lv_aload_n hx hb dX8_findTruths_443 rfl (lv_at hl 0 rfl) ?_
    refine va_get (D := (dC, dI)) (ci := 8) (v := .ref (ad 31)) (C := RX8) (T := TX8) (N := 78) hx hb hts ki8 hown hK hP 0 rfl rfl 59 (by decide) kf108 (fun _ h9 => h9) rfl dX8_findTruths_444 ?_
    refine lv_iload_n hx hb dX8_findTruths_447 rfl (lv_at hl 1 rfl) ?_
    refine lv_dup2_11 hx hb dX8_findTruths_448 rfl rfl ?_
    obtain ⟨g_1, h⟩ := g_n h
    refine va_iald (f := x_aM59) hx hb hK hP 31 0 rfl rfl g_1 dX8_findTruths_449 ?_
    refine lv_iconst (v := 1) hx hb dX8_findTruths_450 (by decide) ?_
    refine lv_iload_n hx hb dX8_findTruths_451 rfl (lv_at hl 2 rfl) ?_
    refine lv_ishl hx hb dX8_findTruths_452 ?_
    refine lv_ior hx hb dX8_findTruths_453 ?_
    refine va_iast (f := x_aM59) hx hb hK hP hD hS 31 0 rfl rfl g_1 dX8_findTruths_454 (fun H locs hP hD hS => ?_)
    have hP : va_P (dC, dI) vwCl (zzM ad cy iM (us aM [(57, x_aM57), (58, x_aM58), (59, (upd x_aM59 v1.toNatClampNeg (((x_aM59 v1.toNatClampNeg) ||| ((1 : Int32) <<< (v2 &&& 31)))))), (60, x_aM60)])) H := Eq.mp (congrArg (fun w => va_P (dC, dI) vwCl w H) (stM_aM59 ad cy iM aM [(57, x_aM57), (58, x_aM58), (59, x_aM59), (60, x_aM60)] ((upd x_aM59 v1.toNatClampNeg (((x_aM59 v1.toNatClampNeg) ||| ((1 : Int32) <<< (v2 &&& 31)))))))) hP
    have hD : va_D A (zzM ad cy iM (us aM [(57, x_aM57), (58, x_aM58), (59, (upd x_aM59 v1.toNatClampNeg (((x_aM59 v1.toNatClampNeg) ||| ((1 : Int32) <<< (v2 &&& 31)))))), (60, x_aM60)])) := Eq.mp (congrArg (fun w => va_D A w) (stM_aM59 ad cy iM aM [(57, x_aM57), (58, x_aM58), (59, x_aM59), (60, x_aM60)] ((upd x_aM59 v1.toNatClampNeg (((x_aM59 v1.toNatClampNeg) ||| ((1 : Int32) <<< (v2 &&& 31)))))))) hD
    exact B455 v1 v2 v3 x_aM57 x_aM58 ((upd x_aM59 v1.toNatClampNeg (((x_aM59 v1.toNatClampNeg) ||| ((1 : Int32) <<< (v2 &&& 31)))))) x_aM60 k410 hk410 H locs ls h hP hD hS (lv_sub hl [0, 1, 2, 3] rfl)
  have B410 : ∀ (n : Nat) (v1 : Int32) (x_aM57 : Nat → Int32) (x_aM58 : Nat → Int32) (k389 : Int32 → (Nat → Int32) → (Nat → Int32) → Option ((Nat → Int32) × (Nat → Int32) × (Nat → Int32) × (Nat → Int32))) (hk389 : ∀ (v1' : Int32) (x_aM59' : Nat → Int32) (x_aM60' : Nat → Int32) (H : Heap) (locs : List Loc) (ls : Array Slot), k389 v1' x_aM59' x_aM60' = some q → va_P (dC, dI) vwCl (zzM ad cy iM (us aM [(57, x_aM57), (58, x_aM58), (59, x_aM59'), (60, x_aM60')])) H → va_D A (zzM ad cy iM (us aM [(57, x_aM57), (58, x_aM58), (59, x_aM59'), (60, x_aM60')])) → va_S A s.heap H locs → lv_has ls 5 [(0, .ref (ad 0)), (1, .int v1')] → W p l e ({ frames := 1, cells := 0, slots := 0, locals := 24 } : Room) s m args below meth c H locs 0 0 QQ (F0 m 389 ls [])) (v2 : Int32) (x_aM59 : Nat → Int32) (x_aM60 : Nat → Int32) (H : Heap) (locs : List Loc) (ls : Array Slot), f_M_findTruths_410 N (iM 14) (iM 36) (aM 8) (aM 9) (aM 10) (aM 11) (aM 13) (aM 30) (aM 32) (aM 34) (aM 35) (aM 57) (aM 58) (aM 59) (aM 60) k389 v1 x_aM57 x_aM58 n v2 x_aM59 x_aM60 = some q → va_P (dC, dI) vwCl (zzM ad cy iM (us aM [(57, x_aM57), (58, x_aM58), (59, x_aM59), (60, x_aM60)])) H → va_D A (zzM ad cy iM (us aM [(57, x_aM57), (58, x_aM58), (59, x_aM59), (60, x_aM60)])) → va_S A s.heap H locs → lv_has ls 5 [(0, .ref (ad 0)), (1, .int v1), (2, .int v2)] → W p l e ({ frames := 1, cells := 0, slots := 0, locals := 24 } : Room) s m args below meth c H locs 0 0 QQ (F0 m 410 ls []) := by
    intro n
    induction n with
    | zero =>
      intro v1 x_aM57 x_aM58 k389 hk389 v2 x_aM59 x_aM60 H locs ls h hP hD hS hl
      rw [f_M_findTruths_410] at h
      cases h
    | succ n ih =>
      intro v1 x_aM57 x_aM58 k389 hk389 v2 x_aM59 x_aM60 H locs ls h hP hD hS hl
      rw [f_M_findTruths_410] at h
      refine lv_iload_n hx hb dX8_findTruths_410 rfl (lv_at hl 2 rfl) ?_
      refine lv_aload_n hx hb dX8_findTruths_411 rfl (lv_at hl 0 rfl) ?_
      refine va_get (D := (dC, dI)) (ci := 8) (v := .int (iM 36)) (C := RX8) (T := TX8) (N := 78) hx hb hts ki8 hown hK hP 0 rfl rfl 36 (by decide) kf353 (fun _ h9 => h9) rfl dX8_findTruths_412 ?_
      refine lv_icmp_ge (tgt := 482) hx hb dX8_findTruths_415 (by decide) (fun cz => ?_) (fun cz => ?_)
      · have h := g_t h cz
        refine lv_iinc (v := (v1 + (1 : Int32))) (lv' := [(1, .int ((v1 + (1 : Int32)))), (0, .ref (ad 0)), (2, .int v2)]) hx hb dX8_findTruths_482 hl (k := 1) rfl rfl (by decide) rfl (fun ls hl => ?_)
        refine lv_goto (tgt := 389) hx hb dX8_findTruths_485 (by decide) ?_
        exact hk389 ((v1 + (1 : Int32))) x_aM59 x_aM60 H locs ls h hP hD hS (lv_sub hl [1, 0] rfl)
      · have h := g_f h cz
        refine lv_aload_n hx hb dX8_findTruths_418 rfl (lv_at hl 0 rfl) ?_
        refine va_get (D := (dC, dI)) (ci := 8) (v := .ref (ad 21)) (C := RX8) (T := TX8) (N := 78) hx hb hts ki8 hown hK hP 0 rfl rfl 32 (by decide) kf73 (fun _ h9 => h9) rfl dX8_findTruths_419 ?_
        refine lv_iload_n hx hb dX8_findTruths_422 rfl (lv_at hl 2 rfl) ?_
        obtain ⟨g_99, h⟩ := g_n h
        refine va_iald (f := (aM 32)) hx hb hK hP 21 0 rfl rfl g_99 dX8_findTruths_423 ?_
        refine lv_istore_n (lv' := [(3, .int (((aM 32) v2.toNatClampNeg))), (0, .ref (ad 0)), (1, .int v1), (2, .int v2)]) hx hb dX8_findTruths_424 rfl hl (by decide) rfl (fun ls hl => ?_)
        refine lv_iload_n hx hb dX8_findTruths_425 rfl (lv_at hl 0 rfl) ?_
        refine lv_if_lt (tgt := 455) hx hb dX8_findTruths_426 (by decide) (fun cz => ?_) (fun cz => ?_)
        · have h := g_t h cz
          exact B455 v1 v2 (((aM 32) v2.toNatClampNeg)) x_aM57 x_aM58 x_aM59 x_aM60 (f_M_findTruths_410 N (iM 14) (iM 36) (aM 8) (aM 9) (aM 10) (aM 11) (aM 13) (aM 30) (aM 32) (aM 34) (aM 35) (aM 57) (aM 58) (aM 59) (aM 60) k389 v1 x_aM57 x_aM58 n) (ih v1 x_aM57 x_aM58 k389 hk389) H locs ls h hP hD hS (lv_sub hl [1, 2, 3, 0] rfl)
        · have h := g_f h cz
          refine lv_iload_n hx hb dX8_findTruths_429 rfl (lv_at hl 0 rfl) ?_
          refine lv_iload_n hx hb dX8_findTruths_430 rfl (lv_at hl 2 rfl) ?_
          refine lv_icmp_eq (tgt := 443) hx hb dX8_findTruths_431 (by decide) (fun cz => ?_) (fun cz => ?_)
          · have h := g_t h cz
            exact B443 v1 v2 (((aM 32) v2.toNatClampNeg)) x_aM57 x_aM58 x_aM59 x_aM60 (f_M_findTruths_410 N (iM 14) (iM 36) (aM 8) (aM 9) (aM 10) (aM 11) (aM 13) (aM 30) (aM 32) (aM 34) (aM 35) (aM 57) (aM 58) (aM 59) (aM 60) k389 v1 x_aM57 x_aM58 n) (ih v1 x_aM57 x_aM58 k389 hk389) H locs ls h hP hD hS (lv_sub hl [1, 2, 3, 0] rfl)
          · have h := g_f h cz
            refine lv_aload_n hx hb dX8_findTruths_434 rfl (lv_at hl 1 rfl) ?_
            refine lv_iload_n hx hb dX8_findTruths_435 rfl (lv_at hl 2 rfl) ?_
            refine lv_iload_n hx hb dX8_findTruths_436 rfl (lv_at hl 0 rfl) ?_
            obtain ⟨q437, e437, h⟩ := g_b h
            refine callVis (cc := cX8_findTruths) (w1 := zzM ad cy iM (us aM [(57, x_aM57), (58, x_aM58), (59, x_aM59), (60, x_aM60)])) (As := [.int v1, .int (((aM 32) v2.toNatClampNeg))]) (rest := []) ⟨hx, hb, hml, hown, hts⟩ (c_M_isBelow l dC dI cy ad H.size N v1 (((aM 32) v2.toNatClampNeg)) iM ((us aM [(57, x_aM57), (58, x_aM58), (59, x_aM59), (60, x_aM60)])) q437 e437) (cwV 2 hts (goodV m_ml_X8_371 m_im_X8_isBelow m_se_X8_isBelow m_in_X8 m_cd_X8_isBelow) rfl rfl rfl (by decide +kernel) ⟨Nat.le_of_ble_eq_true rfl, Nat.le_of_ble_eq_true rfl⟩) hN hK hP hD hS hA rfl 0 rfl rfl rfl hl.1 rfl (Nat.le_of_ble_eq_true rfl) dX8_findTruths_437 ⟨Nat.zero_le _, Nat.zero_le _⟩ (fun H locs hP hD hS => ?_)
            refine lv_if_eq (tgt := 455) hx hb dX8_findTruths_440 (by decide) (fun cz => ?_) (fun cz => ?_)
            · have h := g_t h cz
              exact B455 v1 v2 (((aM 32) v2.toNatClampNeg)) x_aM57 x_aM58 x_aM59 x_aM60 (f_M_findTruths_410 N (iM 14) (iM 36) (aM 8) (aM 9) (aM 10) (aM 11) (aM 13) (aM 30) (aM 32) (aM 34) (aM 35) (aM 57) (aM 58) (aM 59) (aM 60) k389 v1 x_aM57 x_aM58 n) (ih v1 x_aM57 x_aM58 k389 hk389) H locs ls h hP hD hS (lv_sub hl [1, 2, 3, 0] rfl)
            · have h := g_f h cz
              exact B443 v1 v2 (((aM 32) v2.toNatClampNeg)) x_aM57 x_aM58 x_aM59 x_aM60 (f_M_findTruths_410 N (iM 14) (iM 36) (aM 8) (aM 9) (aM 10) (aM 11) (aM 13) (aM 30) (aM 32) (aM 34) (aM 35) (aM 57) (aM 58) (aM 59) (aM 60) k389 v1 x_aM57 x_aM58 n) (ih v1 x_aM57 x_aM58 k389 hk389) H locs ls h hP hD hS (lv_sub hl [1, 2, 3, 0] rfl)
  have B389 : ∀ (n : Nat) (x_aM57 : Nat → Int32) (x_aM58 : Nat → Int32) (v1 : Int32) (x_aM59 : Nat → Int32) (x_aM60 : Nat → Int32) (H : Heap) (locs : List Loc) (ls : Array Slot), f_M_findTruths_389 N (iM 14) (iM 36) (aM 8) (aM 9) (aM 10) (aM 11) (aM 13) (aM 30) (aM 32) (aM 34) (aM 35) (aM 57) (aM 58) (aM 59) (aM 60) x_aM57 x_aM58 n v1 x_aM59 x_aM60 = some q → va_P (dC, dI) vwCl (zzM ad cy iM (us aM [(57, x_aM57), (58, x_aM58), (59, x_aM59), (60, x_aM60)])) H → va_D A (zzM ad cy iM (us aM [(57, x_aM57), (58, x_aM58), (59, x_aM59), (60, x_aM60)])) → va_S A s.heap H locs → lv_has ls 5 [(0, .ref (ad 0)), (1, .int v1)] → W p l e ({ frames := 1, cells := 0, slots := 0, locals := 24 } : Room) s m args below meth c H locs 0 0 QQ (F0 m 389 ls []) := by
    intro n
    induction n with
    | zero =>
      intro x_aM57 x_aM58 v1 x_aM59 x_aM60 H locs ls h hP hD hS hl
      rw [f_M_findTruths_389] at h
      cases h
    | succ n ih =>
      intro x_aM57 x_aM58 v1 x_aM59 x_aM60 H locs ls h hP hD hS hl
      rw [f_M_findTruths_389] at h
      refine lv_iload_n hx hb dX8_findTruths_389 rfl (lv_at hl 1 rfl) ?_
      refine lv_iconst (v := 3) hx hb dX8_findTruths_390 (by decide) ?_
      refine lv_icmp_ge (tgt := 488) hx hb dX8_findTruths_391 (by decide) (fun cz => ?_) (fun cz => ?_)
      · have h := g_t h cz
        have h' := Option.some.inj h
        rw [← hQQ]
        exact W.vret hx hb hr (fun t ht hW => ⟨⟨(), rfl, trivial, by rw [← hWQ, ← h', ht]; exact hP, va_K.moved hW.alike hK⟩, hS.F ht⟩) hS.2.2 dX8_findTruths_488
      · have h := g_f h cz
        refine lv_aload_n hx hb dX8_findTruths_394 rfl (lv_at hl 0 rfl) ?_
        refine va_get (D := (dC, dI)) (ci := 8) (v := .ref (ad 31)) (C := RX8) (T := TX8) (N := 78) hx hb hts ki8 hown hK hP 0 rfl rfl 59 (by decide) kf108 (fun _ h9 => h9) rfl dX8_findTruths_395 ?_
        refine lv_iload_n hx hb dX8_findTruths_398 rfl (lv_at hl 1 rfl) ?_
        refine lv_iconst (v := 0) hx hb dX8_findTruths_399 (by decide) ?_
        obtain ⟨g_1, h⟩ := g_n h
        refine va_iast (f := x_aM59) hx hb hK hP hD hS 31 0 rfl rfl g_1 dX8_findTruths_400 (fun H locs hP hD hS => ?_)
        have hP : va_P (dC, dI) vwCl (zzM ad cy iM (us aM [(57, x_aM57), (58, x_aM58), (59, (upd x_aM59 v1.toNatClampNeg ((0 : Int32)))), (60, x_aM60)])) H := Eq.mp (congrArg (fun w => va_P (dC, dI) vwCl w H) (stM_aM59 ad cy iM aM [(57, x_aM57), (58, x_aM58), (59, x_aM59), (60, x_aM60)] ((upd x_aM59 v1.toNatClampNeg ((0 : Int32)))))) hP
        have hD : va_D A (zzM ad cy iM (us aM [(57, x_aM57), (58, x_aM58), (59, (upd x_aM59 v1.toNatClampNeg ((0 : Int32)))), (60, x_aM60)])) := Eq.mp (congrArg (fun w => va_D A w) (stM_aM59 ad cy iM aM [(57, x_aM57), (58, x_aM58), (59, x_aM59), (60, x_aM60)] ((upd x_aM59 v1.toNatClampNeg ((0 : Int32)))))) hD
        refine lv_aload_n hx hb dX8_findTruths_401 rfl (lv_at hl 0 rfl) ?_
        refine va_get (D := (dC, dI)) (ci := 8) (v := .ref (ad 32)) (C := RX8) (T := TX8) (N := 78) hx hb hts ki8 hown hK hP 0 rfl rfl 60 (by decide) kf111 (fun _ h9 => h9) rfl dX8_findTruths_402 ?_
        refine lv_iload_n hx hb dX8_findTruths_405 rfl (lv_at hl 1 rfl) ?_
        refine lv_iconst (v := 0) hx hb dX8_findTruths_406 (by decide) ?_
        refine va_iast (f := x_aM60) hx hb hK hP hD hS 32 0 rfl rfl g_1 dX8_findTruths_407 (fun H locs hP hD hS => ?_)
        have hP : va_P (dC, dI) vwCl (zzM ad cy iM (us aM [(57, x_aM57), (58, x_aM58), (59, (upd x_aM59 v1.toNatClampNeg ((0 : Int32)))), (60, (upd x_aM60 v1.toNatClampNeg ((0 : Int32))))])) H := Eq.mp (congrArg (fun w => va_P (dC, dI) vwCl w H) (stM_aM60 ad cy iM aM [(57, x_aM57), (58, x_aM58), (59, (upd x_aM59 v1.toNatClampNeg ((0 : Int32)))), (60, x_aM60)] ((upd x_aM60 v1.toNatClampNeg ((0 : Int32)))))) hP
        have hD : va_D A (zzM ad cy iM (us aM [(57, x_aM57), (58, x_aM58), (59, (upd x_aM59 v1.toNatClampNeg ((0 : Int32)))), (60, (upd x_aM60 v1.toNatClampNeg ((0 : Int32))))])) := Eq.mp (congrArg (fun w => va_D A w) (stM_aM60 ad cy iM aM [(57, x_aM57), (58, x_aM58), (59, (upd x_aM59 v1.toNatClampNeg ((0 : Int32)))), (60, x_aM60)] ((upd x_aM60 v1.toNatClampNeg ((0 : Int32)))))) hD
        refine lv_iconst (v := 0) hx hb dX8_findTruths_408 (by decide) ?_
        refine lv_istore_n (lv' := [(2, .int ((0 : Int32))), (0, .ref (ad 0)), (1, .int v1)]) hx hb dX8_findTruths_409 rfl hl (by decide) rfl (fun ls hl => ?_)
        exact B410 N v1 x_aM57 x_aM58 (f_M_findTruths_389 N (iM 14) (iM 36) (aM 8) (aM 9) (aM 10) (aM 11) (aM 13) (aM 30) (aM 32) (aM 34) (aM 35) (aM 57) (aM 58) (aM 59) (aM 60) x_aM57 x_aM58 n) (ih x_aM57 x_aM58) ((0 : Int32)) ((upd x_aM59 v1.toNatClampNeg ((0 : Int32)))) ((upd x_aM60 v1.toNatClampNeg ((0 : Int32)))) H locs ls h hP hD hS (lv_sub hl [1, 2, 0] rfl)
  have B2 : ∀ (n : Nat) (v1 : Int32) (x_aM57 : Nat → Int32) (x_aM58 : Nat → Int32) (H : Heap) (locs : List Loc) (ls : Array Slot), f_M_findTruths_2 N (iM 14) (iM 36) (aM 8) (aM 9) (aM 10) (aM 11) (aM 13) (aM 30) (aM 32) (aM 34) (aM 35) (aM 57) (aM 58) (aM 59) (aM 60) n v1 x_aM57 x_aM58 = some q → va_P (dC, dI) vwCl (zzM ad cy iM (us aM [(57, x_aM57), (58, x_aM58)])) H → va_D A (zzM ad cy iM (us aM [(57, x_aM57), (58, x_aM58)])) → va_S A s.heap H locs → lv_has ls 5 [(0, .ref (ad 0)), (1, .int v1)] → W p l e ({ frames := 1, cells := 0, slots := 0, locals := 24 } : Room) s m args below meth c H locs 0 0 QQ (F0 m 2 ls []) := by
    intro n
    induction n with
    | zero =>
      intro v1 x_aM57 x_aM58 H locs ls h hP hD hS hl
      rw [f_M_findTruths_2] at h
      cases h
    | succ n ih =>
      intro v1 x_aM57 x_aM58 H locs ls h hP hD hS hl
      rw [f_M_findTruths_2] at h
      refine lv_iload_n hx hb dX8_findTruths_2 rfl (lv_at hl 1 rfl) ?_
      refine lv_aload_n hx hb dX8_findTruths_3 rfl (lv_at hl 0 rfl) ?_
      obtain ⟨q4, e4, h⟩ := g_b h
      refine callVis (cc := cX8_findTruths) (w1 := zzM ad cy iM (us aM [(57, x_aM57), (58, x_aM58)])) (As := []) (rest := [.int v1]) ⟨hx, hb, hml, hown, hts⟩ (c_M_types l dC dI cy ad H.size iM ((us aM [(57, x_aM57), (58, x_aM58)])) q4 e4) (cwV 0 hts (goodV m_ml_X8_368 m_im_X8_types m_se_X8_types m_in_X8 m_cd_X8_types) rfl rfl rfl (by decide +kernel) ⟨Nat.le_of_ble_eq_true rfl, Nat.le_of_ble_eq_true rfl⟩) hN hK hP hD hS hA rfl 0 rfl rfl rfl hl.1 rfl (Nat.le_of_ble_eq_true rfl) dX8_findTruths_4 ⟨Nat.zero_le _, Nat.zero_le _⟩ (fun H locs hP hD hS => ?_)
      refine lv_icmp_ge (tgt := 387) hx hb dX8_findTruths_7 (by decide) (fun cz => ?_) (fun cz => ?_)
      · have h := g_t h cz
        refine lv_iconst (v := 0) hx hb dX8_findTruths_387 (by decide) ?_
        refine lv_istore_n (lv' := [(1, .int ((0 : Int32))), (0, .ref (ad 0))]) hx hb dX8_findTruths_388 rfl hl (by decide) rfl (fun ls hl => ?_)
        exact B389 N x_aM57 x_aM58 ((0 : Int32)) (aM 59) (aM 60) H locs ls h hP hD hS (lv_sub hl [1, 0] rfl)
      · have h := g_f h cz
        refine lv_iconst (v := 0) hx hb dX8_findTruths_10 (by decide) ?_
        refine lv_istore_n (lv' := [(2, .int ((0 : Int32))), (0, .ref (ad 0)), (1, .int v1)]) hx hb dX8_findTruths_11 rfl hl (by decide) rfl (fun ls hl => ?_)
        exact B12 N v1 x_aM58 (f_M_findTruths_2 N (iM 14) (iM 36) (aM 8) (aM 9) (aM 10) (aM 11) (aM 13) (aM 30) (aM 32) (aM 34) (aM 35) (aM 57) (aM 58) (aM 59) (aM 60) n) ih ((0 : Int32)) x_aM57 H locs ls h hP hD hS (lv_sub hl [1, 2, 0] rfl)
  intro H locs hP hD hS
  unfold f_M_findTruths at h
  refine lv_iconst (v := 0) hx hb dX8_findTruths_0 (by decide) ?_
  refine lv_istore_n (lv' := [(1, .int ((0 : Int32))), (0, .ref (ad 0))]) hx hb dX8_findTruths_1 rfl hl (by decide) rfl (fun ls hl => ?_)
  exact B2 N ((0 : Int32)) (aM 57) (aM 58) H locs ls h hP hD hS (lv_sub hl [1, 0] rfl)
set_option maxHeartbeats 8000000 in
set_option maxRecDepth 100000 in
theorem c_M_goesTo (l : Launch) (dC : Nat → ClassId) (dI : Nat → Nat → Nat) (cy : Nat → ClassId) (ad : Nat → Nat) (sz : Nat) (a1 : Int32) (a2 : Int32) (a3 : Int32) (iM : Nat → Int32) (aM : Nat → Nat → Int32) (q : Int32) (h : f_M_goesTo a1 a2 a3 (aM 58) (aM 59) = some q) : Met l yX8_goesTo wsX8_goesTo ({ frames := 0, cells := 0, slots := 0, locals := 0 } : Room) (cP (dC, dI) cy [.ref (ad 0), .int a1, .int a2, .int a3] (zzM ad cy iM aM) sz) (cQi (dC, dI) cy q (zzM ad cy iM aM) (va_A (zzM ad cy iM aM) sz)) 0 0 (va_A (zzM ad cy iM aM) sz) := by
  refine Met.ofW (cc := cX8_goesTo) (maxL := 4) (ret := (some .boolean)) (by decide) rfl ?_
  intro p e s m args below meth c s₁ B hml hv
  obtain ⟨hav, hsz, hP, hK, hD0, hN⟩ := hv
  have hx := B.exec
  have hb := B.bytes
  have hr := B.returns
  have hts := atoms_spec (ws := wsX8_goesTo) B.pre
  have hown : s.vm.findClass RX8 = some m.cls := findClass_of_methodNamed B.named
  have hlocks := B.notSynchronized
  subst hsz
  have hD := hD0.self (sz := s.heap.size)
  generalize hAe : va_A (zzM ad cy iM aM) s.heap.size = A at hD ⊢
  have hA : ∀ q : Nat, s.heap.size ≤ q → A q := fun q h => by rw [← hAe]; exact Or.inr h
  have hS : va_S A s.heap s.heap [] := va_S.rf
  generalize hWQ : (zzM ad cy iM aM) = WQ
  generalize hQQ : MQ below (cQi (dC, dI) cy q WQ A) args s 0 0 A = QQ
  have hl := lv_entry ([.ref (ad 0), .int a1, .int a2, .int a3] : List Value) (n := 4) (Nat.le_of_ble_eq_true rfl)
  have hfr := lg_entry_eq m ([.ref (ad 0), .int a1, .int a2, .int a3] : List Value) 4
  rw [← hav] at hfr
  rw [hfr]
  clear hfr hav
  generalize (lg_sl ([.ref (ad 0), .int a1, .int a2, .int a3] : List Value) ++ List.replicate (4 - (lg_sl ([.ref (ad 0), .int a1, .int a2, .int a3] : List Value)).length) Slot.unset).toArray = ls at hl ⊢
  have hl : lv_has ls 4 [(0, .ref (ad 0)), (1, .int a1), (2, .int a2), (3, .int a3)] := hl
  have kf105 := hts _ (List.mem_cons_of_mem _ m_fl_X8_105)
  have ki8 := (fun w h => List.mem_cons_of_mem _ (i_X8 w h) : ∀ w ∈ u_ws RX8 TX8 78, w ∈ wsX8_goesTo)
  have kf108 := hts _ (List.mem_cons_of_mem _ m_fl_X8_108)
  refine (?_ : ∀ (H : Heap) (locs : List Loc), va_P (dC, dI) vwCl (zzM ad cy iM aM) H → va_D A (zzM ad cy iM aM) → va_S A s.heap H locs → W p l e ({ frames := 0, cells := 0, slots := 0, locals := 0 } : Room) s m args below meth c H locs 0 0 QQ (F0 m 0 ls [])) s.heap [] hP hD hS
  clear hP hD hS
  intro H locs hP hD hS
  unfold f_M_goesTo at h
  refine lv_aload_n hx hb dX8_goesTo_0 rfl (lv_at hl 0 rfl) ?_
  refine va_get (D := (dC, dI)) (ci := 8) (v := .ref (ad 30)) (C := RX8) (T := TX8) (N := 78) hx hb hts ki8 hown hK hP 0 rfl rfl 58 (by decide) kf105 (fun _ h9 => h9) rfl dX8_goesTo_1 ?_
  refine lv_iload_n hx hb dX8_goesTo_4 rfl (lv_at hl 3 rfl) ?_
  obtain ⟨g_107, h⟩ := g_n h
  refine va_iald (f := (aM 58)) hx hb hK hP 30 0 rfl rfl g_107 dX8_goesTo_5 ?_
  refine lv_aload_n hx hb dX8_goesTo_6 rfl (lv_at hl 0 rfl) ?_
  refine va_get (D := (dC, dI)) (ci := 8) (v := .ref (ad 31)) (C := RX8) (T := TX8) (N := 78) hx hb hts ki8 hown hK hP 0 rfl rfl 59 (by decide) kf108 (fun _ h9 => h9) rfl dX8_goesTo_7 ?_
  refine lv_iload_n hx hb dX8_goesTo_10 rfl (lv_at hl 2 rfl) ?_
  obtain ⟨g_36, h⟩ := g_n h
  refine va_iald (f := (aM 59)) hx hb hK hP 31 0 rfl rfl g_36 dX8_goesTo_11 ?_
  refine lv_iand hx hb dX8_goesTo_12 ?_
  refine lv_iload_n hx hb dX8_goesTo_13 rfl (lv_at hl 1 rfl) ?_
  refine lv_iconst (v := (-1)) hx hb dX8_goesTo_14 (by decide) ?_
  refine lv_ixor hx hb dX8_goesTo_15 ?_
  refine lv_iand hx hb dX8_goesTo_16 ?_
  refine lv_if_ne (tgt := 24) hx hb dX8_goesTo_17 (by decide) (fun cz => ?_) (fun cz => ?_)
  · have h := g_f h cz
    refine lv_iconst (v := 0) hx hb dX8_goesTo_24 (by decide) ?_
    have h' := Option.some.inj h
    rw [← hQQ]
    exact W.zret (v := (0 : Int32)) hx hb hr rfl (fun t ht hW => ⟨⟨(0 : Int32), (), rfl, by rw [← h'], by rw [← hWQ, ht]; exact hP, va_K.moved hW.alike hK⟩, hS.F ht⟩) hS.2.2 dX8_goesTo_25
  · have h := g_t h cz
    refine lv_iconst (v := 1) hx hb dX8_goesTo_20 (by decide) ?_
    refine lv_goto (tgt := 25) hx hb dX8_goesTo_21 (by decide) ?_
    have h' := Option.some.inj h
    rw [← hQQ]
    exact W.zret (v := (1 : Int32)) hx hb hr rfl (fun t ht hW => ⟨⟨(1 : Int32), (), rfl, by rw [← h'], by rw [← hWQ, ht]; exact hP, va_K.moved hW.alike hK⟩, hS.F ht⟩) hS.2.2 dX8_goesTo_25
set_option maxHeartbeats 8000000 in
set_option maxRecDepth 100000 in
theorem c_M_leastTo_stood (l : Launch) (dC : Nat → ClassId) (dI : Nat → Nat → Nat) (cy : Nat → ClassId) (ad : Nat → Nat) (sz : Nat) (N : Nat) (a1 : Int32) (a2 : Int32) (a3 : Int32) (iM : Nat → Int32) (aM : Nat → Nat → Int32) (q : Int32) (h : f_M_leastTo_stood N a1 a2 a3 (iM 36) (aM 58) (aM 59) (aM 63) = some q) : Met l yX8_leastTo wsX8_leastTo ({ frames := 1, cells := 0, slots := 0, locals := 23 } : Room) (cP (dC, dI) cy [.ref (ad 0), .int a1, .int a2, .int a3, .ref (ad 35)] (zzM ad cy iM aM) sz) (cQi (dC, dI) cy q (zzM ad cy iM aM) (va_A (zzM ad cy iM aM) sz)) 0 0 (va_A (zzM ad cy iM aM) sz) := by
  refine Met.ofW (cc := cX8_leastTo) (maxL := 6) (ret := (some .int)) (by decide) rfl ?_
  intro p e s m args below meth c s₁ B hml hv
  obtain ⟨hav, hsz, hP, hK, hD0, hN⟩ := hv
  have hx := B.exec
  have hb := B.bytes
  have hr := B.returns
  have hts := atoms_spec (ws := wsX8_leastTo) B.pre
  have hown : s.vm.findClass RX8 = some m.cls := findClass_of_methodNamed B.named
  have hlocks := B.notSynchronized
  subst hsz
  have hD := hD0.self (sz := s.heap.size)
  generalize hAe : va_A (zzM ad cy iM aM) s.heap.size = A at hD ⊢
  have hA : ∀ q : Nat, s.heap.size ≤ q → A q := fun q h => by rw [← hAe]; exact Or.inr h
  have hS : va_S A s.heap s.heap [] := va_S.rf
  generalize hWQ : (zzM ad cy iM aM) = WQ
  generalize hQQ : MQ below (cQi (dC, dI) cy q WQ A) args s 0 0 A = QQ
  have hl := lv_entry ([.ref (ad 0), .int a1, .int a2, .int a3, .ref (ad 35)] : List Value) (n := 6) (Nat.le_of_ble_eq_true rfl)
  have hfr := lg_entry_eq m ([.ref (ad 0), .int a1, .int a2, .int a3, .ref (ad 35)] : List Value) 6
  rw [← hav] at hfr
  rw [hfr]
  clear hfr hav
  generalize (lg_sl ([.ref (ad 0), .int a1, .int a2, .int a3, .ref (ad 35)] : List Value) ++ List.replicate (6 - (lg_sl ([.ref (ad 0), .int a1, .int a2, .int a3, .ref (ad 35)] : List Value)).length) Slot.unset).toArray = ls at hl ⊢
  have hl : lv_has ls 6 [(0, .ref (ad 0)), (1, .int a1), (2, .int a2), (3, .int a3), (4, .ref (ad 35))] := hl
  have kf105 := hts _ (List.mem_cons_of_mem _ m_fl_X8_105)
  have ki8 := (fun w h => List.mem_cons_of_mem _ (i_X8 w h) : ∀ w ∈ u_ws RX8 TX8 78, w ∈ wsX8_leastTo)
  refine (?_ : ∀ (H : Heap) (locs : List Loc), va_P (dC, dI) vwCl (zzM ad cy iM aM) H → va_D A (zzM ad cy iM aM) → va_S A s.heap H locs → W p l e ({ frames := 1, cells := 0, slots := 0, locals := 23 } : Room) s m args below meth c H locs 0 0 QQ (F0 m 0 ls [])) s.heap [] hP hD hS
  clear hP hD hS
  have B3 : ∀ (n : Nat) (v1 : Int32) (v2 : Int32) (v3 : Int32) (v5 : Int32) (H : Heap) (locs : List Loc) (ls : Array Slot), f_M_leastTo_stood_3 N (iM 36) (aM 58) (aM 59) (aM 63) v1 v2 v3 n v5 = some q → va_P (dC, dI) vwCl (zzM ad cy iM aM) H → va_D A (zzM ad cy iM aM) → va_S A s.heap H locs → lv_has ls 6 [(0, .ref (ad 0)), (1, .int v1), (2, .int v2), (3, .int v3), (4, .ref (ad 35)), (5, .int v5)] → W p l e ({ frames := 1, cells := 0, slots := 0, locals := 23 } : Room) s m args below meth c H locs 0 0 QQ (F0 m 3 ls []) := by
    intro n
    induction n with
    | zero =>
      intro v1 v2 v3 v5 H locs ls h hP hD hS hl
      rw [f_M_leastTo_stood_3] at h
      cases h
    | succ n ih =>
      intro v1 v2 v3 v5 H locs ls h hP hD hS hl
      rw [f_M_leastTo_stood_3] at h
      refine lv_iload hx hb dX8_leastTo_3 (lv_at hl 5 rfl) ?_
      refine lv_aload_n hx hb dX8_leastTo_5 rfl (lv_at hl 0 rfl) ?_
      obtain ⟨q6, e6, h⟩ := g_b h
      refine callVis (cc := cX8_leastTo) (w1 := zzM ad cy iM aM) (As := []) (rest := [.int v5]) ⟨hx, hb, hml, hown, hts⟩ (c_M_types l dC dI cy ad H.size iM aM q6 e6) (cwV 0 hts (goodV m_ml_X8_368 m_im_X8_types m_se_X8_types m_in_X8 m_cd_X8_types) rfl rfl rfl (by decide +kernel) ⟨Nat.le_of_ble_eq_true rfl, Nat.le_of_ble_eq_true rfl⟩) hN hK hP hD hS hA rfl 0 rfl rfl rfl hl.1 rfl (Nat.le_of_ble_eq_true rfl) dX8_leastTo_6 ⟨Nat.zero_le _, Nat.zero_le _⟩ (fun H locs hP hD hS => ?_)
      refine lv_icmp_ge (tgt := 53) hx hb dX8_leastTo_9 (by decide) (fun cz => ?_) (fun cz => ?_)
      · have h := g_t h cz
        refine lv_iconst (v := (-1)) hx hb dX8_leastTo_53 (by decide) ?_
        have h' := Option.some.inj h
        rw [← hQQ]
        exact W.iret (v := (-1 : Int32)) hx hb hr (fun t ht hW => ⟨⟨(-1 : Int32), (), rfl, by rw [← h'], by rw [← hWQ, ht]; exact hP, va_K.moved hW.alike hK⟩, hS.F ht⟩) hS.2.2 dX8_leastTo_54
      · have h := g_f h cz
        refine lv_aload hx hb dX8_leastTo_12 (lv_at hl 4 rfl) ?_
        refine lv_iload hx hb dX8_leastTo_14 (lv_at hl 5 rfl) ?_
        obtain ⟨g_108, h⟩ := g_n h
        refine va_zald (f := (aM 63)) hx hb hK hP 35 4 rfl rfl g_108 dX8_leastTo_16 ?_
        refine lv_if_eq (tgt := 47) hx hb dX8_leastTo_17 (by decide) (fun cz => ?_) (fun cz => ?_)
        · have h := g_t h cz
          refine lv_iinc (v := (v5 + (1 : Int32))) (lv' := [(5, .int ((v5 + (1 : Int32)))), (0, .ref (ad 0)), (1, .int v1), (2, .int v2), (3, .int v3), (4, .ref (ad 35))]) hx hb dX8_leastTo_47 hl (k := 5) rfl rfl (by decide) rfl (fun ls hl => ?_)
          refine lv_goto (tgt := 3) hx hb dX8_leastTo_50 (by decide) ?_
          exact ih v1 v2 v3 ((v5 + (1 : Int32))) H locs ls h hP hD hS (lv_sub hl [1, 2, 3, 4, 5, 0] rfl)
        · have h := g_f h cz
          refine lv_aload_n hx hb dX8_leastTo_20 rfl (lv_at hl 0 rfl) ?_
          refine lv_iload_n hx hb dX8_leastTo_21 rfl (lv_at hl 1 rfl) ?_
          refine lv_iload_n hx hb dX8_leastTo_22 rfl (lv_at hl 2 rfl) ?_
          refine lv_iload hx hb dX8_leastTo_23 (lv_at hl 5 rfl) ?_
          obtain ⟨q25, e25, h⟩ := g_b h
          refine callVis (cc := cX8_leastTo) (w1 := zzM ad cy iM aM) (As := [.int v1, .int v2, .int v5]) (rest := []) ⟨hx, hb, hml, hown, hts⟩ (c_M_goesTo l dC dI cy ad H.size v1 v2 v5 iM aM q25 e25) (cwV 3 hts (goodV m_ml_X8_374 m_im_X8_goesTo m_se_X8_goesTo m_in_X8 m_cd_X8_goesTo) rfl rfl rfl (by decide +kernel) ⟨Nat.le_of_ble_eq_true rfl, Nat.le_of_ble_eq_true rfl⟩) hN hK hP hD hS hA rfl 0 rfl rfl rfl hl.1 rfl (Nat.le_of_ble_eq_true rfl) dX8_leastTo_25 ⟨Nat.zero_le _, Nat.zero_le _⟩ (fun H locs hP hD hS => ?_)
          refine lv_if_eq (tgt := 47) hx hb dX8_leastTo_28 (by decide) (fun cz => ?_) (fun cz => ?_)
          · have h := g_t h cz
            refine lv_iinc (v := (v5 + (1 : Int32))) (lv' := [(5, .int ((v5 + (1 : Int32)))), (0, .ref (ad 0)), (1, .int v1), (2, .int v2), (3, .int v3), (4, .ref (ad 35))]) hx hb dX8_leastTo_47 hl (k := 5) rfl rfl (by decide) rfl (fun ls hl => ?_)
            refine lv_goto (tgt := 3) hx hb dX8_leastTo_50 (by decide) ?_
            exact ih v1 v2 v3 ((v5 + (1 : Int32))) H locs ls h hP hD hS (lv_sub hl [1, 2, 3, 4, 5, 0] rfl)
          · have h := g_f h cz
            refine lv_aload_n hx hb dX8_leastTo_31 rfl (lv_at hl 0 rfl) ?_
            refine va_get (D := (dC, dI)) (ci := 8) (v := .ref (ad 30)) (C := RX8) (T := TX8) (N := 78) hx hb hts ki8 hown hK hP 0 rfl rfl 58 (by decide) kf105 (fun _ h9 => h9) rfl dX8_leastTo_32 ?_
            refine lv_iload hx hb dX8_leastTo_35 (lv_at hl 5 rfl) ?_
            refine va_iald (f := (aM 58)) hx hb hK hP 30 0 rfl rfl g_108 dX8_leastTo_37 ?_
            refine lv_iload_n hx hb dX8_leastTo_38 rfl (lv_at hl 3 rfl) ?_
            refine lv_iand hx hb dX8_leastTo_39 ?_
            refine lv_iload_n hx hb dX8_leastTo_40 rfl (lv_at hl 3 rfl) ?_
            refine lv_icmp_ne (tgt := 47) hx hb dX8_leastTo_41 (by decide) (fun cz => ?_) (fun cz => ?_)
            · have h := g_f h cz
              refine lv_iinc (v := (v5 + (1 : Int32))) (lv' := [(5, .int ((v5 + (1 : Int32)))), (0, .ref (ad 0)), (1, .int v1), (2, .int v2), (3, .int v3), (4, .ref (ad 35))]) hx hb dX8_leastTo_47 hl (k := 5) rfl rfl (by decide) rfl (fun ls hl => ?_)
              refine lv_goto (tgt := 3) hx hb dX8_leastTo_50 (by decide) ?_
              exact ih v1 v2 v3 ((v5 + (1 : Int32))) H locs ls h hP hD hS (lv_sub hl [1, 2, 3, 4, 5, 0] rfl)
            · have h := g_t h cz
              refine lv_iload hx hb dX8_leastTo_44 (lv_at hl 5 rfl) ?_
              have h' := Option.some.inj h
              rw [← hQQ]
              exact W.iret (v := v5) hx hb hr (fun t ht hW => ⟨⟨v5, (), rfl, by rw [← h'], by rw [← hWQ, ht]; exact hP, va_K.moved hW.alike hK⟩, hS.F ht⟩) hS.2.2 dX8_leastTo_46
  intro H locs hP hD hS
  unfold f_M_leastTo_stood at h
  refine lv_iconst (v := 0) hx hb dX8_leastTo_0 (by decide) ?_
  refine lv_istore (lv' := [(5, .int ((0 : Int32))), (0, .ref (ad 0)), (1, .int a1), (2, .int a2), (3, .int a3), (4, .ref (ad 35))]) hx hb dX8_leastTo_1 hl (by decide) rfl (fun ls hl => ?_)
  exact B3 N a1 a2 a3 ((0 : Int32)) H locs ls h hP hD hS (lv_sub hl [1, 2, 3, 4, 5, 0] rfl)
set_option maxHeartbeats 8000000 in
set_option maxRecDepth 100000 in
theorem c_M_isMet_stood (l : Launch) (dC : Nat → ClassId) (dI : Nat → Nat → Nat) (cy : Nat → ClassId) (ad : Nat → Nat) (sz : Nat) (N : Nat) (a1 : Int32) (iM : Nat → Int32) (aM : Nat → Nat → Int32) (q : Int32) (h : f_M_isMet_stood N a1 (iM 28) (iM 36) (aM 29) (aM 58) (aM 59) (aM 60) (aM 63) = some q) : Met l yX8_isMet wsX8_isMet ({ frames := 2, cells := 0, slots := 0, locals := 48 } : Room) (cP (dC, dI) cy [.ref (ad 0), .int a1, .ref (ad 35)] (zzM ad cy iM aM) sz) (cQi (dC, dI) cy q (zzM ad cy iM aM) (va_A (zzM ad cy iM aM) sz)) 0 0 (va_A (zzM ad cy iM aM) sz) := by
  refine Met.ofW (cc := cX8_isMet) (maxL := 7) (ret := (some .boolean)) (by decide) rfl ?_
  intro p e s m args below meth c s₁ B hml hv
  obtain ⟨hav, hsz, hP, hK, hD0, hN⟩ := hv
  have hx := B.exec
  have hb := B.bytes
  have hr := B.returns
  have hts := atoms_spec (ws := wsX8_isMet) B.pre
  have hown : s.vm.findClass RX8 = some m.cls := findClass_of_methodNamed B.named
  have hlocks := B.notSynchronized
  subst hsz
  have hD := hD0.self (sz := s.heap.size)
  generalize hAe : va_A (zzM ad cy iM aM) s.heap.size = A at hD ⊢
  have hA : ∀ q : Nat, s.heap.size ≤ q → A q := fun q h => by rw [← hAe]; exact Or.inr h
  have hS : va_S A s.heap s.heap [] := va_S.rf
  generalize hWQ : (zzM ad cy iM aM) = WQ
  generalize hQQ : MQ below (cQi (dC, dI) cy q WQ A) args s 0 0 A = QQ
  have hl := lv_entry ([.ref (ad 0), .int a1, .ref (ad 35)] : List Value) (n := 7) (Nat.le_of_ble_eq_true rfl)
  have hfr := lg_entry_eq m ([.ref (ad 0), .int a1, .ref (ad 35)] : List Value) 7
  rw [← hav] at hfr
  rw [hfr]
  clear hfr hav
  generalize (lg_sl ([.ref (ad 0), .int a1, .ref (ad 35)] : List Value) ++ List.replicate (7 - (lg_sl ([.ref (ad 0), .int a1, .ref (ad 35)] : List Value)).length) Slot.unset).toArray = ls at hl ⊢
  have hl : lv_has ls 7 [(0, .ref (ad 0)), (1, .int a1), (2, .ref (ad 35))] := hl
  have kf353 := hts _ (List.mem_cons_of_mem _ m_fl_X8_353)
  have ki8 := (fun w h => List.mem_cons_of_mem _ (i_X8 w h) : ∀ w ∈ u_ws RX8 TX8 78, w ∈ wsX8_isMet)
  have kf63 := hts _ (List.mem_cons_of_mem _ m_fl_X8_63)
  have kf350 := hts _ (List.mem_cons_of_mem _ m_fl_X8_350)
  have kf111 := hts _ (List.mem_cons_of_mem _ m_fl_X8_111)
  refine (?_ : ∀ (H : Heap) (locs : List Loc), va_P (dC, dI) vwCl (zzM ad cy iM aM) H → va_D A (zzM ad cy iM aM) → va_S A s.heap H locs → W p l e ({ frames := 2, cells := 0, slots := 0, locals := 48 } : Room) s m args below meth c H locs 0 0 QQ (F0 m 0 ls [])) s.heap [] hP hD hS
  clear hP hD hS
  have B66 : ∀ (n : Nat) (v1 : Int32) (v4 : Int32) (v5 : Int32) (k5 : Int32 → Int32 → Option Int32) (hk5 : ∀ (v3' : Int32) (v4' : Int32) (H : Heap) (locs : List Loc) (ls : Array Slot), k5 v3' v4' = some q → va_P (dC, dI) vwCl (zzM ad cy iM aM) H → va_D A (zzM ad cy iM aM) → va_S A s.heap H locs → lv_has ls 7 [(0, .ref (ad 0)), (1, .int v1), (2, .ref (ad 35)), (3, .int v3'), (4, .int v4')] → W p l e ({ frames := 2, cells := 0, slots := 0, locals := 48 } : Room) s m args below meth c H locs 0 0 QQ (F0 m 5 ls [])) (v3 : Int32) (v6 : Int32) (H : Heap) (locs : List Loc) (ls : Array Slot), f_M_isMet_stood_66 N (iM 28) (iM 36) (aM 29) (aM 58) (aM 59) (aM 60) (aM 63) k5 v1 v4 v5 n v3 v6 = some q → va_P (dC, dI) vwCl (zzM ad cy iM aM) H → va_D A (zzM ad cy iM aM) → va_S A s.heap H locs → lv_has ls 7 [(0, .ref (ad 0)), (1, .int v1), (2, .ref (ad 35)), (3, .int v3), (4, .int v4), (5, .int v5), (6, .int v6)] → W p l e ({ frames := 2, cells := 0, slots := 0, locals := 48 } : Room) s m args below meth c H locs 0 0 QQ (F0 m 66 ls []) := by
    intro n
    induction n with
    | zero =>
      intro v1 v4 v5 k5 hk5 v3 v6 H locs ls h hP hD hS hl
      rw [f_M_isMet_stood_66] at h
      cases h
    | succ n ih =>
      intro v1 v4 v5 k5 hk5 v3 v6 H locs ls h hP hD hS hl
      rw [f_M_isMet_stood_66] at h
      refine lv_iload hx hb dX8_isMet_66 (lv_at hl 6 rfl) ?_
      refine lv_aload_n hx hb dX8_isMet_68 rfl (lv_at hl 0 rfl) ?_
      refine va_get (D := (dC, dI)) (ci := 8) (v := .int (iM 36)) (C := RX8) (T := TX8) (N := 78) hx hb hts ki8 hown hK hP 0 rfl rfl 36 (by decide) kf353 (fun _ h9 => h9) rfl dX8_isMet_69 ?_
      refine lv_icmp_ge (tgt := 126) hx hb dX8_isMet_72 (by decide) (fun cz => ?_) (fun cz => ?_)
      · have h := g_t h cz
        refine lv_iinc (v := (v4 + (1 : Int32))) (lv' := [(4, .int ((v4 + (1 : Int32)))), (0, .ref (ad 0)), (1, .int v1), (2, .ref (ad 35)), (3, .int v3), (5, .int v5), (6, .int v6)]) hx hb dX8_isMet_126 hl (k := 4) rfl rfl (by decide) rfl (fun ls hl => ?_)
        refine lv_goto (tgt := 5) hx hb dX8_isMet_129 (by decide) ?_
        exact hk5 v3 ((v4 + (1 : Int32))) H locs ls h hP hD hS (lv_sub hl [1, 2, 3, 4, 0] rfl)
      · have h := g_f h cz
        refine lv_iload_n hx hb dX8_isMet_75 rfl (lv_at hl 3 rfl) ?_
        refine lv_if_eq (tgt := 126) hx hb dX8_isMet_76 (by decide) (fun cz => ?_) (fun cz => ?_)
        · have h := g_t h cz
          refine lv_iinc (v := (v4 + (1 : Int32))) (lv' := [(4, .int ((v4 + (1 : Int32)))), (0, .ref (ad 0)), (1, .int v1), (2, .ref (ad 35)), (3, .int v3), (5, .int v5), (6, .int v6)]) hx hb dX8_isMet_126 hl (k := 4) rfl rfl (by decide) rfl (fun ls hl => ?_)
          refine lv_goto (tgt := 5) hx hb dX8_isMet_129 (by decide) ?_
          exact hk5 v3 ((v4 + (1 : Int32))) H locs ls h hP hD hS (lv_sub hl [1, 2, 3, 4, 0] rfl)
        · have h := g_f h cz
          refine lv_aload_n hx hb dX8_isMet_79 rfl (lv_at hl 0 rfl) ?_
          refine va_get (D := (dC, dI)) (ci := 8) (v := .ref (ad 18)) (C := RX8) (T := TX8) (N := 78) hx hb hts ki8 hown hK hP 0 rfl rfl 29 (by decide) kf63 (fun _ h9 => h9) rfl dX8_isMet_80 ?_
          refine lv_iload hx hb dX8_isMet_83 (lv_at hl 4 rfl) ?_
          obtain ⟨g_109, h⟩ := g_n h
          refine va_zald (f := (aM 29)) hx hb hK hP 18 4 rfl rfl g_109 dX8_isMet_85 ?_
          refine lv_if_ne (tgt := 126) hx hb dX8_isMet_86 (by decide) (fun cz => ?_) (fun cz => ?_)
          · have h := g_f h cz
            refine lv_iinc (v := (v4 + (1 : Int32))) (lv' := [(4, .int ((v4 + (1 : Int32)))), (0, .ref (ad 0)), (1, .int v1), (2, .ref (ad 35)), (3, .int v3), (5, .int v5), (6, .int v6)]) hx hb dX8_isMet_126 hl (k := 4) rfl rfl (by decide) rfl (fun ls hl => ?_)
            refine lv_goto (tgt := 5) hx hb dX8_isMet_129 (by decide) ?_
            exact hk5 v3 ((v4 + (1 : Int32))) H locs ls h hP hD hS (lv_sub hl [1, 2, 3, 4, 0] rfl)
          · have h := g_t h cz
            refine lv_iload hx hb dX8_isMet_89 (lv_at hl 5 rfl) ?_
            refine lv_iload hx hb dX8_isMet_91 (lv_at hl 6 rfl) ?_
            refine lv_ishr hx hb dX8_isMet_93 ?_
            refine lv_iconst (v := 1) hx hb dX8_isMet_94 (by decide) ?_
            refine lv_iand hx hb dX8_isMet_95 ?_
            refine lv_if_eq (tgt := 114) hx hb dX8_isMet_96 (by decide) (fun cz => ?_) (fun cz => ?_)
            · have h := g_t h cz
              refine lv_iconst (v := 1) hx hb dX8_isMet_114 (by decide) ?_
              refine lv_goto (tgt := 119) hx hb dX8_isMet_115 (by decide) ?_
              refine lv_istore_n (lv' := [(3, .int ((1 : Int32))), (0, .ref (ad 0)), (1, .int v1), (2, .ref (ad 35)), (4, .int v4), (5, .int v5), (6, .int v6)]) hx hb dX8_isMet_119 rfl hl (by decide) rfl (fun ls hl => ?_)
              refine lv_iinc (v := (v6 + (1 : Int32))) (lv' := [(6, .int ((v6 + (1 : Int32)))), (3, .int ((1 : Int32))), (0, .ref (ad 0)), (1, .int v1), (2, .ref (ad 35)), (4, .int v4), (5, .int v5)]) hx hb dX8_isMet_120 hl (k := 6) rfl rfl (by decide) rfl (fun ls hl => ?_)
              refine lv_goto (tgt := 66) hx hb dX8_isMet_123 (by decide) ?_
              exact ih v1 v4 v5 k5 hk5 ((1 : Int32)) ((v6 + (1 : Int32))) H locs ls h hP hD hS (lv_sub hl [2, 3, 4, 1, 5, 6, 0] rfl)
            · have h := g_f h cz
              refine lv_aload_n hx hb dX8_isMet_99 rfl (lv_at hl 0 rfl) ?_
              refine lv_iload_n hx hb dX8_isMet_100 rfl (lv_at hl 1 rfl) ?_
              refine lv_iload hx hb dX8_isMet_101 (lv_at hl 4 rfl) ?_
              refine lv_iconst (v := 1) hx hb dX8_isMet_103 (by decide) ?_
              refine lv_iload hx hb dX8_isMet_104 (lv_at hl 6 rfl) ?_
              refine lv_ishl hx hb dX8_isMet_106 ?_
              refine lv_aload_n hx hb dX8_isMet_107 rfl (lv_at hl 2 rfl) ?_
              obtain ⟨q108, e108, h⟩ := g_b h
              refine callVis (cc := cX8_isMet) (w1 := zzM ad cy iM aM) (As := [.int v1, .int v4, .int (((1 : Int32) <<< (v6 &&& 31))), .ref (ad 35)]) (rest := []) ⟨hx, hb, hml, hown, hts⟩ (c_M_leastTo_stood l dC dI cy ad H.size N v1 v4 (((1 : Int32) <<< (v6 &&& 31))) iM aM q108 e108) (cwV 4 hts (goodV m_ml_X8_378 m_im_X8_leastTo m_se_X8_leastTo m_in_X8 m_cd_X8_leastTo) rfl rfl rfl (by decide +kernel) ⟨Nat.le_of_ble_eq_true rfl, Nat.le_of_ble_eq_true rfl⟩) hN hK hP hD hS hA rfl 0 rfl rfl rfl hl.1 rfl (Nat.le_of_ble_eq_true rfl) dX8_isMet_108 ⟨Nat.zero_le _, Nat.zero_le _⟩ (fun H locs hP hD hS => ?_)
              refine lv_if_lt (tgt := 118) hx hb dX8_isMet_111 (by decide) (fun cz => ?_) (fun cz => ?_)
              · have h := g_t h cz
                refine lv_iconst (v := 0) hx hb dX8_isMet_118 (by decide) ?_
                refine lv_istore_n (lv' := [(3, .int ((0 : Int32))), (0, .ref (ad 0)), (1, .int v1), (2, .ref (ad 35)), (4, .int v4), (5, .int v5), (6, .int v6)]) hx hb dX8_isMet_119 rfl hl (by decide) rfl (fun ls hl => ?_)
                refine lv_iinc (v := (v6 + (1 : Int32))) (lv' := [(6, .int ((v6 + (1 : Int32)))), (3, .int ((0 : Int32))), (0, .ref (ad 0)), (1, .int v1), (2, .ref (ad 35)), (4, .int v4), (5, .int v5)]) hx hb dX8_isMet_120 hl (k := 6) rfl rfl (by decide) rfl (fun ls hl => ?_)
                refine lv_goto (tgt := 66) hx hb dX8_isMet_123 (by decide) ?_
                exact ih v1 v4 v5 k5 hk5 ((0 : Int32)) ((v6 + (1 : Int32))) H locs ls h hP hD hS (lv_sub hl [2, 3, 4, 1, 5, 6, 0] rfl)
              · have h := g_f h cz
                refine lv_iconst (v := 1) hx hb dX8_isMet_114 (by decide) ?_
                refine lv_goto (tgt := 119) hx hb dX8_isMet_115 (by decide) ?_
                refine lv_istore_n (lv' := [(3, .int ((1 : Int32))), (0, .ref (ad 0)), (1, .int v1), (2, .ref (ad 35)), (4, .int v4), (5, .int v5), (6, .int v6)]) hx hb dX8_isMet_119 rfl hl (by decide) rfl (fun ls hl => ?_)
                refine lv_iinc (v := (v6 + (1 : Int32))) (lv' := [(6, .int ((v6 + (1 : Int32)))), (3, .int ((1 : Int32))), (0, .ref (ad 0)), (1, .int v1), (2, .ref (ad 35)), (4, .int v4), (5, .int v5)]) hx hb dX8_isMet_120 hl (k := 6) rfl rfl (by decide) rfl (fun ls hl => ?_)
                refine lv_goto (tgt := 66) hx hb dX8_isMet_123 (by decide) ?_
                exact ih v1 v4 v5 k5 hk5 ((1 : Int32)) ((v6 + (1 : Int32))) H locs ls h hP hD hS (lv_sub hl [2, 3, 4, 1, 5, 6, 0] rfl)
  have B5 : ∀ (n : Nat) (v1 : Int32) (v3 : Int32) (v4 : Int32) (H : Heap) (locs : List Loc) (ls : Array Slot), f_M_isMet_stood_5 N (iM 28) (iM 36) (aM 29) (aM 58) (aM 59) (aM 60) (aM 63) v1 n v3 v4 = some q → va_P (dC, dI) vwCl (zzM ad cy iM aM) H → va_D A (zzM ad cy iM aM) → va_S A s.heap H locs → lv_has ls 7 [(0, .ref (ad 0)), (1, .int v1), (2, .ref (ad 35)), (3, .int v3), (4, .int v4)] → W p l e ({ frames := 2, cells := 0, slots := 0, locals := 48 } : Room) s m args below meth c H locs 0 0 QQ (F0 m 5 ls []) := by
    intro n
    induction n with
    | zero =>
      intro v1 v3 v4 H locs ls h hP hD hS hl
      rw [f_M_isMet_stood_5] at h
      cases h
    | succ n ih =>
      intro v1 v3 v4 H locs ls h hP hD hS hl
      rw [f_M_isMet_stood_5] at h
      refine lv_iload hx hb dX8_isMet_5 (lv_at hl 4 rfl) ?_
      refine lv_aload_n hx hb dX8_isMet_7 rfl (lv_at hl 0 rfl) ?_
      refine va_get (D := (dC, dI)) (ci := 8) (v := .int (iM 28)) (C := RX8) (T := TX8) (N := 78) hx hb hts ki8 hown hK hP 0 rfl rfl 28 (by decide) kf350 (fun _ h9 => h9) rfl dX8_isMet_8 ?_
      refine lv_icmp_ge (tgt := 132) hx hb dX8_isMet_11 (by decide) (fun cz => ?_) (fun cz => ?_)
      · have h := g_t h cz
        refine lv_iload_n hx hb dX8_isMet_132 rfl (lv_at hl 3 rfl) ?_
        obtain ⟨gz, h⟩ := g_p h
        have h' := Option.some.inj h
        rw [← hQQ]
        exact W.zret (v := v3) hx hb hr (g_zr _ gz) (fun t ht hW => ⟨⟨v3, (), rfl, by rw [← h'], by rw [← hWQ, ht]; exact hP, va_K.moved hW.alike hK⟩, hS.F ht⟩) hS.2.2 dX8_isMet_133
      · have h := g_f h cz
        refine lv_iload_n hx hb dX8_isMet_14 rfl (lv_at hl 3 rfl) ?_
        refine lv_if_eq (tgt := 132) hx hb dX8_isMet_15 (by decide) (fun cz => ?_) (fun cz => ?_)
        · have h := g_t h cz
          refine lv_iload_n hx hb dX8_isMet_132 rfl (lv_at hl 3 rfl) ?_
          obtain ⟨gz, h⟩ := g_p h
          have h' := Option.some.inj h
          rw [← hQQ]
          exact W.zret (v := v3) hx hb hr (g_zr _ gz) (fun t ht hW => ⟨⟨v3, (), rfl, by rw [← h'], by rw [← hWQ, ht]; exact hP, va_K.moved hW.alike hK⟩, hS.F ht⟩) hS.2.2 dX8_isMet_133
        · have h := g_f h cz
          refine lv_aload_n hx hb dX8_isMet_18 rfl (lv_at hl 0 rfl) ?_
          refine va_get (D := (dC, dI)) (ci := 8) (v := .ref (ad 32)) (C := RX8) (T := TX8) (N := 78) hx hb hts ki8 hown hK hP 0 rfl rfl 60 (by decide) kf111 (fun _ h9 => h9) rfl dX8_isMet_19 ?_
          refine lv_iload hx hb dX8_isMet_22 (lv_at hl 4 rfl) ?_
          obtain ⟨g_17, h⟩ := g_n h
          refine va_iald (f := (aM 60)) hx hb hK hP 32 0 rfl rfl g_17 dX8_isMet_24 ?_
          refine lv_iload_n hx hb dX8_isMet_25 rfl (lv_at hl 1 rfl) ?_
          refine lv_iand hx hb dX8_isMet_26 ?_
          refine lv_istore (lv' := [(5, .int ((((aM 60) v4.toNatClampNeg) &&& v1))), (0, .ref (ad 0)), (1, .int v1), (2, .ref (ad 35)), (3, .int v3), (4, .int v4)]) hx hb dX8_isMet_27 hl (by decide) rfl (fun ls hl => ?_)
          refine lv_aload_n hx hb dX8_isMet_29 rfl (lv_at hl 1 rfl) ?_
          refine va_get (D := (dC, dI)) (ci := 8) (v := .ref (ad 18)) (C := RX8) (T := TX8) (N := 78) hx hb hts ki8 hown hK hP 0 rfl rfl 29 (by decide) kf63 (fun _ h9 => h9) rfl dX8_isMet_30 ?_
          refine lv_iload hx hb dX8_isMet_33 (lv_at hl 5 rfl) ?_
          obtain ⟨g_109, h⟩ := g_n h
          refine va_zald (f := (aM 29)) hx hb hK hP 18 4 rfl rfl g_109 dX8_isMet_35 ?_
          refine lv_if_eq (tgt := 63) hx hb dX8_isMet_36 (by decide) (fun cz => ?_) (fun cz => ?_)
          · have h := g_t h cz
            refine lv_iconst (v := 0) hx hb dX8_isMet_63 (by decide) ?_
            refine lv_istore (lv' := [(6, .int ((0 : Int32))), (5, .int ((((aM 60) v4.toNatClampNeg) &&& v1))), (0, .ref (ad 0)), (1, .int v1), (2, .ref (ad 35)), (3, .int v3), (4, .int v4)]) hx hb dX8_isMet_64 hl (by decide) rfl (fun ls hl => ?_)
            exact B66 N v1 v4 ((((aM 60) v4.toNatClampNeg) &&& v1)) (f_M_isMet_stood_5 N (iM 28) (iM 36) (aM 29) (aM 58) (aM 59) (aM 60) (aM 63) v1 n) (ih v1) v3 ((0 : Int32)) H locs ls h hP hD hS (lv_sub hl [2, 3, 4, 5, 6, 1, 0] rfl)
          · have h := g_f h cz
            refine lv_iload hx hb dX8_isMet_39 (lv_at hl 0 rfl) ?_
            refine lv_if_eq (tgt := 57) hx hb dX8_isMet_41 (by decide) (fun cz => ?_) (fun cz => ?_)
            · have h := g_t h cz
              refine lv_iconst (v := 1) hx hb dX8_isMet_57 (by decide) ?_
              refine lv_goto (tgt := 62) hx hb dX8_isMet_58 (by decide) ?_
              refine lv_istore_n (lv' := [(3, .int ((1 : Int32))), (5, .int ((((aM 60) v4.toNatClampNeg) &&& v1))), (0, .ref (ad 0)), (1, .int v1), (2, .ref (ad 35)), (4, .int v4)]) hx hb dX8_isMet_62 rfl hl (by decide) rfl (fun ls hl => ?_)
              refine lv_iconst (v := 0) hx hb dX8_isMet_63 (by decide) ?_
              refine lv_istore (lv' := [(6, .int ((0 : Int32))), (3, .int ((1 : Int32))), (5, .int ((((aM 60) v4.toNatClampNeg) &&& v1))), (0, .ref (ad 0)), (1, .int v1), (2, .ref (ad 35)), (4, .int v4)]) hx hb dX8_isMet_64 hl (by decide) rfl (fun ls hl => ?_)
              exact B66 N v1 v4 ((((aM 60) v4.toNatClampNeg) &&& v1)) (f_M_isMet_stood_5 N (iM 28) (iM 36) (aM 29) (aM 58) (aM 59) (aM 60) (aM 63) v1 n) (ih v1) ((1 : Int32)) ((0 : Int32)) H locs ls h hP hD hS (lv_sub hl [3, 4, 5, 1, 6, 2, 0] rfl)
            · have h := g_f h cz
              refine lv_aload_n hx hb dX8_isMet_44 rfl (lv_at hl 1 rfl) ?_
              refine lv_iload_n hx hb dX8_isMet_45 rfl (lv_at hl 2 rfl) ?_
              refine lv_iload hx hb dX8_isMet_46 (lv_at hl 5 rfl) ?_
              refine lv_iload hx hb dX8_isMet_48 (lv_at hl 0 rfl) ?_
              refine lv_aload_n hx hb dX8_isMet_50 rfl (lv_at hl 3 rfl) ?_
              obtain ⟨q51, e51, h⟩ := g_b h
              refine callVis (cc := cX8_isMet) (w1 := zzM ad cy iM aM) (As := [.int v1, .int v4, .int ((((aM 60) v4.toNatClampNeg) &&& v1)), .ref (ad 35)]) (rest := []) ⟨hx, hb, hml, hown, hts⟩ (c_M_leastTo_stood l dC dI cy ad H.size N v1 v4 ((((aM 60) v4.toNatClampNeg) &&& v1)) iM aM q51 e51) (cwV 4 hts (goodV m_ml_X8_378 m_im_X8_leastTo m_se_X8_leastTo m_in_X8 m_cd_X8_leastTo) rfl rfl rfl (by decide +kernel) ⟨Nat.le_of_ble_eq_true rfl, Nat.le_of_ble_eq_true rfl⟩) hN hK hP hD hS hA rfl 0 rfl rfl rfl hl.1 rfl (Nat.le_of_ble_eq_true rfl) dX8_isMet_51 ⟨Nat.zero_le _, Nat.zero_le _⟩ (fun H locs hP hD hS => ?_)
              refine lv_if_lt (tgt := 61) hx hb dX8_isMet_54 (by decide) (fun cz => ?_) (fun cz => ?_)
              · have h := g_t h cz
                refine lv_iconst (v := 0) hx hb dX8_isMet_61 (by decide) ?_
                refine lv_istore_n (lv' := [(3, .int ((0 : Int32))), (5, .int ((((aM 60) v4.toNatClampNeg) &&& v1))), (0, .ref (ad 0)), (1, .int v1), (2, .ref (ad 35)), (4, .int v4)]) hx hb dX8_isMet_62 rfl hl (by decide) rfl (fun ls hl => ?_)
                refine lv_iconst (v := 0) hx hb dX8_isMet_63 (by decide) ?_
                refine lv_istore (lv' := [(6, .int ((0 : Int32))), (3, .int ((0 : Int32))), (5, .int ((((aM 60) v4.toNatClampNeg) &&& v1))), (0, .ref (ad 0)), (1, .int v1), (2, .ref (ad 35)), (4, .int v4)]) hx hb dX8_isMet_64 hl (by decide) rfl (fun ls hl => ?_)
                exact B66 N v1 v4 ((((aM 60) v4.toNatClampNeg) &&& v1)) (f_M_isMet_stood_5 N (iM 28) (iM 36) (aM 29) (aM 58) (aM 59) (aM 60) (aM 63) v1 n) (ih v1) ((0 : Int32)) ((0 : Int32)) H locs ls h hP hD hS (lv_sub hl [3, 4, 5, 1, 6, 2, 0] rfl)
              · have h := g_f h cz
                refine lv_iconst (v := 1) hx hb dX8_isMet_57 (by decide) ?_
                refine lv_goto (tgt := 62) hx hb dX8_isMet_58 (by decide) ?_
                refine lv_istore_n (lv' := [(3, .int ((1 : Int32))), (5, .int ((((aM 60) v4.toNatClampNeg) &&& v1))), (0, .ref (ad 0)), (1, .int v1), (2, .ref (ad 35)), (4, .int v4)]) hx hb dX8_isMet_62 rfl hl (by decide) rfl (fun ls hl => ?_)
                refine lv_iconst (v := 0) hx hb dX8_isMet_63 (by decide) ?_
                refine lv_istore (lv' := [(6, .int ((0 : Int32))), (3, .int ((1 : Int32))), (5, .int ((((aM 60) v4.toNatClampNeg) &&& v1))), (0, .ref (ad 0)), (1, .int v1), (2, .ref (ad 35)), (4, .int v4)]) hx hb dX8_isMet_64 hl (by decide) rfl (fun ls hl => ?_)
                exact B66 N v1 v4 ((((aM 60) v4.toNatClampNeg) &&& v1)) (f_M_isMet_stood_5 N (iM 28) (iM 36) (aM 29) (aM 58) (aM 59) (aM 60) (aM 63) v1 n) (ih v1) ((1 : Int32)) ((0 : Int32)) H locs ls h hP hD hS (lv_sub hl [3, 4, 5, 1, 6, 2, 0] rfl)
  intro H locs hP hD hS
  unfold f_M_isMet_stood at h
  refine lv_iconst (v := 1) hx hb dX8_isMet_0 (by decide) ?_
  refine lv_istore_n (lv' := [(3, .int ((1 : Int32))), (0, .ref (ad 0)), (1, .int a1), (2, .ref (ad 35))]) hx hb dX8_isMet_1 rfl hl (by decide) rfl (fun ls hl => ?_)
  refine lv_iconst (v := 0) hx hb dX8_isMet_2 (by decide) ?_
  refine lv_istore (lv' := [(4, .int ((0 : Int32))), (3, .int ((1 : Int32))), (0, .ref (ad 0)), (1, .int a1), (2, .ref (ad 35))]) hx hb dX8_isMet_3 hl (by decide) rfl (fun ls hl => ?_)
  exact B5 N a1 ((1 : Int32)) ((0 : Int32)) H locs ls h hP hD hS (lv_sub hl [2, 3, 4, 1, 0] rfl)
set_option maxHeartbeats 8000000 in
set_option maxRecDepth 100000 in
theorem c_M_isFair (l : Launch) (dC : Nat → ClassId) (dI : Nat → Nat → Nat) (cy : Nat → ClassId) (ad : Nat → Nat) (sz : Nat) (N : Nat) (a1 : Int32) (a2 : Int32) (iM : Nat → Int32) (aM : Nat → Nat → Int32) (q : Int32) (h : f_M_isFair N a1 a2 (iM 20) (aM 15) (aM 16) (aM 17) (aM 19) (aM 57) = some q) : Met l yX8_isFair wsX8_isFair ({ frames := 0, cells := 0, slots := 0, locals := 0 } : Room) (cP (dC, dI) cy [.ref (ad 0), .int a1, .int a2] (zzM ad cy iM aM) sz) (cQi (dC, dI) cy q (zzM ad cy iM aM) (va_A (zzM ad cy iM aM) sz)) 0 0 (va_A (zzM ad cy iM aM) sz) := by
  refine Met.ofW (cc := cX8_isFair) (maxL := 8) (ret := (some .boolean)) (by decide) rfl ?_
  intro p e s m args below meth c s₁ B hml hv
  obtain ⟨hav, hsz, hP, hK, hD0, hN⟩ := hv
  have hx := B.exec
  have hb := B.bytes
  have hr := B.returns
  have hts := atoms_spec (ws := wsX8_isFair) B.pre
  have hown : s.vm.findClass RX8 = some m.cls := findClass_of_methodNamed B.named
  have hlocks := B.notSynchronized
  subst hsz
  have hD := hD0.self (sz := s.heap.size)
  generalize hAe : va_A (zzM ad cy iM aM) s.heap.size = A at hD ⊢
  have hA : ∀ q : Nat, s.heap.size ≤ q → A q := fun q h => by rw [← hAe]; exact Or.inr h
  have hS : va_S A s.heap s.heap [] := va_S.rf
  generalize hWQ : (zzM ad cy iM aM) = WQ
  generalize hQQ : MQ below (cQi (dC, dI) cy q WQ A) args s 0 0 A = QQ
  have hl := lv_entry ([.ref (ad 0), .int a1, .int a2] : List Value) (n := 8) (Nat.le_of_ble_eq_true rfl)
  have hfr := lg_entry_eq m ([.ref (ad 0), .int a1, .int a2] : List Value) 8
  rw [← hav] at hfr
  rw [hfr]
  clear hfr hav
  generalize (lg_sl ([.ref (ad 0), .int a1, .int a2] : List Value) ++ List.replicate (8 - (lg_sl ([.ref (ad 0), .int a1, .int a2] : List Value)).length) Slot.unset).toArray = ls at hl ⊢
  have hl : lv_has ls 8 [(0, .ref (ad 0)), (1, .int a1), (2, .int a2)] := hl
  have kf341 := hts _ (List.mem_cons_of_mem _ m_fl_X8_341)
  have ki8 := (fun w h => List.mem_cons_of_mem _ (i_X8 w h) : ∀ w ∈ u_ws RX8 TX8 78, w ∈ wsX8_isFair)
  have kf45 := hts _ (List.mem_cons_of_mem _ m_fl_X8_45)
  have kf102 := hts _ (List.mem_cons_of_mem _ m_fl_X8_102)
  have kf39 := hts _ (List.mem_cons_of_mem _ m_fl_X8_39)
  have kf42 := hts _ (List.mem_cons_of_mem _ m_fl_X8_42)
  have kf36 := hts _ (List.mem_cons_of_mem _ m_fl_X8_36)
  refine (?_ : ∀ (H : Heap) (locs : List Loc), va_P (dC, dI) vwCl (zzM ad cy iM aM) H → va_D A (zzM ad cy iM aM) → va_S A s.heap H locs → W p l e ({ frames := 0, cells := 0, slots := 0, locals := 0 } : Room) s m args below meth c H locs 0 0 QQ (F0 m 0 ls [])) s.heap [] hP hD hS
  clear hP hD hS
  have B5 : ∀ (n : Nat) (v1 : Int32) (v2 : Int32) (v3 : Int32) (v4 : Int32) (H : Heap) (locs : List Loc) (ls : Array Slot), f_M_isFair_5 N (iM 20) (aM 15) (aM 16) (aM 17) (aM 19) (aM 57) v1 v2 n v3 v4 = some q → va_P (dC, dI) vwCl (zzM ad cy iM aM) H → va_D A (zzM ad cy iM aM) → va_S A s.heap H locs → lv_has ls 8 [(0, .ref (ad 0)), (1, .int v1), (2, .int v2), (3, .int v3), (4, .int v4)] → W p l e ({ frames := 0, cells := 0, slots := 0, locals := 0 } : Room) s m args below meth c H locs 0 0 QQ (F0 m 5 ls []) := by
    intro n
    induction n with
    | zero =>
      intro v1 v2 v3 v4 H locs ls h hP hD hS hl
      rw [f_M_isFair_5] at h
      cases h
    | succ n ih =>
      intro v1 v2 v3 v4 H locs ls h hP hD hS hl
      rw [f_M_isFair_5] at h
      refine lv_iload hx hb dX8_isFair_5 (lv_at hl 4 rfl) ?_
      refine lv_aload_n hx hb dX8_isFair_7 rfl (lv_at hl 0 rfl) ?_
      refine va_get (D := (dC, dI)) (ci := 8) (v := .int (iM 20)) (C := RX8) (T := TX8) (N := 78) hx hb hts ki8 hown hK hP 0 rfl rfl 20 (by decide) kf341 (fun _ h9 => h9) rfl dX8_isFair_8 ?_
      refine lv_icmp_ge (tgt := 118) hx hb dX8_isFair_11 (by decide) (fun cz => ?_) (fun cz => ?_)
      · have h := g_t h cz
        refine lv_iload_n hx hb dX8_isFair_118 rfl (lv_at hl 3 rfl) ?_
        obtain ⟨gz, h⟩ := g_p h
        have h' := Option.some.inj h
        rw [← hQQ]
        exact W.zret (v := v3) hx hb hr (g_zr _ gz) (fun t ht hW => ⟨⟨v3, (), rfl, by rw [← h'], by rw [← hWQ, ht]; exact hP, va_K.moved hW.alike hK⟩, hS.F ht⟩) hS.2.2 dX8_isFair_119
      · have h := g_f h cz
        refine lv_iload_n hx hb dX8_isFair_14 rfl (lv_at hl 2 rfl) ?_
        refine lv_iload hx hb dX8_isFair_15 (lv_at hl 4 rfl) ?_
        refine lv_ishr hx hb dX8_isFair_17 ?_
        refine lv_iconst (v := 1) hx hb dX8_isFair_18 (by decide) ?_
        refine lv_iand hx hb dX8_isFair_19 ?_
        refine lv_if_ne (tgt := 112) hx hb dX8_isFair_20 (by decide) (fun cz => ?_) (fun cz => ?_)
        · have h := g_f h cz
          refine lv_iinc (v := (v4 + (1 : Int32))) (lv' := [(4, .int ((v4 + (1 : Int32)))), (0, .ref (ad 0)), (1, .int v1), (2, .int v2), (3, .int v3)]) hx hb dX8_isFair_112 hl (k := 4) rfl rfl (by decide) rfl (fun ls hl => ?_)
          refine lv_goto (tgt := 5) hx hb dX8_isFair_115 (by decide) ?_
          exact ih v1 v2 v3 ((v4 + (1 : Int32))) H locs ls h hP hD hS (lv_sub hl [1, 2, 3, 4, 0] rfl)
        · have h := g_t h cz
          refine lv_aload_n hx hb dX8_isFair_23 rfl (lv_at hl 0 rfl) ?_
          refine va_get (D := (dC, dI)) (ci := 8) (v := .ref (ad 12)) (C := RX8) (T := TX8) (N := 78) hx hb hts ki8 hown hK hP 0 rfl rfl 19 (by decide) kf45 (fun _ h9 => h9) rfl dX8_isFair_24 ?_
          refine lv_iload hx hb dX8_isFair_27 (lv_at hl 4 rfl) ?_
          obtain ⟨g_110, h⟩ := g_n h
          refine va_iald (f := (aM 19)) hx hb hK hP 12 0 rfl rfl g_110 dX8_isFair_29 ?_
          refine lv_istore (lv' := [(5, .int (((aM 19) v4.toNatClampNeg))), (0, .ref (ad 0)), (1, .int v1), (2, .int v2), (3, .int v3), (4, .int v4)]) hx hb dX8_isFair_30 hl (by decide) rfl (fun ls hl => ?_)
          refine lv_aload_n hx hb dX8_isFair_32 rfl (lv_at hl 1 rfl) ?_
          refine va_get (D := (dC, dI)) (ci := 8) (v := .ref (ad 29)) (C := RX8) (T := TX8) (N := 78) hx hb hts ki8 hown hK hP 0 rfl rfl 57 (by decide) kf102 (fun _ h9 => h9) rfl dX8_isFair_33 ?_
          refine lv_sipush (v := 512) hx hb dX8_isFair_36 (by decide) ?_
          refine lv_aload_n hx hb dX8_isFair_39 rfl (lv_at hl 1 rfl) ?_
          refine va_get (D := (dC, dI)) (ci := 8) (v := .ref (ad 10)) (C := RX8) (T := TX8) (N := 78) hx hb hts ki8 hown hK hP 0 rfl rfl 16 (by decide) kf39 (fun _ h9 => h9) rfl dX8_isFair_40 ?_
          refine lv_iload hx hb dX8_isFair_43 (lv_at hl 0 rfl) ?_
          obtain ⟨g_111, h⟩ := g_n h
          refine va_iald (f := (aM 16)) hx hb hK hP 10 0 rfl rfl g_111 dX8_isFair_45 ?_
          refine lv_imul hx hb dX8_isFair_46 ?_
          refine lv_iload_n hx hb dX8_isFair_47 rfl (lv_at hl 2 rfl) ?_
          refine lv_iadd hx hb dX8_isFair_48 ?_
          obtain ⟨g_112, h⟩ := g_n h
          refine va_zald (f := (aM 57)) hx hb hK hP 29 4 rfl rfl g_112 dX8_isFair_49 ?_
          refine lv_istore (lv' := [(6, .int (((aM 57) ((((512 : Int32) * ((aM 16) (((aM 19) v4.toNatClampNeg)).toNatClampNeg)) + v1)).toNatClampNeg))), (5, .int (((aM 19) v4.toNatClampNeg))), (0, .ref (ad 0)), (1, .int v1), (2, .int v2), (3, .int v3), (4, .int v4)]) hx hb dX8_isFair_50 hl (by decide) rfl (fun ls hl => ?_)
          refine lv_aload_n hx hb dX8_isFair_52 rfl (lv_at hl 2 rfl) ?_
          refine va_get (D := (dC, dI)) (ci := 8) (v := .ref (ad 29)) (C := RX8) (T := TX8) (N := 78) hx hb hts ki8 hown hK hP 0 rfl rfl 57 (by decide) kf102 (fun _ h9 => h9) rfl dX8_isFair_53 ?_
          refine lv_sipush (v := 512) hx hb dX8_isFair_56 (by decide) ?_
          refine lv_aload_n hx hb dX8_isFair_59 rfl (lv_at hl 2 rfl) ?_
          refine va_get (D := (dC, dI)) (ci := 8) (v := .ref (ad 11)) (C := RX8) (T := TX8) (N := 78) hx hb hts ki8 hown hK hP 0 rfl rfl 17 (by decide) kf42 (fun _ h9 => h9) rfl dX8_isFair_60 ?_
          refine lv_iload hx hb dX8_isFair_63 (lv_at hl 1 rfl) ?_
          refine va_iald (f := (aM 17)) hx hb hK hP 11 0 rfl rfl g_111 dX8_isFair_65 ?_
          refine lv_imul hx hb dX8_isFair_66 ?_
          refine lv_iload_n hx hb dX8_isFair_67 rfl (lv_at hl 3 rfl) ?_
          refine lv_iadd hx hb dX8_isFair_68 ?_
          obtain ⟨g_113, h⟩ := g_n h
          refine va_zald (f := (aM 57)) hx hb hK hP 29 4 rfl rfl g_113 dX8_isFair_69 ?_
          refine lv_istore (lv' := [(7, .int (((aM 57) ((((512 : Int32) * ((aM 17) (((aM 19) v4.toNatClampNeg)).toNatClampNeg)) + v1)).toNatClampNeg))), (6, .int (((aM 57) ((((512 : Int32) * ((aM 16) (((aM 19) v4.toNatClampNeg)).toNatClampNeg)) + v1)).toNatClampNeg))), (5, .int (((aM 19) v4.toNatClampNeg))), (0, .ref (ad 0)), (1, .int v1), (2, .int v2), (3, .int v3), (4, .int v4)]) hx hb dX8_isFair_70 hl (by decide) rfl (fun ls hl => ?_)
          refine lv_iload_n hx hb dX8_isFair_72 rfl (lv_at hl 6 rfl) ?_
          refine lv_if_eq (tgt := 110) hx hb dX8_isFair_73 (by decide) (fun cz => ?_) (fun cz => ?_)
          · have h := g_t h cz
            refine lv_iconst (v := 0) hx hb dX8_isFair_110 (by decide) ?_
            refine lv_istore_n (lv' := [(3, .int ((0 : Int32))), (7, .int (((aM 57) ((((512 : Int32) * ((aM 17) (((aM 19) v4.toNatClampNeg)).toNatClampNeg)) + v1)).toNatClampNeg))), (6, .int (((aM 57) ((((512 : Int32) * ((aM 16) (((aM 19) v4.toNatClampNeg)).toNatClampNeg)) + v1)).toNatClampNeg))), (5, .int (((aM 19) v4.toNatClampNeg))), (0, .ref (ad 0)), (1, .int v1), (2, .int v2), (4, .int v4)]) hx hb dX8_isFair_111 rfl hl (by decide) rfl (fun ls hl => ?_)
            refine lv_iinc (v := (v4 + (1 : Int32))) (lv' := [(4, .int ((v4 + (1 : Int32)))), (3, .int ((0 : Int32))), (7, .int (((aM 57) ((((512 : Int32) * ((aM 17) (((aM 19) v4.toNatClampNeg)).toNatClampNeg)) + v1)).toNatClampNeg))), (6, .int (((aM 57) ((((512 : Int32) * ((aM 16) (((aM 19) v4.toNatClampNeg)).toNatClampNeg)) + v1)).toNatClampNeg))), (5, .int (((aM 19) v4.toNatClampNeg))), (0, .ref (ad 0)), (1, .int v1), (2, .int v2)]) hx hb dX8_isFair_112 hl (k := 7) rfl rfl (by decide) rfl (fun ls hl => ?_)
            refine lv_goto (tgt := 5) hx hb dX8_isFair_115 (by decide) ?_
            exact ih v1 v2 ((0 : Int32)) ((v4 + (1 : Int32))) H locs ls h hP hD hS (lv_sub hl [5, 6, 7, 1, 0] rfl)
          · have h := g_f h cz
            refine lv_aload_n hx hb dX8_isFair_76 rfl (lv_at hl 3 rfl) ?_
            refine va_get (D := (dC, dI)) (ci := 8) (v := .ref (ad 9)) (C := RX8) (T := TX8) (N := 78) hx hb hts ki8 hown hK hP 0 rfl rfl 15 (by decide) kf36 (fun _ h9 => h9) rfl dX8_isFair_77 ?_
            refine lv_iload hx hb dX8_isFair_80 (lv_at hl 2 rfl) ?_
            refine va_iald (f := (aM 15)) hx hb hK hP 9 0 rfl rfl g_111 dX8_isFair_82 ?_
            refine lv_if_ne (tgt := 99) hx hb dX8_isFair_83 (by decide) (fun cz => ?_) (fun cz => ?_)
            · have h := g_f h cz
              refine lv_iload hx hb dX8_isFair_99 (lv_at hl 1 rfl) ?_
              refine lv_iload hx hb dX8_isFair_101 (lv_at hl 0 rfl) ?_
              refine lv_icmp_ne (tgt := 110) hx hb dX8_isFair_103 (by decide) (fun cz => ?_) (fun cz => ?_)
              · have h := g_f h cz
                refine lv_iconst (v := 0) hx hb dX8_isFair_110 (by decide) ?_
                refine lv_istore_n (lv' := [(3, .int ((0 : Int32))), (7, .int (((aM 57) ((((512 : Int32) * ((aM 17) (((aM 19) v4.toNatClampNeg)).toNatClampNeg)) + v1)).toNatClampNeg))), (6, .int (((aM 57) ((((512 : Int32) * ((aM 16) (((aM 19) v4.toNatClampNeg)).toNatClampNeg)) + v1)).toNatClampNeg))), (5, .int (((aM 19) v4.toNatClampNeg))), (0, .ref (ad 0)), (1, .int v1), (2, .int v2), (4, .int v4)]) hx hb dX8_isFair_111 rfl hl (by decide) rfl (fun ls hl => ?_)
                refine lv_iinc (v := (v4 + (1 : Int32))) (lv' := [(4, .int ((v4 + (1 : Int32)))), (3, .int ((0 : Int32))), (7, .int (((aM 57) ((((512 : Int32) * ((aM 17) (((aM 19) v4.toNatClampNeg)).toNatClampNeg)) + v1)).toNatClampNeg))), (6, .int (((aM 57) ((((512 : Int32) * ((aM 16) (((aM 19) v4.toNatClampNeg)).toNatClampNeg)) + v1)).toNatClampNeg))), (5, .int (((aM 19) v4.toNatClampNeg))), (0, .ref (ad 0)), (1, .int v1), (2, .int v2)]) hx hb dX8_isFair_112 hl (k := 7) rfl rfl (by decide) rfl (fun ls hl => ?_)
                refine lv_goto (tgt := 5) hx hb dX8_isFair_115 (by decide) ?_
                exact ih v1 v2 ((0 : Int32)) ((v4 + (1 : Int32))) H locs ls h hP hD hS (lv_sub hl [5, 6, 7, 1, 0] rfl)
              · have h := g_t h cz
                refine lv_iconst (v := 1) hx hb dX8_isFair_106 (by decide) ?_
                refine lv_goto (tgt := 111) hx hb dX8_isFair_107 (by decide) ?_
                refine lv_istore_n (lv' := [(3, .int ((1 : Int32))), (7, .int (((aM 57) ((((512 : Int32) * ((aM 17) (((aM 19) v4.toNatClampNeg)).toNatClampNeg)) + v1)).toNatClampNeg))), (6, .int (((aM 57) ((((512 : Int32) * ((aM 16) (((aM 19) v4.toNatClampNeg)).toNatClampNeg)) + v1)).toNatClampNeg))), (5, .int (((aM 19) v4.toNatClampNeg))), (0, .ref (ad 0)), (1, .int v1), (2, .int v2), (4, .int v4)]) hx hb dX8_isFair_111 rfl hl (by decide) rfl (fun ls hl => ?_)
                refine lv_iinc (v := (v4 + (1 : Int32))) (lv' := [(4, .int ((v4 + (1 : Int32)))), (3, .int ((1 : Int32))), (7, .int (((aM 57) ((((512 : Int32) * ((aM 17) (((aM 19) v4.toNatClampNeg)).toNatClampNeg)) + v1)).toNatClampNeg))), (6, .int (((aM 57) ((((512 : Int32) * ((aM 16) (((aM 19) v4.toNatClampNeg)).toNatClampNeg)) + v1)).toNatClampNeg))), (5, .int (((aM 19) v4.toNatClampNeg))), (0, .ref (ad 0)), (1, .int v1), (2, .int v2)]) hx hb dX8_isFair_112 hl (k := 7) rfl rfl (by decide) rfl (fun ls hl => ?_)
                refine lv_goto (tgt := 5) hx hb dX8_isFair_115 (by decide) ?_
                exact ih v1 v2 ((1 : Int32)) ((v4 + (1 : Int32))) H locs ls h hP hD hS (lv_sub hl [5, 6, 7, 1, 0] rfl)
            · have h := g_t h cz
              refine lv_iload hx hb dX8_isFair_86 (lv_at hl 1 rfl) ?_
              refine lv_if_eq (tgt := 106) hx hb dX8_isFair_88 (by decide) (fun cz => ?_) (fun cz => ?_)
              · have h := g_t h cz
                refine lv_iconst (v := 1) hx hb dX8_isFair_106 (by decide) ?_
                refine lv_goto (tgt := 111) hx hb dX8_isFair_107 (by decide) ?_
                refine lv_istore_n (lv' := [(3, .int ((1 : Int32))), (7, .int (((aM 57) ((((512 : Int32) * ((aM 17) (((aM 19) v4.toNatClampNeg)).toNatClampNeg)) + v1)).toNatClampNeg))), (6, .int (((aM 57) ((((512 : Int32) * ((aM 16) (((aM 19) v4.toNatClampNeg)).toNatClampNeg)) + v1)).toNatClampNeg))), (5, .int (((aM 19) v4.toNatClampNeg))), (0, .ref (ad 0)), (1, .int v1), (2, .int v2), (4, .int v4)]) hx hb dX8_isFair_111 rfl hl (by decide) rfl (fun ls hl => ?_)
                refine lv_iinc (v := (v4 + (1 : Int32))) (lv' := [(4, .int ((v4 + (1 : Int32)))), (3, .int ((1 : Int32))), (7, .int (((aM 57) ((((512 : Int32) * ((aM 17) (((aM 19) v4.toNatClampNeg)).toNatClampNeg)) + v1)).toNatClampNeg))), (6, .int (((aM 57) ((((512 : Int32) * ((aM 16) (((aM 19) v4.toNatClampNeg)).toNatClampNeg)) + v1)).toNatClampNeg))), (5, .int (((aM 19) v4.toNatClampNeg))), (0, .ref (ad 0)), (1, .int v1), (2, .int v2)]) hx hb dX8_isFair_112 hl (k := 7) rfl rfl (by decide) rfl (fun ls hl => ?_)
                refine lv_goto (tgt := 5) hx hb dX8_isFair_115 (by decide) ?_
                exact ih v1 v2 ((1 : Int32)) ((v4 + (1 : Int32))) H locs ls h hP hD hS (lv_sub hl [5, 6, 7, 1, 0] rfl)
              · have h := g_f h cz
                refine lv_iload hx hb dX8_isFair_91 (lv_at hl 0 rfl) ?_
                refine lv_if_eq (tgt := 110) hx hb dX8_isFair_93 (by decide) (fun cz => ?_) (fun cz => ?_)
                · have h := g_t h cz
                  refine lv_iconst (v := 0) hx hb dX8_isFair_110 (by decide) ?_
                  refine lv_istore_n (lv' := [(3, .int ((0 : Int32))), (7, .int (((aM 57) ((((512 : Int32) * ((aM 17) (((aM 19) v4.toNatClampNeg)).toNatClampNeg)) + v1)).toNatClampNeg))), (6, .int (((aM 57) ((((512 : Int32) * ((aM 16) (((aM 19) v4.toNatClampNeg)).toNatClampNeg)) + v1)).toNatClampNeg))), (5, .int (((aM 19) v4.toNatClampNeg))), (0, .ref (ad 0)), (1, .int v1), (2, .int v2), (4, .int v4)]) hx hb dX8_isFair_111 rfl hl (by decide) rfl (fun ls hl => ?_)
                  refine lv_iinc (v := (v4 + (1 : Int32))) (lv' := [(4, .int ((v4 + (1 : Int32)))), (3, .int ((0 : Int32))), (7, .int (((aM 57) ((((512 : Int32) * ((aM 17) (((aM 19) v4.toNatClampNeg)).toNatClampNeg)) + v1)).toNatClampNeg))), (6, .int (((aM 57) ((((512 : Int32) * ((aM 16) (((aM 19) v4.toNatClampNeg)).toNatClampNeg)) + v1)).toNatClampNeg))), (5, .int (((aM 19) v4.toNatClampNeg))), (0, .ref (ad 0)), (1, .int v1), (2, .int v2)]) hx hb dX8_isFair_112 hl (k := 7) rfl rfl (by decide) rfl (fun ls hl => ?_)
                  refine lv_goto (tgt := 5) hx hb dX8_isFair_115 (by decide) ?_
                  exact ih v1 v2 ((0 : Int32)) ((v4 + (1 : Int32))) H locs ls h hP hD hS (lv_sub hl [5, 6, 7, 1, 0] rfl)
                · have h := g_f h cz
                  refine lv_goto (tgt := 106) hx hb dX8_isFair_96 (by decide) ?_
                  refine lv_iconst (v := 1) hx hb dX8_isFair_106 (by decide) ?_
                  refine lv_goto (tgt := 111) hx hb dX8_isFair_107 (by decide) ?_
                  refine lv_istore_n (lv' := [(3, .int ((1 : Int32))), (7, .int (((aM 57) ((((512 : Int32) * ((aM 17) (((aM 19) v4.toNatClampNeg)).toNatClampNeg)) + v1)).toNatClampNeg))), (6, .int (((aM 57) ((((512 : Int32) * ((aM 16) (((aM 19) v4.toNatClampNeg)).toNatClampNeg)) + v1)).toNatClampNeg))), (5, .int (((aM 19) v4.toNatClampNeg))), (0, .ref (ad 0)), (1, .int v1), (2, .int v2), (4, .int v4)]) hx hb dX8_isFair_111 rfl hl (by decide) rfl (fun ls hl => ?_)
                  refine lv_iinc (v := (v4 + (1 : Int32))) (lv' := [(4, .int ((v4 + (1 : Int32)))), (3, .int ((1 : Int32))), (7, .int (((aM 57) ((((512 : Int32) * ((aM 17) (((aM 19) v4.toNatClampNeg)).toNatClampNeg)) + v1)).toNatClampNeg))), (6, .int (((aM 57) ((((512 : Int32) * ((aM 16) (((aM 19) v4.toNatClampNeg)).toNatClampNeg)) + v1)).toNatClampNeg))), (5, .int (((aM 19) v4.toNatClampNeg))), (0, .ref (ad 0)), (1, .int v1), (2, .int v2)]) hx hb dX8_isFair_112 hl (k := 7) rfl rfl (by decide) rfl (fun ls hl => ?_)
                  refine lv_goto (tgt := 5) hx hb dX8_isFair_115 (by decide) ?_
                  exact ih v1 v2 ((1 : Int32)) ((v4 + (1 : Int32))) H locs ls h hP hD hS (lv_sub hl [5, 6, 7, 1, 0] rfl)
  intro H locs hP hD hS
  unfold f_M_isFair at h
  refine lv_iconst (v := 1) hx hb dX8_isFair_0 (by decide) ?_
  refine lv_istore_n (lv' := [(3, .int ((1 : Int32))), (0, .ref (ad 0)), (1, .int a1), (2, .int a2)]) hx hb dX8_isFair_1 rfl hl (by decide) rfl (fun ls hl => ?_)
  refine lv_iconst (v := 0) hx hb dX8_isFair_2 (by decide) ?_
  refine lv_istore (lv' := [(4, .int ((0 : Int32))), (3, .int ((1 : Int32))), (0, .ref (ad 0)), (1, .int a1), (2, .int a2)]) hx hb dX8_isFair_3 hl (by decide) rfl (fun ls hl => ?_)
  exact B5 N a1 a2 ((1 : Int32)) ((0 : Int32)) H locs ls h hP hD hS (lv_sub hl [2, 3, 4, 1, 0] rfl)
set_option maxHeartbeats 8000000 in
set_option maxRecDepth 100000 in
theorem c_M_sift (l : Launch) (dC : Nat → ClassId) (dI : Nat → Nat → Nat) (cy : Nat → ClassId) (ad : Nat → Nat) (sz : Nat) (N : Nat) (a1 : Int32) (a2 : Int32) (iM : Nat → Int32) (aM : Nat → Nat → Int32) (q : Int32 × Int32 × (Nat → Int32) × (Nat → Int32) × (Nat → Int32)) (h : f_M_sift N a1 a2 (iM 20) (iM 28) (iM 36) (iM 64) (iM 65) (aM 15) (aM 16) (aM 17) (aM 19) (aM 29) (aM 57) (aM 58) (aM 59) (aM 60) (aM 61) (aM 62) (aM 63) = some q) : Met l yX8_sift wsX8_sift ({ frames := 3, cells := 0, slots := 0, locals := 74 } : Room) (cP (dC, dI) cy [.ref (ad 0), .int a1, .int a2] (zzM ad cy iM aM) sz) (cQv (dC, dI) cy (zzM ad cy (us iM [(64, q.1), (65, q.2.1)]) (us aM [(61, q.2.2.1), (62, q.2.2.2.1), (63, q.2.2.2.2)])) (va_A (zzM ad cy iM aM) sz)) 0 0 (va_A (zzM ad cy iM aM) sz) := by
  refine Met.ofW (cc := cX8_sift) (maxL := 7) (ret := none) (by decide) rfl ?_
  intro p e s m args below meth c s₁ B hml hv
  obtain ⟨hav, hsz, hP, hK, hD0, hN⟩ := hv
  have hx := B.exec
  have hb := B.bytes
  have hr := B.returns
  have hts := atoms_spec (ws := wsX8_sift) B.pre
  have hown : s.vm.findClass RX8 = some m.cls := findClass_of_methodNamed B.named
  have hlocks := B.notSynchronized
  subst hsz
  have hD := hD0.self (sz := s.heap.size)
  generalize hAe : va_A (zzM ad cy iM aM) s.heap.size = A at hD ⊢
  have hA : ∀ q : Nat, s.heap.size ≤ q → A q := fun q h => by rw [← hAe]; exact Or.inr h
  have hS : va_S A s.heap s.heap [] := va_S.rf
  generalize hWQ : (zzM ad cy (us iM [(64, q.1), (65, q.2.1)]) (us aM [(61, q.2.2.1), (62, q.2.2.2.1), (63, q.2.2.2.2)])) = WQ
  generalize hQQ : MQ below (cQv (dC, dI) cy WQ A) args s 0 0 A = QQ
  have hl := lv_entry ([.ref (ad 0), .int a1, .int a2] : List Value) (n := 7) (Nat.le_of_ble_eq_true rfl)
  have hfr := lg_entry_eq m ([.ref (ad 0), .int a1, .int a2] : List Value) 7
  rw [← hav] at hfr
  rw [hfr]
  clear hfr hav
  generalize (lg_sl ([.ref (ad 0), .int a1, .int a2] : List Value) ++ List.replicate (7 - (lg_sl ([.ref (ad 0), .int a1, .int a2] : List Value)).length) Slot.unset).toArray = ls at hl ⊢
  have hl : lv_has ls 7 [(0, .ref (ad 0)), (1, .int a1), (2, .int a2)] := hl
  have kf114 := hts _ (List.mem_cons_of_mem _ m_fl_X8_114)
  have ki8 := (fun w h => List.mem_cons_of_mem _ (i_X8 w h) : ∀ w ∈ u_ws RX8 TX8 78, w ∈ wsX8_sift)
  have kf117 := hts _ (List.mem_cons_of_mem _ m_fl_X8_117)
  have kf120 := hts _ (List.mem_cons_of_mem _ m_fl_X8_120)
  have kf389 := hts _ (List.mem_cons_of_mem _ m_fl_X8_389)
  have kf392 := hts _ (List.mem_cons_of_mem _ m_fl_X8_392)
  refine (?_ : ∀ (H : Heap) (locs : List Loc), va_P (dC, dI) vwCl (zzM ad cy iM aM) H → va_D A (zzM ad cy iM aM) → va_S A s.heap H locs → W p l e ({ frames := 3, cells := 0, slots := 0, locals := 74 } : Room) s m args below meth c H locs 0 0 QQ (F0 m 0 ls [])) s.heap [] hP hD hS
  clear hP hD hS
  have B71 : ∀ (v1 : Int32) (v2 : Int32) (v3 : Int32) (v4 : Int32) (s1 : Int32) (s2 : Int32) (x_aM61 : Nat → Int32) (x_aM62 : Nat → Int32) (k5 : Int32 → Int32 → (Nat → Int32) → (Nat → Int32) → Option (Int32 × Int32 × (Nat → Int32) × (Nat → Int32) × (Nat → Int32))) (hk5 : ∀ (v3' : Int32) (v4' : Int32) (x_aM61' : Nat → Int32) (x_aM62' : Nat → Int32) (H : Heap) (locs : List Loc) (ls : Array Slot), k5 v3' v4' x_aM61' x_aM62' = some q → va_P (dC, dI) vwCl (zzM ad cy iM (us aM [(61, x_aM61'), (62, x_aM62')])) H → va_D A (zzM ad cy iM (us aM [(61, x_aM61'), (62, x_aM62')])) → va_S A s.heap H locs → lv_has ls 7 [(0, .ref (ad 0)), (1, .int v1), (2, .int v2), (3, .int v3'), (4, .int v4')] → W p l e ({ frames := 3, cells := 0, slots := 0, locals := 74 } : Room) s m args below meth c H locs 0 0 QQ (F0 m 5 ls [])) (H : Heap) (locs : List Loc) (ls : Array Slot), f_M_sift_71 N (iM 20) (iM 28) (iM 36) (iM 64) (iM 65) (aM 15) (aM 16) (aM 17) (aM 19) (aM 29) (aM 57) (aM 58) (aM 59) (aM 60) (aM 61) (aM 62) (aM 63) k5 v1 v2 v3 v4 s1 s2 x_aM61 x_aM62 = some q → va_P (dC, dI) vwCl (zzM ad cy iM (us aM [(61, x_aM61), (62, x_aM62)])) H → va_D A (zzM ad cy iM (us aM [(61, x_aM61), (62, x_aM62)])) → va_S A s.heap H locs → lv_has ls 7 [(0, .ref (ad 0)), (1, .int v1), (2, .int v2), (3, .int v3), (4, .int v4)] → W p l e ({ frames := 3, cells := 0, slots := 0, locals := 74 } : Room) s m args below meth c H locs 0 0 QQ (F0 m 71 ls [.int s2, .int s1, .ref (ad 33)]) := by
    intro v1 v2 v3 v4 s1 s2 x_aM61 x_aM62 k5 hk5 H locs ls h hP hD hS hl
    unfold f_M_sift_71 at h
    obtain ⟨g_31, h⟩ := g_n h
    refine va_iast (f := x_aM61) hx hb hK hP hD hS 33 0 rfl rfl g_31 dX8_sift_71 (fun H locs hP hD hS => ?_)
    have hP : va_P (dC, dI) vwCl (zzM ad cy iM (us aM [(61, (upd x_aM61 s1.toNatClampNeg s2)), (62, x_aM62)])) H := Eq.mp (congrArg (fun w => va_P (dC, dI) vwCl w H) (stM_aM61 ad cy iM aM [(61, x_aM61), (62, x_aM62)] ((upd x_aM61 s1.toNatClampNeg s2)))) hP
    have hD : va_D A (zzM ad cy iM (us aM [(61, (upd x_aM61 s1.toNatClampNeg s2)), (62, x_aM62)])) := Eq.mp (congrArg (fun w => va_D A w) (stM_aM61 ad cy iM aM [(61, x_aM61), (62, x_aM62)] ((upd x_aM61 s1.toNatClampNeg s2)))) hD
    refine lv_iinc (v := (v4 + (1 : Int32))) (lv' := [(4, .int ((v4 + (1 : Int32)))), (0, .ref (ad 0)), (1, .int v1), (2, .int v2), (3, .int v3)]) hx hb dX8_sift_72 hl (k := 4) rfl rfl (by decide) rfl (fun ls hl => ?_)
    refine lv_goto (tgt := 5) hx hb dX8_sift_75 (by decide) ?_
    exact hk5 v3 ((v4 + (1 : Int32))) ((upd x_aM61 s1.toNatClampNeg s2)) x_aM62 H locs ls h hP hD hS (lv_sub hl [1, 2, 3, 4, 0] rfl)
  have B44 : ∀ (v1 : Int32) (v2 : Int32) (v4 : Int32) (s0 : Int32) (s1 : Int32) (x_aM61 : Nat → Int32) (x_aM62 : Nat → Int32) (k5 : Int32 → Int32 → (Nat → Int32) → (Nat → Int32) → Option (Int32 × Int32 × (Nat → Int32) × (Nat → Int32) × (Nat → Int32))) (hk5 : ∀ (v3' : Int32) (v4' : Int32) (x_aM61' : Nat → Int32) (x_aM62' : Nat → Int32) (H : Heap) (locs : List Loc) (ls : Array Slot), k5 v3' v4' x_aM61' x_aM62' = some q → va_P (dC, dI) vwCl (zzM ad cy iM (us aM [(61, x_aM61'), (62, x_aM62')])) H → va_D A (zzM ad cy iM (us aM [(61, x_aM61'), (62, x_aM62')])) → va_S A s.heap H locs → lv_has ls 7 [(0, .ref (ad 0)), (1, .int v1), (2, .int v2), (3, .int v3'), (4, .int v4')] → W p l e ({ frames := 3, cells := 0, slots := 0, locals := 74 } : Room) s m args below meth c H locs 0 0 QQ (F0 m 5 ls [])) (H : Heap) (locs : List Loc) (ls : Array Slot), f_M_sift_44 N (iM 20) (iM 28) (iM 36) (iM 64) (iM 65) (aM 15) (aM 16) (aM 17) (aM 19) (aM 29) (aM 57) (aM 58) (aM 59) (aM 60) (aM 61) (aM 62) (aM 63) k5 v1 v2 v4 s0 s1 x_aM61 x_aM62 = some q → va_P (dC, dI) vwCl (zzM ad cy iM (us aM [(61, x_aM61), (62, x_aM62)])) H → va_D A (zzM ad cy iM (us aM [(61, x_aM61), (62, x_aM62)])) → va_S A s.heap H locs → lv_has ls 7 [(0, .ref (ad 0)), (1, .int v1), (2, .int v2), (4, .int v4)] → W p l e ({ frames := 3, cells := 0, slots := 0, locals := 74 } : Room) s m args below meth c H locs 0 0 QQ (F0 m 44 ls [.int s1, .int s0]) := by
    intro v1 v2 v4 s0 s1 x_aM61 x_aM62 k5 hk5 H locs ls h hP hD hS hl
    unfold f_M_sift_44 at h
    refine lv_iadd hx hb dX8_sift_44 ?_
    refine lv_istore_n (lv' := [(3, .int ((s0 + s1))), (0, .ref (ad 0)), (1, .int v1), (2, .int v2), (4, .int v4)]) hx hb dX8_sift_45 rfl hl (by decide) rfl (fun ls hl => ?_)
    refine lv_iload_n hx hb dX8_sift_46 rfl (lv_at hl 3 rfl) ?_
    refine lv_if_eq (tgt := 72) hx hb dX8_sift_47 (by decide) (fun cz => ?_) (fun cz => ?_)
    · have h := g_t h cz
      refine lv_iinc (v := (v4 + (1 : Int32))) (lv' := [(4, .int ((v4 + (1 : Int32)))), (3, .int ((s0 + s1))), (0, .ref (ad 0)), (1, .int v1), (2, .int v2)]) hx hb dX8_sift_72 hl (k := 4) rfl rfl (by decide) rfl (fun ls hl => ?_)
      refine lv_goto (tgt := 5) hx hb dX8_sift_75 (by decide) ?_
      exact hk5 ((s0 + s1)) ((v4 + (1 : Int32))) x_aM61 x_aM62 H locs ls h hP hD hS (lv_sub hl [2, 3, 4, 1, 0] rfl)
    · have h := g_f h cz
      refine lv_aload_n hx hb dX8_sift_50 rfl (lv_at hl 1 rfl) ?_
      refine va_get (D := (dC, dI)) (ci := 8) (v := .ref (ad 33)) (C := RX8) (T := TX8) (N := 78) hx hb hts ki8 hown hK hP 0 rfl rfl 61 (by decide) kf114 (fun _ h9 => h9) rfl dX8_sift_51 ?_
      refine lv_iload hx hb dX8_sift_54 (lv_at hl 4 rfl) ?_
      refine lv_aload_n hx hb dX8_sift_56 rfl (lv_at hl 1 rfl) ?_
      refine va_get (D := (dC, dI)) (ci := 8) (v := .ref (ad 34)) (C := RX8) (T := TX8) (N := 78) hx hb hts ki8 hown hK hP 0 rfl rfl 62 (by decide) kf117 (fun _ h9 => h9) rfl dX8_sift_57 ?_
      refine lv_iload hx hb dX8_sift_60 (lv_at hl 4 rfl) ?_
      obtain ⟨g_28, h⟩ := g_n h
      refine va_zald (f := x_aM62) hx hb hK hP 34 4 rfl rfl g_28 dX8_sift_62 ?_
      refine lv_if_eq (tgt := 70) hx hb dX8_sift_63 (by decide) (fun cz => ?_) (fun cz => ?_)
      · have h := g_t h cz
        refine lv_iconst (v := 0) hx hb dX8_sift_70 (by decide) ?_
        exact B71 v1 v2 ((s0 + s1)) v4 v4 ((0 : Int32)) x_aM61 x_aM62 k5 hk5 H locs ls h hP hD hS (lv_sub hl [1, 2, 3, 0, 4] rfl)
      · have h := g_f h cz
        refine lv_iconst (v := (-1)) hx hb dX8_sift_66 (by decide) ?_
        refine lv_goto (tgt := 71) hx hb dX8_sift_67 (by decide) ?_
        exact B71 v1 v2 ((s0 + s1)) v4 v4 ((-1 : Int32)) x_aM61 x_aM62 k5 hk5 H locs ls h hP hD hS (lv_sub hl [1, 2, 3, 0, 4] rfl)
  have B127 : ∀ (n : Nat) (v2 : Int32) (v3 : Int32) (v4 : Int32) (x_aM63 : Nat → Int32) (k84 : Int32 → Int32 → (Nat → Int32) → (Nat → Int32) → (Nat → Int32) → Option (Int32 × Int32 × (Nat → Int32) × (Nat → Int32) × (Nat → Int32))) (hk84 : ∀ (v4' : Int32) (v5' : Int32) (x_aM61' : Nat → Int32) (x_aM62' : Nat → Int32) (x_aM63' : Nat → Int32) (H : Heap) (locs : List Loc) (ls : Array Slot), k84 v4' v5' x_aM61' x_aM62' x_aM63' = some q → va_P (dC, dI) vwCl (zzM ad cy iM (us aM [(61, x_aM61'), (62, x_aM62'), (63, x_aM63')])) H → va_D A (zzM ad cy iM (us aM [(61, x_aM61'), (62, x_aM62'), (63, x_aM63')])) → va_S A s.heap H locs → lv_has ls 7 [(0, .ref (ad 0)), (2, .int v2), (3, .int v3), (4, .int v4'), (5, .int v5')] → W p l e ({ frames := 3, cells := 0, slots := 0, locals := 74 } : Room) s m args below meth c H locs 0 0 QQ (F0 m 84 ls [])) (v5 : Int32) (v6 : Int32) (x_aM61 : Nat → Int32) (x_aM62 : Nat → Int32) (H : Heap) (locs : List Loc) (ls : Array Slot), f_M_sift_127 N (iM 20) (iM 28) (iM 36) (iM 64) (iM 65) (aM 15) (aM 16) (aM 17) (aM 19) (aM 29) (aM 57) (aM 58) (aM 59) (aM 60) (aM 61) (aM 62) (aM 63) k84 v2 v3 v4 x_aM63 n v5 v6 x_aM61 x_aM62 = some q → va_P (dC, dI) vwCl (zzM ad cy iM (us aM [(61, x_aM61), (62, x_aM62), (63, x_aM63)])) H → va_D A (zzM ad cy iM (us aM [(61, x_aM61), (62, x_aM62), (63, x_aM63)])) → va_S A s.heap H locs → lv_has ls 7 [(0, .ref (ad 0)), (2, .int v2), (3, .int v3), (4, .int v4), (5, .int v5), (6, .int v6)] → W p l e ({ frames := 3, cells := 0, slots := 0, locals := 74 } : Room) s m args below meth c H locs 0 0 QQ (F0 m 127 ls []) := by
    intro n
    induction n with
    | zero =>
      intro v2 v3 v4 x_aM63 k84 hk84 v5 v6 x_aM61 x_aM62 H locs ls h hP hD hS hl
      rw [f_M_sift_127] at h
      cases h
    | succ n ih =>
      intro v2 v3 v4 x_aM63 k84 hk84 v5 v6 x_aM61 x_aM62 H locs ls h hP hD hS hl
      rw [f_M_sift_127] at h
      refine lv_iload hx hb dX8_sift_127 (lv_at hl 5 rfl) ?_
      refine lv_aload_n hx hb dX8_sift_129 rfl (lv_at hl 0 rfl) ?_
      obtain ⟨q130, e130, h⟩ := g_b h
      refine callVis (cc := cX8_sift) (w1 := zzM ad cy iM (us aM [(61, x_aM61), (62, x_aM62), (63, x_aM63)])) (As := []) (rest := [.int v6]) ⟨hx, hb, hml, hown, hts⟩ (c_M_types l dC dI cy ad H.size iM ((us aM [(61, x_aM61), (62, x_aM62), (63, x_aM63)])) q130 e130) (cwV 0 hts (goodV m_ml_X8_368 m_im_X8_types m_se_X8_types m_in_X8 m_cd_X8_types) rfl rfl rfl (by decide +kernel) ⟨Nat.le_of_ble_eq_true rfl, Nat.le_of_ble_eq_true rfl⟩) hN hK hP hD hS hA rfl 0 rfl rfl rfl hl.1 rfl (Nat.le_of_ble_eq_true rfl) dX8_sift_130 ⟨Nat.zero_le _, Nat.zero_le _⟩ (fun H locs hP hD hS => ?_)
      refine lv_icmp_ge (tgt := 191) hx hb dX8_sift_133 (by decide) (fun cz => ?_) (fun cz => ?_)
      · have h := g_t h cz
        refine lv_iload hx hb dX8_sift_191 (lv_at hl 3 rfl) ?_
        refine lv_iload hx hb dX8_sift_193 (lv_at hl 4 rfl) ?_
        refine lv_if_eq (tgt := 202) hx hb dX8_sift_195 (by decide) (fun cz => ?_) (fun cz => ?_)
        · have h := g_t h cz
          refine lv_iconst (v := 0) hx hb dX8_sift_202 (by decide) ?_
          refine lv_iadd hx hb dX8_sift_203 ?_
          refine lv_istore (lv' := [(4, .int ((v4 + (0 : Int32)))), (0, .ref (ad 0)), (2, .int v2), (3, .int v3), (5, .int v5), (6, .int v6)]) hx hb dX8_sift_204 hl (by decide) rfl (fun ls hl => ?_)
          refine lv_goto (tgt := 84) hx hb dX8_sift_206 (by decide) ?_
          exact hk84 ((v4 + (0 : Int32))) v5 x_aM61 x_aM62 x_aM63 H locs ls h hP hD hS (lv_sub hl [1, 2, 3, 0, 4] rfl)
        · have h := g_f h cz
          refine lv_iconst (v := 1) hx hb dX8_sift_198 (by decide) ?_
          refine lv_goto (tgt := 203) hx hb dX8_sift_199 (by decide) ?_
          refine lv_iadd hx hb dX8_sift_203 ?_
          refine lv_istore (lv' := [(4, .int ((v4 + (1 : Int32)))), (0, .ref (ad 0)), (2, .int v2), (3, .int v3), (5, .int v5), (6, .int v6)]) hx hb dX8_sift_204 hl (by decide) rfl (fun ls hl => ?_)
          refine lv_goto (tgt := 84) hx hb dX8_sift_206 (by decide) ?_
          exact hk84 ((v4 + (1 : Int32))) v5 x_aM61 x_aM62 x_aM63 H locs ls h hP hD hS (lv_sub hl [1, 2, 3, 0, 4] rfl)
      · have h := g_f h cz
        refine lv_aload_n hx hb dX8_sift_136 rfl (lv_at hl 0 rfl) ?_
        refine va_get (D := (dC, dI)) (ci := 8) (v := .ref (ad 35)) (C := RX8) (T := TX8) (N := 78) hx hb hts ki8 hown hK hP 0 rfl rfl 63 (by decide) kf120 (fun _ h9 => h9) rfl dX8_sift_137 ?_
        refine lv_iload hx hb dX8_sift_140 (lv_at hl 5 rfl) ?_
        obtain ⟨g_114, h⟩ := g_n h
        refine va_zald (f := x_aM63) hx hb hK hP 35 4 rfl rfl g_114 dX8_sift_142 ?_
        refine lv_if_eq (tgt := 185) hx hb dX8_sift_143 (by decide) (fun cz => ?_) (fun cz => ?_)
        · have h := g_t h cz
          refine lv_iinc (v := (v6 + (1 : Int32))) (lv' := [(6, .int ((v6 + (1 : Int32)))), (0, .ref (ad 0)), (2, .int v2), (3, .int v3), (4, .int v4), (5, .int v5)]) hx hb dX8_sift_185 hl (k := 5) rfl rfl (by decide) rfl (fun ls hl => ?_)
          refine lv_goto (tgt := 127) hx hb dX8_sift_188 (by decide) ?_
          exact ih v2 v3 v4 x_aM63 k84 hk84 v5 ((v6 + (1 : Int32))) x_aM61 x_aM62 H locs ls h hP hD hS (lv_sub hl [1, 2, 3, 4, 5, 0] rfl)
        · have h := g_f h cz
          refine lv_aload_n hx hb dX8_sift_146 rfl (lv_at hl 0 rfl) ?_
          refine lv_iload hx hb dX8_sift_147 (lv_at hl 5 rfl) ?_
          refine lv_aload_n hx hb dX8_sift_149 rfl (lv_at hl 0 rfl) ?_
          refine va_get (D := (dC, dI)) (ci := 8) (v := .ref (ad 35)) (C := RX8) (T := TX8) (N := 78) hx hb hts ki8 hown hK hP 0 rfl rfl 63 (by decide) kf120 (fun _ h9 => h9) rfl dX8_sift_150 ?_
          obtain ⟨q153, e153, h⟩ := g_b h
          refine callVis (cc := cX8_sift) (w1 := zzM ad cy iM (us aM [(61, x_aM61), (62, x_aM62), (63, x_aM63)])) (As := [.int v6, .ref (ad 35)]) (rest := []) ⟨hx, hb, hml, hown, hts⟩ (c_M_isMet_stood l dC dI cy ad H.size N v6 iM ((us aM [(61, x_aM61), (62, x_aM62), (63, x_aM63)])) q153 e153) (cwV 2 hts (goodV m_ml_X8_385 m_im_X8_isMet m_se_X8_isMet m_in_X8 m_cd_X8_isMet) rfl rfl rfl (by decide +kernel) ⟨Nat.le_of_ble_eq_true rfl, Nat.le_of_ble_eq_true rfl⟩) hN hK hP hD hS hA rfl 0 rfl rfl rfl hl.1 rfl (Nat.le_of_ble_eq_true rfl) dX8_sift_153 ⟨Nat.zero_le _, Nat.zero_le _⟩ (fun H locs hP hD hS => ?_)
          refine lv_if_ne (tgt := 185) hx hb dX8_sift_156 (by decide) (fun cz => ?_) (fun cz => ?_)
          · have h := g_f h cz
            refine lv_iinc (v := (v6 + (1 : Int32))) (lv' := [(6, .int ((v6 + (1 : Int32)))), (0, .ref (ad 0)), (2, .int v2), (3, .int v3), (4, .int v4), (5, .int v5)]) hx hb dX8_sift_185 hl (k := 5) rfl rfl (by decide) rfl (fun ls hl => ?_)
            refine lv_goto (tgt := 127) hx hb dX8_sift_188 (by decide) ?_
            exact ih v2 v3 v4 x_aM63 k84 hk84 v5 ((v6 + (1 : Int32))) x_aM61 x_aM62 H locs ls h hP hD hS (lv_sub hl [1, 2, 3, 4, 5, 0] rfl)
          · have h := g_t h cz
            refine lv_aload_n hx hb dX8_sift_159 rfl (lv_at hl 0 rfl) ?_
            refine va_get (D := (dC, dI)) (ci := 8) (v := .ref (ad 34)) (C := RX8) (T := TX8) (N := 78) hx hb hts ki8 hown hK hP 0 rfl rfl 62 (by decide) kf117 (fun _ h9 => h9) rfl dX8_sift_160 ?_
            refine lv_iload hx hb dX8_sift_163 (lv_at hl 5 rfl) ?_
            refine lv_iconst (v := 0) hx hb dX8_sift_165 (by decide) ?_
            refine va_zast (f := x_aM62) hx hb hK hP hD hS 34 4 rfl rfl g_114 dX8_sift_166 (fun H locs hP hD hS => ?_)
            have hP : va_P (dC, dI) vwCl (zzM ad cy iM (us aM [(61, x_aM61), (62, (upd x_aM62 v6.toNatClampNeg (vp_nar .boolean ((0 : Int32))))), (63, x_aM63)])) H := Eq.mp (congrArg (fun w => va_P (dC, dI) vwCl w H) (stM_aM62 ad cy iM aM [(61, x_aM61), (62, x_aM62), (63, x_aM63)] ((upd x_aM62 v6.toNatClampNeg (vp_nar .boolean ((0 : Int32))))))) hP
            have hD : va_D A (zzM ad cy iM (us aM [(61, x_aM61), (62, (upd x_aM62 v6.toNatClampNeg (vp_nar .boolean ((0 : Int32))))), (63, x_aM63)])) := Eq.mp (congrArg (fun w => va_D A w) (stM_aM62 ad cy iM aM [(61, x_aM61), (62, x_aM62), (63, x_aM63)] ((upd x_aM62 v6.toNatClampNeg (vp_nar .boolean ((0 : Int32))))))) hD
            refine lv_iconst (v := 1) hx hb dX8_sift_167 (by decide) ?_
            refine lv_istore (lv' := [(5, .int ((1 : Int32))), (0, .ref (ad 0)), (2, .int v2), (3, .int v3), (4, .int v4), (6, .int v6)]) hx hb dX8_sift_168 hl (by decide) rfl (fun ls hl => ?_)
            refine lv_iload_n hx hb dX8_sift_170 rfl (lv_at hl 2 rfl) ?_
            refine lv_if_eq (tgt := 185) hx hb dX8_sift_171 (by decide) (fun cz => ?_) (fun cz => ?_)
            · have h := g_t h cz
              refine lv_iinc (v := (v6 + (1 : Int32))) (lv' := [(6, .int ((v6 + (1 : Int32)))), (5, .int ((1 : Int32))), (0, .ref (ad 0)), (2, .int v2), (3, .int v3), (4, .int v4)]) hx hb dX8_sift_185 hl (k := 5) rfl rfl (by decide) rfl (fun ls hl => ?_)
              refine lv_goto (tgt := 127) hx hb dX8_sift_188 (by decide) ?_
              exact ih v2 v3 v4 x_aM63 k84 hk84 ((1 : Int32)) ((v6 + (1 : Int32))) x_aM61 ((upd x_aM62 v6.toNatClampNeg (vp_nar .boolean ((0 : Int32))))) H locs ls h hP hD hS (lv_sub hl [2, 3, 4, 5, 1, 0] rfl)
            · have h := g_f h cz
              refine lv_aload_n hx hb dX8_sift_174 rfl (lv_at hl 1 rfl) ?_
              refine va_get (D := (dC, dI)) (ci := 8) (v := .ref (ad 33)) (C := RX8) (T := TX8) (N := 78) hx hb hts ki8 hown hK hP 0 rfl rfl 61 (by decide) kf114 (fun _ h9 => h9) rfl dX8_sift_175 ?_
              refine lv_iload hx hb dX8_sift_178 (lv_at hl 5 rfl) ?_
              refine lv_iload hx hb dX8_sift_180 (lv_at hl 4 rfl) ?_
              refine lv_iconst (v := 1) hx hb dX8_sift_182 (by decide) ?_
              refine lv_iadd hx hb dX8_sift_183 ?_
              refine va_iast (f := x_aM61) hx hb hK hP hD hS 33 0 rfl rfl g_114 dX8_sift_184 (fun H locs hP hD hS => ?_)
              have hP : va_P (dC, dI) vwCl (zzM ad cy iM (us aM [(61, (upd x_aM61 v6.toNatClampNeg ((v4 + (1 : Int32))))), (62, (upd x_aM62 v6.toNatClampNeg (vp_nar .boolean ((0 : Int32))))), (63, x_aM63)])) H := Eq.mp (congrArg (fun w => va_P (dC, dI) vwCl w H) (stM_aM61 ad cy iM aM [(61, x_aM61), (62, (upd x_aM62 v6.toNatClampNeg (vp_nar .boolean ((0 : Int32))))), (63, x_aM63)] ((upd x_aM61 v6.toNatClampNeg ((v4 + (1 : Int32))))))) hP
              have hD : va_D A (zzM ad cy iM (us aM [(61, (upd x_aM61 v6.toNatClampNeg ((v4 + (1 : Int32))))), (62, (upd x_aM62 v6.toNatClampNeg (vp_nar .boolean ((0 : Int32))))), (63, x_aM63)])) := Eq.mp (congrArg (fun w => va_D A w) (stM_aM61 ad cy iM aM [(61, x_aM61), (62, (upd x_aM62 v6.toNatClampNeg (vp_nar .boolean ((0 : Int32))))), (63, x_aM63)] ((upd x_aM61 v6.toNatClampNeg ((v4 + (1 : Int32))))))) hD
              refine lv_iinc (v := (v6 + (1 : Int32))) (lv' := [(6, .int ((v6 + (1 : Int32)))), (5, .int ((1 : Int32))), (0, .ref (ad 0)), (2, .int v2), (3, .int v3), (4, .int v4)]) hx hb dX8_sift_185 hl (k := 5) rfl rfl (by decide) rfl (fun ls hl => ?_)
              refine lv_goto (tgt := 127) hx hb dX8_sift_188 (by decide) ?_
              exact ih v2 v3 v4 x_aM63 k84 hk84 ((1 : Int32)) ((v6 + (1 : Int32))) ((upd x_aM61 v6.toNatClampNeg ((v4 + (1 : Int32))))) ((upd x_aM62 v6.toNatClampNeg (vp_nar .boolean ((0 : Int32))))) H locs ls h hP hD hS (lv_sub hl [2, 3, 4, 5, 1, 0] rfl)
  have B95 : ∀ (n : Nat) (v2 : Int32) (v3 : Int32) (v4 : Int32) (v5 : Int32) (x_aM61 : Nat → Int32) (x_aM62 : Nat → Int32) (k84 : Int32 → Int32 → (Nat → Int32) → (Nat → Int32) → (Nat → Int32) → Option (Int32 × Int32 × (Nat → Int32) × (Nat → Int32) × (Nat → Int32))) (hk84 : ∀ (v4' : Int32) (v5' : Int32) (x_aM61' : Nat → Int32) (x_aM62' : Nat → Int32) (x_aM63' : Nat → Int32) (H : Heap) (locs : List Loc) (ls : Array Slot), k84 v4' v5' x_aM61' x_aM62' x_aM63' = some q → va_P (dC, dI) vwCl (zzM ad cy iM (us aM [(61, x_aM61'), (62, x_aM62'), (63, x_aM63')])) H → va_D A (zzM ad cy iM (us aM [(61, x_aM61'), (62, x_aM62'), (63, x_aM63')])) → va_S A s.heap H locs → lv_has ls 7 [(0, .ref (ad 0)), (2, .int v2), (3, .int v3), (4, .int v4'), (5, .int v5')] → W p l e ({ frames := 3, cells := 0, slots := 0, locals := 74 } : Room) s m args below meth c H locs 0 0 QQ (F0 m 84 ls [])) (v6 : Int32) (x_aM63 : Nat → Int32) (H : Heap) (locs : List Loc) (ls : Array Slot), f_M_sift_95 N (iM 20) (iM 28) (iM 36) (iM 64) (iM 65) (aM 15) (aM 16) (aM 17) (aM 19) (aM 29) (aM 57) (aM 58) (aM 59) (aM 60) (aM 61) (aM 62) (aM 63) k84 v2 v3 v4 v5 x_aM61 x_aM62 n v6 x_aM63 = some q → va_P (dC, dI) vwCl (zzM ad cy iM (us aM [(61, x_aM61), (62, x_aM62), (63, x_aM63)])) H → va_D A (zzM ad cy iM (us aM [(61, x_aM61), (62, x_aM62), (63, x_aM63)])) → va_S A s.heap H locs → lv_has ls 7 [(0, .ref (ad 0)), (2, .int v2), (3, .int v3), (4, .int v4), (5, .int v5), (6, .int v6)] → W p l e ({ frames := 3, cells := 0, slots := 0, locals := 74 } : Room) s m args below meth c H locs 0 0 QQ (F0 m 95 ls []) := by
    intro n
    induction n with
    | zero =>
      intro v2 v3 v4 v5 x_aM61 x_aM62 k84 hk84 v6 x_aM63 H locs ls h hP hD hS hl
      rw [f_M_sift_95] at h
      cases h
    | succ n ih =>
      intro v2 v3 v4 v5 x_aM61 x_aM62 k84 hk84 v6 x_aM63 H locs ls h hP hD hS hl
      rw [f_M_sift_95] at h
      refine lv_iload hx hb dX8_sift_95 (lv_at hl 5 rfl) ?_
      refine lv_aload_n hx hb dX8_sift_97 rfl (lv_at hl 0 rfl) ?_
      obtain ⟨q98, e98, h⟩ := g_b h
      refine callVis (cc := cX8_sift) (w1 := zzM ad cy iM (us aM [(61, x_aM61), (62, x_aM62), (63, x_aM63)])) (As := []) (rest := [.int v6]) ⟨hx, hb, hml, hown, hts⟩ (c_M_types l dC dI cy ad H.size iM ((us aM [(61, x_aM61), (62, x_aM62), (63, x_aM63)])) q98 e98) (cwV 0 hts (goodV m_ml_X8_368 m_im_X8_types m_se_X8_types m_in_X8 m_cd_X8_types) rfl rfl rfl (by decide +kernel) ⟨Nat.le_of_ble_eq_true rfl, Nat.le_of_ble_eq_true rfl⟩) hN hK hP hD hS hA rfl 0 rfl rfl rfl hl.1 rfl (Nat.le_of_ble_eq_true rfl) dX8_sift_98 ⟨Nat.zero_le _, Nat.zero_le _⟩ (fun H locs hP hD hS => ?_)
      refine lv_icmp_ge (tgt := 124) hx hb dX8_sift_101 (by decide) (fun cz => ?_) (fun cz => ?_)
      · have h := g_t h cz
        refine lv_iconst (v := 0) hx hb dX8_sift_124 (by decide) ?_
        refine lv_istore (lv' := [(6, .int ((0 : Int32))), (0, .ref (ad 0)), (2, .int v2), (3, .int v3), (4, .int v4), (5, .int v5)]) hx hb dX8_sift_125 hl (by decide) rfl (fun ls hl => ?_)
        exact B127 N v2 v3 v4 x_aM63 k84 hk84 v5 ((0 : Int32)) x_aM61 x_aM62 H locs ls h hP hD hS (lv_sub hl [1, 2, 3, 4, 5, 0] rfl)
      · have h := g_f h cz
        refine lv_aload_n hx hb dX8_sift_104 rfl (lv_at hl 0 rfl) ?_
        refine va_get (D := (dC, dI)) (ci := 8) (v := .ref (ad 35)) (C := RX8) (T := TX8) (N := 78) hx hb hts ki8 hown hK hP 0 rfl rfl 63 (by decide) kf120 (fun _ h9 => h9) rfl dX8_sift_105 ?_
        refine lv_iload hx hb dX8_sift_108 (lv_at hl 5 rfl) ?_
        refine lv_aload_n hx hb dX8_sift_110 rfl (lv_at hl 0 rfl) ?_
        refine va_get (D := (dC, dI)) (ci := 8) (v := .ref (ad 34)) (C := RX8) (T := TX8) (N := 78) hx hb hts ki8 hown hK hP 0 rfl rfl 62 (by decide) kf117 (fun _ h9 => h9) rfl dX8_sift_111 ?_
        refine lv_iload hx hb dX8_sift_114 (lv_at hl 5 rfl) ?_
        obtain ⟨g_114, h⟩ := g_n h
        refine va_zald (f := x_aM62) hx hb hK hP 34 4 rfl rfl g_114 dX8_sift_116 ?_
        refine va_zast (f := x_aM63) hx hb hK hP hD hS 35 4 rfl rfl g_114 dX8_sift_117 (fun H locs hP hD hS => ?_)
        have hP : va_P (dC, dI) vwCl (zzM ad cy iM (us aM [(61, x_aM61), (62, x_aM62), (63, (upd x_aM63 v6.toNatClampNeg (vp_nar .boolean ((x_aM62 v6.toNatClampNeg)))))])) H := Eq.mp (congrArg (fun w => va_P (dC, dI) vwCl w H) (stM_aM63 ad cy iM aM [(61, x_aM61), (62, x_aM62), (63, x_aM63)] ((upd x_aM63 v6.toNatClampNeg (vp_nar .boolean ((x_aM62 v6.toNatClampNeg))))))) hP
        have hD : va_D A (zzM ad cy iM (us aM [(61, x_aM61), (62, x_aM62), (63, (upd x_aM63 v6.toNatClampNeg (vp_nar .boolean ((x_aM62 v6.toNatClampNeg)))))])) := Eq.mp (congrArg (fun w => va_D A w) (stM_aM63 ad cy iM aM [(61, x_aM61), (62, x_aM62), (63, x_aM63)] ((upd x_aM63 v6.toNatClampNeg (vp_nar .boolean ((x_aM62 v6.toNatClampNeg))))))) hD
        refine lv_iinc (v := (v6 + (1 : Int32))) (lv' := [(6, .int ((v6 + (1 : Int32)))), (0, .ref (ad 0)), (2, .int v2), (3, .int v3), (4, .int v4), (5, .int v5)]) hx hb dX8_sift_118 hl (k := 5) rfl rfl (by decide) rfl (fun ls hl => ?_)
        refine lv_goto (tgt := 95) hx hb dX8_sift_121 (by decide) ?_
        exact ih v2 v3 v4 v5 x_aM61 x_aM62 k84 hk84 ((v6 + (1 : Int32))) ((upd x_aM63 v6.toNatClampNeg (vp_nar .boolean ((x_aM62 v6.toNatClampNeg))))) H locs ls h hP hD hS (lv_sub hl [1, 2, 3, 4, 5, 0] rfl)
  have B84 : ∀ (n : Nat) (v2 : Int32) (v3 : Int32) (v4 : Int32) (v5 : Int32) (x_aM61 : Nat → Int32) (x_aM62 : Nat → Int32) (x_aM63 : Nat → Int32) (H : Heap) (locs : List Loc) (ls : Array Slot), f_M_sift_84 N (iM 20) (iM 28) (iM 36) (iM 64) (iM 65) (aM 15) (aM 16) (aM 17) (aM 19) (aM 29) (aM 57) (aM 58) (aM 59) (aM 60) (aM 61) (aM 62) (aM 63) v2 v3 n v4 v5 x_aM61 x_aM62 x_aM63 = some q → va_P (dC, dI) vwCl (zzM ad cy iM (us aM [(61, x_aM61), (62, x_aM62), (63, x_aM63)])) H → va_D A (zzM ad cy iM (us aM [(61, x_aM61), (62, x_aM62), (63, x_aM63)])) → va_S A s.heap H locs → lv_has ls 7 [(0, .ref (ad 0)), (2, .int v2), (3, .int v3), (4, .int v4), (5, .int v5)] → W p l e ({ frames := 3, cells := 0, slots := 0, locals := 74 } : Room) s m args below meth c H locs 0 0 QQ (F0 m 84 ls []) := by
    intro n
    induction n with
    | zero =>
      intro v2 v3 v4 v5 x_aM61 x_aM62 x_aM63 H locs ls h hP hD hS hl
      rw [f_M_sift_84] at h
      cases h
    | succ n ih =>
      intro v2 v3 v4 v5 x_aM61 x_aM62 x_aM63 H locs ls h hP hD hS hl
      rw [f_M_sift_84] at h
      refine lv_iload hx hb dX8_sift_84 (lv_at hl 4 rfl) ?_
      refine lv_if_eq (tgt := 209) hx hb dX8_sift_86 (by decide) (fun cz => ?_) (fun cz => ?_)
      · have h := g_t h cz
        refine lv_iload_n hx hb dX8_sift_209 rfl (lv_at hl 1 rfl) ?_
        refine lv_if_eq (tgt := 224) hx hb dX8_sift_210 (by decide) (fun cz => ?_) (fun cz => ?_)
        · have h := g_t h cz
          have h' := Option.some.inj h
          rw [← hQQ]
          exact W.vret hx hb hr (fun t ht hW => ⟨⟨(), rfl, trivial, by rw [← hWQ, ← h', ht]; exact hP, va_K.moved hW.alike hK⟩, hS.F ht⟩) hS.2.2 dX8_sift_224
        · have h := g_f h cz
          refine lv_aload_n hx hb dX8_sift_213 rfl (lv_at hl 0 rfl) ?_
          refine lv_iload_n hx hb dX8_sift_214 rfl (lv_at hl 2 rfl) ?_
          refine va_put (D := (dC, dI)) (ci := 8) (v := .int v3) (ty := .int) (C := RX8) (T := TX8) (N := 78) hx hb hts ki8 tyX8 tyX8_ok nmX8 hown hK hP hD hS 0 rfl rfl 64 (by decide) kf389 (fun _ h9 => h9) rfl (by decide +kernel) rfl rfl (Nat.le_of_ble_eq_true rfl) dX8_sift_215 (fun H locs hP hD hS => ?_)
          have hP : va_P (dC, dI) vwCl (zzM ad cy (us iM [(64, v3)]) (us aM [(61, x_aM61), (62, x_aM62), (63, x_aM63)])) H := Eq.mp (congrArg (fun w => va_P (dC, dI) vwCl w H) (sfM_iM64 ad cy iM (us aM [(61, x_aM61), (62, x_aM62), (63, x_aM63)]) v3)) hP
          have hD : va_D A (zzM ad cy (us iM [(64, v3)]) (us aM [(61, x_aM61), (62, x_aM62), (63, x_aM63)])) := Eq.mp (congrArg (fun w => va_D A w) (sfM_iM64 ad cy iM (us aM [(61, x_aM61), (62, x_aM62), (63, x_aM63)]) v3)) hD
          refine lv_aload_n hx hb dX8_sift_218 rfl (lv_at hl 0 rfl) ?_
          refine lv_iload hx hb dX8_sift_219 (lv_at hl 3 rfl) ?_
          refine va_put (D := (dC, dI)) (ci := 8) (v := .int v4) (ty := .int) (C := RX8) (T := TX8) (N := 78) hx hb hts ki8 tyX8 tyX8_ok nmX8 hown hK hP hD hS 0 rfl rfl 65 (by decide) kf392 (fun _ h9 => h9) rfl (by decide +kernel) rfl rfl (Nat.le_of_ble_eq_true rfl) dX8_sift_221 (fun H locs hP hD hS => ?_)
          have hP : va_P (dC, dI) vwCl (zzM ad cy (us iM [(64, v3), (65, v4)]) (us aM [(61, x_aM61), (62, x_aM62), (63, x_aM63)])) H := Eq.mp (congrArg (fun w => va_P (dC, dI) vwCl w H) (stM_iM65 ad cy iM (us aM [(61, x_aM61), (62, x_aM62), (63, x_aM63)]) [(64, v3)] v4)) hP
          have hD : va_D A (zzM ad cy (us iM [(64, v3), (65, v4)]) (us aM [(61, x_aM61), (62, x_aM62), (63, x_aM63)])) := Eq.mp (congrArg (fun w => va_D A w) (stM_iM65 ad cy iM (us aM [(61, x_aM61), (62, x_aM62), (63, x_aM63)]) [(64, v3)] v4)) hD
          have h' := Option.some.inj h
          rw [← hQQ]
          exact W.vret hx hb hr (fun t ht hW => ⟨⟨(), rfl, trivial, by rw [← hWQ, ← h', ht]; exact hP, va_K.moved hW.alike hK⟩, hS.F ht⟩) hS.2.2 dX8_sift_224
      · have h := g_f h cz
        refine lv_iconst (v := 0) hx hb dX8_sift_89 (by decide) ?_
        refine lv_istore (lv' := [(5, .int ((0 : Int32))), (0, .ref (ad 0)), (2, .int v2), (3, .int v3), (4, .int v4)]) hx hb dX8_sift_90 hl (by decide) rfl (fun ls hl => ?_)
        refine lv_iconst (v := 0) hx hb dX8_sift_92 (by decide) ?_
        refine lv_istore (lv' := [(6, .int ((0 : Int32))), (5, .int ((0 : Int32))), (0, .ref (ad 0)), (2, .int v2), (3, .int v3), (4, .int v4)]) hx hb dX8_sift_93 hl (by decide) rfl (fun ls hl => ?_)
        exact B95 N v2 v3 v4 ((0 : Int32)) x_aM61 x_aM62 (f_M_sift_84 N (iM 20) (iM 28) (iM 36) (iM 64) (iM 65) (aM 15) (aM 16) (aM 17) (aM 19) (aM 29) (aM 57) (aM 58) (aM 59) (aM 60) (aM 61) (aM 62) (aM 63) v2 v3 n) (ih v2 v3) ((0 : Int32)) x_aM63 H locs ls h hP hD hS (lv_sub hl [2, 3, 4, 5, 1, 0] rfl)
  have B5 : ∀ (n : Nat) (v1 : Int32) (v2 : Int32) (v3 : Int32) (v4 : Int32) (x_aM61 : Nat → Int32) (x_aM62 : Nat → Int32) (H : Heap) (locs : List Loc) (ls : Array Slot), f_M_sift_5 N (iM 20) (iM 28) (iM 36) (iM 64) (iM 65) (aM 15) (aM 16) (aM 17) (aM 19) (aM 29) (aM 57) (aM 58) (aM 59) (aM 60) (aM 61) (aM 62) (aM 63) v1 v2 n v3 v4 x_aM61 x_aM62 = some q → va_P (dC, dI) vwCl (zzM ad cy iM (us aM [(61, x_aM61), (62, x_aM62)])) H → va_D A (zzM ad cy iM (us aM [(61, x_aM61), (62, x_aM62)])) → va_S A s.heap H locs → lv_has ls 7 [(0, .ref (ad 0)), (1, .int v1), (2, .int v2), (3, .int v3), (4, .int v4)] → W p l e ({ frames := 3, cells := 0, slots := 0, locals := 74 } : Room) s m args below meth c H locs 0 0 QQ (F0 m 5 ls []) := by
    intro n
    induction n with
    | zero =>
      intro v1 v2 v3 v4 x_aM61 x_aM62 H locs ls h hP hD hS hl
      rw [f_M_sift_5] at h
      cases h
    | succ n ih =>
      intro v1 v2 v3 v4 x_aM61 x_aM62 H locs ls h hP hD hS hl
      rw [f_M_sift_5] at h
      refine lv_iload hx hb dX8_sift_5 (lv_at hl 4 rfl) ?_
      refine lv_aload_n hx hb dX8_sift_7 rfl (lv_at hl 0 rfl) ?_
      obtain ⟨q8, e8, h⟩ := g_b h
      refine callVis (cc := cX8_sift) (w1 := zzM ad cy iM (us aM [(61, x_aM61), (62, x_aM62)])) (As := []) (rest := [.int v4]) ⟨hx, hb, hml, hown, hts⟩ (c_M_types l dC dI cy ad H.size iM ((us aM [(61, x_aM61), (62, x_aM62)])) q8 e8) (cwV 0 hts (goodV m_ml_X8_368 m_im_X8_types m_se_X8_types m_in_X8 m_cd_X8_types) rfl rfl rfl (by decide +kernel) ⟨Nat.le_of_ble_eq_true rfl, Nat.le_of_ble_eq_true rfl⟩) hN hK hP hD hS hA rfl 0 rfl rfl rfl hl.1 rfl (Nat.le_of_ble_eq_true rfl) dX8_sift_8 ⟨Nat.zero_le _, Nat.zero_le _⟩ (fun H locs hP hD hS => ?_)
      refine lv_icmp_ge (tgt := 78) hx hb dX8_sift_11 (by decide) (fun cz => ?_) (fun cz => ?_)
      · have h := g_t h cz
        refine lv_iconst (v := 0) hx hb dX8_sift_78 (by decide) ?_
        refine lv_istore (lv' := [(4, .int ((0 : Int32))), (0, .ref (ad 0)), (1, .int v1), (2, .int v2), (3, .int v3)]) hx hb dX8_sift_79 hl (by decide) rfl (fun ls hl => ?_)
        refine lv_iconst (v := 1) hx hb dX8_sift_81 (by decide) ?_
        refine lv_istore (lv' := [(5, .int ((1 : Int32))), (4, .int ((0 : Int32))), (0, .ref (ad 0)), (1, .int v1), (2, .int v2), (3, .int v3)]) hx hb dX8_sift_82 hl (by decide) rfl (fun ls hl => ?_)
        exact B84 N v2 v3 ((0 : Int32)) ((1 : Int32)) x_aM61 x_aM62 (aM 63) H locs ls h hP hD hS (lv_sub hl [2, 4, 5, 1, 0] rfl)
      · have h := g_f h cz
        refine lv_aload_n hx hb dX8_sift_14 rfl (lv_at hl 0 rfl) ?_
        refine va_get (D := (dC, dI)) (ci := 8) (v := .ref (ad 34)) (C := RX8) (T := TX8) (N := 78) hx hb hts ki8 hown hK hP 0 rfl rfl 62 (by decide) kf117 (fun _ h9 => h9) rfl dX8_sift_15 ?_
        refine lv_iload hx hb dX8_sift_18 (lv_at hl 4 rfl) ?_
        refine lv_aload_n hx hb dX8_sift_20 rfl (lv_at hl 0 rfl) ?_
        refine lv_iload hx hb dX8_sift_21 (lv_at hl 4 rfl) ?_
        refine lv_iload_n hx hb dX8_sift_23 rfl (lv_at hl 1 rfl) ?_
        obtain ⟨q24, e24, h⟩ := g_b h
        refine callVis (cc := cX8_sift) (w1 := zzM ad cy iM (us aM [(61, x_aM61), (62, x_aM62)])) (As := [.int v4, .int v1]) (rest := [.int v4, .ref (ad 34)]) ⟨hx, hb, hml, hown, hts⟩ (c_M_isFair l dC dI cy ad H.size N v4 v1 iM ((us aM [(61, x_aM61), (62, x_aM62)])) q24 e24) (cwV 2 hts (goodV m_ml_X8_382 m_im_X8_isFair m_se_X8_isFair m_in_X8 m_cd_X8_isFair) rfl rfl rfl (by decide +kernel) ⟨Nat.le_of_ble_eq_true rfl, Nat.le_of_ble_eq_true rfl⟩) hN hK hP hD hS hA rfl 0 rfl rfl rfl hl.1 rfl (Nat.le_of_ble_eq_true rfl) dX8_sift_24 ⟨Nat.zero_le _, Nat.zero_le _⟩ (fun H locs hP hD hS => ?_)
        obtain ⟨g_28, h⟩ := g_n h
        refine va_zast (f := x_aM62) hx hb hK hP hD hS 34 4 rfl rfl g_28 dX8_sift_27 (fun H locs hP hD hS => ?_)
        have hP : va_P (dC, dI) vwCl (zzM ad cy iM (us aM [(61, x_aM61), (62, (upd x_aM62 v4.toNatClampNeg (vp_nar .boolean q24)))])) H := Eq.mp (congrArg (fun w => va_P (dC, dI) vwCl w H) (stM_aM62 ad cy iM aM [(61, x_aM61), (62, x_aM62)] ((upd x_aM62 v4.toNatClampNeg (vp_nar .boolean q24))))) hP
        have hD : va_D A (zzM ad cy iM (us aM [(61, x_aM61), (62, (upd x_aM62 v4.toNatClampNeg (vp_nar .boolean q24)))])) := Eq.mp (congrArg (fun w => va_D A w) (stM_aM62 ad cy iM aM [(61, x_aM61), (62, x_aM62)] ((upd x_aM62 v4.toNatClampNeg (vp_nar .boolean q24))))) hD
        refine lv_iload_n hx hb dX8_sift_28 rfl (lv_at hl 3 rfl) ?_
        refine lv_aload_n hx hb dX8_sift_29 rfl (lv_at hl 0 rfl) ?_
        refine va_get (D := (dC, dI)) (ci := 8) (v := .ref (ad 34)) (C := RX8) (T := TX8) (N := 78) hx hb hts ki8 hown hK hP 0 rfl rfl 62 (by decide) kf117 (fun _ h9 => h9) rfl dX8_sift_30 ?_
        refine lv_iload hx hb dX8_sift_33 (lv_at hl 4 rfl) ?_
        refine va_zald (f := (upd x_aM62 v4.toNatClampNeg (vp_nar .boolean q24))) hx hb hK hP 34 4 rfl rfl g_28 dX8_sift_35 ?_
        refine lv_if_eq (tgt := 43) hx hb dX8_sift_36 (by decide) (fun cz => ?_) (fun cz => ?_)
        · have h := g_t h cz
          refine lv_iconst (v := 0) hx hb dX8_sift_43 (by decide) ?_
          exact B44 v1 v2 v4 v3 ((0 : Int32)) x_aM61 ((upd x_aM62 v4.toNatClampNeg (vp_nar .boolean q24))) (f_M_sift_5 N (iM 20) (iM 28) (iM 36) (iM 64) (iM 65) (aM 15) (aM 16) (aM 17) (aM 19) (aM 29) (aM 57) (aM 58) (aM 59) (aM 60) (aM 61) (aM 62) (aM 63) v1 v2 n) (ih v1 v2) H locs ls h hP hD hS (lv_sub hl [0, 1, 2, 4] rfl)
        · have h := g_f h cz
          refine lv_iconst (v := 1) hx hb dX8_sift_39 (by decide) ?_
          refine lv_goto (tgt := 44) hx hb dX8_sift_40 (by decide) ?_
          exact B44 v1 v2 v4 v3 ((1 : Int32)) x_aM61 ((upd x_aM62 v4.toNatClampNeg (vp_nar .boolean q24))) (f_M_sift_5 N (iM 20) (iM 28) (iM 36) (iM 64) (iM 65) (aM 15) (aM 16) (aM 17) (aM 19) (aM 29) (aM 57) (aM 58) (aM 59) (aM 60) (aM 61) (aM 62) (aM 63) v1 v2 n) (ih v1 v2) H locs ls h hP hD hS (lv_sub hl [0, 1, 2, 4] rfl)
  intro H locs hP hD hS
  unfold f_M_sift at h
  refine lv_iconst (v := 0) hx hb dX8_sift_0 (by decide) ?_
  refine lv_istore_n (lv' := [(3, .int ((0 : Int32))), (0, .ref (ad 0)), (1, .int a1), (2, .int a2)]) hx hb dX8_sift_1 rfl hl (by decide) rfl (fun ls hl => ?_)
  refine lv_iconst (v := 0) hx hb dX8_sift_2 (by decide) ?_
  refine lv_istore (lv' := [(4, .int ((0 : Int32))), (3, .int ((0 : Int32))), (0, .ref (ad 0)), (1, .int a1), (2, .int a2)]) hx hb dX8_sift_3 hl (by decide) rfl (fun ls hl => ?_)
  exact B5 N a1 a2 ((0 : Int32)) ((0 : Int32)) (aM 61) (aM 62) H locs ls h hP hD hS (lv_sub hl [2, 3, 4, 1, 0] rfl)
