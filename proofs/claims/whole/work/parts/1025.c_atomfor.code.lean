def f_C_atomFor_3 (N : Nat) (iC9 : Int32) (aC5 : Nat → Int32) (aC6 : Nat → Int32) (aC7 : Nat → Int32) (aC8 : Nat → Int32) (v1 : Int32) (v2 : Int32) (v3 : Int32) (v4 : Int32) : Nat → Int32 → Option (Int32 × Int32 × (Nat → Int32) × (Nat → Int32) × (Nat → Int32) × (Nat → Int32))
  | 0, _ => none
  | n + 1, v5 => if iC9 ≤ v5 then (if iC9 < (9 : Int32) then (if iC9 < 0 ∨ 9 ≤ iC9.toNatClampNeg then none else (some (((iC9 + (1 : Int32)) - (1 : Int32)), (iC9 + (1 : Int32)), (upd aC5 iC9.toNatClampNeg v1), (upd aC6 iC9.toNatClampNeg v2), (upd aC7 iC9.toNatClampNeg v3), (upd aC8 iC9.toNatClampNeg v4)))) else (some ((-1 : Int32), iC9, aC5, aC6, aC7, aC8))) else (if v5 < 0 ∨ 9 ≤ v5.toNatClampNeg then none else (if (aC5 v5.toNatClampNeg) = v1 then (if (aC6 v5.toNatClampNeg) = v2 then (if (aC7 v5.toNatClampNeg) = v3 then (if (aC8 v5.toNatClampNeg) = v4 then (some (v5, iC9, aC5, aC6, aC7, aC8)) else (f_C_atomFor_3 N iC9 aC5 aC6 aC7 aC8 v1 v2 v3 v4 n ((v5 + (1 : Int32))))) else (f_C_atomFor_3 N iC9 aC5 aC6 aC7 aC8 v1 v2 v3 v4 n ((v5 + (1 : Int32))))) else (f_C_atomFor_3 N iC9 aC5 aC6 aC7 aC8 v1 v2 v3 v4 n ((v5 + (1 : Int32))))) else (f_C_atomFor_3 N iC9 aC5 aC6 aC7 aC8 v1 v2 v3 v4 n ((v5 + (1 : Int32))))))
def f_C_atomFor (N : Nat) (a1 : Int32) (a2 : Int32) (a3 : Int32) (a4 : Int32) (iC9 : Int32) (aC5 : Nat → Int32) (aC6 : Nat → Int32) (aC7 : Nat → Int32) (aC8 : Nat → Int32) : Option (Int32 × Int32 × (Nat → Int32) × (Nat → Int32) × (Nat → Int32) × (Nat → Int32)) := f_C_atomFor_3 N iC9 aC5 aC6 aC7 aC8 a1 a2 a3 a4 N ((0 : Int32))
set_option maxHeartbeats 8000000 in
set_option maxRecDepth 100000 in
theorem c_C_atomFor (l : Launch) (dC : Nat → ClassId) (dI : Nat → Nat → Nat) (cy : Nat → ClassId) (ad : Nat → Nat) (sz : Nat) (N : Nat) (a1 : Int32) (a2 : Int32) (a3 : Int32) (a4 : Int32) (iC : Nat → Int32) (aC : Nat → Nat → Int32) (q : Int32 × Int32 × (Nat → Int32) × (Nat → Int32) × (Nat → Int32) × (Nat → Int32)) (h : f_C_atomFor N a1 a2 a3 a4 (iC 9) (aC 5) (aC 6) (aC 7) (aC 8) = some q) : Met l yX1_atomFor wsX1_atomFor ({ frames := 0, cells := 0, slots := 0, locals := 0 } : Room) (cP (dC, dI) cy [.ref (ad 0), .int a1, .int a2, .int a3, .int a4] (zzC ad cy iC aC) sz) (cQi (dC, dI) cy q.1 (zzC ad cy (us iC [(9, q.2.1)]) (us aC [(5, q.2.2.1), (6, q.2.2.2.1), (7, q.2.2.2.2.1), (8, q.2.2.2.2.2)])) (va_A (zzC ad cy iC aC) sz)) 0 0 (va_A (zzC ad cy iC aC) sz) := by
  refine Met.ofW (cc := cX1_atomFor) (maxL := 6) (ret := (some .int)) (by decide) rfl ?_
  intro p e s m args below meth c s₁ B hml hv
  obtain ⟨hav, hsz, hP, hK, hD0, hN⟩ := hv
  have hx := B.exec
  have hb := B.bytes
  have hr := B.returns
  have hts := atoms_spec (ws := wsX1_atomFor) B.pre
  have hown : s.vm.findClass RX1 = some m.cls := findClass_of_methodNamed B.named
  have hlocks := B.notSynchronized
  subst hsz
  have hD := hD0.self (sz := s.heap.size)
  generalize hAe : va_A (zzC ad cy iC aC) s.heap.size = A at hD ⊢
  have hA : ∀ q : Nat, s.heap.size ≤ q → A q := fun q h => by rw [← hAe]; exact Or.inr h
  have hS : va_S A s.heap s.heap [] := va_S.rf
  generalize hWQ : (zzC ad cy (us iC [(9, q.2.1)]) (us aC [(5, q.2.2.1), (6, q.2.2.2.1), (7, q.2.2.2.2.1), (8, q.2.2.2.2.2)])) = WQ
  generalize hQQ : MQ below (cQi (dC, dI) cy q.1 WQ A) args s 0 0 A = QQ
  have hl := lv_entry ([.ref (ad 0), .int a1, .int a2, .int a3, .int a4] : List Value) (n := 6) (Nat.le_of_ble_eq_true rfl)
  have hfr := lg_entry_eq m ([.ref (ad 0), .int a1, .int a2, .int a3, .int a4] : List Value) 6
  rw [← hav] at hfr
  rw [hfr]
  clear hfr hav
  generalize (lg_sl ([.ref (ad 0), .int a1, .int a2, .int a3, .int a4] : List Value) ++ List.replicate (6 - (lg_sl ([.ref (ad 0), .int a1, .int a2, .int a3, .int a4] : List Value)).length) Slot.unset).toArray = ls at hl ⊢
  have hl : lv_has ls 6 [(0, .ref (ad 0)), (1, .int a1), (2, .int a2), (3, .int a3), (4, .int a4)] := hl
  have kf40 := hts _ (List.mem_cons_of_mem _ m_fl_X1_40)
  have ki1 := (fun w h => List.mem_cons_of_mem _ (i_X1 w h) : ∀ w ∈ u_ws RX1 TX1 10, w ∈ wsX1_atomFor)
  have kf24 := hts _ (List.mem_cons_of_mem _ m_fl_X1_24)
  have kf27 := hts _ (List.mem_cons_of_mem _ m_fl_X1_27)
  have kf30 := hts _ (List.mem_cons_of_mem _ m_fl_X1_30)
  have kf33 := hts _ (List.mem_cons_of_mem _ m_fl_X1_33)
  refine (?_ : ∀ (H : Heap) (locs : List Loc), va_P (dC, dI) vwCl (zzC ad cy iC aC) H → va_D A (zzC ad cy iC aC) → va_S A s.heap H locs → W p l e ({ frames := 0, cells := 0, slots := 0, locals := 0 } : Room) s m args below meth c H locs 0 0 QQ (F0 m 0 ls [])) s.heap [] hP hD hS
  clear hP hD hS
  have B3 : ∀ (n : Nat) (v1 : Int32) (v2 : Int32) (v3 : Int32) (v4 : Int32) (v5 : Int32) (H : Heap) (locs : List Loc) (ls : Array Slot), f_C_atomFor_3 N (iC 9) (aC 5) (aC 6) (aC 7) (aC 8) v1 v2 v3 v4 n v5 = some q → va_P (dC, dI) vwCl (zzC ad cy iC aC) H → va_D A (zzC ad cy iC aC) → va_S A s.heap H locs → lv_has ls 6 [(0, .ref (ad 0)), (1, .int v1), (2, .int v2), (3, .int v3), (4, .int v4), (5, .int v5)] → W p l e ({ frames := 0, cells := 0, slots := 0, locals := 0 } : Room) s m args below meth c H locs 0 0 QQ (F0 m 3 ls []) := by
    intro n
    induction n with
    | zero =>
      intro v1 v2 v3 v4 v5 H locs ls h hP hD hS hl
      rw [f_C_atomFor_3] at h
      cases h
    | succ n ih =>
      intro v1 v2 v3 v4 v5 H locs ls h hP hD hS hl
      rw [f_C_atomFor_3] at h
      refine lv_iload hx hb dX1_atomFor_3 (lv_at hl 5 rfl) ?_
      refine lv_aload_n hx hb dX1_atomFor_5 rfl (lv_at hl 0 rfl) ?_
      refine va_get (D := (dC, dI)) (ci := 1) (v := .int (iC 9)) (C := RX1) (T := TX1) (N := 10) hx hb hts ki1 hown hK hP 0 rfl rfl 9 (by decide) kf40 (fun _ h9 => h9) rfl dX1_atomFor_6 ?_
      refine lv_icmp_ge (tgt := 66) hx hb dX1_atomFor_9 (by decide) (fun cz => ?_) (fun cz => ?_)
      · have h := g_t h cz
        refine lv_aload_n hx hb dX1_atomFor_66 rfl (lv_at hl 0 rfl) ?_
        refine va_get (D := (dC, dI)) (ci := 1) (v := .int (iC 9)) (C := RX1) (T := TX1) (N := 10) hx hb hts ki1 hown hK hP 0 rfl rfl 9 (by decide) kf40 (fun _ h9 => h9) rfl dX1_atomFor_67 ?_
        refine lv_bipush (v := 9) hx hb dX1_atomFor_70 (by decide) ?_
        refine lv_icmp_lt (tgt := 77) hx hb dX1_atomFor_72 (by decide) (fun cz => ?_) (fun cz => ?_)
        · have h := g_t h cz
          refine lv_aload_n hx hb dX1_atomFor_77 rfl (lv_at hl 0 rfl) ?_
          refine va_get (D := (dC, dI)) (ci := 1) (v := .ref (ad 5)) (C := RX1) (T := TX1) (N := 10) hx hb hts ki1 hown hK hP 0 rfl rfl 5 (by decide) kf24 (fun _ h9 => h9) rfl dX1_atomFor_78 ?_
          refine lv_aload_n hx hb dX1_atomFor_81 rfl (lv_at hl 0 rfl) ?_
          refine va_get (D := (dC, dI)) (ci := 1) (v := .int (iC 9)) (C := RX1) (T := TX1) (N := 10) hx hb hts ki1 hown hK hP 0 rfl rfl 9 (by decide) kf40 (fun _ h9 => h9) rfl dX1_atomFor_82 ?_
          refine lv_iload_n hx hb dX1_atomFor_85 rfl (lv_at hl 1 rfl) ?_
          obtain ⟨g_10, h⟩ := g_n h
          refine va_iast (f := (aC 5)) hx hb hK hP hD hS 5 0 rfl rfl g_10 dX1_atomFor_86 (fun H locs hP hD hS => ?_)
          have hP : va_P (dC, dI) vwCl (zzC ad cy iC (us aC [(5, (upd (aC 5) (iC 9).toNatClampNeg v1))])) H := Eq.mp (congrArg (fun w => va_P (dC, dI) vwCl w H) (sfC_aC5 ad cy iC aC ((upd (aC 5) (iC 9).toNatClampNeg v1)))) hP
          have hD : va_D A (zzC ad cy iC (us aC [(5, (upd (aC 5) (iC 9).toNatClampNeg v1))])) := Eq.mp (congrArg (fun w => va_D A w) (sfC_aC5 ad cy iC aC ((upd (aC 5) (iC 9).toNatClampNeg v1)))) hD
          refine lv_aload_n hx hb dX1_atomFor_87 rfl (lv_at hl 0 rfl) ?_
          refine va_get (D := (dC, dI)) (ci := 1) (v := .ref (ad 6)) (C := RX1) (T := TX1) (N := 10) hx hb hts ki1 hown hK hP 0 rfl rfl 6 (by decide) kf27 (fun _ h9 => h9) rfl dX1_atomFor_88 ?_
          refine lv_aload_n hx hb dX1_atomFor_91 rfl (lv_at hl 0 rfl) ?_
          refine va_get (D := (dC, dI)) (ci := 1) (v := .int (iC 9)) (C := RX1) (T := TX1) (N := 10) hx hb hts ki1 hown hK hP 0 rfl rfl 9 (by decide) kf40 (fun _ h9 => h9) rfl dX1_atomFor_92 ?_
          refine lv_iload_n hx hb dX1_atomFor_95 rfl (lv_at hl 2 rfl) ?_
          refine va_iast (f := (aC 6)) hx hb hK hP hD hS 6 0 rfl rfl g_10 dX1_atomFor_96 (fun H locs hP hD hS => ?_)
          have hP : va_P (dC, dI) vwCl (zzC ad cy iC (us aC [(5, (upd (aC 5) (iC 9).toNatClampNeg v1)), (6, (upd (aC 6) (iC 9).toNatClampNeg v2))])) H := Eq.mp (congrArg (fun w => va_P (dC, dI) vwCl w H) (stC_aC6 ad cy iC aC [(5, (upd (aC 5) (iC 9).toNatClampNeg v1))] ((upd (aC 6) (iC 9).toNatClampNeg v2)))) hP
          have hD : va_D A (zzC ad cy iC (us aC [(5, (upd (aC 5) (iC 9).toNatClampNeg v1)), (6, (upd (aC 6) (iC 9).toNatClampNeg v2))])) := Eq.mp (congrArg (fun w => va_D A w) (stC_aC6 ad cy iC aC [(5, (upd (aC 5) (iC 9).toNatClampNeg v1))] ((upd (aC 6) (iC 9).toNatClampNeg v2)))) hD
          refine lv_aload_n hx hb dX1_atomFor_97 rfl (lv_at hl 0 rfl) ?_
          refine va_get (D := (dC, dI)) (ci := 1) (v := .ref (ad 7)) (C := RX1) (T := TX1) (N := 10) hx hb hts ki1 hown hK hP 0 rfl rfl 7 (by decide) kf30 (fun _ h9 => h9) rfl dX1_atomFor_98 ?_
          refine lv_aload_n hx hb dX1_atomFor_101 rfl (lv_at hl 0 rfl) ?_
          refine va_get (D := (dC, dI)) (ci := 1) (v := .int (iC 9)) (C := RX1) (T := TX1) (N := 10) hx hb hts ki1 hown hK hP 0 rfl rfl 9 (by decide) kf40 (fun _ h9 => h9) rfl dX1_atomFor_102 ?_
          refine lv_iload_n hx hb dX1_atomFor_105 rfl (lv_at hl 3 rfl) ?_
          refine va_iast (f := (aC 7)) hx hb hK hP hD hS 7 0 rfl rfl g_10 dX1_atomFor_106 (fun H locs hP hD hS => ?_)
          have hP : va_P (dC, dI) vwCl (zzC ad cy iC (us aC [(5, (upd (aC 5) (iC 9).toNatClampNeg v1)), (6, (upd (aC 6) (iC 9).toNatClampNeg v2)), (7, (upd (aC 7) (iC 9).toNatClampNeg v3))])) H := Eq.mp (congrArg (fun w => va_P (dC, dI) vwCl w H) (stC_aC7 ad cy iC aC [(5, (upd (aC 5) (iC 9).toNatClampNeg v1)), (6, (upd (aC 6) (iC 9).toNatClampNeg v2))] ((upd (aC 7) (iC 9).toNatClampNeg v3)))) hP
          have hD : va_D A (zzC ad cy iC (us aC [(5, (upd (aC 5) (iC 9).toNatClampNeg v1)), (6, (upd (aC 6) (iC 9).toNatClampNeg v2)), (7, (upd (aC 7) (iC 9).toNatClampNeg v3))])) := Eq.mp (congrArg (fun w => va_D A w) (stC_aC7 ad cy iC aC [(5, (upd (aC 5) (iC 9).toNatClampNeg v1)), (6, (upd (aC 6) (iC 9).toNatClampNeg v2))] ((upd (aC 7) (iC 9).toNatClampNeg v3)))) hD
          refine lv_aload_n hx hb dX1_atomFor_107 rfl (lv_at hl 0 rfl) ?_
          refine va_get (D := (dC, dI)) (ci := 1) (v := .ref (ad 8)) (C := RX1) (T := TX1) (N := 10) hx hb hts ki1 hown hK hP 0 rfl rfl 8 (by decide) kf33 (fun _ h9 => h9) rfl dX1_atomFor_108 ?_
          refine lv_aload_n hx hb dX1_atomFor_111 rfl (lv_at hl 0 rfl) ?_
          refine va_get (D := (dC, dI)) (ci := 1) (v := .int (iC 9)) (C := RX1) (T := TX1) (N := 10) hx hb hts ki1 hown hK hP 0 rfl rfl 9 (by decide) kf40 (fun _ h9 => h9) rfl dX1_atomFor_112 ?_
          refine lv_iload hx hb dX1_atomFor_115 (lv_at hl 4 rfl) ?_
          refine va_iast (f := (aC 8)) hx hb hK hP hD hS 8 0 rfl rfl g_10 dX1_atomFor_117 (fun H locs hP hD hS => ?_)
          have hP : va_P (dC, dI) vwCl (zzC ad cy iC (us aC [(5, (upd (aC 5) (iC 9).toNatClampNeg v1)), (6, (upd (aC 6) (iC 9).toNatClampNeg v2)), (7, (upd (aC 7) (iC 9).toNatClampNeg v3)), (8, (upd (aC 8) (iC 9).toNatClampNeg v4))])) H := Eq.mp (congrArg (fun w => va_P (dC, dI) vwCl w H) (stC_aC8 ad cy iC aC [(5, (upd (aC 5) (iC 9).toNatClampNeg v1)), (6, (upd (aC 6) (iC 9).toNatClampNeg v2)), (7, (upd (aC 7) (iC 9).toNatClampNeg v3))] ((upd (aC 8) (iC 9).toNatClampNeg v4)))) hP
          have hD : va_D A (zzC ad cy iC (us aC [(5, (upd (aC 5) (iC 9).toNatClampNeg v1)), (6, (upd (aC 6) (iC 9).toNatClampNeg v2)), (7, (upd (aC 7) (iC 9).toNatClampNeg v3)), (8, (upd (aC 8) (iC 9).toNatClampNeg v4))])) := Eq.mp (congrArg (fun w => va_D A w) (stC_aC8 ad cy iC aC [(5, (upd (aC 5) (iC 9).toNatClampNeg v1)), (6, (upd (aC 6) (iC 9).toNatClampNeg v2)), (7, (upd (aC 7) (iC 9).toNatClampNeg v3))] ((upd (aC 8) (iC 9).toNatClampNeg v4)))) hD
          refine lv_aload_n hx hb dX1_atomFor_118 rfl (lv_at hl 0 rfl) ?_
          refine lv_dup hx hb dX1_atomFor_119 rfl ?_
          refine va_get (D := (dC, dI)) (ci := 1) (v := .int (iC 9)) (C := RX1) (T := TX1) (N := 10) hx hb hts ki1 hown hK hP 0 rfl rfl 9 (by decide) kf40 (fun _ h9 => h9) rfl dX1_atomFor_120 ?_
          refine lv_iconst (v := 1) hx hb dX1_atomFor_123 (by decide) ?_
          refine lv_iadd hx hb dX1_atomFor_124 ?_
          refine va_put (D := (dC, dI)) (ci := 1) (v := .int (((iC 9) + (1 : Int32)))) (ty := .int) (C := RX1) (T := TX1) (N := 10) hx hb hts ki1 tyX1 tyX1_ok nmX1 hown hK hP hD hS 0 rfl rfl 9 (by decide) kf40 (fun _ h9 => h9) rfl (by decide +kernel) rfl rfl (Nat.le_of_ble_eq_true rfl) dX1_atomFor_125 (fun H locs hP hD hS => ?_)
          have hP : va_P (dC, dI) vwCl (zzC ad cy (us iC [(9, ((iC 9) + (1 : Int32)))]) (us aC [(5, (upd (aC 5) (iC 9).toNatClampNeg v1)), (6, (upd (aC 6) (iC 9).toNatClampNeg v2)), (7, (upd (aC 7) (iC 9).toNatClampNeg v3)), (8, (upd (aC 8) (iC 9).toNatClampNeg v4))])) H := Eq.mp (congrArg (fun w => va_P (dC, dI) vwCl w H) (sfC_iC9 ad cy iC (us aC [(5, (upd (aC 5) (iC 9).toNatClampNeg v1)), (6, (upd (aC 6) (iC 9).toNatClampNeg v2)), (7, (upd (aC 7) (iC 9).toNatClampNeg v3)), (8, (upd (aC 8) (iC 9).toNatClampNeg v4))]) (((iC 9) + (1 : Int32))))) hP
          have hD : va_D A (zzC ad cy (us iC [(9, ((iC 9) + (1 : Int32)))]) (us aC [(5, (upd (aC 5) (iC 9).toNatClampNeg v1)), (6, (upd (aC 6) (iC 9).toNatClampNeg v2)), (7, (upd (aC 7) (iC 9).toNatClampNeg v3)), (8, (upd (aC 8) (iC 9).toNatClampNeg v4))])) := Eq.mp (congrArg (fun w => va_D A w) (sfC_iC9 ad cy iC (us aC [(5, (upd (aC 5) (iC 9).toNatClampNeg v1)), (6, (upd (aC 6) (iC 9).toNatClampNeg v2)), (7, (upd (aC 7) (iC 9).toNatClampNeg v3)), (8, (upd (aC 8) (iC 9).toNatClampNeg v4))]) (((iC 9) + (1 : Int32))))) hD
          refine lv_aload_n hx hb dX1_atomFor_128 rfl (lv_at hl 0 rfl) ?_
          refine va_get (D := (dC, dI)) (ci := 1) (v := .int (((iC 9) + (1 : Int32)))) (C := RX1) (T := TX1) (N := 10) hx hb hts ki1 hown hK hP 0 rfl rfl 9 (by decide) kf40 (fun _ h9 => h9) rfl dX1_atomFor_129 ?_
          refine lv_iconst (v := 1) hx hb dX1_atomFor_132 (by decide) ?_
          refine lv_isub hx hb dX1_atomFor_133 ?_
          have h' := Option.some.inj h
          rw [← hQQ]
          exact W.iret (v := (((iC 9) + (1 : Int32)) - (1 : Int32))) hx hb hr (fun t ht hW => ⟨⟨(((iC 9) + (1 : Int32)) - (1 : Int32)), (), rfl, by rw [← h'], by rw [← hWQ, ← h', ht]; exact hP, va_K.moved hW.alike hK⟩, hS.F ht⟩) hS.2.2 dX1_atomFor_134
        · have h := g_f h cz
          refine lv_iconst (v := (-1)) hx hb dX1_atomFor_75 (by decide) ?_
          have h' := Option.some.inj h
          rw [← hQQ]
          exact W.iret (v := (-1 : Int32)) hx hb hr (fun t ht hW => ⟨⟨(-1 : Int32), (), rfl, by rw [← h'], by rw [← hWQ, ← h', ht]; exact hP, va_K.moved hW.alike hK⟩, hS.F ht⟩) hS.2.2 dX1_atomFor_76
      · have h := g_f h cz
        refine lv_aload_n hx hb dX1_atomFor_12 rfl (lv_at hl 0 rfl) ?_
        refine va_get (D := (dC, dI)) (ci := 1) (v := .ref (ad 5)) (C := RX1) (T := TX1) (N := 10) hx hb hts ki1 hown hK hP 0 rfl rfl 5 (by decide) kf24 (fun _ h9 => h9) rfl dX1_atomFor_13 ?_
        refine lv_iload hx hb dX1_atomFor_16 (lv_at hl 5 rfl) ?_
        obtain ⟨g_11, h⟩ := g_n h
        refine va_iald (f := (aC 5)) hx hb hK hP 5 0 rfl rfl g_11 dX1_atomFor_18 ?_
        refine lv_iload_n hx hb dX1_atomFor_19 rfl (lv_at hl 1 rfl) ?_
        refine lv_icmp_ne (tgt := 60) hx hb dX1_atomFor_20 (by decide) (fun cz => ?_) (fun cz => ?_)
        · have h := g_f h cz
          refine lv_iinc (v := (v5 + (1 : Int32))) (lv' := [(5, .int ((v5 + (1 : Int32)))), (0, .ref (ad 0)), (1, .int v1), (2, .int v2), (3, .int v3), (4, .int v4)]) hx hb dX1_atomFor_60 hl (k := 5) rfl rfl (by decide) rfl (fun ls hl => ?_)
          refine lv_goto (tgt := 3) hx hb dX1_atomFor_63 (by decide) ?_
          exact ih v1 v2 v3 v4 ((v5 + (1 : Int32))) H locs ls h hP hD hS (lv_sub hl [1, 2, 3, 4, 5, 0] rfl)
        · have h := g_t h cz
          refine lv_aload_n hx hb dX1_atomFor_23 rfl (lv_at hl 0 rfl) ?_
          refine va_get (D := (dC, dI)) (ci := 1) (v := .ref (ad 6)) (C := RX1) (T := TX1) (N := 10) hx hb hts ki1 hown hK hP 0 rfl rfl 6 (by decide) kf27 (fun _ h9 => h9) rfl dX1_atomFor_24 ?_
          refine lv_iload hx hb dX1_atomFor_27 (lv_at hl 5 rfl) ?_
          refine va_iald (f := (aC 6)) hx hb hK hP 6 0 rfl rfl g_11 dX1_atomFor_29 ?_
          refine lv_iload_n hx hb dX1_atomFor_30 rfl (lv_at hl 2 rfl) ?_
          refine lv_icmp_ne (tgt := 60) hx hb dX1_atomFor_31 (by decide) (fun cz => ?_) (fun cz => ?_)
          · have h := g_f h cz
            refine lv_iinc (v := (v5 + (1 : Int32))) (lv' := [(5, .int ((v5 + (1 : Int32)))), (0, .ref (ad 0)), (1, .int v1), (2, .int v2), (3, .int v3), (4, .int v4)]) hx hb dX1_atomFor_60 hl (k := 5) rfl rfl (by decide) rfl (fun ls hl => ?_)
            refine lv_goto (tgt := 3) hx hb dX1_atomFor_63 (by decide) ?_
            exact ih v1 v2 v3 v4 ((v5 + (1 : Int32))) H locs ls h hP hD hS (lv_sub hl [1, 2, 3, 4, 5, 0] rfl)
          · have h := g_t h cz
            refine lv_aload_n hx hb dX1_atomFor_34 rfl (lv_at hl 0 rfl) ?_
            refine va_get (D := (dC, dI)) (ci := 1) (v := .ref (ad 7)) (C := RX1) (T := TX1) (N := 10) hx hb hts ki1 hown hK hP 0 rfl rfl 7 (by decide) kf30 (fun _ h9 => h9) rfl dX1_atomFor_35 ?_
            refine lv_iload hx hb dX1_atomFor_38 (lv_at hl 5 rfl) ?_
            refine va_iald (f := (aC 7)) hx hb hK hP 7 0 rfl rfl g_11 dX1_atomFor_40 ?_
            refine lv_iload_n hx hb dX1_atomFor_41 rfl (lv_at hl 3 rfl) ?_
            refine lv_icmp_ne (tgt := 60) hx hb dX1_atomFor_42 (by decide) (fun cz => ?_) (fun cz => ?_)
            · have h := g_f h cz
              refine lv_iinc (v := (v5 + (1 : Int32))) (lv' := [(5, .int ((v5 + (1 : Int32)))), (0, .ref (ad 0)), (1, .int v1), (2, .int v2), (3, .int v3), (4, .int v4)]) hx hb dX1_atomFor_60 hl (k := 5) rfl rfl (by decide) rfl (fun ls hl => ?_)
              refine lv_goto (tgt := 3) hx hb dX1_atomFor_63 (by decide) ?_
              exact ih v1 v2 v3 v4 ((v5 + (1 : Int32))) H locs ls h hP hD hS (lv_sub hl [1, 2, 3, 4, 5, 0] rfl)
            · have h := g_t h cz
              refine lv_aload_n hx hb dX1_atomFor_45 rfl (lv_at hl 0 rfl) ?_
              refine va_get (D := (dC, dI)) (ci := 1) (v := .ref (ad 8)) (C := RX1) (T := TX1) (N := 10) hx hb hts ki1 hown hK hP 0 rfl rfl 8 (by decide) kf33 (fun _ h9 => h9) rfl dX1_atomFor_46 ?_
              refine lv_iload hx hb dX1_atomFor_49 (lv_at hl 5 rfl) ?_
              refine va_iald (f := (aC 8)) hx hb hK hP 8 0 rfl rfl g_11 dX1_atomFor_51 ?_
              refine lv_iload hx hb dX1_atomFor_52 (lv_at hl 4 rfl) ?_
              refine lv_icmp_ne (tgt := 60) hx hb dX1_atomFor_54 (by decide) (fun cz => ?_) (fun cz => ?_)
              · have h := g_f h cz
                refine lv_iinc (v := (v5 + (1 : Int32))) (lv' := [(5, .int ((v5 + (1 : Int32)))), (0, .ref (ad 0)), (1, .int v1), (2, .int v2), (3, .int v3), (4, .int v4)]) hx hb dX1_atomFor_60 hl (k := 5) rfl rfl (by decide) rfl (fun ls hl => ?_)
                refine lv_goto (tgt := 3) hx hb dX1_atomFor_63 (by decide) ?_
                exact ih v1 v2 v3 v4 ((v5 + (1 : Int32))) H locs ls h hP hD hS (lv_sub hl [1, 2, 3, 4, 5, 0] rfl)
              · have h := g_t h cz
                refine lv_iload hx hb dX1_atomFor_57 (lv_at hl 5 rfl) ?_
                have h' := Option.some.inj h
                rw [← hQQ]
                exact W.iret (v := v5) hx hb hr (fun t ht hW => ⟨⟨v5, (), rfl, by rw [← h'], by rw [← hWQ, ← h', ht]; exact hP, va_K.moved hW.alike hK⟩, hS.F ht⟩) hS.2.2 dX1_atomFor_59
  intro H locs hP hD hS
  unfold f_C_atomFor at h
  refine lv_iconst (v := 0) hx hb dX1_atomFor_0 (by decide) ?_
  refine lv_istore (lv' := [(5, .int ((0 : Int32))), (0, .ref (ad 0)), (1, .int a1), (2, .int a2), (3, .int a3), (4, .int a4)]) hx hb dX1_atomFor_1 hl (by decide) rfl (fun ls hl => ?_)
  exact B3 N a1 a2 a3 a4 ((0 : Int32)) H locs ls h hP hD hS (lv_sub hl [1, 2, 3, 4, 5, 0] rfl)
