def f_M_kept_102 (N : Nat) (iM3 : Int32) (iM4 : Int32) (iM5 : Int32) (aM0 : Nat → Int32) (aM7 : Nat → Int32) (k6 : Int32 → Int32 → Int32 → Option Int32) (v1 : Int32) (v3 : Int32) (v4 : Int32) : Option Int32 := if v4 = 0 then (k6 ((v1 + (1 : Int32))) ((v3 + (1 : Int32))) ((v3 + (1 : Int32)))) else (some v1)
def f_M_kept_51 (N : Nat) (iM3 : Int32) (iM4 : Int32) (iM5 : Int32) (aM0 : Nat → Int32) (aM7 : Nat → Int32) (k6 : Int32 → Int32 → Int32 → Option Int32) (v1 : Int32) (v2 : Int32) (v3 : Int32) : Nat → Int32 → Int32 → Option Int32
  | 0, _, _ => none
  | n + 1, v4, v5 => if iM5 ≤ v5 then (f_M_kept_102 N iM3 iM4 iM5 aM0 aM7 k6 v1 v3 v4) else (if v4 = 0 then (f_M_kept_102 N iM3 iM4 iM5 aM0 aM7 k6 v1 v3 v4) else (if (iM4 + v5) < 0 ∨ 2000 ≤ ((iM4 + v5)).toNatClampNeg then none else (if (v2 + v5) < 0 ∨ 50 ≤ ((v2 + v5)).toNatClampNeg then none else (if (aM0 ((iM4 + v5)).toNatClampNeg) = (aM7 ((v2 + v5)).toNatClampNeg) then (f_M_kept_51 N iM3 iM4 iM5 aM0 aM7 k6 v1 v2 v3 n ((1 : Int32)) ((v5 + (1 : Int32)))) else (f_M_kept_51 N iM3 iM4 iM5 aM0 aM7 k6 v1 v2 v3 n ((0 : Int32)) ((v5 + (1 : Int32))))))))
def f_M_kept_6 (N : Nat) (iM3 : Int32) (iM4 : Int32) (iM5 : Int32) (aM0 : Nat → Int32) (aM7 : Nat → Int32)  : Nat → Int32 → Int32 → Int32 → Option Int32
  | 0, _, _, _ => none
  | n + 1, v1, v2, v3 => if (50 : Int32) ≤ v3 then (some (-1 : Int32)) else (if v3 < 0 ∨ 50 ≤ v3.toNatClampNeg then none else (if (aM7 v3.toNatClampNeg) = (32 : Int32) then (if iM3 = (1 : Int32) then (if (v3 - v2) = iM5 then (f_M_kept_51 N iM3 iM4 iM5 aM0 aM7 (f_M_kept_6 N iM3 iM4 iM5 aM0 aM7 n) v1 v2 v3 N ((1 : Int32)) ((0 : Int32))) else (f_M_kept_51 N iM3 iM4 iM5 aM0 aM7 (f_M_kept_6 N iM3 iM4 iM5 aM0 aM7 n) v1 v2 v3 N ((0 : Int32)) ((0 : Int32)))) else (f_M_kept_51 N iM3 iM4 iM5 aM0 aM7 (f_M_kept_6 N iM3 iM4 iM5 aM0 aM7 n) v1 v2 v3 N ((0 : Int32)) ((0 : Int32)))) else (f_M_kept_6 N iM3 iM4 iM5 aM0 aM7 n v1 v2 ((v3 + (1 : Int32))))))
def f_M_kept (N : Nat) (iM3 : Int32) (iM4 : Int32) (iM5 : Int32) (aM0 : Nat → Int32) (aM7 : Nat → Int32) : Option Int32 := f_M_kept_6 N iM3 iM4 iM5 aM0 aM7 N ((0 : Int32)) ((0 : Int32)) ((0 : Int32))
set_option maxHeartbeats 8000000 in
set_option maxRecDepth 100000 in
theorem c_M_kept (l : Launch) (dC : Nat → ClassId) (dI : Nat → Nat → Nat) (cy : Nat → ClassId) (ad : Nat → Nat) (sz : Nat) (N : Nat) (iM : Nat → Int32) (aM : Nat → Nat → Int32) (q : Int32) (h : f_M_kept N (iM 3) (iM 4) (iM 5) (aM 0) (aM 7) = some q) : Met l yX8_kept wsX8_kept ({ frames := 0, cells := 0, slots := 0, locals := 0 } : Room) (cP (dC, dI) cy [.ref (ad 0)] (zzM ad cy iM aM) sz) (cQi (dC, dI) cy q (zzM ad cy iM aM) (va_A (zzM ad cy iM aM) sz)) 0 0 (va_A (zzM ad cy iM aM) sz) := by
  refine Met.ofW (cc := cX8_kept) (maxL := 6) (ret := (some .int)) (by decide) rfl ?_
  intro p e s m args below meth c s₁ B hml hv
  obtain ⟨hav, hsz, hP, hK, hD0, hN⟩ := hv
  have hx := B.exec
  have hb := B.bytes
  have hr := B.returns
  have hts := atoms_spec (ws := wsX8_kept) B.pre
  have hown : s.vm.findClass RX8 = some m.cls := findClass_of_methodNamed B.named
  have hlocks := B.notSynchronized
  subst hsz
  have hD := hD0.self (sz := s.heap.size)
  generalize hAe : va_A (zzM ad cy iM aM) s.heap.size = A at hD ⊢
  have hA : ∀ q : Nat, s.heap.size ≤ q → A q := fun q h => by rw [← hAe]; exact Or.inr h
  have hS : va_S A s.heap s.heap [] := va_S.rf
  generalize hWQ : (zzM ad cy iM aM) = WQ
  generalize hQQ : MQ below (cQi (dC, dI) cy q WQ A) args s 0 0 A = QQ
  have hl := lv_entry ([.ref (ad 0)] : List Value) (n := 6) (Nat.le_of_ble_eq_true rfl)
  have hfr := lg_entry_eq m ([.ref (ad 0)] : List Value) 6
  rw [← hav] at hfr
  rw [hfr]
  clear hfr hav
  generalize (lg_sl ([.ref (ad 0)] : List Value) ++ List.replicate (6 - (lg_sl ([.ref (ad 0)] : List Value)).length) Slot.unset).toArray = ls at hl ⊢
  have hl : lv_has ls 6 [(0, .ref (ad 0))] := hl
  have kf172 := hts _ (List.mem_cons_of_mem _ m_fl_X8_172)
  have ki8 := (fun w h => List.mem_cons_of_mem _ (i_X8 w h) : ∀ w ∈ u_ws RX8 TX8 78, w ∈ wsX8_kept)
  have kf7 := hts _ (List.mem_cons_of_mem _ m_fl_X8_7)
  have kf169 := hts _ (List.mem_cons_of_mem _ m_fl_X8_169)
  have kf13 := hts _ (List.mem_cons_of_mem _ m_fl_X8_13)
  have kf178 := hts _ (List.mem_cons_of_mem _ m_fl_X8_178)
  refine (?_ : ∀ (H : Heap) (locs : List Loc), va_P (dC, dI) vwCl (zzM ad cy iM aM) H → va_D A (zzM ad cy iM aM) → va_S A s.heap H locs → W p l e ({ frames := 0, cells := 0, slots := 0, locals := 0 } : Room) s m args below meth c H locs 0 0 QQ (F0 m 0 ls [])) s.heap [] hP hD hS
  clear hP hD hS
  have B102 : ∀ (v1 : Int32) (v3 : Int32) (v4 : Int32) (k6 : Int32 → Int32 → Int32 → Option Int32) (hk6 : ∀ (v1' : Int32) (v2' : Int32) (v3' : Int32) (H : Heap) (locs : List Loc) (ls : Array Slot), k6 v1' v2' v3' = some q → va_P (dC, dI) vwCl (zzM ad cy iM aM) H → va_D A (zzM ad cy iM aM) → va_S A s.heap H locs → lv_has ls 6 [(0, .ref (ad 0)), (1, .int v1'), (2, .int v2'), (3, .int v3')] → W p l e ({ frames := 0, cells := 0, slots := 0, locals := 0 } : Room) s m args below meth c H locs 0 0 QQ (F0 m 6 ls [])) (H : Heap) (locs : List Loc) (ls : Array Slot), f_M_kept_102 N (iM 3) (iM 4) (iM 5) (aM 0) (aM 7) k6 v1 v3 v4 = some q → va_P (dC, dI) vwCl (zzM ad cy iM aM) H → va_D A (zzM ad cy iM aM) → va_S A s.heap H locs → lv_has ls 6 [(0, .ref (ad 0)), (1, .int v1), (3, .int v3), (4, .int v4)] → W p l e ({ frames := 0, cells := 0, slots := 0, locals := 0 } : Room) s m args below meth c H locs 0 0 QQ (F0 m 102 ls []) := by
    intro v1 v3 v4 k6 hk6 H locs ls h hP hD hS hl
    unfold f_M_kept_102 at h
    refine lv_iload hx hb dX8_kept_102 (lv_at hl 3 rfl) ?_
    refine lv_if_eq (tgt := 109) hx hb dX8_kept_104 (by decide) (fun cz => ?_) (fun cz => ?_)
    · have h := g_t h cz
      refine lv_iinc (v := (v1 + (1 : Int32))) (lv' := [(1, .int ((v1 + (1 : Int32)))), (0, .ref (ad 0)), (3, .int v3), (4, .int v4)]) hx hb dX8_kept_109 hl (k := 1) rfl rfl (by decide) rfl (fun ls hl => ?_)
      refine lv_iload_n hx hb dX8_kept_112 rfl (lv_at hl 2 rfl) ?_
      refine lv_iconst (v := 1) hx hb dX8_kept_113 (by decide) ?_
      refine lv_iadd hx hb dX8_kept_114 ?_
      refine lv_istore_n (lv' := [(2, .int ((v3 + (1 : Int32)))), (1, .int ((v1 + (1 : Int32)))), (0, .ref (ad 0)), (3, .int v3), (4, .int v4)]) hx hb dX8_kept_115 rfl hl (by decide) rfl (fun ls hl => ?_)
      refine lv_iinc (v := (v3 + (1 : Int32))) (lv' := [(3, .int ((v3 + (1 : Int32)))), (2, .int ((v3 + (1 : Int32)))), (1, .int ((v1 + (1 : Int32)))), (0, .ref (ad 0)), (4, .int v4)]) hx hb dX8_kept_116 hl (k := 3) rfl rfl (by decide) rfl (fun ls hl => ?_)
      refine lv_goto (tgt := 6) hx hb dX8_kept_119 (by decide) ?_
      exact hk6 ((v1 + (1 : Int32))) ((v3 + (1 : Int32))) ((v3 + (1 : Int32))) H locs ls h hP hD hS (lv_sub hl [3, 2, 1, 0] rfl)
    · have h := g_f h cz
      refine lv_iload_n hx hb dX8_kept_107 rfl (lv_at hl 1 rfl) ?_
      have h' := Option.some.inj h
      rw [← hQQ]
      exact W.iret (v := v1) hx hb hr (fun t ht hW => ⟨⟨v1, (), rfl, by rw [← h'], by rw [← hWQ, ht]; exact hP, va_K.moved hW.alike hK⟩, hS.F ht⟩) hS.2.2 dX8_kept_108
  have B51 : ∀ (n : Nat) (v1 : Int32) (v2 : Int32) (v3 : Int32) (k6 : Int32 → Int32 → Int32 → Option Int32) (hk6 : ∀ (v1' : Int32) (v2' : Int32) (v3' : Int32) (H : Heap) (locs : List Loc) (ls : Array Slot), k6 v1' v2' v3' = some q → va_P (dC, dI) vwCl (zzM ad cy iM aM) H → va_D A (zzM ad cy iM aM) → va_S A s.heap H locs → lv_has ls 6 [(0, .ref (ad 0)), (1, .int v1'), (2, .int v2'), (3, .int v3')] → W p l e ({ frames := 0, cells := 0, slots := 0, locals := 0 } : Room) s m args below meth c H locs 0 0 QQ (F0 m 6 ls [])) (v4 : Int32) (v5 : Int32) (H : Heap) (locs : List Loc) (ls : Array Slot), f_M_kept_51 N (iM 3) (iM 4) (iM 5) (aM 0) (aM 7) k6 v1 v2 v3 n v4 v5 = some q → va_P (dC, dI) vwCl (zzM ad cy iM aM) H → va_D A (zzM ad cy iM aM) → va_S A s.heap H locs → lv_has ls 6 [(0, .ref (ad 0)), (1, .int v1), (2, .int v2), (3, .int v3), (4, .int v4), (5, .int v5)] → W p l e ({ frames := 0, cells := 0, slots := 0, locals := 0 } : Room) s m args below meth c H locs 0 0 QQ (F0 m 51 ls []) := by
    intro n
    induction n with
    | zero =>
      intro v1 v2 v3 k6 hk6 v4 v5 H locs ls h hP hD hS hl
      rw [f_M_kept_51] at h
      cases h
    | succ n ih =>
      intro v1 v2 v3 k6 hk6 v4 v5 H locs ls h hP hD hS hl
      rw [f_M_kept_51] at h
      refine lv_iload hx hb dX8_kept_51 (lv_at hl 5 rfl) ?_
      refine lv_aload_n hx hb dX8_kept_53 rfl (lv_at hl 0 rfl) ?_
      refine va_get (D := (dC, dI)) (ci := 8) (v := .int (iM 5)) (C := RX8) (T := TX8) (N := 78) hx hb hts ki8 hown hK hP 0 rfl rfl 5 (by decide) kf172 (fun _ h9 => h9) rfl dX8_kept_54 ?_
      refine lv_icmp_ge (tgt := 102) hx hb dX8_kept_57 (by decide) (fun cz => ?_) (fun cz => ?_)
      · have h := g_t h cz
        exact B102 v1 v3 v4 k6 hk6 H locs ls h hP hD hS (lv_sub hl [0, 1, 3, 4] rfl)
      · have h := g_f h cz
        refine lv_iload hx hb dX8_kept_60 (lv_at hl 4 rfl) ?_
        refine lv_if_eq (tgt := 102) hx hb dX8_kept_62 (by decide) (fun cz => ?_) (fun cz => ?_)
        · have h := g_t h cz
          exact B102 v1 v3 v4 k6 hk6 H locs ls h hP hD hS (lv_sub hl [0, 1, 3, 4] rfl)
        · have h := g_f h cz
          refine lv_aload_n hx hb dX8_kept_65 rfl (lv_at hl 0 rfl) ?_
          refine va_get (D := (dC, dI)) (ci := 8) (v := .ref (ad 1)) (C := RX8) (T := TX8) (N := 78) hx hb hts ki8 hown hK hP 0 rfl rfl 0 (by decide) kf7 (fun _ h9 => h9) rfl dX8_kept_66 ?_
          refine lv_aload_n hx hb dX8_kept_69 rfl (lv_at hl 0 rfl) ?_
          refine va_get (D := (dC, dI)) (ci := 8) (v := .int (iM 4)) (C := RX8) (T := TX8) (N := 78) hx hb hts ki8 hown hK hP 0 rfl rfl 4 (by decide) kf169 (fun _ h9 => h9) rfl dX8_kept_70 ?_
          refine lv_iload hx hb dX8_kept_73 (lv_at hl 5 rfl) ?_
          refine lv_iadd hx hb dX8_kept_75 ?_
          obtain ⟨g_50, h⟩ := g_n h
          refine va_bald (f := (aM 0)) hx hb hK hP 1 1 rfl rfl g_50 dX8_kept_76 ?_
          refine lv_aload_n hx hb dX8_kept_77 rfl (lv_at hl 0 rfl) ?_
          refine va_get (D := (dC, dI)) (ci := 8) (v := .ref (ad 2)) (C := RX8) (T := TX8) (N := 78) hx hb hts ki8 hown hK hP 0 rfl rfl 7 (by decide) kf13 (fun _ h9 => h9) rfl dX8_kept_78 ?_
          refine lv_iload_n hx hb dX8_kept_81 rfl (lv_at hl 2 rfl) ?_
          refine lv_iload hx hb dX8_kept_82 (lv_at hl 5 rfl) ?_
          refine lv_iadd hx hb dX8_kept_84 ?_
          obtain ⟨g_51, h⟩ := g_n h
          refine va_cald (f := (aM 7)) hx hb hK hP 2 5 rfl rfl g_51 dX8_kept_85 ?_
          refine lv_icmp_ne (tgt := 93) hx hb dX8_kept_86 (by decide) (fun cz => ?_) (fun cz => ?_)
          · have h := g_f h cz
            refine lv_iconst (v := 0) hx hb dX8_kept_93 (by decide) ?_
            refine lv_istore (lv' := [(4, .int ((0 : Int32))), (0, .ref (ad 0)), (1, .int v1), (2, .int v2), (3, .int v3), (5, .int v5)]) hx hb dX8_kept_94 hl (by decide) rfl (fun ls hl => ?_)
            refine lv_iinc (v := (v5 + (1 : Int32))) (lv' := [(5, .int ((v5 + (1 : Int32)))), (4, .int ((0 : Int32))), (0, .ref (ad 0)), (1, .int v1), (2, .int v2), (3, .int v3)]) hx hb dX8_kept_96 hl (k := 5) rfl rfl (by decide) rfl (fun ls hl => ?_)
            refine lv_goto (tgt := 51) hx hb dX8_kept_99 (by decide) ?_
            exact ih v1 v2 v3 k6 hk6 ((0 : Int32)) ((v5 + (1 : Int32))) H locs ls h hP hD hS (lv_sub hl [2, 3, 4, 5, 1, 0] rfl)
          · have h := g_t h cz
            refine lv_iconst (v := 1) hx hb dX8_kept_89 (by decide) ?_
            refine lv_goto (tgt := 94) hx hb dX8_kept_90 (by decide) ?_
            refine lv_istore (lv' := [(4, .int ((1 : Int32))), (0, .ref (ad 0)), (1, .int v1), (2, .int v2), (3, .int v3), (5, .int v5)]) hx hb dX8_kept_94 hl (by decide) rfl (fun ls hl => ?_)
            refine lv_iinc (v := (v5 + (1 : Int32))) (lv' := [(5, .int ((v5 + (1 : Int32)))), (4, .int ((1 : Int32))), (0, .ref (ad 0)), (1, .int v1), (2, .int v2), (3, .int v3)]) hx hb dX8_kept_96 hl (k := 5) rfl rfl (by decide) rfl (fun ls hl => ?_)
            refine lv_goto (tgt := 51) hx hb dX8_kept_99 (by decide) ?_
            exact ih v1 v2 v3 k6 hk6 ((1 : Int32)) ((v5 + (1 : Int32))) H locs ls h hP hD hS (lv_sub hl [2, 3, 4, 5, 1, 0] rfl)
  have B6 : ∀ (n : Nat) (v1 : Int32) (v2 : Int32) (v3 : Int32) (H : Heap) (locs : List Loc) (ls : Array Slot), f_M_kept_6 N (iM 3) (iM 4) (iM 5) (aM 0) (aM 7) n v1 v2 v3 = some q → va_P (dC, dI) vwCl (zzM ad cy iM aM) H → va_D A (zzM ad cy iM aM) → va_S A s.heap H locs → lv_has ls 6 [(0, .ref (ad 0)), (1, .int v1), (2, .int v2), (3, .int v3)] → W p l e ({ frames := 0, cells := 0, slots := 0, locals := 0 } : Room) s m args below meth c H locs 0 0 QQ (F0 m 6 ls []) := by
    intro n
    induction n with
    | zero =>
      intro v1 v2 v3 H locs ls h hP hD hS hl
      rw [f_M_kept_6] at h
      cases h
    | succ n ih =>
      intro v1 v2 v3 H locs ls h hP hD hS hl
      rw [f_M_kept_6] at h
      refine lv_iload_n hx hb dX8_kept_6 rfl (lv_at hl 3 rfl) ?_
      refine lv_bipush (v := 50) hx hb dX8_kept_7 (by decide) ?_
      refine lv_icmp_ge (tgt := 122) hx hb dX8_kept_9 (by decide) (fun cz => ?_) (fun cz => ?_)
      · have h := g_t h cz
        refine lv_iconst (v := (-1)) hx hb dX8_kept_122 (by decide) ?_
        have h' := Option.some.inj h
        rw [← hQQ]
        exact W.iret (v := (-1 : Int32)) hx hb hr (fun t ht hW => ⟨⟨(-1 : Int32), (), rfl, by rw [← h'], by rw [← hWQ, ht]; exact hP, va_K.moved hW.alike hK⟩, hS.F ht⟩) hS.2.2 dX8_kept_123
      · have h := g_f h cz
        refine lv_aload_n hx hb dX8_kept_12 rfl (lv_at hl 0 rfl) ?_
        refine va_get (D := (dC, dI)) (ci := 8) (v := .ref (ad 2)) (C := RX8) (T := TX8) (N := 78) hx hb hts ki8 hown hK hP 0 rfl rfl 7 (by decide) kf13 (fun _ h9 => h9) rfl dX8_kept_13 ?_
        refine lv_iload_n hx hb dX8_kept_16 rfl (lv_at hl 3 rfl) ?_
        obtain ⟨g_52, h⟩ := g_n h
        refine va_cald (f := (aM 7)) hx hb hK hP 2 5 rfl rfl g_52 dX8_kept_17 ?_
        refine lv_bipush (v := 32) hx hb dX8_kept_18 (by decide) ?_
        refine lv_icmp_ne (tgt := 116) hx hb dX8_kept_20 (by decide) (fun cz => ?_) (fun cz => ?_)
        · have h := g_f h cz
          refine lv_iinc (v := (v3 + (1 : Int32))) (lv' := [(3, .int ((v3 + (1 : Int32)))), (0, .ref (ad 0)), (1, .int v1), (2, .int v2)]) hx hb dX8_kept_116 hl (k := 3) rfl rfl (by decide) rfl (fun ls hl => ?_)
          refine lv_goto (tgt := 6) hx hb dX8_kept_119 (by decide) ?_
          exact ih v1 v2 ((v3 + (1 : Int32))) H locs ls h hP hD hS (lv_sub hl [1, 2, 3, 0] rfl)
        · have h := g_t h cz
          refine lv_aload_n hx hb dX8_kept_23 rfl (lv_at hl 0 rfl) ?_
          refine va_get (D := (dC, dI)) (ci := 8) (v := .int (iM 3)) (C := RX8) (T := TX8) (N := 78) hx hb hts ki8 hown hK hP 0 rfl rfl 3 (by decide) kf178 (fun _ h9 => h9) rfl dX8_kept_24 ?_
          refine lv_iconst (v := 1) hx hb dX8_kept_27 (by decide) ?_
          refine lv_icmp_ne (tgt := 45) hx hb dX8_kept_28 (by decide) (fun cz => ?_) (fun cz => ?_)
          · have h := g_f h cz
            refine lv_iconst (v := 0) hx hb dX8_kept_45 (by decide) ?_
            refine lv_istore (lv' := [(4, .int ((0 : Int32))), (0, .ref (ad 0)), (1, .int v1), (2, .int v2), (3, .int v3)]) hx hb dX8_kept_46 hl (by decide) rfl (fun ls hl => ?_)
            refine lv_iconst (v := 0) hx hb dX8_kept_48 (by decide) ?_
            refine lv_istore (lv' := [(5, .int ((0 : Int32))), (4, .int ((0 : Int32))), (0, .ref (ad 0)), (1, .int v1), (2, .int v2), (3, .int v3)]) hx hb dX8_kept_49 hl (by decide) rfl (fun ls hl => ?_)
            exact B51 N v1 v2 v3 (f_M_kept_6 N (iM 3) (iM 4) (iM 5) (aM 0) (aM 7) n) ih ((0 : Int32)) ((0 : Int32)) H locs ls h hP hD hS (lv_sub hl [2, 3, 4, 5, 1, 0] rfl)
          · have h := g_t h cz
            refine lv_iload_n hx hb dX8_kept_31 rfl (lv_at hl 3 rfl) ?_
            refine lv_iload_n hx hb dX8_kept_32 rfl (lv_at hl 2 rfl) ?_
            refine lv_isub hx hb dX8_kept_33 ?_
            refine lv_aload_n hx hb dX8_kept_34 rfl (lv_at hl 0 rfl) ?_
            refine va_get (D := (dC, dI)) (ci := 8) (v := .int (iM 5)) (C := RX8) (T := TX8) (N := 78) hx hb hts ki8 hown hK hP 0 rfl rfl 5 (by decide) kf172 (fun _ h9 => h9) rfl dX8_kept_35 ?_
            refine lv_icmp_ne (tgt := 45) hx hb dX8_kept_38 (by decide) (fun cz => ?_) (fun cz => ?_)
            · have h := g_f h cz
              refine lv_iconst (v := 0) hx hb dX8_kept_45 (by decide) ?_
              refine lv_istore (lv' := [(4, .int ((0 : Int32))), (0, .ref (ad 0)), (1, .int v1), (2, .int v2), (3, .int v3)]) hx hb dX8_kept_46 hl (by decide) rfl (fun ls hl => ?_)
              refine lv_iconst (v := 0) hx hb dX8_kept_48 (by decide) ?_
              refine lv_istore (lv' := [(5, .int ((0 : Int32))), (4, .int ((0 : Int32))), (0, .ref (ad 0)), (1, .int v1), (2, .int v2), (3, .int v3)]) hx hb dX8_kept_49 hl (by decide) rfl (fun ls hl => ?_)
              exact B51 N v1 v2 v3 (f_M_kept_6 N (iM 3) (iM 4) (iM 5) (aM 0) (aM 7) n) ih ((0 : Int32)) ((0 : Int32)) H locs ls h hP hD hS (lv_sub hl [2, 3, 4, 5, 1, 0] rfl)
            · have h := g_t h cz
              refine lv_iconst (v := 1) hx hb dX8_kept_41 (by decide) ?_
              refine lv_goto (tgt := 46) hx hb dX8_kept_42 (by decide) ?_
              refine lv_istore (lv' := [(4, .int ((1 : Int32))), (0, .ref (ad 0)), (1, .int v1), (2, .int v2), (3, .int v3)]) hx hb dX8_kept_46 hl (by decide) rfl (fun ls hl => ?_)
              refine lv_iconst (v := 0) hx hb dX8_kept_48 (by decide) ?_
              refine lv_istore (lv' := [(5, .int ((0 : Int32))), (4, .int ((1 : Int32))), (0, .ref (ad 0)), (1, .int v1), (2, .int v2), (3, .int v3)]) hx hb dX8_kept_49 hl (by decide) rfl (fun ls hl => ?_)
              exact B51 N v1 v2 v3 (f_M_kept_6 N (iM 3) (iM 4) (iM 5) (aM 0) (aM 7) n) ih ((1 : Int32)) ((0 : Int32)) H locs ls h hP hD hS (lv_sub hl [2, 3, 4, 5, 1, 0] rfl)
  intro H locs hP hD hS
  unfold f_M_kept at h
  refine lv_iconst (v := 0) hx hb dX8_kept_0 (by decide) ?_
  refine lv_istore_n (lv' := [(1, .int ((0 : Int32))), (0, .ref (ad 0))]) hx hb dX8_kept_1 rfl hl (by decide) rfl (fun ls hl => ?_)
  refine lv_iconst (v := 0) hx hb dX8_kept_2 (by decide) ?_
  refine lv_istore_n (lv' := [(2, .int ((0 : Int32))), (1, .int ((0 : Int32))), (0, .ref (ad 0))]) hx hb dX8_kept_3 rfl hl (by decide) rfl (fun ls hl => ?_)
  refine lv_iconst (v := 0) hx hb dX8_kept_4 (by decide) ?_
  refine lv_istore_n (lv' := [(3, .int ((0 : Int32))), (2, .int ((0 : Int32))), (1, .int ((0 : Int32))), (0, .ref (ad 0))]) hx hb dX8_kept_5 rfl hl (by decide) rfl (fun ls hl => ?_)
  exact B6 N ((0 : Int32)) ((0 : Int32)) ((0 : Int32)) H locs ls h hP hD hS (lv_sub hl [3, 2, 1, 0] rfl)
