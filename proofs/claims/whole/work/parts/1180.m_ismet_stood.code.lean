def f_M_isMet_stood_66 (N : Nat) (iM28 : Int32) (iM36 : Int32) (aM29 : Nat → Int32) (aM58 : Nat → Int32) (aM59 : Nat → Int32) (aM60 : Nat → Int32) (aM63 : Nat → Int32) (k5 : Int32 → Int32 → Option Int32) (v1 : Int32) (v4 : Int32) (v5 : Int32) : Nat → Int32 → Int32 → Option Int32
  | 0, _, _ => none
  | n + 1, v3, v6 => if iM36 ≤ v6 then (k5 v3 ((v4 + (1 : Int32)))) else (if v3 = 0 then (k5 v3 ((v4 + (1 : Int32)))) else (if v4 < 0 ∨ 6 ≤ v4.toNatClampNeg then none else (if (aM29 v4.toNatClampNeg) = 0 then (if ((v5 >>> (v6 &&& 31)) &&& (1 : Int32)) = 0 then (f_M_isMet_stood_66 N iM28 iM36 aM29 aM58 aM59 aM60 aM63 k5 v1 v4 v5 n ((1 : Int32)) ((v6 + (1 : Int32)))) else ((f_M_leastTo_stood N v1 v4 (((1 : Int32) <<< (v6 &&& 31))) iM36 aM58 aM59 aM63).bind fun q108 => (if q108 < 0 then (f_M_isMet_stood_66 N iM28 iM36 aM29 aM58 aM59 aM60 aM63 k5 v1 v4 v5 n ((0 : Int32)) ((v6 + (1 : Int32)))) else (f_M_isMet_stood_66 N iM28 iM36 aM29 aM58 aM59 aM60 aM63 k5 v1 v4 v5 n ((1 : Int32)) ((v6 + (1 : Int32))))))) else (k5 v3 ((v4 + (1 : Int32)))))))
def f_M_isMet_stood_5 (N : Nat) (iM28 : Int32) (iM36 : Int32) (aM29 : Nat → Int32) (aM58 : Nat → Int32) (aM59 : Nat → Int32) (aM60 : Nat → Int32) (aM63 : Nat → Int32) (v1 : Int32) : Nat → Int32 → Int32 → Option Int32
  | 0, _, _ => none
  | n + 1, v3, v4 => if iM28 ≤ v4 then (if vp_nar .boolean v3 = v3 then (some v3) else none) else (if v3 = 0 then (if vp_nar .boolean v3 = v3 then (some v3) else none) else (if v4 < 0 ∨ 3 ≤ v4.toNatClampNeg then none else (if v4 < 0 ∨ 6 ≤ v4.toNatClampNeg then none else (if (aM29 v4.toNatClampNeg) = 0 then (f_M_isMet_stood_66 N iM28 iM36 aM29 aM58 aM59 aM60 aM63 (f_M_isMet_stood_5 N iM28 iM36 aM29 aM58 aM59 aM60 aM63 v1 n) v1 v4 (((aM60 v4.toNatClampNeg) &&& v1)) N v3 ((0 : Int32))) else (if ((aM60 v4.toNatClampNeg) &&& v1) = 0 then (f_M_isMet_stood_66 N iM28 iM36 aM29 aM58 aM59 aM60 aM63 (f_M_isMet_stood_5 N iM28 iM36 aM29 aM58 aM59 aM60 aM63 v1 n) v1 v4 (((aM60 v4.toNatClampNeg) &&& v1)) N ((1 : Int32)) ((0 : Int32))) else ((f_M_leastTo_stood N v1 v4 (((aM60 v4.toNatClampNeg) &&& v1)) iM36 aM58 aM59 aM63).bind fun q51 => (if q51 < 0 then (f_M_isMet_stood_66 N iM28 iM36 aM29 aM58 aM59 aM60 aM63 (f_M_isMet_stood_5 N iM28 iM36 aM29 aM58 aM59 aM60 aM63 v1 n) v1 v4 (((aM60 v4.toNatClampNeg) &&& v1)) N ((0 : Int32)) ((0 : Int32))) else (f_M_isMet_stood_66 N iM28 iM36 aM29 aM58 aM59 aM60 aM63 (f_M_isMet_stood_5 N iM28 iM36 aM29 aM58 aM59 aM60 aM63 v1 n) v1 v4 (((aM60 v4.toNatClampNeg) &&& v1)) N ((1 : Int32)) ((0 : Int32))))))))))
def f_M_isMet_stood (N : Nat) (a1 : Int32) (iM28 : Int32) (iM36 : Int32) (aM29 : Nat → Int32) (aM58 : Nat → Int32) (aM59 : Nat → Int32) (aM60 : Nat → Int32) (aM63 : Nat → Int32) : Option Int32 := f_M_isMet_stood_5 N iM28 iM36 aM29 aM58 aM59 aM60 aM63 a1 N ((1 : Int32)) ((0 : Int32))
set_option maxHeartbeats 8000000 in
set_option maxRecDepth 100000 in
theorem c_M_isMet_stood (l : Launch) (dC : Nat → ClassId) (dI : Nat → Nat → Nat) (cy : Nat → ClassId) (ad : Nat → Nat) (sz : Nat) (N : Nat) (a1 : Int32) (iM : Nat → Int32) (aM : Nat → Nat → Int32) (q : Int32) (h : f_M_isMet_stood N a1 (iM 28) (iM 36) (aM 29) (aM 58) (aM 59) (aM 60) (aM 63) = some q) : Met l yX8_isMet wsX8_isMet ({ frames := 2, cells := 0, slots := 0, locals := 48 } : Room) (cP (dC, dI) cy [.ref (ad 0), .int a1, .ref (ad 35)] (zzM ad cy iM aM) sz) (cQi (dC, dI) cy q (zzM ad cy iM aM) (va_A (zzM ad cy iM aM) sz)) 0 0 (va_A (zzM ad cy iM aM) sz) := by
  refine Met.ofW (cc := cX8_isMet) (maxL := 7) (ret := (some .boolean)) (by decide) rfl ?_
  intro p e s m args below meth c s₁ B hml hv
  obtain ⟨hav, hsz, hP, hK, hD0, hN⟩ := hv
  have hx := B.exec
  have hb := B.bytes
  have hr := B.returns
  have hts := atoms_spec (ws := wsX8_isMet) B.pre
  have hown : s.vm.findClass RX8 = some m.cls := findClass_of_methodNamed B.named
  have hlocks := B.notSynchronized
  subst hsz
  have hD := hD0.self (sz := s.heap.size)
  generalize hAe : va_A (zzM ad cy iM aM) s.heap.size = A at hD ⊢
  have hA : ∀ q : Nat, s.heap.size ≤ q → A q := fun q h => by rw [← hAe]; exact Or.inr h
  have hS : va_S A s.heap s.heap [] := va_S.rf
  generalize hWQ : (zzM ad cy iM aM) = WQ
  generalize hQQ : MQ below (cQi (dC, dI) cy q WQ A) args s 0 0 A = QQ
  have hl := lv_entry ([.ref (ad 0), .int a1, .ref (ad 35)] : List Value) (n := 7) (Nat.le_of_ble_eq_true rfl)
  have hfr := lg_entry_eq m ([.ref (ad 0), .int a1, .ref (ad 35)] : List Value) 7
  rw [← hav] at hfr
  rw [hfr]
  clear hfr hav
  generalize (lg_sl ([.ref (ad 0), .int a1, .ref (ad 35)] : List Value) ++ List.replicate (7 - (lg_sl ([.ref (ad 0), .int a1, .ref (ad 35)] : List Value)).length) Slot.unset).toArray = ls at hl ⊢
  have hl : lv_has ls 7 [(0, .ref (ad 0)), (1, .int a1), (2, .ref (ad 35))] := hl
  have kf353 := hts _ (List.mem_cons_of_mem _ m_fl_X8_353)
  have ki8 := (fun w h => List.mem_cons_of_mem _ (i_X8 w h) : ∀ w ∈ u_ws RX8 TX8 78, w ∈ wsX8_isMet)
  have kf63 := hts _ (List.mem_cons_of_mem _ m_fl_X8_63)
  have kf350 := hts _ (List.mem_cons_of_mem _ m_fl_X8_350)
  have kf111 := hts _ (List.mem_cons_of_mem _ m_fl_X8_111)
  refine (?_ : ∀ (H : Heap) (locs : List Loc), va_P (dC, dI) vwCl (zzM ad cy iM aM) H → va_D A (zzM ad cy iM aM) → va_S A s.heap H locs → W p l e ({ frames := 2, cells := 0, slots := 0, locals := 48 } : Room) s m args below meth c H locs 0 0 QQ (F0 m 0 ls [])) s.heap [] hP hD hS
  clear hP hD hS
  have B66 : ∀ (n : Nat) (v1 : Int32) (v4 : Int32) (v5 : Int32) (k5 : Int32 → Int32 → Option Int32) (hk5 : ∀ (v3' : Int32) (v4' : Int32) (H : Heap) (locs : List Loc) (ls : Array Slot), k5 v3' v4' = some q → va_P (dC, dI) vwCl (zzM ad cy iM aM) H → va_D A (zzM ad cy iM aM) → va_S A s.heap H locs → lv_has ls 7 [(0, .ref (ad 0)), (1, .int v1), (2, .ref (ad 35)), (3, .int v3'), (4, .int v4')] → W p l e ({ frames := 2, cells := 0, slots := 0, locals := 48 } : Room) s m args below meth c H locs 0 0 QQ (F0 m 5 ls [])) (v3 : Int32) (v6 : Int32) (H : Heap) (locs : List Loc) (ls : Array Slot), f_M_isMet_stood_66 N (iM 28) (iM 36) (aM 29) (aM 58) (aM 59) (aM 60) (aM 63) k5 v1 v4 v5 n v3 v6 = some q → va_P (dC, dI) vwCl (zzM ad cy iM aM) H → va_D A (zzM ad cy iM aM) → va_S A s.heap H locs → lv_has ls 7 [(0, .ref (ad 0)), (1, .int v1), (2, .ref (ad 35)), (3, .int v3), (4, .int v4), (5, .int v5), (6, .int v6)] → W p l e ({ frames := 2, cells := 0, slots := 0, locals := 48 } : Room) s m args below meth c H locs 0 0 QQ (F0 m 66 ls []) := by
    intro n
    induction n with
    | zero =>
      intro v1 v4 v5 k5 hk5 v3 v6 H locs ls h hP hD hS hl
      rw [f_M_isMet_stood_66] at h
      cases h
    | succ n ih =>
      intro v1 v4 v5 k5 hk5 v3 v6 H locs ls h hP hD hS hl
      rw [f_M_isMet_stood_66] at h
      refine lv_iload hx hb dX8_isMet_66 (lv_at hl 6 rfl) ?_
      refine lv_aload_n hx hb dX8_isMet_68 rfl (lv_at hl 0 rfl) ?_
      refine va_get (D := (dC, dI)) (ci := 8) (v := .int (iM 36)) (C := RX8) (T := TX8) (N := 78) hx hb hts ki8 hown hK hP 0 rfl rfl 36 (by decide) kf353 (fun _ h9 => h9) rfl dX8_isMet_69 ?_
      refine lv_icmp_ge (tgt := 126) hx hb dX8_isMet_72 (by decide) (fun cz => ?_) (fun cz => ?_)
      · have h := g_t h cz
        refine lv_iinc (v := (v4 + (1 : Int32))) (lv' := [(4, .int ((v4 + (1 : Int32)))), (0, .ref (ad 0)), (1, .int v1), (2, .ref (ad 35)), (3, .int v3), (5, .int v5), (6, .int v6)]) hx hb dX8_isMet_126 hl (k := 4) rfl rfl (by decide) rfl (fun ls hl => ?_)
        refine lv_goto (tgt := 5) hx hb dX8_isMet_129 (by decide) ?_
        exact hk5 v3 ((v4 + (1 : Int32))) H locs ls h hP hD hS (lv_sub hl [1, 2, 3, 4, 0] rfl)
      · have h := g_f h cz
        refine lv_iload_n hx hb dX8_isMet_75 rfl (lv_at hl 3 rfl) ?_
        refine lv_if_eq (tgt := 126) hx hb dX8_isMet_76 (by decide) (fun cz => ?_) (fun cz => ?_)
        · have h := g_t h cz
          refine lv_iinc (v := (v4 + (1 : Int32))) (lv' := [(4, .int ((v4 + (1 : Int32)))), (0, .ref (ad 0)), (1, .int v1), (2, .ref (ad 35)), (3, .int v3), (5, .int v5), (6, .int v6)]) hx hb dX8_isMet_126 hl (k := 4) rfl rfl (by decide) rfl (fun ls hl => ?_)
          refine lv_goto (tgt := 5) hx hb dX8_isMet_129 (by decide) ?_
          exact hk5 v3 ((v4 + (1 : Int32))) H locs ls h hP hD hS (lv_sub hl [1, 2, 3, 4, 0] rfl)
        · have h := g_f h cz
          refine lv_aload_n hx hb dX8_isMet_79 rfl (lv_at hl 0 rfl) ?_
          refine va_get (D := (dC, dI)) (ci := 8) (v := .ref (ad 18)) (C := RX8) (T := TX8) (N := 78) hx hb hts ki8 hown hK hP 0 rfl rfl 29 (by decide) kf63 (fun _ h9 => h9) rfl dX8_isMet_80 ?_
          refine lv_iload hx hb dX8_isMet_83 (lv_at hl 4 rfl) ?_
          obtain ⟨g_109, h⟩ := g_n h
          refine va_zald (f := (aM 29)) hx hb hK hP 18 4 rfl rfl g_109 dX8_isMet_85 ?_
          refine lv_if_ne (tgt := 126) hx hb dX8_isMet_86 (by decide) (fun cz => ?_) (fun cz => ?_)
          · have h := g_f h cz
            refine lv_iinc (v := (v4 + (1 : Int32))) (lv' := [(4, .int ((v4 + (1 : Int32)))), (0, .ref (ad 0)), (1, .int v1), (2, .ref (ad 35)), (3, .int v3), (5, .int v5), (6, .int v6)]) hx hb dX8_isMet_126 hl (k := 4) rfl rfl (by decide) rfl (fun ls hl => ?_)
            refine lv_goto (tgt := 5) hx hb dX8_isMet_129 (by decide) ?_
            exact hk5 v3 ((v4 + (1 : Int32))) H locs ls h hP hD hS (lv_sub hl [1, 2, 3, 4, 0] rfl)
          · have h := g_t h cz
            refine lv_iload hx hb dX8_isMet_89 (lv_at hl 5 rfl) ?_
            refine lv_iload hx hb dX8_isMet_91 (lv_at hl 6 rfl) ?_
            refine lv_ishr hx hb dX8_isMet_93 ?_
            refine lv_iconst (v := 1) hx hb dX8_isMet_94 (by decide) ?_
            refine lv_iand hx hb dX8_isMet_95 ?_
            refine lv_if_eq (tgt := 114) hx hb dX8_isMet_96 (by decide) (fun cz => ?_) (fun cz => ?_)
            · have h := g_t h cz
              refine lv_iconst (v := 1) hx hb dX8_isMet_114 (by decide) ?_
              refine lv_goto (tgt := 119) hx hb dX8_isMet_115 (by decide) ?_
              refine lv_istore_n (lv' := [(3, .int ((1 : Int32))), (0, .ref (ad 0)), (1, .int v1), (2, .ref (ad 35)), (4, .int v4), (5, .int v5), (6, .int v6)]) hx hb dX8_isMet_119 rfl hl (by decide) rfl (fun ls hl => ?_)
              refine lv_iinc (v := (v6 + (1 : Int32))) (lv' := [(6, .int ((v6 + (1 : Int32)))), (3, .int ((1 : Int32))), (0, .ref (ad 0)), (1, .int v1), (2, .ref (ad 35)), (4, .int v4), (5, .int v5)]) hx hb dX8_isMet_120 hl (k := 6) rfl rfl (by decide) rfl (fun ls hl => ?_)
              refine lv_goto (tgt := 66) hx hb dX8_isMet_123 (by decide) ?_
              exact ih v1 v4 v5 k5 hk5 ((1 : Int32)) ((v6 + (1 : Int32))) H locs ls h hP hD hS (lv_sub hl [2, 3, 4, 1, 5, 6, 0] rfl)
            · have h := g_f h cz
              refine lv_aload_n hx hb dX8_isMet_99 rfl (lv_at hl 0 rfl) ?_
              refine lv_iload_n hx hb dX8_isMet_100 rfl (lv_at hl 1 rfl) ?_
              refine lv_iload hx hb dX8_isMet_101 (lv_at hl 4 rfl) ?_
              refine lv_iconst (v := 1) hx hb dX8_isMet_103 (by decide) ?_
              refine lv_iload hx hb dX8_isMet_104 (lv_at hl 6 rfl) ?_
              refine lv_ishl hx hb dX8_isMet_106 ?_
              refine lv_aload_n hx hb dX8_isMet_107 rfl (lv_at hl 2 rfl) ?_
              obtain ⟨q108, e108, h⟩ := g_b h
              refine callVis (cc := cX8_isMet) (w1 := zzM ad cy iM aM) (As := [.int v1, .int v4, .int (((1 : Int32) <<< (v6 &&& 31))), .ref (ad 35)]) (rest := []) ⟨hx, hb, hml, hown, hts⟩ (c_M_leastTo_stood l dC dI cy ad H.size N v1 v4 (((1 : Int32) <<< (v6 &&& 31))) iM aM q108 e108) (cwV 4 hts (goodV m_ml_X8_378 m_im_X8_leastTo m_se_X8_leastTo m_in_X8 m_cd_X8_leastTo) rfl rfl rfl (by decide +kernel) ⟨Nat.le_of_ble_eq_true rfl, Nat.le_of_ble_eq_true rfl⟩) hN hK hP hD hS hA rfl 0 rfl rfl rfl hl.1 rfl (Nat.le_of_ble_eq_true rfl) dX8_isMet_108 ⟨Nat.zero_le _, Nat.zero_le _⟩ (fun H locs hP hD hS => ?_)
              refine lv_if_lt (tgt := 118) hx hb dX8_isMet_111 (by decide) (fun cz => ?_) (fun cz => ?_)
              · have h := g_t h cz
                refine lv_iconst (v := 0) hx hb dX8_isMet_118 (by decide) ?_
                refine lv_istore_n (lv' := [(3, .int ((0 : Int32))), (0, .ref (ad 0)), (1, .int v1), (2, .ref (ad 35)), (4, .int v4), (5, .int v5), (6, .int v6)]) hx hb dX8_isMet_119 rfl hl (by decide) rfl (fun ls hl => ?_)
                refine lv_iinc (v := (v6 + (1 : Int32))) (lv' := [(6, .int ((v6 + (1 : Int32)))), (3, .int ((0 : Int32))), (0, .ref (ad 0)), (1, .int v1), (2, .ref (ad 35)), (4, .int v4), (5, .int v5)]) hx hb dX8_isMet_120 hl (k := 6) rfl rfl (by decide) rfl (fun ls hl => ?_)
                refine lv_goto (tgt := 66) hx hb dX8_isMet_123 (by decide) ?_
                exact ih v1 v4 v5 k5 hk5 ((0 : Int32)) ((v6 + (1 : Int32))) H locs ls h hP hD hS (lv_sub hl [2, 3, 4, 1, 5, 6, 0] rfl)
              · have h := g_f h cz
                refine lv_iconst (v := 1) hx hb dX8_isMet_114 (by decide) ?_
                refine lv_goto (tgt := 119) hx hb dX8_isMet_115 (by decide) ?_
                refine lv_istore_n (lv' := [(3, .int ((1 : Int32))), (0, .ref (ad 0)), (1, .int v1), (2, .ref (ad 35)), (4, .int v4), (5, .int v5), (6, .int v6)]) hx hb dX8_isMet_119 rfl hl (by decide) rfl (fun ls hl => ?_)
                refine lv_iinc (v := (v6 + (1 : Int32))) (lv' := [(6, .int ((v6 + (1 : Int32)))), (3, .int ((1 : Int32))), (0, .ref (ad 0)), (1, .int v1), (2, .ref (ad 35)), (4, .int v4), (5, .int v5)]) hx hb dX8_isMet_120 hl (k := 6) rfl rfl (by decide) rfl (fun ls hl => ?_)
                refine lv_goto (tgt := 66) hx hb dX8_isMet_123 (by decide) ?_
                exact ih v1 v4 v5 k5 hk5 ((1 : Int32)) ((v6 + (1 : Int32))) H locs ls h hP hD hS (lv_sub hl [2, 3, 4, 1, 5, 6, 0] rfl)
  have B5 : ∀ (n : Nat) (v1 : Int32) (v3 : Int32) (v4 : Int32) (H : Heap) (locs : List Loc) (ls : Array Slot), f_M_isMet_stood_5 N (iM 28) (iM 36) (aM 29) (aM 58) (aM 59) (aM 60) (aM 63) v1 n v3 v4 = some q → va_P (dC, dI) vwCl (zzM ad cy iM aM) H → va_D A (zzM ad cy iM aM) → va_S A s.heap H locs → lv_has ls 7 [(0, .ref (ad 0)), (1, .int v1), (2, .ref (ad 35)), (3, .int v3), (4, .int v4)] → W p l e ({ frames := 2, cells := 0, slots := 0, locals := 48 } : Room) s m args below meth c H locs 0 0 QQ (F0 m 5 ls []) := by
    intro n
    induction n with
    | zero =>
      intro v1 v3 v4 H locs ls h hP hD hS hl
      rw [f_M_isMet_stood_5] at h
      cases h
    | succ n ih =>
      intro v1 v3 v4 H locs ls h hP hD hS hl
      rw [f_M_isMet_stood_5] at h
      refine lv_iload hx hb dX8_isMet_5 (lv_at hl 4 rfl) ?_
      refine lv_aload_n hx hb dX8_isMet_7 rfl (lv_at hl 0 rfl) ?_
      refine va_get (D := (dC, dI)) (ci := 8) (v := .int (iM 28)) (C := RX8) (T := TX8) (N := 78) hx hb hts ki8 hown hK hP 0 rfl rfl 28 (by decide) kf350 (fun _ h9 => h9) rfl dX8_isMet_8 ?_
      refine lv_icmp_ge (tgt := 132) hx hb dX8_isMet_11 (by decide) (fun cz => ?_) (fun cz => ?_)
      · have h := g_t h cz
        refine lv_iload_n hx hb dX8_isMet_132 rfl (lv_at hl 3 rfl) ?_
        obtain ⟨gz, h⟩ := g_p h
        have h' := Option.some.inj h
        rw [← hQQ]
        exact W.zret (v := v3) hx hb hr (g_zr _ gz) (fun t ht hW => ⟨⟨v3, (), rfl, by rw [← h'], by rw [← hWQ, ht]; exact hP, va_K.moved hW.alike hK⟩, hS.F ht⟩) hS.2.2 dX8_isMet_133
      · have h := g_f h cz
        refine lv_iload_n hx hb dX8_isMet_14 rfl (lv_at hl 3 rfl) ?_
        refine lv_if_eq (tgt := 132) hx hb dX8_isMet_15 (by decide) (fun cz => ?_) (fun cz => ?_)
        · have h := g_t h cz
          refine lv_iload_n hx hb dX8_isMet_132 rfl (lv_at hl 3 rfl) ?_
          obtain ⟨gz, h⟩ := g_p h
          have h' := Option.some.inj h
          rw [← hQQ]
          exact W.zret (v := v3) hx hb hr (g_zr _ gz) (fun t ht hW => ⟨⟨v3, (), rfl, by rw [← h'], by rw [← hWQ, ht]; exact hP, va_K.moved hW.alike hK⟩, hS.F ht⟩) hS.2.2 dX8_isMet_133
        · have h := g_f h cz
          refine lv_aload_n hx hb dX8_isMet_18 rfl (lv_at hl 0 rfl) ?_
          refine va_get (D := (dC, dI)) (ci := 8) (v := .ref (ad 32)) (C := RX8) (T := TX8) (N := 78) hx hb hts ki8 hown hK hP 0 rfl rfl 60 (by decide) kf111 (fun _ h9 => h9) rfl dX8_isMet_19 ?_
          refine lv_iload hx hb dX8_isMet_22 (lv_at hl 4 rfl) ?_
          obtain ⟨g_17, h⟩ := g_n h
          refine va_iald (f := (aM 60)) hx hb hK hP 32 0 rfl rfl g_17 dX8_isMet_24 ?_
          refine lv_iload_n hx hb dX8_isMet_25 rfl (lv_at hl 1 rfl) ?_
          refine lv_iand hx hb dX8_isMet_26 ?_
          refine lv_istore (lv' := [(5, .int ((((aM 60) v4.toNatClampNeg) &&& v1))), (0, .ref (ad 0)), (1, .int v1), (2, .ref (ad 35)), (3, .int v3), (4, .int v4)]) hx hb dX8_isMet_27 hl (by decide) rfl (fun ls hl => ?_)
          refine lv_aload_n hx hb dX8_isMet_29 rfl (lv_at hl 1 rfl) ?_
          refine va_get (D := (dC, dI)) (ci := 8) (v := .ref (ad 18)) (C := RX8) (T := TX8) (N := 78) hx hb hts ki8 hown hK hP 0 rfl rfl 29 (by decide) kf63 (fun _ h9 => h9) rfl dX8_isMet_30 ?_
          refine lv_iload hx hb dX8_isMet_33 (lv_at hl 5 rfl) ?_
          obtain ⟨g_109, h⟩ := g_n h
          refine va_zald (f := (aM 29)) hx hb hK hP 18 4 rfl rfl g_109 dX8_isMet_35 ?_
          refine lv_if_eq (tgt := 63) hx hb dX8_isMet_36 (by decide) (fun cz => ?_) (fun cz => ?_)
          · have h := g_t h cz
            refine lv_iconst (v := 0) hx hb dX8_isMet_63 (by decide) ?_
            refine lv_istore (lv' := [(6, .int ((0 : Int32))), (5, .int ((((aM 60) v4.toNatClampNeg) &&& v1))), (0, .ref (ad 0)), (1, .int v1), (2, .ref (ad 35)), (3, .int v3), (4, .int v4)]) hx hb dX8_isMet_64 hl (by decide) rfl (fun ls hl => ?_)
            exact B66 N v1 v4 ((((aM 60) v4.toNatClampNeg) &&& v1)) (f_M_isMet_stood_5 N (iM 28) (iM 36) (aM 29) (aM 58) (aM 59) (aM 60) (aM 63) v1 n) (ih v1) v3 ((0 : Int32)) H locs ls h hP hD hS (lv_sub hl [2, 3, 4, 5, 6, 1, 0] rfl)
          · have h := g_f h cz
            refine lv_iload hx hb dX8_isMet_39 (lv_at hl 0 rfl) ?_
            refine lv_if_eq (tgt := 57) hx hb dX8_isMet_41 (by decide) (fun cz => ?_) (fun cz => ?_)
            · have h := g_t h cz
              refine lv_iconst (v := 1) hx hb dX8_isMet_57 (by decide) ?_
              refine lv_goto (tgt := 62) hx hb dX8_isMet_58 (by decide) ?_
              refine lv_istore_n (lv' := [(3, .int ((1 : Int32))), (5, .int ((((aM 60) v4.toNatClampNeg) &&& v1))), (0, .ref (ad 0)), (1, .int v1), (2, .ref (ad 35)), (4, .int v4)]) hx hb dX8_isMet_62 rfl hl (by decide) rfl (fun ls hl => ?_)
              refine lv_iconst (v := 0) hx hb dX8_isMet_63 (by decide) ?_
              refine lv_istore (lv' := [(6, .int ((0 : Int32))), (3, .int ((1 : Int32))), (5, .int ((((aM 60) v4.toNatClampNeg) &&& v1))), (0, .ref (ad 0)), (1, .int v1), (2, .ref (ad 35)), (4, .int v4)]) hx hb dX8_isMet_64 hl (by decide) rfl (fun ls hl => ?_)
              exact B66 N v1 v4 ((((aM 60) v4.toNatClampNeg) &&& v1)) (f_M_isMet_stood_5 N (iM 28) (iM 36) (aM 29) (aM 58) (aM 59) (aM 60) (aM 63) v1 n) (ih v1) ((1 : Int32)) ((0 : Int32)) H locs ls h hP hD hS (lv_sub hl [3, 4, 5, 1, 6, 2, 0] rfl)
            · have h := g_f h cz
              refine lv_aload_n hx hb dX8_isMet_44 rfl (lv_at hl 1 rfl) ?_
              refine lv_iload_n hx hb dX8_isMet_45 rfl (lv_at hl 2 rfl) ?_
              refine lv_iload hx hb dX8_isMet_46 (lv_at hl 5 rfl) ?_
              refine lv_iload hx hb dX8_isMet_48 (lv_at hl 0 rfl) ?_
              refine lv_aload_n hx hb dX8_isMet_50 rfl (lv_at hl 3 rfl) ?_
              obtain ⟨q51, e51, h⟩ := g_b h
              refine callVis (cc := cX8_isMet) (w1 := zzM ad cy iM aM) (As := [.int v1, .int v4, .int ((((aM 60) v4.toNatClampNeg) &&& v1)), .ref (ad 35)]) (rest := []) ⟨hx, hb, hml, hown, hts⟩ (c_M_leastTo_stood l dC dI cy ad H.size N v1 v4 ((((aM 60) v4.toNatClampNeg) &&& v1)) iM aM q51 e51) (cwV 4 hts (goodV m_ml_X8_378 m_im_X8_leastTo m_se_X8_leastTo m_in_X8 m_cd_X8_leastTo) rfl rfl rfl (by decide +kernel) ⟨Nat.le_of_ble_eq_true rfl, Nat.le_of_ble_eq_true rfl⟩) hN hK hP hD hS hA rfl 0 rfl rfl rfl hl.1 rfl (Nat.le_of_ble_eq_true rfl) dX8_isMet_51 ⟨Nat.zero_le _, Nat.zero_le _⟩ (fun H locs hP hD hS => ?_)
              refine lv_if_lt (tgt := 61) hx hb dX8_isMet_54 (by decide) (fun cz => ?_) (fun cz => ?_)
              · have h := g_t h cz
                refine lv_iconst (v := 0) hx hb dX8_isMet_61 (by decide) ?_
                refine lv_istore_n (lv' := [(3, .int ((0 : Int32))), (5, .int ((((aM 60) v4.toNatClampNeg) &&& v1))), (0, .ref (ad 0)), (1, .int v1), (2, .ref (ad 35)), (4, .int v4)]) hx hb dX8_isMet_62 rfl hl (by decide) rfl (fun ls hl => ?_)
                refine lv_iconst (v := 0) hx hb dX8_isMet_63 (by decide) ?_
                refine lv_istore (lv' := [(6, .int ((0 : Int32))), (3, .int ((0 : Int32))), (5, .int ((((aM 60) v4.toNatClampNeg) &&& v1))), (0, .ref (ad 0)), (1, .int v1), (2, .ref (ad 35)), (4, .int v4)]) hx hb dX8_isMet_64 hl (by decide) rfl (fun ls hl => ?_)
                exact B66 N v1 v4 ((((aM 60) v4.toNatClampNeg) &&& v1)) (f_M_isMet_stood_5 N (iM 28) (iM 36) (aM 29) (aM 58) (aM 59) (aM 60) (aM 63) v1 n) (ih v1) ((0 : Int32)) ((0 : Int32)) H locs ls h hP hD hS (lv_sub hl [3, 4, 5, 1, 6, 2, 0] rfl)
              · have h := g_f h cz
                refine lv_iconst (v := 1) hx hb dX8_isMet_57 (by decide) ?_
                refine lv_goto (tgt := 62) hx hb dX8_isMet_58 (by decide) ?_
                refine lv_istore_n (lv' := [(3, .int ((1 : Int32))), (5, .int ((((aM 60) v4.toNatClampNeg) &&& v1))), (0, .ref (ad 0)), (1, .int v1), (2, .ref (ad 35)), (4, .int v4)]) hx hb dX8_isMet_62 rfl hl (by decide) rfl (fun ls hl => ?_)
                refine lv_iconst (v := 0) hx hb dX8_isMet_63 (by decide) ?_
                refine lv_istore (lv' := [(6, .int ((0 : Int32))), (3, .int ((1 : Int32))), (5, .int ((((aM 60) v4.toNatClampNeg) &&& v1))), (0, .ref (ad 0)), (1, .int v1), (2, .ref (ad 35)), (4, .int v4)]) hx hb dX8_isMet_64 hl (by decide) rfl (fun ls hl => ?_)
                exact B66 N v1 v4 ((((aM 60) v4.toNatClampNeg) &&& v1)) (f_M_isMet_stood_5 N (iM 28) (iM 36) (aM 29) (aM 58) (aM 59) (aM 60) (aM 63) v1 n) (ih v1) ((1 : Int32)) ((0 : Int32)) H locs ls h hP hD hS (lv_sub hl [3, 4, 5, 1, 6, 2, 0] rfl)
  intro H locs hP hD hS
  unfold f_M_isMet_stood at h
  refine lv_iconst (v := 1) hx hb dX8_isMet_0 (by decide) ?_
  refine lv_istore_n (lv' := [(3, .int ((1 : Int32))), (0, .ref (ad 0)), (1, .int a1), (2, .ref (ad 35))]) hx hb dX8_isMet_1 rfl hl (by decide) rfl (fun ls hl => ?_)
  refine lv_iconst (v := 0) hx hb dX8_isMet_2 (by decide) ?_
  refine lv_istore (lv' := [(4, .int ((0 : Int32))), (3, .int ((1 : Int32))), (0, .ref (ad 0)), (1, .int a1), (2, .ref (ad 35))]) hx hb dX8_isMet_3 hl (by decide) rfl (fun ls hl => ?_)
  exact B5 N a1 ((1 : Int32)) ((0 : Int32)) H locs ls h hP hD hS (lv_sub hl [2, 3, 4, 1, 0] rfl)
