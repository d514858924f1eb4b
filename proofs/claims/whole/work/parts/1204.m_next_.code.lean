def f_M_next__95 (N : Nat) (iM25 : Int32) (iM36 : Int32) (iM37 : Int32) (aM33 : Nat → Int32) (aM62 : Nat → Int32) (k26 : Int32 → Int32 → Option Int32) (v1 : Int32) (v3 : Int32) (v4 : Int32) (v5 : Int32) : Option Int32 := if v5 = 0 then (k26 v3 ((v4 + (1 : Int32)))) else (if v3 = 0 then (some v4) else (k26 ((v3 + (-1 : Int32))) ((v4 + (1 : Int32)))))
def f_M_next__47 (N : Nat) (iM25 : Int32) (iM36 : Int32) (iM37 : Int32) (aM33 : Nat → Int32) (aM62 : Nat → Int32) (k26 : Int32 → Int32 → Option Int32) (v1 : Int32) (v3 : Int32) (v4 : Int32) : Nat → Int32 → Int32 → Option Int32
  | 0, _, _ => none
  | n + 1, v5, v6 => if iM25 ≤ v6 then (f_M_next__95 N iM25 iM36 iM37 aM33 aM62 k26 v1 v3 v4 v5) else (if v5 = 0 then (f_M_next__95 N iM25 iM36 iM37 aM33 aM62 k26 v1 v3 v4 v5) else ((f_M_isAbove N v1 v6 iM36 aM33 aM62).bind fun q65 => (if q65 = 0 then (f_M_next__47 N iM25 iM36 iM37 aM33 aM62 k26 v1 v3 v4 n ((1 : Int32)) ((v6 + (1 : Int32)))) else ((f_M_isAbove N v6 v4 iM36 aM33 aM62).bind fun q76 => (if q76 = 0 then (f_M_next__47 N iM25 iM36 iM37 aM33 aM62 k26 v1 v3 v4 n ((1 : Int32)) ((v6 + (1 : Int32)))) else (f_M_next__47 N iM25 iM36 iM37 aM33 aM62 k26 v1 v3 v4 n ((0 : Int32)) ((v6 + (1 : Int32)))))))))
def f_M_next__26 (N : Nat) (iM25 : Int32) (iM36 : Int32) (iM37 : Int32) (aM33 : Nat → Int32) (aM62 : Nat → Int32) (v1 : Int32) : Nat → Int32 → Int32 → Option Int32
  | 0, _, _ => none
  | n + 1, v3, v4 => if iM25 ≤ v4 then (some (-1 : Int32)) else ((f_M_isAbove N v1 v4 iM36 aM33 aM62).bind fun q39 => (f_M_next__47 N iM25 iM36 iM37 aM33 aM62 (f_M_next__26 N iM25 iM36 iM37 aM33 aM62 v1 n) v1 v3 v4 N q39 ((0 : Int32))))
def f_M_next_ (N : Nat) (a1 : Int32) (a2 : Int32) (iM25 : Int32) (iM36 : Int32) (iM37 : Int32) (aM33 : Nat → Int32) (aM62 : Nat → Int32) : Option Int32 := if iM37 = 0 then (some (-101 : Int32)) else ((f_M_noName a1 iM25).bind fun q12 => (if q12 = 0 then (f_M_next__26 N iM25 iM36 iM37 aM33 aM62 a1 N a2 ((0 : Int32))) else (some (-102 : Int32))))
set_option maxHeartbeats 8000000 in
set_option maxRecDepth 100000 in
theorem c_M_next_ (l : Launch) (dC : Nat → ClassId) (dI : Nat → Nat → Nat) (cy : Nat → ClassId) (ad : Nat → Nat) (sz : Nat) (N : Nat) (a1 : Int32) (a2 : Int32) (iM : Nat → Int32) (aM : Nat → Nat → Int32) (q : Int32) (h : f_M_next_ N a1 a2 (iM 25) (iM 36) (iM 37) (aM 33) (aM 62) = some q) : Met l yX8_next_ wsX8_next_ ({ frames := 3, cells := 0, slots := 0, locals := 70 } : Room) (cP (dC, dI) cy [.ref (ad 0), .int a1, .int a2] (zzM ad cy iM aM) sz) (cQi (dC, dI) cy q (zzM ad cy iM aM) (va_A (zzM ad cy iM aM) sz)) 0 0 (va_A (zzM ad cy iM aM) sz) := by
  refine Met.ofW (cc := cX8_next_) (maxL := 7) (ret := (some .int)) (by decide) rfl ?_
  intro p e s m args below meth c s₁ B hml hv
  obtain ⟨hav, hsz, hP, hK, hD0, hN⟩ := hv
  have hx := B.exec
  have hb := B.bytes
  have hr := B.returns
  have hts := atoms_spec (ws := wsX8_next_) B.pre
  have hown : s.vm.findClass RX8 = some m.cls := findClass_of_methodNamed B.named
  have hlocks := B.notSynchronized
  subst hsz
  have hD := hD0.self (sz := s.heap.size)
  generalize hAe : va_A (zzM ad cy iM aM) s.heap.size = A at hD ⊢
  have hA : ∀ q : Nat, s.heap.size ≤ q → A q := fun q h => by rw [← hAe]; exact Or.inr h
  have hS : va_S A s.heap s.heap [] := va_S.rf
  generalize hWQ : (zzM ad cy iM aM) = WQ
  generalize hQQ : MQ below (cQi (dC, dI) cy q WQ A) args s 0 0 A = QQ
  have hl := lv_entry ([.ref (ad 0), .int a1, .int a2] : List Value) (n := 7) (Nat.le_of_ble_eq_true rfl)
  have hfr := lg_entry_eq m ([.ref (ad 0), .int a1, .int a2] : List Value) 7
  rw [← hav] at hfr
  rw [hfr]
  clear hfr hav
  generalize (lg_sl ([.ref (ad 0), .int a1, .int a2] : List Value) ++ List.replicate (7 - (lg_sl ([.ref (ad 0), .int a1, .int a2] : List Value)).length) Slot.unset).toArray = ls at hl ⊢
  have hl : lv_has ls 7 [(0, .ref (ad 0)), (1, .int a1), (2, .int a2)] := hl
  have kf347 := hts _ (List.mem_cons_of_mem _ m_fl_X8_347)
  have ki8 := (fun w h => List.mem_cons_of_mem _ (i_X8 w h) : ∀ w ∈ u_ws RX8 TX8 78, w ∈ wsX8_next_)
  have kf356 := hts _ (List.mem_cons_of_mem _ m_fl_X8_356)
  refine (?_ : ∀ (H : Heap) (locs : List Loc), va_P (dC, dI) vwCl (zzM ad cy iM aM) H → va_D A (zzM ad cy iM aM) → va_S A s.heap H locs → W p l e ({ frames := 3, cells := 0, slots := 0, locals := 70 } : Room) s m args below meth c H locs 0 0 QQ (F0 m 0 ls [])) s.heap [] hP hD hS
  clear hP hD hS
  have B95 : ∀ (v1 : Int32) (v3 : Int32) (v4 : Int32) (v5 : Int32) (k26 : Int32 → Int32 → Option Int32) (hk26 : ∀ (v3' : Int32) (v4' : Int32) (H : Heap) (locs : List Loc) (ls : Array Slot), k26 v3' v4' = some q → va_P (dC, dI) vwCl (zzM ad cy iM aM) H → va_D A (zzM ad cy iM aM) → va_S A s.heap H locs → lv_has ls 7 [(0, .ref (ad 0)), (1, .int v1), (3, .int v3'), (4, .int v4')] → W p l e ({ frames := 3, cells := 0, slots := 0, locals := 70 } : Room) s m args below meth c H locs 0 0 QQ (F0 m 26 ls [])) (H : Heap) (locs : List Loc) (ls : Array Slot), f_M_next__95 N (iM 25) (iM 36) (iM 37) (aM 33) (aM 62) k26 v1 v3 v4 v5 = some q → va_P (dC, dI) vwCl (zzM ad cy iM aM) H → va_D A (zzM ad cy iM aM) → va_S A s.heap H locs → lv_has ls 7 [(0, .ref (ad 0)), (1, .int v1), (3, .int v3), (4, .int v4), (5, .int v5)] → W p l e ({ frames := 3, cells := 0, slots := 0, locals := 70 } : Room) s m args below meth c H locs 0 0 QQ (F0 m 95 ls []) := by
    intro v1 v3 v4 v5 k26 hk26 H locs ls h hP hD hS hl
    unfold f_M_next__95 at h
    refine lv_iload hx hb dX8_next__95 (lv_at hl 4 rfl) ?_
    refine lv_if_eq (tgt := 110) hx hb dX8_next__97 (by decide) (fun cz => ?_) (fun cz => ?_)
    · have h := g_t h cz
      refine lv_iinc (v := (v4 + (1 : Int32))) (lv' := [(4, .int ((v4 + (1 : Int32)))), (0, .ref (ad 0)), (1, .int v1), (3, .int v3), (5, .int v5)]) hx hb dX8_next__110 hl (k := 3) rfl rfl (by decide) rfl (fun ls hl => ?_)
      refine lv_goto (tgt := 26) hx hb dX8_next__113 (by decide) ?_
      exact hk26 v3 ((v4 + (1 : Int32))) H locs ls h hP hD hS (lv_sub hl [1, 2, 3, 0] rfl)
    · have h := g_f h cz
      refine lv_iload_n hx hb dX8_next__100 rfl (lv_at hl 2 rfl) ?_
      refine lv_if_ne (tgt := 107) hx hb dX8_next__101 (by decide) (fun cz => ?_) (fun cz => ?_)
      · have h := g_f h cz
        refine lv_iinc (v := (v3 + (-1 : Int32))) (lv' := [(3, .int ((v3 + (-1 : Int32)))), (0, .ref (ad 0)), (1, .int v1), (4, .int v4), (5, .int v5)]) hx hb dX8_next__107 hl (k := 2) rfl rfl (by decide) rfl (fun ls hl => ?_)
        refine lv_iinc (v := (v4 + (1 : Int32))) (lv' := [(4, .int ((v4 + (1 : Int32)))), (3, .int ((v3 + (-1 : Int32)))), (0, .ref (ad 0)), (1, .int v1), (5, .int v5)]) hx hb dX8_next__110 hl (k := 3) rfl rfl (by decide) rfl (fun ls hl => ?_)
        refine lv_goto (tgt := 26) hx hb dX8_next__113 (by decide) ?_
        exact hk26 ((v3 + (-1 : Int32))) ((v4 + (1 : Int32))) H locs ls h hP hD hS (lv_sub hl [2, 3, 1, 0] rfl)
      · have h := g_t h cz
        refine lv_iload hx hb dX8_next__104 (lv_at hl 3 rfl) ?_
        have h' := Option.some.inj h
        rw [← hQQ]
        exact W.iret (v := v4) hx hb hr (fun t ht hW => ⟨⟨v4, (), rfl, by rw [← h'], by rw [← hWQ, ht]; exact hP, va_K.moved hW.alike hK⟩, hS.F ht⟩) hS.2.2 dX8_next__106
  have B47 : ∀ (n : Nat) (v1 : Int32) (v3 : Int32) (v4 : Int32) (k26 : Int32 → Int32 → Option Int32) (hk26 : ∀ (v3' : Int32) (v4' : Int32) (H : Heap) (locs : List Loc) (ls : Array Slot), k26 v3' v4' = some q → va_P (dC, dI) vwCl (zzM ad cy iM aM) H → va_D A (zzM ad cy iM aM) → va_S A s.heap H locs → lv_has ls 7 [(0, .ref (ad 0)), (1, .int v1), (3, .int v3'), (4, .int v4')] → W p l e ({ frames := 3, cells := 0, slots := 0, locals := 70 } : Room) s m args below meth c H locs 0 0 QQ (F0 m 26 ls [])) (v5 : Int32) (v6 : Int32) (H : Heap) (locs : List Loc) (ls : Array Slot), f_M_next__47 N (iM 25) (iM 36) (iM 37) (aM 33) (aM 62) k26 v1 v3 v4 n v5 v6 = some q → va_P (dC, dI) vwCl (zzM ad cy iM aM) H → va_D A (zzM ad cy iM aM) → va_S A s.heap H locs → lv_has ls 7 [(0, .ref (ad 0)), (1, .int v1), (3, .int v3), (4, .int v4), (5, .int v5), (6, .int v6)] → W p l e ({ frames := 3, cells := 0, slots := 0, locals := 70 } : Room) s m args below meth c H locs 0 0 QQ (F0 m 47 ls []) := by
    intro n
    induction n with
    | zero =>
      intro v1 v3 v4 k26 hk26 v5 v6 H locs ls h hP hD hS hl
      rw [f_M_next__47] at h
      cases h
    | succ n ih =>
      intro v1 v3 v4 k26 hk26 v5 v6 H locs ls h hP hD hS hl
      rw [f_M_next__47] at h
      refine lv_iload hx hb dX8_next__47 (lv_at hl 5 rfl) ?_
      refine lv_aload_n hx hb dX8_next__49 rfl (lv_at hl 0 rfl) ?_
      refine va_get (D := (dC, dI)) (ci := 8) (v := .int (iM 25)) (C := RX8) (T := TX8) (N := 78) hx hb hts ki8 hown hK hP 0 rfl rfl 25 (by decide) kf347 (fun _ h9 => h9) rfl dX8_next__50 ?_
      refine lv_icmp_ge (tgt := 95) hx hb dX8_next__53 (by decide) (fun cz => ?_) (fun cz => ?_)
      · have h := g_t h cz
        exact B95 v1 v3 v4 v5 k26 hk26 H locs ls h hP hD hS (lv_sub hl [0, 1, 2, 3, 4] rfl)
      · have h := g_f h cz
        refine lv_iload hx hb dX8_next__56 (lv_at hl 4 rfl) ?_
        refine lv_if_eq (tgt := 95) hx hb dX8_next__58 (by decide) (fun cz => ?_) (fun cz => ?_)
        · have h := g_t h cz
          exact B95 v1 v3 v4 v5 k26 hk26 H locs ls h hP hD hS (lv_sub hl [0, 1, 2, 3, 4] rfl)
        · have h := g_f h cz
          refine lv_aload_n hx hb dX8_next__61 rfl (lv_at hl 0 rfl) ?_
          refine lv_iload_n hx hb dX8_next__62 rfl (lv_at hl 1 rfl) ?_
          refine lv_iload hx hb dX8_next__63 (lv_at hl 5 rfl) ?_
          obtain ⟨q65, e65, h⟩ := g_b h
          refine callVis (cc := cX8_next_) (w1 := zzM ad cy iM aM) (As := [.int v1, .int v6]) (rest := []) ⟨hx, hb, hml, hown, hts⟩ (c_M_isAbove l dC dI cy ad H.size N v1 v6 iM aM q65 e65) (cwV 2 hts (goodV m_ml_X8_429 m_im_X8_isAbove m_se_X8_isAbove m_in_X8 m_cd_X8_isAbove) rfl rfl rfl (by decide +kernel) ⟨Nat.le_of_ble_eq_true rfl, Nat.le_of_ble_eq_true rfl⟩) hN hK hP hD hS hA rfl 0 rfl rfl rfl hl.1 rfl (Nat.le_of_ble_eq_true rfl) dX8_next__65 ⟨Nat.zero_le _, Nat.zero_le _⟩ (fun H locs hP hD hS => ?_)
          refine lv_if_eq (tgt := 82) hx hb dX8_next__68 (by decide) (fun cz => ?_) (fun cz => ?_)
          · have h := g_t h cz
            refine lv_iconst (v := 1) hx hb dX8_next__82 (by decide) ?_
            refine lv_goto (tgt := 87) hx hb dX8_next__83 (by decide) ?_
            refine lv_istore (lv' := [(5, .int ((1 : Int32))), (0, .ref (ad 0)), (1, .int v1), (3, .int v3), (4, .int v4), (6, .int v6)]) hx hb dX8_next__87 hl (by decide) rfl (fun ls hl => ?_)
            refine lv_iinc (v := (v6 + (1 : Int32))) (lv' := [(6, .int ((v6 + (1 : Int32)))), (5, .int ((1 : Int32))), (0, .ref (ad 0)), (1, .int v1), (3, .int v3), (4, .int v4)]) hx hb dX8_next__89 hl (k := 5) rfl rfl (by decide) rfl (fun ls hl => ?_)
            refine lv_goto (tgt := 47) hx hb dX8_next__92 (by decide) ?_
            exact ih v1 v3 v4 k26 hk26 ((1 : Int32)) ((v6 + (1 : Int32))) H locs ls h hP hD hS (lv_sub hl [2, 3, 4, 5, 1, 0] rfl)
          · have h := g_f h cz
            refine lv_aload_n hx hb dX8_next__71 rfl (lv_at hl 0 rfl) ?_
            refine lv_iload hx hb dX8_next__72 (lv_at hl 5 rfl) ?_
            refine lv_iload hx hb dX8_next__74 (lv_at hl 3 rfl) ?_
            obtain ⟨q76, e76, h⟩ := g_b h
            refine callVis (cc := cX8_next_) (w1 := zzM ad cy iM aM) (As := [.int v6, .int v4]) (rest := []) ⟨hx, hb, hml, hown, hts⟩ (c_M_isAbove l dC dI cy ad H.size N v6 v4 iM aM q76 e76) (cwV 2 hts (goodV m_ml_X8_429 m_im_X8_isAbove m_se_X8_isAbove m_in_X8 m_cd_X8_isAbove) rfl rfl rfl (by decide +kernel) ⟨Nat.le_of_ble_eq_true rfl, Nat.le_of_ble_eq_true rfl⟩) hN hK hP hD hS hA rfl 0 rfl rfl rfl hl.1 rfl (Nat.le_of_ble_eq_true rfl) dX8_next__76 ⟨Nat.zero_le _, Nat.zero_le _⟩ (fun H locs hP hD hS => ?_)
            refine lv_if_ne (tgt := 86) hx hb dX8_next__79 (by decide) (fun cz => ?_) (fun cz => ?_)
            · have h := g_f h cz
              refine lv_iconst (v := 0) hx hb dX8_next__86 (by decide) ?_
              refine lv_istore (lv' := [(5, .int ((0 : Int32))), (0, .ref (ad 0)), (1, .int v1), (3, .int v3), (4, .int v4), (6, .int v6)]) hx hb dX8_next__87 hl (by decide) rfl (fun ls hl => ?_)
              refine lv_iinc (v := (v6 + (1 : Int32))) (lv' := [(6, .int ((v6 + (1 : Int32)))), (5, .int ((0 : Int32))), (0, .ref (ad 0)), (1, .int v1), (3, .int v3), (4, .int v4)]) hx hb dX8_next__89 hl (k := 5) rfl rfl (by decide) rfl (fun ls hl => ?_)
              refine lv_goto (tgt := 47) hx hb dX8_next__92 (by decide) ?_
              exact ih v1 v3 v4 k26 hk26 ((0 : Int32)) ((v6 + (1 : Int32))) H locs ls h hP hD hS (lv_sub hl [2, 3, 4, 5, 1, 0] rfl)
            · have h := g_t h cz
              refine lv_iconst (v := 1) hx hb dX8_next__82 (by decide) ?_
              refine lv_goto (tgt := 87) hx hb dX8_next__83 (by decide) ?_
              refine lv_istore (lv' := [(5, .int ((1 : Int32))), (0, .ref (ad 0)), (1, .int v1), (3, .int v3), (4, .int v4), (6, .int v6)]) hx hb dX8_next__87 hl (by decide) rfl (fun ls hl => ?_)
              refine lv_iinc (v := (v6 + (1 : Int32))) (lv' := [(6, .int ((v6 + (1 : Int32)))), (5, .int ((1 : Int32))), (0, .ref (ad 0)), (1, .int v1), (3, .int v3), (4, .int v4)]) hx hb dX8_next__89 hl (k := 5) rfl rfl (by decide) rfl (fun ls hl => ?_)
              refine lv_goto (tgt := 47) hx hb dX8_next__92 (by decide) ?_
              exact ih v1 v3 v4 k26 hk26 ((1 : Int32)) ((v6 + (1 : Int32))) H locs ls h hP hD hS (lv_sub hl [2, 3, 4, 5, 1, 0] rfl)
  have B26 : ∀ (n : Nat) (v1 : Int32) (v3 : Int32) (v4 : Int32) (H : Heap) (locs : List Loc) (ls : Array Slot), f_M_next__26 N (iM 25) (iM 36) (iM 37) (aM 33) (aM 62) v1 n v3 v4 = some q → va_P (dC, dI) vwCl (zzM ad cy iM aM) H → va_D A (zzM ad cy iM aM) → va_S A s.heap H locs → lv_has ls 7 [(0, .ref (ad 0)), (1, .int v1), (3, .int v3), (4, .int v4)] → W p l e ({ frames := 3, cells := 0, slots := 0, locals := 70 } : Room) s m args below meth c H locs 0 0 QQ (F0 m 26 ls []) := by
    intro n
    induction n with
    | zero =>
      intro v1 v3 v4 H locs ls h hP hD hS hl
      rw [f_M_next__26] at h
      cases h
    | succ n ih =>
      intro v1 v3 v4 H locs ls h hP hD hS hl
      rw [f_M_next__26] at h
      refine lv_iload hx hb dX8_next__26 (lv_at hl 3 rfl) ?_
      refine lv_aload_n hx hb dX8_next__28 rfl (lv_at hl 0 rfl) ?_
      refine va_get (D := (dC, dI)) (ci := 8) (v := .int (iM 25)) (C := RX8) (T := TX8) (N := 78) hx hb hts ki8 hown hK hP 0 rfl rfl 25 (by decide) kf347 (fun _ h9 => h9) rfl dX8_next__29 ?_
      refine lv_icmp_ge (tgt := 116) hx hb dX8_next__32 (by decide) (fun cz => ?_) (fun cz => ?_)
      · have h := g_t h cz
        refine lv_iconst (v := (-1)) hx hb dX8_next__116 (by decide) ?_
        have h' := Option.some.inj h
        rw [← hQQ]
        exact W.iret (v := (-1 : Int32)) hx hb hr (fun t ht hW => ⟨⟨(-1 : Int32), (), rfl, by rw [← h'], by rw [← hWQ, ht]; exact hP, va_K.moved hW.alike hK⟩, hS.F ht⟩) hS.2.2 dX8_next__117
      · have h := g_f h cz
        refine lv_aload_n hx hb dX8_next__35 rfl (lv_at hl 0 rfl) ?_
        refine lv_iload_n hx hb dX8_next__36 rfl (lv_at hl 1 rfl) ?_
        refine lv_iload hx hb dX8_next__37 (lv_at hl 3 rfl) ?_
        obtain ⟨q39, e39, h⟩ := g_b h
        refine callVis (cc := cX8_next_) (w1 := zzM ad cy iM aM) (As := [.int v1, .int v4]) (rest := []) ⟨hx, hb, hml, hown, hts⟩ (c_M_isAbove l dC dI cy ad H.size N v1 v4 iM aM q39 e39) (cwV 2 hts (goodV m_ml_X8_429 m_im_X8_isAbove m_se_X8_isAbove m_in_X8 m_cd_X8_isAbove) rfl rfl rfl (by decide +kernel) ⟨Nat.le_of_ble_eq_true rfl, Nat.le_of_ble_eq_true rfl⟩) hN hK hP hD hS hA rfl 0 rfl rfl rfl hl.1 rfl (Nat.le_of_ble_eq_true rfl) dX8_next__39 ⟨Nat.zero_le _, Nat.zero_le _⟩ (fun H locs hP hD hS => ?_)
        refine lv_istore (lv' := [(5, .int q39), (0, .ref (ad 0)), (1, .int v1), (3, .int v3), (4, .int v4)]) hx hb dX8_next__42 hl (by decide) rfl (fun ls hl => ?_)
        refine lv_iconst (v := 0) hx hb dX8_next__44 (by decide) ?_
        refine lv_istore (lv' := [(6, .int ((0 : Int32))), (5, .int q39), (0, .ref (ad 0)), (1, .int v1), (3, .int v3), (4, .int v4)]) hx hb dX8_next__45 hl (by decide) rfl (fun ls hl => ?_)
        exact B47 N v1 v3 v4 (f_M_next__26 N (iM 25) (iM 36) (iM 37) (aM 33) (aM 62) v1 n) (ih v1) q39 ((0 : Int32)) H locs ls h hP hD hS (lv_sub hl [2, 3, 4, 5, 1, 0] rfl)
  intro H locs hP hD hS
  unfold f_M_next_ at h
  refine lv_aload_n hx hb dX8_next__0 rfl (lv_at hl 0 rfl) ?_
  refine va_get (D := (dC, dI)) (ci := 8) (v := .int (iM 37)) (C := RX8) (T := TX8) (N := 78) hx hb hts ki8 hown hK hP 0 rfl rfl 37 (by decide) kf356 (fun _ h9 => h9) rfl dX8_next__1 ?_
  refine lv_if_ne (tgt := 10) hx hb dX8_next__4 (by decide) (fun cz => ?_) (fun cz => ?_)
  · have h := g_f h cz
    refine lv_aload_n hx hb dX8_next__10 rfl (lv_at hl 0 rfl) ?_
    refine lv_iload_n hx hb dX8_next__11 rfl (lv_at hl 1 rfl) ?_
    obtain ⟨q12, e12, h⟩ := g_b h
    refine callVis (cc := cX8_next_) (w1 := zzM ad cy iM aM) (As := [.int a1]) (rest := []) ⟨hx, hb, hml, hown, hts⟩ (c_M_noName l dC dI cy ad H.size a1 iM aM q12 e12) (cwV 1 hts (goodV m_ml_X8_423 m_im_X8_noName m_se_X8_noName m_in_X8 m_cd_X8_noName) rfl rfl rfl (by decide +kernel) ⟨Nat.le_of_ble_eq_true rfl, Nat.le_of_ble_eq_true rfl⟩) hN hK hP hD hS hA rfl 0 rfl rfl rfl hl.1 rfl (Nat.le_of_ble_eq_true rfl) dX8_next__12 ⟨Nat.zero_le _, Nat.zero_le _⟩ (fun H locs hP hD hS => ?_)
    refine lv_if_eq (tgt := 21) hx hb dX8_next__15 (by decide) (fun cz => ?_) (fun cz => ?_)
    · have h := g_t h cz
      refine lv_iload_n hx hb dX8_next__21 rfl (lv_at hl 2 rfl) ?_
      refine lv_istore_n (lv' := [(3, .int a2), (0, .ref (ad 0)), (1, .int a1), (2, .int a2)]) hx hb dX8_next__22 rfl hl (by decide) rfl (fun ls hl => ?_)
      refine lv_iconst (v := 0) hx hb dX8_next__23 (by decide) ?_
      refine lv_istore (lv' := [(4, .int ((0 : Int32))), (3, .int a2), (0, .ref (ad 0)), (1, .int a1), (2, .int a2)]) hx hb dX8_next__24 hl (by decide) rfl (fun ls hl => ?_)
      exact B26 N a1 a2 ((0 : Int32)) H locs ls h hP hD hS (lv_sub hl [2, 3, 1, 0] rfl)
    · have h := g_f h cz
      refine lv_bipush (v := (-102)) hx hb dX8_next__18 (by decide) ?_
      have h' := Option.some.inj h
      rw [← hQQ]
      exact W.iret (v := (-102 : Int32)) hx hb hr (fun t ht hW => ⟨⟨(-102 : Int32), (), rfl, by rw [← h'], by rw [← hWQ, ht]; exact hP, va_K.moved hW.alike hK⟩, hS.F ht⟩) hS.2.2 dX8_next__20
  · have h := g_t h cz
    refine lv_bipush (v := (-101)) hx hb dX8_next__7 (by decide) ?_
    have h' := Option.some.inj h
    rw [← hQQ]
    exact W.iret (v := (-101 : Int32)) hx hb hr (fun t ht hW => ⟨⟨(-101 : Int32), (), rfl, by rw [← h'], by rw [← hWQ, ht]; exact hP, va_K.moved hW.alike hK⟩, hS.F ht⟩) hS.2.2 dX8_next__9
