def f_M_lies_19 (N : Nat) (iM36 : Int32) (aM33 : Nat → Int32) (aM62 : Nat → Int32) (v3 : Int32) (v4 : Int32) : Nat → Int32 → Int32 → Option Int32
  | 0, _, _ => none
  | n + 1, v5, v6 => (f_M_types iM36).bind fun q22 => (if q22 ≤ v6 then (if vp_nar .boolean v5 = v5 then (some v5) else none) else (if v5 = 0 then (f_M_lies_19 N iM36 aM33 aM62 v3 v4 n ((0 : Int32)) ((v6 + (1 : Int32)))) else (if v6 < 0 ∨ 512 ≤ v6.toNatClampNeg then none else (if (aM62 v6.toNatClampNeg) = 0 then (f_M_lies_19 N iM36 aM33 aM62 v3 v4 n ((1 : Int32)) ((v6 + (1 : Int32)))) else (if ((v6 >>> (v3 &&& 31)) &&& (1 : Int32)) = 0 then (f_M_lies_19 N iM36 aM33 aM62 v3 v4 n ((1 : Int32)) ((v6 + (1 : Int32)))) else (if ((v6 >>> (v4 &&& 31)) &&& (1 : Int32)) = (1 : Int32) then (f_M_lies_19 N iM36 aM33 aM62 v3 v4 n ((1 : Int32)) ((v6 + (1 : Int32)))) else (f_M_lies_19 N iM36 aM33 aM62 v3 v4 n ((0 : Int32)) ((v6 + (1 : Int32))))))))))
def f_M_lies (N : Nat) (a1 : Int32) (a2 : Int32) (iM36 : Int32) (aM33 : Nat → Int32) (aM62 : Nat → Int32) : Option Int32 := (f_M_atomOfName N a1 aM33).bind fun q2 => ((f_M_atomOfName N a2 aM33).bind fun q8 => (f_M_lies_19 N iM36 aM33 aM62 q2 q8 N ((1 : Int32)) ((0 : Int32))))
set_option maxHeartbeats 8000000 in
set_option maxRecDepth 100000 in
theorem c_M_lies (l : Launch) (dC : Nat → ClassId) (dI : Nat → Nat → Nat) (cy : Nat → ClassId) (ad : Nat → Nat) (sz : Nat) (N : Nat) (a1 : Int32) (a2 : Int32) (iM : Nat → Int32) (aM : Nat → Nat → Int32) (q : Int32) (h : f_M_lies N a1 a2 (iM 36) (aM 33) (aM 62) = some q) : Met l yX8_lies wsX8_lies ({ frames := 1, cells := 0, slots := 0, locals := 22 } : Room) (cP (dC, dI) cy [.ref (ad 0), .int a1, .int a2] (zzM ad cy iM aM) sz) (cQi (dC, dI) cy q (zzM ad cy iM aM) (va_A (zzM ad cy iM aM) sz)) 0 0 (va_A (zzM ad cy iM aM) sz) := by
  refine Met.ofW (cc := cX8_lies) (maxL := 7) (ret := (some .boolean)) (by decide) rfl ?_
  intro p e s m args below meth c s₁ B hml hv
  obtain ⟨hav, hsz, hP, hK, hD0, hN⟩ := hv
  have hx := B.exec
  have hb := B.bytes
  have hr := B.returns
  have hts := atoms_spec (ws := wsX8_lies) B.pre
  have hown : s.vm.findClass RX8 = some m.cls := findClass_of_methodNamed B.named
  have hlocks := B.notSynchronized
  subst hsz
  have hD := hD0.self (sz := s.heap.size)
  generalize hAe : va_A (zzM ad cy iM aM) s.heap.size = A at hD ⊢
  have hA : ∀ q : Nat, s.heap.size ≤ q → A q := fun q h => by rw [← hAe]; exact Or.inr h
  have hS : va_S A s.heap s.heap [] := va_S.rf
  generalize hWQ : (zzM ad cy iM aM) = WQ
  generalize hQQ : MQ below (cQi (dC, dI) cy q WQ A) args s 0 0 A = QQ
  have hl := lv_entry ([.ref (ad 0), .int a1, .int a2] : List Value) (n := 7) (Nat.le_of_ble_eq_true rfl)
  have hfr := lg_entry_eq m ([.ref (ad 0), .int a1, .int a2] : List Value) 7
  rw [← hav] at hfr
  rw [hfr]
  clear hfr hav
  generalize (lg_sl ([.ref (ad 0), .int a1, .int a2] : List Value) ++ List.replicate (7 - (lg_sl ([.ref (ad 0), .int a1, .int a2] : List Value)).length) Slot.unset).toArray = ls at hl ⊢
  have hl : lv_has ls 7 [(0, .ref (ad 0)), (1, .int a1), (2, .int a2)] := hl
  have kf117 := hts _ (List.mem_cons_of_mem _ m_fl_X8_117)
  have ki8 := (fun w h => List.mem_cons_of_mem _ (i_X8 w h) : ∀ w ∈ u_ws RX8 TX8 78, w ∈ wsX8_lies)
  refine (?_ : ∀ (H : Heap) (locs : List Loc), va_P (dC, dI) vwCl (zzM ad cy iM aM) H → va_D A (zzM ad cy iM aM) → va_S A s.heap H locs → W p l e ({ frames := 1, cells := 0, slots := 0, locals := 22 } : Room) s m args below meth c H locs 0 0 QQ (F0 m 0 ls [])) s.heap [] hP hD hS
  clear hP hD hS
  have B19 : ∀ (n : Nat) (v3 : Int32) (v4 : Int32) (v5 : Int32) (v6 : Int32) (H : Heap) (locs : List Loc) (ls : Array Slot), f_M_lies_19 N (iM 36) (aM 33) (aM 62) v3 v4 n v5 v6 = some q → va_P (dC, dI) vwCl (zzM ad cy iM aM) H → va_D A (zzM ad cy iM aM) → va_S A s.heap H locs → lv_has ls 7 [(0, .ref (ad 0)), (3, .int v3), (4, .int v4), (5, .int v5), (6, .int v6)] → W p l e ({ frames := 1, cells := 0, slots := 0, locals := 22 } : Room) s m args below meth c H locs 0 0 QQ (F0 m 19 ls []) := by
    intro n
    induction n with
    | zero =>
      intro v3 v4 v5 v6 H locs ls h hP hD hS hl
      rw [f_M_lies_19] at h
      cases h
    | succ n ih =>
      intro v3 v4 v5 v6 H locs ls h hP hD hS hl
      rw [f_M_lies_19] at h
      refine lv_iload hx hb dX8_lies_19 (lv_at hl 4 rfl) ?_
      refine lv_aload_n hx hb dX8_lies_21 rfl (lv_at hl 0 rfl) ?_
      obtain ⟨q22, e22, h⟩ := g_b h
      refine callVis (cc := cX8_lies) (w1 := zzM ad cy iM aM) (As := []) (rest := [.int v6]) ⟨hx, hb, hml, hown, hts⟩ (c_M_types l dC dI cy ad H.size iM aM q22 e22) (cwV 0 hts (goodV m_ml_X8_368 m_im_X8_types m_se_X8_types m_in_X8 m_cd_X8_types) rfl rfl rfl (by decide +kernel) ⟨Nat.le_of_ble_eq_true rfl, Nat.le_of_ble_eq_true rfl⟩) hN hK hP hD hS hA rfl 0 rfl rfl rfl hl.1 rfl (Nat.le_of_ble_eq_true rfl) dX8_lies_22 ⟨Nat.zero_le _, Nat.zero_le _⟩ (fun H locs hP hD hS => ?_)
      refine lv_icmp_ge (tgt := 76) hx hb dX8_lies_25 (by decide) (fun cz => ?_) (fun cz => ?_)
      · have h := g_t h cz
        refine lv_iload hx hb dX8_lies_76 (lv_at hl 3 rfl) ?_
        obtain ⟨gz, h⟩ := g_p h
        have h' := Option.some.inj h
        rw [← hQQ]
        exact W.zret (v := v5) hx hb hr (g_zr _ gz) (fun t ht hW => ⟨⟨v5, (), rfl, by rw [← h'], by rw [← hWQ, ht]; exact hP, va_K.moved hW.alike hK⟩, hS.F ht⟩) hS.2.2 dX8_lies_78
      · have h := g_f h cz
        refine lv_iload hx hb dX8_lies_28 (lv_at hl 3 rfl) ?_
        refine lv_if_eq (tgt := 67) hx hb dX8_lies_30 (by decide) (fun cz => ?_) (fun cz => ?_)
        · have h := g_t h cz
          refine lv_iconst (v := 0) hx hb dX8_lies_67 (by decide) ?_
          refine lv_istore (lv' := [(5, .int ((0 : Int32))), (0, .ref (ad 0)), (3, .int v3), (4, .int v4), (6, .int v6)]) hx hb dX8_lies_68 hl (by decide) rfl (fun ls hl => ?_)
          refine lv_iinc (v := (v6 + (1 : Int32))) (lv' := [(6, .int ((v6 + (1 : Int32)))), (5, .int ((0 : Int32))), (0, .ref (ad 0)), (3, .int v3), (4, .int v4)]) hx hb dX8_lies_70 hl (k := 4) rfl rfl (by decide) rfl (fun ls hl => ?_)
          refine lv_goto (tgt := 19) hx hb dX8_lies_73 (by decide) ?_
          exact ih v3 v4 ((0 : Int32)) ((v6 + (1 : Int32))) H locs ls h hP hD hS (lv_sub hl [2, 3, 4, 1, 0] rfl)
        · have h := g_f h cz
          refine lv_aload_n hx hb dX8_lies_33 rfl (lv_at hl 0 rfl) ?_
          refine va_get (D := (dC, dI)) (ci := 8) (v := .ref (ad 34)) (C := RX8) (T := TX8) (N := 78) hx hb hts ki8 hown hK hP 0 rfl rfl 62 (by decide) kf117 (fun _ h9 => h9) rfl dX8_lies_34 ?_
          refine lv_iload hx hb dX8_lies_37 (lv_at hl 4 rfl) ?_
          obtain ⟨g_114, h⟩ := g_n h
          refine va_zald (f := (aM 62)) hx hb hK hP 34 4 rfl rfl g_114 dX8_lies_39 ?_
          refine lv_if_eq (tgt := 63) hx hb dX8_lies_40 (by decide) (fun cz => ?_) (fun cz => ?_)
          · have h := g_t h cz
            refine lv_iconst (v := 1) hx hb dX8_lies_63 (by decide) ?_
            refine lv_goto (tgt := 68) hx hb dX8_lies_64 (by decide) ?_
            refine lv_istore (lv' := [(5, .int ((1 : Int32))), (0, .ref (ad 0)), (3, .int v3), (4, .int v4), (6, .int v6)]) hx hb dX8_lies_68 hl (by decide) rfl (fun ls hl => ?_)
            refine lv_iinc (v := (v6 + (1 : Int32))) (lv' := [(6, .int ((v6 + (1 : Int32)))), (5, .int ((1 : Int32))), (0, .ref (ad 0)), (3, .int v3), (4, .int v4)]) hx hb dX8_lies_70 hl (k := 4) rfl rfl (by decide) rfl (fun ls hl => ?_)
            refine lv_goto (tgt := 19) hx hb dX8_lies_73 (by decide) ?_
            exact ih v3 v4 ((1 : Int32)) ((v6 + (1 : Int32))) H locs ls h hP hD hS (lv_sub hl [2, 3, 4, 1, 0] rfl)
          · have h := g_f h cz
            refine lv_iload hx hb dX8_lies_43 (lv_at hl 4 rfl) ?_
            refine lv_iload_n hx hb dX8_lies_45 rfl (lv_at hl 1 rfl) ?_
            refine lv_ishr hx hb dX8_lies_46 ?_
            refine lv_iconst (v := 1) hx hb dX8_lies_47 (by decide) ?_
            refine lv_iand hx hb dX8_lies_48 ?_
            refine lv_if_eq (tgt := 63) hx hb dX8_lies_49 (by decide) (fun cz => ?_) (fun cz => ?_)
            · have h := g_t h cz
              refine lv_iconst (v := 1) hx hb dX8_lies_63 (by decide) ?_
              refine lv_goto (tgt := 68) hx hb dX8_lies_64 (by decide) ?_
              refine lv_istore (lv' := [(5, .int ((1 : Int32))), (0, .ref (ad 0)), (3, .int v3), (4, .int v4), (6, .int v6)]) hx hb dX8_lies_68 hl (by decide) rfl (fun ls hl => ?_)
              refine lv_iinc (v := (v6 + (1 : Int32))) (lv' := [(6, .int ((v6 + (1 : Int32)))), (5, .int ((1 : Int32))), (0, .ref (ad 0)), (3, .int v3), (4, .int v4)]) hx hb dX8_lies_70 hl (k := 4) rfl rfl (by decide) rfl (fun ls hl => ?_)
              refine lv_goto (tgt := 19) hx hb dX8_lies_73 (by decide) ?_
              exact ih v3 v4 ((1 : Int32)) ((v6 + (1 : Int32))) H locs ls h hP hD hS (lv_sub hl [2, 3, 4, 1, 0] rfl)
            · have h := g_f h cz
              refine lv_iload hx hb dX8_lies_52 (lv_at hl 4 rfl) ?_
              refine lv_iload hx hb dX8_lies_54 (lv_at hl 2 rfl) ?_
              refine lv_ishr hx hb dX8_lies_56 ?_
              refine lv_iconst (v := 1) hx hb dX8_lies_57 (by decide) ?_
              refine lv_iand hx hb dX8_lies_58 ?_
              refine lv_iconst (v := 1) hx hb dX8_lies_59 (by decide) ?_
              refine lv_icmp_ne (tgt := 67) hx hb dX8_lies_60 (by decide) (fun cz => ?_) (fun cz => ?_)
              · have h := g_f h cz
                refine lv_iconst (v := 0) hx hb dX8_lies_67 (by decide) ?_
                refine lv_istore (lv' := [(5, .int ((0 : Int32))), (0, .ref (ad 0)), (3, .int v3), (4, .int v4), (6, .int v6)]) hx hb dX8_lies_68 hl (by decide) rfl (fun ls hl => ?_)
                refine lv_iinc (v := (v6 + (1 : Int32))) (lv' := [(6, .int ((v6 + (1 : Int32)))), (5, .int ((0 : Int32))), (0, .ref (ad 0)), (3, .int v3), (4, .int v4)]) hx hb dX8_lies_70 hl (k := 4) rfl rfl (by decide) rfl (fun ls hl => ?_)
                refine lv_goto (tgt := 19) hx hb dX8_lies_73 (by decide) ?_
                exact ih v3 v4 ((0 : Int32)) ((v6 + (1 : Int32))) H locs ls h hP hD hS (lv_sub hl [2, 3, 4, 1, 0] rfl)
              · have h := g_t h cz
                refine lv_iconst (v := 1) hx hb dX8_lies_63 (by decide) ?_
                refine lv_goto (tgt := 68) hx hb dX8_lies_64 (by decide) ?_
                refine lv_istore (lv' := [(5, .int ((1 : Int32))), (0, .ref (ad 0)), (3, .int v3), (4, .int v4), (6, .int v6)]) hx hb dX8_lies_68 hl (by decide) rfl (fun ls hl => ?_)
                refine lv_iinc (v := (v6 + (1 : Int32))) (lv' := [(6, .int ((v6 + (1 : Int32)))), (5, .int ((1 : Int32))), (0, .ref (ad 0)), (3, .int v3), (4, .int v4)]) hx hb dX8_lies_70 hl (k := 4) rfl rfl (by decide) rfl (fun ls hl => ?_)
                refine lv_goto (tgt := 19) hx hb dX8_lies_73 (by decide) ?_
                exact ih v3 v4 ((1 : Int32)) ((v6 + (1 : Int32))) H locs ls h hP hD hS (lv_sub hl [2, 3, 4, 1, 0] rfl)
  intro H locs hP hD hS
  unfold f_M_lies at h
  refine lv_aload_n hx hb dX8_lies_0 rfl (lv_at hl 0 rfl) ?_
  refine lv_iload_n hx hb dX8_lies_1 rfl (lv_at hl 1 rfl) ?_
  obtain ⟨q2, e2, h⟩ := g_b h
  refine callVis (cc := cX8_lies) (w1 := zzM ad cy iM aM) (As := [.int a1]) (rest := []) ⟨hx, hb, hml, hown, hts⟩ (c_M_atomOfName l dC dI cy ad H.size N a1 iM aM q2 e2) (cwV 1 hts (goodV m_ml_X8_420 m_im_X8_atomOfName m_se_X8_atomOfName m_in_X8 m_cd_X8_atomOfName) rfl rfl rfl (by decide +kernel) ⟨Nat.le_of_ble_eq_true rfl, Nat.le_of_ble_eq_true rfl⟩) hN hK hP hD hS hA rfl 0 rfl rfl rfl hl.1 rfl (Nat.le_of_ble_eq_true rfl) dX8_lies_2 ⟨Nat.zero_le _, Nat.zero_le _⟩ (fun H locs hP hD hS => ?_)
  refine lv_istore_n (lv' := [(3, .int q2), (0, .ref (ad 0)), (1, .int a1), (2, .int a2)]) hx hb dX8_lies_5 rfl hl (by decide) rfl (fun ls hl => ?_)
  refine lv_aload_n hx hb dX8_lies_6 rfl (lv_at hl 1 rfl) ?_
  refine lv_iload_n hx hb dX8_lies_7 rfl (lv_at hl 3 rfl) ?_
  obtain ⟨q8, e8, h⟩ := g_b h
  refine callVis (cc := cX8_lies) (w1 := zzM ad cy iM aM) (As := [.int a2]) (rest := []) ⟨hx, hb, hml, hown, hts⟩ (c_M_atomOfName l dC dI cy ad H.size N a2 iM aM q8 e8) (cwV 1 hts (goodV m_ml_X8_420 m_im_X8_atomOfName m_se_X8_atomOfName m_in_X8 m_cd_X8_atomOfName) rfl rfl rfl (by decide +kernel) ⟨Nat.le_of_ble_eq_true rfl, Nat.le_of_ble_eq_true rfl⟩) hN hK hP hD hS hA rfl 0 rfl rfl rfl hl.1 rfl (Nat.le_of_ble_eq_true rfl) dX8_lies_8 ⟨Nat.zero_le _, Nat.zero_le _⟩ (fun H locs hP hD hS => ?_)
  refine lv_istore (lv' := [(4, .int q8), (3, .int q2), (0, .ref (ad 0)), (1, .int a1), (2, .int a2)]) hx hb dX8_lies_11 hl (by decide) rfl (fun ls hl => ?_)
  refine lv_iconst (v := 1) hx hb dX8_lies_13 (by decide) ?_
  refine lv_istore (lv' := [(5, .int ((1 : Int32))), (4, .int q8), (3, .int q2), (0, .ref (ad 0)), (1, .int a1), (2, .int a2)]) hx hb dX8_lies_14 hl (by decide) rfl (fun ls hl => ?_)
  refine lv_iconst (v := 0) hx hb dX8_lies_16 (by decide) ?_
  refine lv_istore (lv' := [(6, .int ((0 : Int32))), (5, .int ((1 : Int32))), (4, .int q8), (3, .int q2), (0, .ref (ad 0)), (1, .int a1), (2, .int a2)]) hx hb dX8_lies_17 hl (by decide) rfl (fun ls hl => ?_)
  exact B19 N q2 q8 ((1 : Int32)) ((0 : Int32)) H locs ls h hP hD hS (lv_sub hl [4, 3, 2, 1, 0] rfl)
