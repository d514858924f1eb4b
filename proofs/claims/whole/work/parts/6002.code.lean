set_option maxHeartbeats 8000000 in
set_option maxRecDepth 100000 in
theorem c_R_takeConcept (l : Launch) (dC : Nat → ClassId) (dI : Nat → Nat → Nat) (cy : Nat → ClassId) (ad : Nat → Nat) (sz : Nat) (N : Nat) (fo lo : Nat) (one : Int32 → (Nat → Int32) → (Nat → Int32) → Int64 → (Nat → Int32) → (Nat → Int32) → (Nat → Nat → Int64) → (Nat → Nat → Int32) → (Nat → Int32) → (Nat → Nat → Int32) → Option (Int32 × (Nat → Int32) × (Nat → Int32) × Int64 × (Nat → Int32) × (Nat → Nat → Int64) × (Nat → Int32) × (Nat → Nat → Int32))) (hone : ∀ (sz : Nat) (a1 : Int32) (iR : Nat → Int32) (iT : Nat → Int32) (wT : Int64) (tx : Nat → Int32) (iB : Nat → Int32) (lB : Nat → Nat → Int64) (aB : Nat → Nat → Int32) (iC : Nat → Int32) (aC : Nat → Nat → Int32) (q : Int32 × (Nat → Int32) × (Nat → Int32) × Int64 × (Nat → Int32) × (Nat → Nat → Int64) × (Nat → Int32) × (Nat → Nat → Int32)), one a1 iR iT wT tx iB lB aB iC aC = some q → Met l yX4_takeOne wsX4_takeOne ({ frames := fo, cells := 0, slots := 0, locals := lo } : Room) (cP (dC, dI) cy [.ref (ad 0), .int a1] (zzR ad cy (ad 3) (ad 10) iR iT wT tx iB lB aB iC aC) sz) (cQi (dC, dI) cy q.1 (zzR ad cy (ad 3) (ad 10) q.2.1 q.2.2.1 q.2.2.2.1 tx q.2.2.2.2.1 q.2.2.2.2.2.1 aB q.2.2.2.2.2.2.1 q.2.2.2.2.2.2.2) (va_A (zzR ad cy (ad 3) (ad 10) iR iT wT tx iB lB aB iC aC) sz)) 0 0 (va_A (zzR ad cy (ad 3) (ad 10) iR iT wT tx iB lB aB iC aC) sz)) (a1 : Int32) (iR : Nat → Int32) (iT : Nat → Int32) (wT : Int64) (tx : Nat → Int32) (iB : Nat → Int32) (lB : Nat → Nat → Int64) (aB : Nat → Nat → Int32) (iC : Nat → Int32) (aC : Nat → Nat → Int32) (q : Int32 × (Nat → Int32) × (Nat → Int32) × Int64 × (Nat → Int32) × (Nat → Nat → Int64) × (Nat → Int32) × (Nat → Nat → Int32)) (h : f_R_takeConcept N one a1 iR iT wT tx iB lB aB iC aC = some q) : Met l yX4_takeConcept wsX4_takeConcept ({ frames := fo + 4, cells := 0, slots := 0, locals := lo + 98 } : Room) (cP (dC, dI) cy [.ref (ad 0), .int a1] (zzR ad cy (ad 3) (ad 10) iR iT wT tx iB lB aB iC aC) sz) (cQi (dC, dI) cy q.1 (zzR ad cy (ad 3) (ad 10) q.2.1 q.2.2.1 q.2.2.2.1 tx q.2.2.2.2.1 q.2.2.2.2.2.1 aB q.2.2.2.2.2.2.1 q.2.2.2.2.2.2.2) (va_A (zzR ad cy (ad 3) (ad 10) iR iT wT tx iB lB aB iC aC) sz)) 0 0 (va_A (zzR ad cy (ad 3) (ad 10) iR iT wT tx iB lB aB iC aC) sz) := by
  refine Met.ofW (cc := cX4_takeConcept) (maxL := 5) (ret := (some .int)) (by decide) rfl ?_
  intro p e s m args below meth c s₁ B hml hv
  obtain ⟨hav, hsz, hP, hK, hD0, hN⟩ := hv
  have hx := B.exec
  have hb := B.bytes
  have hr := B.returns
  have hts := atoms_spec (ws := wsX4_takeConcept) B.pre
  have hown : s.vm.findClass RX4 = some m.cls := findClass_of_methodNamed B.named
  have hlocks := B.notSynchronized
  subst hsz
  have hD := hD0.self (sz := s.heap.size)
  generalize hAe : va_A (zzR ad cy (ad 3) (ad 10) iR iT wT tx iB lB aB iC aC) s.heap.size = A at hD ⊢
  have hA : ∀ q : Nat, s.heap.size ≤ q → A q := fun q h => by rw [← hAe]; exact Or.inr h
  have hS : va_S A s.heap s.heap [] := va_S.rf
  generalize hWQ : (zzR ad cy (ad 3) (ad 10) q.2.1 q.2.2.1 q.2.2.2.1 tx q.2.2.2.2.1 q.2.2.2.2.2.1 aB q.2.2.2.2.2.2.1 q.2.2.2.2.2.2.2) = WQ
  generalize hQQ : MQ below (cQi (dC, dI) cy q.1 WQ A) args s 0 0 A = QQ
  have hl := lv_entry ([.ref (ad 0), .int a1] : List Value) (n := 5) (Nat.le_of_ble_eq_true rfl)
  have hfr := lg_entry_eq m ([.ref (ad 0), .int a1] : List Value) 5
  rw [← hav] at hfr
  rw [hfr]
  clear hfr hav
  generalize (lg_sl ([.ref (ad 0), .int a1] : List Value) ++ List.replicate (5 - (lg_sl ([.ref (ad 0), .int a1] : List Value)).length) Slot.unset).toArray = ls at hl ⊢
  have hl : lv_has ls 5 [(0, .ref (ad 0)), (1, .int a1)] := hl
  have kf20 := hts _ (List.mem_cons_of_mem _ m_fl_X4_20)
  have ki4 := (fun w h => List.mem_cons_of_mem _ (i_X4 w h) : ∀ w ∈ u_ws RX4 TX4 5, w ∈ wsX4_takeConcept)
  have kf48 := hts _ (List.mem_cons_of_mem _ m_fl_X4_48)
  have ki5 := (fun w h => List.mem_cons_of_mem _ (i_X5 w h) : ∀ w ∈ u_ws RX5 TX5 6, w ∈ wsX4_takeConcept)
  have kc151 := hts _ (List.mem_cons_of_mem _ m_kl_X4_151)
  have kf34 := hts _ (List.mem_cons_of_mem _ m_fl_X4_34)
  refine (?_ : ∀ (H : Heap) (locs : List Loc), va_P (dC, dI) vwCl (zzR ad cy (ad 3) (ad 10) iR iT wT tx iB lB aB iC aC) H → va_D A (zzR ad cy (ad 3) (ad 10) iR iT wT tx iB lB aB iC aC) → va_S A s.heap H locs → W p l e ({ frames := fo + 4, cells := 0, slots := 0, locals := lo + 98 } : Room) s m args below meth c H locs 0 0 QQ (F0 m 0 ls [])) s.heap [] hP hD hS
  clear hP hD hS
  have B8 : ∀ (n : Nat) (v1 : Int32) (v2 : Int32) (v3 : Int32) (x_iR : Nat → Int32) (x_iT : Nat → Int32) (x_wT : Int64) (x_iB : Nat → Int32) (x_lB : Nat → Nat → Int64) (x_iC : Nat → Int32) (x_aC : Nat → Nat → Int32) (H : Heap) (locs : List Loc) (ls : Array Slot), f_R_takeConcept_8 N one iR iT wT tx iB lB aB iC aC v1 n v2 v3 x_iR x_iT x_wT x_iB x_lB x_iC x_aC = some q → va_P (dC, dI) vwCl (zzR ad cy (ad 3) (ad 10) x_iR x_iT x_wT tx x_iB x_lB aB x_iC x_aC) H → va_D A (zzR ad cy (ad 3) (ad 10) x_iR x_iT x_wT tx x_iB x_lB aB x_iC x_aC) → va_S A s.heap H locs → lv_has ls 5 [(0, .ref (ad 0)), (1, .int v1), (2, .int v2), (3, .int v3)] → W p l e ({ frames := fo + 4, cells := 0, slots := 0, locals := lo + 98 } : Room) s m args below meth c H locs 0 0 QQ (F0 m 8 ls []) := by
    intro n
    induction n with
    | zero =>
      intro v1 v2 v3 x_iR x_iT x_wT x_iB x_lB x_iC x_aC H locs ls h hP hD hS hl
      rw [f_R_takeConcept_8] at h
      cases h
    | succ n ih =>
      intro v1 v2 v3 x_iR x_iT x_wT x_iB x_lB x_iC x_aC H locs ls h hP hD hS hl
      rw [f_R_takeConcept_8] at h
      refine lv_iload_n hx hb dX4_takeConcept_8 rfl (lv_at hl 3 rfl) ?_
      refine lv_sipush (v := 200) hx hb dX4_takeConcept_9 (by decide) ?_
      refine lv_icmp_gt (tgt := 86) hx hb dX4_takeConcept_12 (by decide) (fun cz => ?_) (fun cz => ?_)
      · have h := g_t h cz
        refine lv_iload_n hx hb dX4_takeConcept_86 rfl (lv_at hl 2 rfl) ?_
        have h' := Option.some.inj h
        rw [← hQQ]
        exact W.iret (v := v2) hx hb hr (fun t ht hW => ⟨⟨v2, (), rfl, by rw [← h'], by rw [← hWQ, ← h', ht]; exact hP, va_K.moved hW.alike hK⟩, hS.F ht⟩) hS.2.2 dX4_takeConcept_87
      · have h := g_f h cz
        refine lv_iload_n hx hb dX4_takeConcept_15 rfl (lv_at hl 2 rfl) ?_
        refine lv_iconst (v := (-1)) hx hb dX4_takeConcept_16 (by decide) ?_
        refine lv_icmp_eq (tgt := 86) hx hb dX4_takeConcept_17 (by decide) (fun cz => ?_) (fun cz => ?_)
        · have h := g_t h cz
          refine lv_iload_n hx hb dX4_takeConcept_86 rfl (lv_at hl 2 rfl) ?_
          have h' := Option.some.inj h
          rw [← hQQ]
          exact W.iret (v := v2) hx hb hr (fun t ht hW => ⟨⟨v2, (), rfl, by rw [← h'], by rw [← hWQ, ← h', ht]; exact hP, va_K.moved hW.alike hK⟩, hS.F ht⟩) hS.2.2 dX4_takeConcept_87
        · have h := g_f h cz
          refine lv_aload_n hx hb dX4_takeConcept_20 rfl (lv_at hl 0 rfl) ?_
          refine va_get (D := (dC, dI)) (ci := 4) (v := .ref (ad 1)) (C := RX4) (T := TX4) (N := 5) hx hb hts ki4 hown hK hP 0 rfl rfl 0 (by decide) kf20 (fun _ h9 => h9) rfl dX4_takeConcept_21 ?_
          refine va_get (D := (dC, dI)) (ci := 5) (v := .long x_wT) (C := RX5) (T := TX5) (N := 6) hx hb hts ki5 hown hK hP 1 rfl rfl 5 (by decide) kf48 (fun _ h9 => h9) rfl dX4_takeConcept_24 ?_
          refine lv_ldc2 (v := 28530) hx hb hown kc151 dX4_takeConcept_27 ?_
          refine W.lcmp hx hb dX4_takeConcept_30 ?_
          refine lv_if_ne (tgt := 86) hx hb dX4_takeConcept_31 (by decide) (fun cz => ?_) (fun cz => ?_)
          · have h := g_f h (fun z => cz (lg_cmp0.mpr z))
            refine lv_iload_n hx hb dX4_takeConcept_86 rfl (lv_at hl 2 rfl) ?_
            have h' := Option.some.inj h
            rw [← hQQ]
            exact W.iret (v := v2) hx hb hr (fun t ht hW => ⟨⟨v2, (), rfl, by rw [← h'], by rw [← hWQ, ← h', ht]; exact hP, va_K.moved hW.alike hK⟩, hS.F ht⟩) hS.2.2 dX4_takeConcept_87
          · have h := g_t h (lg_cmp0.mp cz)
            refine lv_aload_n hx hb dX4_takeConcept_34 rfl (lv_at hl 0 rfl) ?_
            obtain ⟨q35, e35, h⟩ := g_b h
            refine callVis (cc := cX4_takeConcept) (w1 := zzR ad cy (ad 3) (ad 10) (us x_iR [(3, q35.2.1), (4, q35.2.2.1)]) x_iT x_wT tx (us x_iB [(1, q35.2.2.2)]) x_lB aB x_iC x_aC) (As := []) (rest := []) ⟨hx, hb, hml, hown, hts⟩ (c_R_countConcept l dC dI cy ad H.size x_iR x_iT x_wT tx x_iB x_lB aB x_iC x_aC q35 e35) (cwV 0 hts (goodV m_ml_X4_153 m_im_X4_countConcept m_se_X4_countConcept m_in_X4 m_cd_X4_countConcept) rfl rfl rfl (by decide +kernel) ⟨(show 2 + 1 ≤ fo + 4 by omega), (show 8 + (1 + 11) + (43) ≤ lo + 98 by omega)⟩) hN hK hP hD hS hA rfl 0 rfl rfl rfl hl.1 rfl (Nat.le_of_ble_eq_true rfl) dX4_takeConcept_35 ⟨Nat.zero_le _, Nat.zero_le _⟩ (fun H locs hP hD hS => ?_)
            refine lv_if_ne (tgt := 43) hx hb dX4_takeConcept_38 (by decide) (fun cz => ?_) (fun cz => ?_)
            · have h := g_f h cz
              refine lv_aload_n hx hb dX4_takeConcept_43 rfl (lv_at hl 0 rfl) ?_
              refine va_get (D := (dC, dI)) (ci := 4) (v := .ref (ad 1)) (C := RX4) (T := TX4) (N := 5) hx hb hts ki4 hown hK hP 0 rfl rfl 0 (by decide) kf20 (fun _ h9 => h9) rfl dX4_takeConcept_44 ?_
              obtain ⟨q47, e47, h⟩ := g_b h
              refine callVv (cc := cX4_takeConcept) (ws' := zzR ad cy (ad 3) (ad 10) (us x_iR [(3, q35.2.1), (4, q35.2.2.1)]) (us x_iT [(2, q47.1), (3, q47.2.1), (4, q47.2.2.1)]) q47.2.2.2 tx (us x_iB [(1, q35.2.2.2)]) x_lB aB x_iC x_aC) (As := []) (rest := []) ⟨hx, hb, hml, hown, hts⟩ (c_T_step l dC dI cy (fun i => ad (i + 1)) H.size N x_iT x_wT tx q47 e47) (cwV 0 hts (goodV m_ml_X4_87 m_im_X5_step m_se_X5_step m_in_X5 m_cd_X5_step) rfl rfl rfl (by decide +kernel) ⟨(show 2 + 1 ≤ fo + 4 by omega), (show 8 + (1 + 11) + (42) ≤ lo + 98 by omega)⟩) hN hK hP hD hS hA [1, 2] [none, some 0, some 1, none, none, none, none, none, none, none, none, none, none, none, none, none, none, none, none] rfl rfl rfl rfl rfl rfl 1 rfl rfl rfl hl.1 rfl (Nat.le_of_ble_eq_true rfl) dX4_takeConcept_47 ⟨Nat.zero_le _, Nat.zero_le _⟩ (fun H locs hP hD hS => ?_)
              refine lv_aload_n hx hb dX4_takeConcept_50 rfl (lv_at hl 0 rfl) ?_
              refine lv_iload_n hx hb dX4_takeConcept_51 rfl (lv_at hl 1 rfl) ?_
              obtain ⟨q52, e52, h⟩ := g_b h
              refine callVis (cc := cX4_takeConcept) (w1 := zzR ad cy (ad 3) (ad 10) q52.2.1 q52.2.2.1 q52.2.2.2.1 tx q52.2.2.2.2.1 q52.2.2.2.2.2.1 aB q52.2.2.2.2.2.2.1 q52.2.2.2.2.2.2.2) (As := [.int v1]) (rest := []) ⟨hx, hb, hml, hown, hts⟩ (c_R_takeAll l dC dI cy ad H.size N fo lo one hone v1 ((us x_iR [(3, q35.2.1), (4, q35.2.2.1)])) ((us x_iT [(2, q47.1), (3, q47.2.1), (4, q47.2.2.1)])) q47.2.2.2 tx ((us x_iB [(1, q35.2.2.2)])) x_lB aB x_iC x_aC q52 e52) (cwV 1 hts (goodV m_ml_X4_148 m_im_X4_takeAll m_se_X4_takeAll m_in_X4 m_cd_X4_takeAll) rfl rfl rfl (by decide +kernel) ⟨(show fo + 3 + 1 ≤ fo + 4 by omega), (show 8 + (5 + 11) + (lo + 74) ≤ lo + 98 by omega)⟩) hN hK hP hD hS hA rfl 0 rfl rfl rfl hl.1 rfl (Nat.le_of_ble_eq_true rfl) dX4_takeConcept_52 ⟨Nat.zero_le _, Nat.zero_le _⟩ (fun H locs hP hD hS => ?_)
              refine lv_istore (lv' := [(4, .int q52.1), (0, .ref (ad 0)), (1, .int v1), (2, .int v2), (3, .int v3)]) hx hb dX4_takeConcept_55 hl (by decide) rfl (fun ls hl => ?_)
              refine lv_iload hx hb dX4_takeConcept_57 (lv_at hl 0 rfl) ?_
              refine lv_iconst (v := (-1)) hx hb dX4_takeConcept_59 (by decide) ?_
              refine lv_icmp_ne (tgt := 67) hx hb dX4_takeConcept_60 (by decide) (fun cz => ?_) (fun cz => ?_)
              · have h := g_f h cz
                refine lv_aload_n hx hb dX4_takeConcept_67 rfl (lv_at hl 1 rfl) ?_
                refine va_get (D := (dC, dI)) (ci := 4) (v := .ref (ad 10)) (C := RX4) (T := TX4) (N := 5) hx hb hts ki4 hown hK hP 0 rfl rfl 2 (by decide) kf34 (fun _ h9 => h9) rfl dX4_takeConcept_68 ?_
                refine lv_bipush (v := 7) hx hb dX4_takeConcept_71 (by decide) ?_
                refine lv_iload_n hx hb dX4_takeConcept_73 rfl (lv_at hl 3 rfl) ?_
                refine lv_iload hx hb dX4_takeConcept_74 (lv_at hl 0 rfl) ?_
                obtain ⟨q76, e76, h⟩ := g_b h
                refine callVi (cc := cX4_takeConcept) (ws' := zzR ad cy (ad 3) (ad 10) q52.2.1 q52.2.2.1 q52.2.2.2.1 tx q52.2.2.2.2.1 q52.2.2.2.2.2.1 aB (us q52.2.2.2.2.2.2.1 [(4, q76.2.1), (9, q76.2.2.1)]) (us q52.2.2.2.2.2.2.2 [(0, q76.2.2.2.1), (1, q76.2.2.2.2.1), (2, q76.2.2.2.2.2.1), (3, q76.2.2.2.2.2.2.1), (5, q76.2.2.2.2.2.2.2.1), (6, q76.2.2.2.2.2.2.2.2.1), (7, q76.2.2.2.2.2.2.2.2.2.1), (8, q76.2.2.2.2.2.2.2.2.2.2)])) (As := [.int ((7 : Int32)), .int v2, .int q52.1]) (rest := []) ⟨hx, hb, hml, hown, hts⟩ (c_C_make l dC dI cy (fun i => ad (i + 10)) H.size N ((7 : Int32)) v2 q52.1 q52.2.2.2.2.2.2.1 q52.2.2.2.2.2.2.2 q76 e76) (cwV 3 hts (goodV m_ml_X4_156 m_im_X1_make m_se_X1_make m_in_X1 m_cd_X1_make) rfl rfl rfl (by decide +kernel) ⟨(show 2 + 1 ≤ fo + 4 by omega), (show 8 + (7 + 11) + (48) ≤ lo + 98 by omega)⟩) hN hK hP hD hS hA [10, 11, 12, 13, 14, 15, 16, 17, 18] [none, none, none, none, none, none, none, none, none, none, some 0, some 1, some 2, some 3, some 4, some 5, some 6, some 7, some 8] rfl rfl rfl rfl rfl rfl 10 rfl rfl rfl hl.1 rfl (Nat.le_of_ble_eq_true rfl) dX4_takeConcept_76 ⟨Nat.zero_le _, Nat.zero_le _⟩ (fun H locs hP hD hS => ?_)
                refine lv_istore_n (lv' := [(2, .int q76.1), (4, .int q52.1), (0, .ref (ad 0)), (1, .int v1), (3, .int v3)]) hx hb dX4_takeConcept_79 rfl hl (by decide) rfl (fun ls hl => ?_)
                refine lv_iinc (v := (v3 + (1 : Int32))) (lv' := [(3, .int ((v3 + (1 : Int32)))), (2, .int q76.1), (4, .int q52.1), (0, .ref (ad 0)), (1, .int v1)]) hx hb dX4_takeConcept_80 hl (k := 4) rfl rfl (by decide) rfl (fun ls hl => ?_)
                refine lv_goto (tgt := 8) hx hb dX4_takeConcept_83 (by decide) ?_
                exact ih v1 q76.1 ((v3 + (1 : Int32))) q52.2.1 q52.2.2.1 q52.2.2.2.1 q52.2.2.2.2.1 q52.2.2.2.2.2.1 ((us q52.2.2.2.2.2.2.1 [(4, q76.2.1), (9, q76.2.2.1)])) ((us q52.2.2.2.2.2.2.2 [(0, q76.2.2.2.1), (1, q76.2.2.2.2.1), (2, q76.2.2.2.2.2.1), (3, q76.2.2.2.2.2.2.1), (5, q76.2.2.2.2.2.2.2.1), (6, q76.2.2.2.2.2.2.2.2.1), (7, q76.2.2.2.2.2.2.2.2.2.1), (8, q76.2.2.2.2.2.2.2.2.2.2)])) H locs ls h hP hD hS (lv_sub hl [3, 4, 1, 0] rfl)
              · have h := g_t h cz
                refine lv_iconst (v := (-1)) hx hb dX4_takeConcept_63 (by decide) ?_
                refine lv_goto (tgt := 79) hx hb dX4_takeConcept_64 (by decide) ?_
                refine lv_istore_n (lv' := [(2, .int ((-1 : Int32))), (4, .int q52.1), (0, .ref (ad 0)), (1, .int v1), (3, .int v3)]) hx hb dX4_takeConcept_79 rfl hl (by decide) rfl (fun ls hl => ?_)
                refine lv_iinc (v := (v3 + (1 : Int32))) (lv' := [(3, .int ((v3 + (1 : Int32)))), (2, .int ((-1 : Int32))), (4, .int q52.1), (0, .ref (ad 0)), (1, .int v1)]) hx hb dX4_takeConcept_80 hl (k := 4) rfl rfl (by decide) rfl (fun ls hl => ?_)
                refine lv_goto (tgt := 8) hx hb dX4_takeConcept_83 (by decide) ?_
                exact ih v1 ((-1 : Int32)) ((v3 + (1 : Int32))) q52.2.1 q52.2.2.1 q52.2.2.2.1 q52.2.2.2.2.1 q52.2.2.2.2.2.1 q52.2.2.2.2.2.2.1 q52.2.2.2.2.2.2.2 H locs ls h hP hD hS (lv_sub hl [3, 4, 1, 0] rfl)
            · have h := g_t h cz
              refine lv_iconst (v := (-1)) hx hb dX4_takeConcept_41 (by decide) ?_
              have h' := Option.some.inj h
              rw [← hQQ]
              exact W.iret (v := (-1 : Int32)) hx hb hr (fun t ht hW => ⟨⟨(-1 : Int32), (), rfl, by rw [← h'], by rw [← hWQ, ← h', ht]; exact hP, va_K.moved hW.alike hK⟩, hS.F ht⟩) hS.2.2 dX4_takeConcept_42
  intro H locs hP hD hS
  unfold f_R_takeConcept at h
  refine lv_aload_n hx hb dX4_takeConcept_0 rfl (lv_at hl 0 rfl) ?_
  refine lv_iload_n hx hb dX4_takeConcept_1 rfl (lv_at hl 1 rfl) ?_
  obtain ⟨q2, e2, h⟩ := g_b h
  refine callVis (cc := cX4_takeConcept) (w1 := zzR ad cy (ad 3) (ad 10) q2.2.1 q2.2.2.1 q2.2.2.2.1 tx q2.2.2.2.2.1 q2.2.2.2.2.2.1 aB q2.2.2.2.2.2.2.1 q2.2.2.2.2.2.2.2) (As := [.int a1]) (rest := []) ⟨hx, hb, hml, hown, hts⟩ (c_R_takeAll l dC dI cy ad H.size N fo lo one hone a1 iR iT wT tx iB lB aB iC aC q2 e2) (cwV 1 hts (goodV m_ml_X4_148 m_im_X4_takeAll m_se_X4_takeAll m_in_X4 m_cd_X4_takeAll) rfl rfl rfl (by decide +kernel) ⟨(show fo + 3 + 1 ≤ fo + 4 by omega), (show 8 + (5 + 11) + (lo + 74) ≤ lo + 98 by omega)⟩) hN hK hP hD hS hA rfl 0 rfl rfl rfl hl.1 rfl (Nat.le_of_ble_eq_true rfl) dX4_takeConcept_2 ⟨Nat.zero_le _, Nat.zero_le _⟩ (fun H locs hP hD hS => ?_)
  refine lv_istore_n (lv' := [(2, .int q2.1), (0, .ref (ad 0)), (1, .int a1)]) hx hb dX4_takeConcept_5 rfl hl (by decide) rfl (fun ls hl => ?_)
  refine lv_iconst (v := 0) hx hb dX4_takeConcept_6 (by decide) ?_
  refine lv_istore_n (lv' := [(3, .int ((0 : Int32))), (2, .int q2.1), (0, .ref (ad 0)), (1, .int a1)]) hx hb dX4_takeConcept_7 rfl hl (by decide) rfl (fun ls hl => ?_)
  exact B8 N a1 q2.1 ((0 : Int32)) q2.2.1 q2.2.2.1 q2.2.2.2.1 q2.2.2.2.2.1 q2.2.2.2.2.2.1 q2.2.2.2.2.2.2.1 q2.2.2.2.2.2.2.2 H locs ls h hP hD hS (lv_sub hl [2, 3, 1, 0] rfl)
set_option maxHeartbeats 8000000 in
set_option maxRecDepth 100000 in
theorem c_R_takeBracketed (l : Launch) (dC : Nat → ClassId) (dI : Nat → Nat → Nat) (cy : Nat → ClassId) (ad : Nat → Nat) (sz : Nat) (N : Nat) (fo lo : Nat) (one : Int32 → (Nat → Int32) → (Nat → Int32) → Int64 → (Nat → Int32) → (Nat → Int32) → (Nat → Nat → Int64) → (Nat → Nat → Int32) → (Nat → Int32) → (Nat → Nat → Int32) → Option (Int32 × (Nat → Int32) × (Nat → Int32) × Int64 × (Nat → Int32) × (Nat → Nat → Int64) × (Nat → Int32) × (Nat → Nat → Int32))) (hone : ∀ (sz : Nat) (a1 : Int32) (iR : Nat → Int32) (iT : Nat → Int32) (wT : Int64) (tx : Nat → Int32) (iB : Nat → Int32) (lB : Nat → Nat → Int64) (aB : Nat → Nat → Int32) (iC : Nat → Int32) (aC : Nat → Nat → Int32) (q : Int32 × (Nat → Int32) × (Nat → Int32) × Int64 × (Nat → Int32) × (Nat → Nat → Int64) × (Nat → Int32) × (Nat → Nat → Int32)), one a1 iR iT wT tx iB lB aB iC aC = some q → Met l yX4_takeOne wsX4_takeOne ({ frames := fo, cells := 0, slots := 0, locals := lo } : Room) (cP (dC, dI) cy [.ref (ad 0), .int a1] (zzR ad cy (ad 3) (ad 10) iR iT wT tx iB lB aB iC aC) sz) (cQi (dC, dI) cy q.1 (zzR ad cy (ad 3) (ad 10) q.2.1 q.2.2.1 q.2.2.2.1 tx q.2.2.2.2.1 q.2.2.2.2.2.1 aB q.2.2.2.2.2.2.1 q.2.2.2.2.2.2.2) (va_A (zzR ad cy (ad 3) (ad 10) iR iT wT tx iB lB aB iC aC) sz)) 0 0 (va_A (zzR ad cy (ad 3) (ad 10) iR iT wT tx iB lB aB iC aC) sz)) (a1 : Int32) (iR : Nat → Int32) (iT : Nat → Int32) (wT : Int64) (tx : Nat → Int32) (iB : Nat → Int32) (lB : Nat → Nat → Int64) (aB : Nat → Nat → Int32) (iC : Nat → Int32) (aC : Nat → Nat → Int32) (q : Int32 × (Nat → Int32) × (Nat → Int32) × Int64 × (Nat → Int32) × (Nat → Nat → Int64) × (Nat → Int32) × (Nat → Nat → Int32)) (h : f_R_takeBracketed N one a1 iR iT wT tx iB lB aB iC aC = some q) : Met l yX4_takeBracketed wsX4_takeBracketed ({ frames := fo + 5, cells := 0, slots := 0, locals := lo + 122 } : Room) (cP (dC, dI) cy [.ref (ad 0), .int a1] (zzR ad cy (ad 3) (ad 10) iR iT wT tx iB lB aB iC aC) sz) (cQi (dC, dI) cy q.1 (zzR ad cy (ad 3) (ad 10) q.2.1 q.2.2.1 q.2.2.2.1 tx q.2.2.2.2.1 q.2.2.2.2.2.1 aB q.2.2.2.2.2.2.1 q.2.2.2.2.2.2.2) (va_A (zzR ad cy (ad 3) (ad 10) iR iT wT tx iB lB aB iC aC) sz)) 0 0 (va_A (zzR ad cy (ad 3) (ad 10) iR iT wT tx iB lB aB iC aC) sz) := by
  refine Met.ofW (cc := cX4_takeBracketed) (maxL := 3) (ret := (some .int)) (by decide) rfl ?_
  intro p e s m args below meth c s₁ B hml hv
  obtain ⟨hav, hsz, hP, hK, hD0, hN⟩ := hv
  have hx := B.exec
  have hb := B.bytes
  have hr := B.returns
  have hts := atoms_spec (ws := wsX4_takeBracketed) B.pre
  have hown : s.vm.findClass RX4 = some m.cls := findClass_of_methodNamed B.named
  have hlocks := B.notSynchronized
  subst hsz
  have hD := hD0.self (sz := s.heap.size)
  generalize hAe : va_A (zzR ad cy (ad 3) (ad 10) iR iT wT tx iB lB aB iC aC) s.heap.size = A at hD ⊢
  have hA : ∀ q : Nat, s.heap.size ≤ q → A q := fun q h => by rw [← hAe]; exact Or.inr h
  have hS : va_S A s.heap s.heap [] := va_S.rf
  generalize hWQ : (zzR ad cy (ad 3) (ad 10) q.2.1 q.2.2.1 q.2.2.2.1 tx q.2.2.2.2.1 q.2.2.2.2.2.1 aB q.2.2.2.2.2.2.1 q.2.2.2.2.2.2.2) = WQ
  generalize hQQ : MQ below (cQi (dC, dI) cy q.1 WQ A) args s 0 0 A = QQ
  have hl := lv_entry ([.ref (ad 0), .int a1] : List Value) (n := 3) (Nat.le_of_ble_eq_true rfl)
  have hfr := lg_entry_eq m ([.ref (ad 0), .int a1] : List Value) 3
  rw [← hav] at hfr
  rw [hfr]
  clear hfr hav
  generalize (lg_sl ([.ref (ad 0), .int a1] : List Value) ++ List.replicate (3 - (lg_sl ([.ref (ad 0), .int a1] : List Value)).length) Slot.unset).toArray = ls at hl ⊢
  have hl : lv_has ls 3 [(0, .ref (ad 0)), (1, .int a1)] := hl
  have kf20 := hts _ (List.mem_cons_of_mem _ m_fl_X4_20)
  have ki4 := (fun w h => List.mem_cons_of_mem _ (i_X4 w h) : ∀ w ∈ u_ws RX4 TX4 5, w ∈ wsX4_takeBracketed)
  have kf48 := hts _ (List.mem_cons_of_mem _ m_fl_X4_48)
  have ki5 := (fun w h => List.mem_cons_of_mem _ (i_X5 w h) : ∀ w ∈ u_ws RX5 TX5 6, w ∈ wsX4_takeBracketed)
  have kc189 := hts _ (List.mem_cons_of_mem _ m_kl_X4_189)
  refine (?_ : ∀ (H : Heap) (locs : List Loc), va_P (dC, dI) vwCl (zzR ad cy (ad 3) (ad 10) iR iT wT tx iB lB aB iC aC) H → va_D A (zzR ad cy (ad 3) (ad 10) iR iT wT tx iB lB aB iC aC) → va_S A s.heap H locs → W p l e ({ frames := fo + 5, cells := 0, slots := 0, locals := lo + 122 } : Room) s m args below meth c H locs 0 0 QQ (F0 m 0 ls [])) s.heap [] hP hD hS
  clear hP hD hS
  intro H locs hP hD hS
  unfold f_R_takeBracketed at h
  refine lv_aload_n hx hb dX4_takeBracketed_0 rfl (lv_at hl 0 rfl) ?_
  refine lv_iload_n hx hb dX4_takeBracketed_1 rfl (lv_at hl 1 rfl) ?_
  obtain ⟨q2, e2, h⟩ := g_b h
  refine callVis (cc := cX4_takeBracketed) (w1 := zzR ad cy (ad 3) (ad 10) q2.2.1 q2.2.2.1 q2.2.2.2.1 tx q2.2.2.2.2.1 q2.2.2.2.2.2.1 aB q2.2.2.2.2.2.2.1 q2.2.2.2.2.2.2.2) (As := [.int a1]) (rest := []) ⟨hx, hb, hml, hown, hts⟩ (c_R_takeConcept l dC dI cy ad H.size N fo lo one hone a1 iR iT wT tx iB lB aB iC aC q2 e2) (cwV 1 hts (goodV m_ml_X4_97 m_im_X4_takeConcept m_se_X4_takeConcept m_in_X4 m_cd_X4_takeConcept) rfl rfl rfl (by decide +kernel) ⟨(show fo + 4 + 1 ≤ fo + 5 by omega), (show 8 + (5 + 11) + (lo + 98) ≤ lo + 122 by omega)⟩) hN hK hP hD hS hA rfl 0 rfl rfl rfl hl.1 rfl (Nat.le_of_ble_eq_true rfl) dX4_takeBracketed_2 ⟨Nat.zero_le _, Nat.zero_le _⟩ (fun H locs hP hD hS => ?_)
  refine lv_istore_n (lv' := [(2, .int q2.1), (0, .ref (ad 0)), (1, .int a1)]) hx hb dX4_takeBracketed_5 rfl hl (by decide) rfl (fun ls hl => ?_)
  refine lv_iload_n hx hb dX4_takeBracketed_6 rfl (lv_at hl 0 rfl) ?_
  refine lv_iconst (v := (-1)) hx hb dX4_takeBracketed_7 (by decide) ?_
  refine lv_icmp_ne (tgt := 13) hx hb dX4_takeBracketed_8 (by decide) (fun cz => ?_) (fun cz => ?_)
  · have h := g_f h cz
    refine lv_aload_n hx hb dX4_takeBracketed_13 rfl (lv_at hl 1 rfl) ?_
    refine va_get (D := (dC, dI)) (ci := 4) (v := .ref (ad 1)) (C := RX4) (T := TX4) (N := 5) hx hb hts ki4 hown hK hP 0 rfl rfl 0 (by decide) kf20 (fun _ h9 => h9) rfl dX4_takeBracketed_14 ?_
    refine va_get (D := (dC, dI)) (ci := 5) (v := .long q2.2.2.2.1) (C := RX5) (T := TX5) (N := 6) hx hb hts ki5 hown hK hP 1 rfl rfl 5 (by decide) kf48 (fun _ h9 => h9) rfl dX4_takeBracketed_17 ?_
    refine lv_ldc2 (v := 41) hx hb hown kc189 dX4_takeBracketed_20 ?_
    refine W.lcmp hx hb dX4_takeBracketed_23 ?_
    refine lv_if_eq (tgt := 32) hx hb dX4_takeBracketed_24 (by decide) (fun cz => ?_) (fun cz => ?_)
    · have h := g_t h (lg_cmp0.mp cz)
      refine lv_aload_n hx hb dX4_takeBracketed_32 rfl (lv_at hl 1 rfl) ?_
      refine va_get (D := (dC, dI)) (ci := 4) (v := .ref (ad 1)) (C := RX4) (T := TX4) (N := 5) hx hb hts ki4 hown hK hP 0 rfl rfl 0 (by decide) kf20 (fun _ h9 => h9) rfl dX4_takeBracketed_33 ?_
      obtain ⟨q36, e36, h⟩ := g_b h
      refine callVv (cc := cX4_takeBracketed) (ws' := zzR ad cy (ad 3) (ad 10) q2.2.1 (us q2.2.2.1 [(2, q36.1), (3, q36.2.1), (4, q36.2.2.1)]) q36.2.2.2 tx q2.2.2.2.2.1 q2.2.2.2.2.2.1 aB q2.2.2.2.2.2.2.1 q2.2.2.2.2.2.2.2) (As := []) (rest := []) ⟨hx, hb, hml, hown, hts⟩ (c_T_step l dC dI cy (fun i => ad (i + 1)) H.size N q2.2.2.1 q2.2.2.2.1 tx q36 e36) (cwV 0 hts (goodV m_ml_X4_87 m_im_X5_step m_se_X5_step m_in_X5 m_cd_X5_step) rfl rfl rfl (by decide +kernel) ⟨(show 2 + 1 ≤ fo + 5 by omega), (show 8 + (1 + 11) + (42) ≤ lo + 122 by omega)⟩) hN hK hP hD hS hA [1, 2] [none, some 0, some 1, none, none, none, none, none, none, none, none, none, none, none, none, none, none, none, none] rfl rfl rfl rfl rfl rfl 1 rfl rfl rfl hl.1 rfl (Nat.le_of_ble_eq_true rfl) dX4_takeBracketed_36 ⟨Nat.zero_le _, Nat.zero_le _⟩ (fun H locs hP hD hS => ?_)
      refine lv_iload_n hx hb dX4_takeBracketed_39 rfl (lv_at hl 0 rfl) ?_
      have h' := Option.some.inj h
      rw [← hQQ]
      exact W.iret (v := q2.1) hx hb hr (fun t ht hW => ⟨⟨q2.1, (), rfl, by rw [← h'], by rw [← hWQ, ← h', ht]; exact hP, va_K.moved hW.alike hK⟩, hS.F ht⟩) hS.2.2 dX4_takeBracketed_40
    · have h := g_f h (fun z => cz (lg_cmp0.mpr z))
      refine lv_aload_n hx hb dX4_takeBracketed_27 rfl (lv_at hl 1 rfl) ?_
      obtain ⟨q28, e28, h⟩ := g_b h
      refine callVis (cc := cX4_takeBracketed) (w1 := zzR ad cy (ad 3) (ad 10) (us q2.2.1 [(3, q28.2.1), (4, q28.2.2)]) q2.2.2.1 q2.2.2.2.1 tx q2.2.2.2.2.1 q2.2.2.2.2.2.1 aB q2.2.2.2.2.2.2.1 q2.2.2.2.2.2.2.2) (As := []) (rest := []) ⟨hx, hb, hml, hown, hts⟩ (c_R_misplaced l dC dI cy ad H.size q2.2.1 q2.2.2.1 q2.2.2.2.1 tx q2.2.2.2.2.1 q2.2.2.2.2.2.1 aB q2.2.2.2.2.2.2.1 q2.2.2.2.2.2.2.2 q28 e28) (cwV 0 hts (goodV m_ml_X4_83 m_im_X4_misplaced m_se_X4_misplaced m_in_X4 m_cd_X4_misplaced) rfl rfl rfl (by decide +kernel) ⟨(show 2 + 1 ≤ fo + 5 by omega), (show 8 + (1 + 11) + (43) ≤ lo + 122 by omega)⟩) hN hK hP hD hS hA rfl 0 rfl rfl rfl hl.1 rfl (Nat.le_of_ble_eq_true rfl) dX4_takeBracketed_28 ⟨Nat.zero_le _, Nat.zero_le _⟩ (fun H locs hP hD hS => ?_)
      have h' := Option.some.inj h
      rw [← hQQ]
      exact W.iret (v := q28.1) hx hb hr (fun t ht hW => ⟨⟨q28.1, (), rfl, by rw [← h'], by rw [← hWQ, ← h', ht]; exact hP, va_K.moved hW.alike hK⟩, hS.F ht⟩) hS.2.2 dX4_takeBracketed_31
  · have h := g_t h cz
    refine lv_iconst (v := (-1)) hx hb dX4_takeBracketed_11 (by decide) ?_
    have h' := Option.some.inj h
    rw [← hQQ]
    exact W.iret (v := (-1 : Int32)) hx hb hr (fun t ht hW => ⟨⟨(-1 : Int32), (), rfl, by rw [← h'], by rw [← hWQ, ← h', ht]; exact hP, va_K.moved hW.alike hK⟩, hS.F ht⟩) hS.2.2 dX4_takeBracketed_12
set_option maxHeartbeats 8000000 in
set_option maxRecDepth 100000 in
theorem c_R_takeQuantified (l : Launch) (dC : Nat → ClassId) (dI : Nat → Nat → Nat) (cy : Nat → ClassId) (ad : Nat → Nat) (sz : Nat) (N : Nat) (fo lo : Nat) (one : Int32 → (Nat → Int32) → (Nat → Int32) → Int64 → (Nat → Int32) → (Nat → Int32) → (Nat → Nat → Int64) → (Nat → Nat → Int32) → (Nat → Int32) → (Nat → Nat → Int32) → Option (Int32 × (Nat → Int32) × (Nat → Int32) × Int64 × (Nat → Int32) × (Nat → Nat → Int64) × (Nat → Int32) × (Nat → Nat → Int32))) (hone : ∀ (sz : Nat) (a1 : Int32) (iR : Nat → Int32) (iT : Nat → Int32) (wT : Int64) (tx : Nat → Int32) (iB : Nat → Int32) (lB : Nat → Nat → Int64) (aB : Nat → Nat → Int32) (iC : Nat → Int32) (aC : Nat → Nat → Int32) (q : Int32 × (Nat → Int32) × (Nat → Int32) × Int64 × (Nat → Int32) × (Nat → Nat → Int64) × (Nat → Int32) × (Nat → Nat → Int32)), one a1 iR iT wT tx iB lB aB iC aC = some q → Met l yX4_takeOne wsX4_takeOne ({ frames := fo, cells := 0, slots := 0, locals := lo } : Room) (cP (dC, dI) cy [.ref (ad 0), .int a1] (zzR ad cy (ad 3) (ad 10) iR iT wT tx iB lB aB iC aC) sz) (cQi (dC, dI) cy q.1 (zzR ad cy (ad 3) (ad 10) q.2.1 q.2.2.1 q.2.2.2.1 tx q.2.2.2.2.1 q.2.2.2.2.2.1 aB q.2.2.2.2.2.2.1 q.2.2.2.2.2.2.2) (va_A (zzR ad cy (ad 3) (ad 10) iR iT wT tx iB lB aB iC aC) sz)) 0 0 (va_A (zzR ad cy (ad 3) (ad 10) iR iT wT tx iB lB aB iC aC) sz)) (a1 : Int32) (a2 : Int32) (a3 : Int32) (iR : Nat → Int32) (iT : Nat → Int32) (wT : Int64) (tx : Nat → Int32) (iB : Nat → Int32) (lB : Nat → Nat → Int64) (aB : Nat → Nat → Int32) (iC : Nat → Int32) (aC : Nat → Nat → Int32) (q : Int32 × (Nat → Int32) × (Nat → Int32) × Int64 × (Nat → Int32) × (Nat → Nat → Int64) × (Nat → Int32) × (Nat → Nat → Int32)) (h : f_R_takeQuantified N one a1 a2 a3 iR iT wT tx iB lB aB iC aC = some q) : Met l yX4_takeQuantified wsX4_takeQuantified ({ frames := fo + 4, cells := 0, slots := 0, locals := lo + 84 } : Room) (cP (dC, dI) cy [.ref (ad 0), .int a1, .int a2, .int a3] (zzR ad cy (ad 3) (ad 10) iR iT wT tx iB lB aB iC aC) sz) (cQi (dC, dI) cy q.1 (zzR ad cy (ad 3) (ad 10) q.2.1 q.2.2.1 q.2.2.2.1 tx q.2.2.2.2.1 q.2.2.2.2.2.1 aB q.2.2.2.2.2.2.1 q.2.2.2.2.2.2.2) (va_A (zzR ad cy (ad 3) (ad 10) iR iT wT tx iB lB aB iC aC) sz)) 0 0 (va_A (zzR ad cy (ad 3) (ad 10) iR iT wT tx iB lB aB iC aC) sz) := by
  refine Met.ofW (cc := cX4_takeQuantified) (maxL := 7) (ret := (some .int)) (by decide) rfl ?_
  intro p e s m args below meth c s₁ B hml hv
  obtain ⟨hav, hsz, hP, hK, hD0, hN⟩ := hv
  have hx := B.exec
  have hb := B.bytes
  have hr := B.returns
  have hts := atoms_spec (ws := wsX4_takeQuantified) B.pre
  have hown : s.vm.findClass RX4 = some m.cls := findClass_of_methodNamed B.named
  have hlocks := B.notSynchronized
  subst hsz
  have hD := hD0.self (sz := s.heap.size)
  generalize hAe : va_A (zzR ad cy (ad 3) (ad 10) iR iT wT tx iB lB aB iC aC) s.heap.size = A at hD ⊢
  have hA : ∀ q : Nat, s.heap.size ≤ q → A q := fun q h => by rw [← hAe]; exact Or.inr h
  have hS : va_S A s.heap s.heap [] := va_S.rf
  generalize hWQ : (zzR ad cy (ad 3) (ad 10) q.2.1 q.2.2.1 q.2.2.2.1 tx q.2.2.2.2.1 q.2.2.2.2.2.1 aB q.2.2.2.2.2.2.1 q.2.2.2.2.2.2.2) = WQ
  generalize hQQ : MQ below (cQi (dC, dI) cy q.1 WQ A) args s 0 0 A = QQ
  have hl := lv_entry ([.ref (ad 0), .int a1, .int a2, .int a3] : List Value) (n := 7) (Nat.le_of_ble_eq_true rfl)
  have hfr := lg_entry_eq m ([.ref (ad 0), .int a1, .int a2, .int a3] : List Value) 7
  rw [← hav] at hfr
  rw [hfr]
  clear hfr hav
  generalize (lg_sl ([.ref (ad 0), .int a1, .int a2, .int a3] : List Value) ++ List.replicate (7 - (lg_sl ([.ref (ad 0), .int a1, .int a2, .int a3] : List Value)).length) Slot.unset).toArray = ls at hl ⊢
  have hl : lv_has ls 7 [(0, .ref (ad 0)), (1, .int a1), (2, .int a2), (3, .int a3)] := hl
  have kf34 := hts _ (List.mem_cons_of_mem _ m_fl_X4_34)
  have ki4 := (fun w h => List.mem_cons_of_mem _ (i_X4 w h) : ∀ w ∈ u_ws RX4 TX4 5, w ∈ wsX4_takeQuantified)
  refine (?_ : ∀ (H : Heap) (locs : List Loc), va_P (dC, dI) vwCl (zzR ad cy (ad 3) (ad 10) iR iT wT tx iB lB aB iC aC) H → va_D A (zzR ad cy (ad 3) (ad 10) iR iT wT tx iB lB aB iC aC) → va_S A s.heap H locs → W p l e ({ frames := fo + 4, cells := 0, slots := 0, locals := lo + 84 } : Room) s m args below meth c H locs 0 0 QQ (F0 m 0 ls [])) s.heap [] hP hD hS
  clear hP hD hS
  intro H locs hP hD hS
  unfold f_R_takeQuantified at h
  refine lv_aload_n hx hb dX4_takeQuantified_0 rfl (lv_at hl 0 rfl) ?_
  obtain ⟨q1, e1, h⟩ := g_b h
  refine callVis (cc := cX4_takeQuantified) (w1 := zzR ad cy (ad 3) (ad 10) (us iR [(3, q1.2.1), (4, q1.2.2.1)]) (us iT [(2, q1.2.2.2.1), (3, q1.2.2.2.2.1), (4, q1.2.2.2.2.2.1)]) q1.2.2.2.2.2.2.1 tx (us iB [(5, q1.2.2.2.2.2.2.2.1)]) (us lB [(4, q1.2.2.2.2.2.2.2.2)]) aB iC aC) (As := []) (rest := []) ⟨hx, hb, hml, hown, hts⟩ (c_R_takeRole l dC dI cy ad H.size N iR iT wT tx iB lB aB iC aC q1 e1) (cwV 0 hts (goodV m_ml_X4_117 m_im_X4_takeRole m_se_X4_takeRole m_in_X4 m_cd_X4_takeRole) rfl rfl rfl (by decide +kernel) ⟨(show 3 + 1 ≤ fo + 4 by omega), (show 8 + (2 + 11) + (63) ≤ lo + 84 by omega)⟩) hN hK hP hD hS hA rfl 0 rfl rfl rfl hl.1 rfl (Nat.le_of_ble_eq_true rfl) dX4_takeQuantified_1 ⟨Nat.zero_le _, Nat.zero_le _⟩ (fun H locs hP hD hS => ?_)
  refine lv_istore (lv' := [(4, .int q1.1), (0, .ref (ad 0)), (1, .int a1), (2, .int a2), (3, .int a3)]) hx hb dX4_takeQuantified_4 hl (by decide) rfl (fun ls hl => ?_)
  refine lv_iload hx hb dX4_takeQuantified_6 (lv_at hl 0 rfl) ?_
  refine lv_iconst (v := (-1)) hx hb dX4_takeQuantified_8 (by decide) ?_
  refine lv_icmp_ne (tgt := 14) hx hb dX4_takeQuantified_9 (by decide) (fun cz => ?_) (fun cz => ?_)
  · have h := g_f h cz
    refine lv_aload_n hx hb dX4_takeQuantified_14 rfl (lv_at hl 1 rfl) ?_
    refine lv_iload_n hx hb dX4_takeQuantified_15 rfl (lv_at hl 4 rfl) ?_
    obtain ⟨q16, e16, h⟩ := g_b h
    refine callVis (cc := cX4_takeQuantified) (w1 := zzR ad cy (ad 3) (ad 10) q16.2.1 q16.2.2.1 q16.2.2.2.1 tx q16.2.2.2.2.1 q16.2.2.2.2.2.1 aB q16.2.2.2.2.2.2.1 q16.2.2.2.2.2.2.2) (As := [.int a3]) (rest := []) ⟨hx, hb, hml, hown, hts⟩ (hone H.size a3 ((us iR [(3, q1.2.1), (4, q1.2.2.1)])) ((us iT [(2, q1.2.2.2.1), (3, q1.2.2.2.2.1), (4, q1.2.2.2.2.2.1)])) q1.2.2.2.2.2.2.1 tx ((us iB [(5, q1.2.2.2.2.2.2.2.1)])) ((us lB [(4, q1.2.2.2.2.2.2.2.2)])) aB iC aC q16 e16) (cwV 1 hts (goodV m_ml_X4_162 m_im_X4_takeOne m_se_X4_takeOne m_in_X4 m_cd_X4_takeOne) rfl rfl rfl (by decide +kernel) ⟨(show fo + 0 + 1 ≤ fo + 4 by omega), (show 8 + (6 + 11) + (lo + 0) ≤ lo + 84 by omega)⟩) hN hK hP hD hS hA rfl 0 rfl rfl rfl hl.1 rfl (Nat.le_of_ble_eq_true rfl) dX4_takeQuantified_16 ⟨Nat.zero_le _, Nat.zero_le _⟩ (fun H locs hP hD hS => ?_)
    refine lv_istore (lv' := [(5, .int q16.1), (4, .int q1.1), (0, .ref (ad 0)), (1, .int a1), (2, .int a2), (3, .int a3)]) hx hb dX4_takeQuantified_19 hl (by decide) rfl (fun ls hl => ?_)
    refine lv_iload hx hb dX4_takeQuantified_21 (lv_at hl 0 rfl) ?_
    refine lv_iconst (v := (-1)) hx hb dX4_takeQuantified_23 (by decide) ?_
    refine lv_icmp_ne (tgt := 29) hx hb dX4_takeQuantified_24 (by decide) (fun cz => ?_) (fun cz => ?_)
    · have h := g_f h cz
      refine lv_aload_n hx hb dX4_takeQuantified_29 rfl (lv_at hl 2 rfl) ?_
      refine va_get (D := (dC, dI)) (ci := 4) (v := .ref (ad 10)) (C := RX4) (T := TX4) (N := 5) hx hb hts ki4 hown hK hP 0 rfl rfl 2 (by decide) kf34 (fun _ h9 => h9) rfl dX4_takeQuantified_30 ?_
      refine lv_iload_n hx hb dX4_takeQuantified_33 rfl (lv_at hl 3 rfl) ?_
      refine lv_iload hx hb dX4_takeQuantified_34 (lv_at hl 0 rfl) ?_
      refine lv_iload hx hb dX4_takeQuantified_36 (lv_at hl 1 rfl) ?_
      obtain ⟨q38, e38, h⟩ := g_b h
      refine callVi (cc := cX4_takeQuantified) (ws' := zzR ad cy (ad 3) (ad 10) q16.2.1 q16.2.2.1 q16.2.2.2.1 tx q16.2.2.2.2.1 q16.2.2.2.2.2.1 aB (us q16.2.2.2.2.2.2.1 [(4, q38.2.1), (9, q38.2.2.1)]) (us q16.2.2.2.2.2.2.2 [(0, q38.2.2.2.1), (1, q38.2.2.2.2.1), (2, q38.2.2.2.2.2.1), (3, q38.2.2.2.2.2.2.1), (5, q38.2.2.2.2.2.2.2.1), (6, q38.2.2.2.2.2.2.2.2.1), (7, q38.2.2.2.2.2.2.2.2.2.1), (8, q38.2.2.2.2.2.2.2.2.2.2)])) (As := [.int a1, .int q16.1, .int q1.1]) (rest := []) ⟨hx, hb, hml, hown, hts⟩ (c_C_make l dC dI cy (fun i => ad (i + 10)) H.size N a1 q16.1 q1.1 q16.2.2.2.2.2.2.1 q16.2.2.2.2.2.2.2 q38 e38) (cwV 3 hts (goodV m_ml_X4_156 m_im_X1_make m_se_X1_make m_in_X1 m_cd_X1_make) rfl rfl rfl (by decide +kernel) ⟨(show 2 + 1 ≤ fo + 4 by omega), (show 8 + (7 + 11) + (48) ≤ lo + 84 by omega)⟩) hN hK hP hD hS hA [10, 11, 12, 13, 14, 15, 16, 17, 18] [none, none, none, none, none, none, none, none, none, none, some 0, some 1, some 2, some 3, some 4, some 5, some 6, some 7, some 8] rfl rfl rfl rfl rfl rfl 10 rfl rfl rfl hl.1 rfl (Nat.le_of_ble_eq_true rfl) dX4_takeQuantified_38 ⟨Nat.zero_le _, Nat.zero_le _⟩ (fun H locs hP hD hS => ?_)
      refine lv_istore (lv' := [(6, .int q38.1), (5, .int q16.1), (4, .int q1.1), (0, .ref (ad 0)), (1, .int a1), (2, .int a2), (3, .int a3)]) hx hb dX4_takeQuantified_41 hl (by decide) rfl (fun ls hl => ?_)
      refine lv_iload hx hb dX4_takeQuantified_43 (lv_at hl 0 rfl) ?_
      refine lv_iconst (v := (-1)) hx hb dX4_takeQuantified_45 (by decide) ?_
      refine lv_icmp_ne (tgt := 58) hx hb dX4_takeQuantified_46 (by decide) (fun cz => ?_) (fun cz => ?_)
      · have h := g_f h cz
        refine lv_iload hx hb dX4_takeQuantified_58 (lv_at hl 0 rfl) ?_
        have h' := Option.some.inj h
        rw [← hQQ]
        exact W.iret (v := q38.1) hx hb hr (fun t ht hW => ⟨⟨q38.1, (), rfl, by rw [← h'], by rw [← hWQ, ← h', ht]; exact hP, va_K.moved hW.alike hK⟩, hS.F ht⟩) hS.2.2 dX4_takeQuantified_60
      · have h := g_t h cz
        refine lv_aload_n hx hb dX4_takeQuantified_49 rfl (lv_at hl 3 rfl) ?_
        refine lv_iconst (v := 5) hx hb dX4_takeQuantified_50 (by decide) ?_
        refine lv_iload_n hx hb dX4_takeQuantified_51 rfl (lv_at hl 5 rfl) ?_
        obtain ⟨q52, e52, h⟩ := g_b h
        refine callVis (cc := cX4_takeQuantified) (w1 := zzR ad cy (ad 3) (ad 10) (us q16.2.1 [(3, q52.2.1), (4, q52.2.2)]) q16.2.2.1 q16.2.2.2.1 tx q16.2.2.2.2.1 q16.2.2.2.2.2.1 aB (us q16.2.2.2.2.2.2.1 [(4, q38.2.1), (9, q38.2.2.1)]) (us q16.2.2.2.2.2.2.2 [(0, q38.2.2.2.1), (1, q38.2.2.2.2.1), (2, q38.2.2.2.2.2.1), (3, q38.2.2.2.2.2.2.1), (5, q38.2.2.2.2.2.2.2.1), (6, q38.2.2.2.2.2.2.2.2.1), (7, q38.2.2.2.2.2.2.2.2.2.1), (8, q38.2.2.2.2.2.2.2.2.2.2)])) (As := [.int ((5 : Int32)), .int a2]) (rest := []) ⟨hx, hb, hml, hown, hts⟩ (c_R_fail l dC dI cy ad H.size ((5 : Int32)) a2 q16.2.1 q16.2.2.1 q16.2.2.2.1 tx q16.2.2.2.2.1 q16.2.2.2.2.2.1 aB ((us q16.2.2.2.2.2.2.1 [(4, q38.2.1), (9, q38.2.2.1)])) ((us q16.2.2.2.2.2.2.2 [(0, q38.2.2.2.1), (1, q38.2.2.2.2.1), (2, q38.2.2.2.2.2.1), (3, q38.2.2.2.2.2.2.1), (5, q38.2.2.2.2.2.2.2.1), (6, q38.2.2.2.2.2.2.2.2.1), (7, q38.2.2.2.2.2.2.2.2.2.1), (8, q38.2.2.2.2.2.2.2.2.2.2)])) q52 e52) (cwV 2 hts (goodV m_ml_X4_73 m_im_X4_fail m_se_X4_fail m_in_X4 m_cd_X4_fail) rfl rfl rfl (by decide +kernel) ⟨(show 0 + 1 ≤ fo + 4 by omega), (show 8 + (3 + 11) + (0) ≤ lo + 84 by omega)⟩) hN hK hP hD hS hA rfl 0 rfl rfl rfl hl.1 rfl (Nat.le_of_ble_eq_true rfl) dX4_takeQuantified_52 ⟨Nat.zero_le _, Nat.zero_le _⟩ (fun H locs hP hD hS => ?_)
        refine lv_goto (tgt := 60) hx hb dX4_takeQuantified_55 (by decide) ?_
        have h' := Option.some.inj h
        rw [← hQQ]
        exact W.iret (v := q52.1) hx hb hr (fun t ht hW => ⟨⟨q52.1, (), rfl, by rw [← h'], by rw [← hWQ, ← h', ht]; exact hP, va_K.moved hW.alike hK⟩, hS.F ht⟩) hS.2.2 dX4_takeQuantified_60
    · have h := g_t h cz
      refine lv_iconst (v := (-1)) hx hb dX4_takeQuantified_27 (by decide) ?_
      have h' := Option.some.inj h
      rw [← hQQ]
      exact W.iret (v := (-1 : Int32)) hx hb hr (fun t ht hW => ⟨⟨(-1 : Int32), (), rfl, by rw [← h'], by rw [← hWQ, ← h', ht]; exact hP, va_K.moved hW.alike hK⟩, hS.F ht⟩) hS.2.2 dX4_takeQuantified_28
  · have h := g_t h cz
    refine lv_iconst (v := (-1)) hx hb dX4_takeQuantified_12 (by decide) ?_
    have h' := Option.some.inj h
    rw [← hQQ]
    exact W.iret (v := (-1 : Int32)) hx hb hr (fun t ht hW => ⟨⟨(-1 : Int32), (), rfl, by rw [← h'], by rw [← hWQ, ← h', ht]; exact hP, va_K.moved hW.alike hK⟩, hS.F ht⟩) hS.2.2 dX4_takeQuantified_13
set_option maxHeartbeats 8000000 in
set_option maxRecDepth 100000 in
theorem c_R_takeOneB (l : Launch) (dC : Nat → ClassId) (dI : Nat → Nat → Nat) (cy : Nat → ClassId) (ad : Nat → Nat) (sz : Nat) (N : Nat) (fo lo : Nat) (one : Int32 → (Nat → Int32) → (Nat → Int32) → Int64 → (Nat → Int32) → (Nat → Int32) → (Nat → Nat → Int64) → (Nat → Nat → Int32) → (Nat → Int32) → (Nat → Nat → Int32) → Option (Int32 × (Nat → Int32) × (Nat → Int32) × Int64 × (Nat → Int32) × (Nat → Nat → Int64) × (Nat → Int32) × (Nat → Nat → Int32))) (hone : ∀ (sz : Nat) (a1 : Int32) (iR : Nat → Int32) (iT : Nat → Int32) (wT : Int64) (tx : Nat → Int32) (iB : Nat → Int32) (lB : Nat → Nat → Int64) (aB : Nat → Nat → Int32) (iC : Nat → Int32) (aC : Nat → Nat → Int32) (q : Int32 × (Nat → Int32) × (Nat → Int32) × Int64 × (Nat → Int32) × (Nat → Nat → Int64) × (Nat → Int32) × (Nat → Nat → Int32)), one a1 iR iT wT tx iB lB aB iC aC = some q → Met l yX4_takeOne wsX4_takeOne ({ frames := fo, cells := 0, slots := 0, locals := lo } : Room) (cP (dC, dI) cy [.ref (ad 0), .int a1] (zzR ad cy (ad 3) (ad 10) iR iT wT tx iB lB aB iC aC) sz) (cQi (dC, dI) cy q.1 (zzR ad cy (ad 3) (ad 10) q.2.1 q.2.2.1 q.2.2.2.1 tx q.2.2.2.2.1 q.2.2.2.2.2.1 aB q.2.2.2.2.2.2.1 q.2.2.2.2.2.2.2) (va_A (zzR ad cy (ad 3) (ad 10) iR iT wT tx iB lB aB iC aC) sz)) 0 0 (va_A (zzR ad cy (ad 3) (ad 10) iR iT wT tx iB lB aB iC aC) sz)) (a1 : Int32) (iR : Nat → Int32) (iT : Nat → Int32) (wT : Int64) (tx : Nat → Int32) (iB : Nat → Int32) (lB : Nat → Nat → Int64) (aB : Nat → Nat → Int32) (iC : Nat → Int32) (aC : Nat → Nat → Int32) (q : Int32 × (Nat → Int32) × (Nat → Int32) × Int64 × (Nat → Int32) × (Nat → Nat → Int64) × (Nat → Int32) × (Nat → Nat → Int32)) (h : f_R_takeOneB N one a1 iR iT wT tx iB lB aB iC aC = some q) : Met l yX4_takeOne wsX4_takeOne ({ frames := fo + 6, cells := 0, slots := 0, locals := lo + 144 } : Room) (cP (dC, dI) cy [.ref (ad 0), .int a1] (zzR ad cy (ad 3) (ad 10) iR iT wT tx iB lB aB iC aC) sz) (cQi (dC, dI) cy q.1 (zzR ad cy (ad 3) (ad 10) q.2.1 q.2.2.1 q.2.2.2.1 tx q.2.2.2.2.1 q.2.2.2.2.2.1 aB q.2.2.2.2.2.2.1 q.2.2.2.2.2.2.2) (va_A (zzR ad cy (ad 3) (ad 10) iR iT wT tx iB lB aB iC aC) sz)) 0 0 (va_A (zzR ad cy (ad 3) (ad 10) iR iT wT tx iB lB aB iC aC) sz) := by
  refine Met.ofW (cc := cX4_takeOne) (maxL := 6) (ret := (some .int)) (by decide) rfl ?_
  intro p e s m args below meth c s₁ B hml hv
  obtain ⟨hav, hsz, hP, hK, hD0, hN⟩ := hv
  have hx := B.exec
  have hb := B.bytes
  have hr := B.returns
  have hts := atoms_spec (ws := wsX4_takeOne) B.pre
  have hown : s.vm.findClass RX4 = some m.cls := findClass_of_methodNamed B.named
  have hlocks := B.notSynchronized
  subst hsz
  have hD := hD0.self (sz := s.heap.size)
  generalize hAe : va_A (zzR ad cy (ad 3) (ad 10) iR iT wT tx iB lB aB iC aC) s.heap.size = A at hD ⊢
  have hA : ∀ q : Nat, s.heap.size ≤ q → A q := fun q h => by rw [← hAe]; exact Or.inr h
  have hS : va_S A s.heap s.heap [] := va_S.rf
  generalize hWQ : (zzR ad cy (ad 3) (ad 10) q.2.1 q.2.2.1 q.2.2.2.1 tx q.2.2.2.2.1 q.2.2.2.2.2.1 aB q.2.2.2.2.2.2.1 q.2.2.2.2.2.2.2) = WQ
  generalize hQQ : MQ below (cQi (dC, dI) cy q.1 WQ A) args s 0 0 A = QQ
  have hl := lv_entry ([.ref (ad 0), .int a1] : List Value) (n := 6) (Nat.le_of_ble_eq_true rfl)
  have hfr := lg_entry_eq m ([.ref (ad 0), .int a1] : List Value) 6
  rw [← hav] at hfr
  rw [hfr]
  clear hfr hav
  generalize (lg_sl ([.ref (ad 0), .int a1] : List Value) ++ List.replicate (6 - (lg_sl ([.ref (ad 0), .int a1] : List Value)).length) Slot.unset).toArray = ls at hl ⊢
  have hl : lv_has ls 6 [(0, .ref (ad 0)), (1, .int a1)] := hl
  have kf20 := hts _ (List.mem_cons_of_mem _ m_fl_X4_20)
  have ki4 := (fun w h => List.mem_cons_of_mem _ (i_X4 w h) : ∀ w ∈ u_ws RX4 TX4 5, w ∈ wsX4_takeOne)
  have kf45 := hts _ (List.mem_cons_of_mem _ m_fl_X4_45)
  have ki5 := (fun w h => List.mem_cons_of_mem _ (i_X5 w h) : ∀ w ∈ u_ws RX5 TX5 6, w ∈ wsX4_takeOne)
  have kf70 := hts _ (List.mem_cons_of_mem _ m_fl_X4_70)
  have kf48 := hts _ (List.mem_cons_of_mem _ m_fl_X4_48)
  have kc170 := hts _ (List.mem_cons_of_mem _ m_kl_X4_170)
  have kc178 := hts _ (List.mem_cons_of_mem _ m_kl_X4_178)
  have kc180 := hts _ (List.mem_cons_of_mem _ m_kl_X4_180)
  have kc182 := hts _ (List.mem_cons_of_mem _ m_kl_X4_182)
  have kc184 := hts _ (List.mem_cons_of_mem _ m_kl_X4_184)
  have kf34 := hts _ (List.mem_cons_of_mem _ m_fl_X4_34)
  refine (?_ : ∀ (H : Heap) (locs : List Loc), va_P (dC, dI) vwCl (zzR ad cy (ad 3) (ad 10) iR iT wT tx iB lB aB iC aC) H → va_D A (zzR ad cy (ad 3) (ad 10) iR iT wT tx iB lB aB iC aC) → va_S A s.heap H locs → W p l e ({ frames := fo + 6, cells := 0, slots := 0, locals := lo + 144 } : Room) s m args below meth c H locs 0 0 QQ (F0 m 0 ls [])) s.heap [] hP hD hS
  clear hP hD hS
  have B206 : ∀ (v1 : Int32) (v2 : Int32) (s1 : Int32) (x_iR : Nat → Int32) (x_iT : Nat → Int32) (x_wT : Int64) (x_iB : Nat → Int32) (H : Heap) (locs : List Loc) (ls : Array Slot), f_R_takeOneB_206 N one iR iT wT tx iB lB aB iC aC v1 v2 s1 x_iR x_iT x_wT x_iB = some q → va_P (dC, dI) vwCl (zzR ad cy (ad 3) (ad 10) x_iR x_iT x_wT tx x_iB lB aB iC aC) H → va_D A (zzR ad cy (ad 3) (ad 10) x_iR x_iT x_wT tx x_iB lB aB iC aC) → va_S A s.heap H locs → lv_has ls 6 [(1, .int v1), (2, .int v2)] → W p l e ({ frames := fo + 6, cells := 0, slots := 0, locals := lo + 144 } : Room) s m args below meth c H locs 0 0 QQ (F0 m 206 ls [.int s1, .ref (ad 0)]) := by
    intro v1 v2 s1 x_iR x_iT x_wT x_iB H locs ls h hP hD hS hl
    unfold f_R_takeOneB_206 at h
    refine lv_iload_n hx hb dX4_takeOne_206 rfl (lv_at hl 1 rfl) ?_
    refine lv_iload_n hx hb dX4_takeOne_207 rfl (lv_at hl 0 rfl) ?_
    refine lv_iconst (v := 1) hx hb dX4_takeOne_208 (by decide) ?_
    refine lv_iadd hx hb dX4_takeOne_209 ?_
    obtain ⟨q210, e210, h⟩ := g_b h
    refine callVis (cc := cX4_takeOne) (w1 := zzR ad cy (ad 3) (ad 10) q210.2.1 q210.2.2.1 q210.2.2.2.1 tx q210.2.2.2.2.1 q210.2.2.2.2.2.1 aB q210.2.2.2.2.2.2.1 q210.2.2.2.2.2.2.2) (As := [.int s1, .int v2, .int ((v1 + (1 : Int32)))]) (rest := []) ⟨hx, hb, hml, hown, hts⟩ (c_R_takeQuantified l dC dI cy ad H.size N fo lo one hone s1 v2 ((v1 + (1 : Int32))) x_iR x_iT x_wT tx x_iB lB aB iC aC q210 e210) (cwV 3 hts (goodV m_ml_X4_186 m_im_X4_takeQuantified m_se_X4_takeQuantified m_in_X4 m_cd_X4_takeQuantified) rfl rfl rfl (by decide +kernel) ⟨(show fo + 4 + 1 ≤ fo + 6 by omega), (show 8 + (7 + 11) + (lo + 84) ≤ lo + 144 by omega)⟩) hN hK hP hD hS hA rfl 0 rfl rfl rfl hl.1 rfl (Nat.le_of_ble_eq_true rfl) dX4_takeOne_210 ⟨Nat.zero_le _, Nat.zero_le _⟩ (fun H locs hP hD hS => ?_)
    have h' := Option.some.inj h
    rw [← hQQ]
    exact W.iret (v := q210.1) hx hb hr (fun t ht hW => ⟨⟨q210.1, (), rfl, by rw [← h'], by rw [← hWQ, ← h', ht]; exact hP, va_K.moved hW.alike hK⟩, hS.F ht⟩) hS.2.2 dX4_takeOne_213
  have B60 : ∀ (v1 : Int32) (x_iR : Nat → Int32) (x_iB : Nat → Int32) (H : Heap) (locs : List Loc) (ls : Array Slot), f_R_takeOneB_60 N one iR iT wT tx iB lB aB iC aC v1 x_iR x_iB = some q → va_P (dC, dI) vwCl (zzR ad cy (ad 3) (ad 10) x_iR iT wT tx x_iB lB aB iC aC) H → va_D A (zzR ad cy (ad 3) (ad 10) x_iR iT wT tx x_iB lB aB iC aC) → va_S A s.heap H locs → lv_has ls 6 [(0, .ref (ad 0)), (1, .int v1)] → W p l e ({ frames := fo + 6, cells := 0, slots := 0, locals := lo + 144 } : Room) s m args below meth c H locs 0 0 QQ (F0 m 60 ls []) := by
    intro v1 x_iR x_iB H locs ls h hP hD hS hl
    unfold f_R_takeOneB_60 at h
    refine lv_aload_n hx hb dX4_takeOne_60 rfl (lv_at hl 0 rfl) ?_
    refine va_get (D := (dC, dI)) (ci := 4) (v := .ref (ad 1)) (C := RX4) (T := TX4) (N := 5) hx hb hts ki4 hown hK hP 0 rfl rfl 0 (by decide) kf20 (fun _ h9 => h9) rfl dX4_takeOne_61 ?_
    refine va_get (D := (dC, dI)) (ci := 5) (v := .int ((iT 4))) (C := RX5) (T := TX5) (N := 6) hx hb hts ki5 hown hK hP 1 rfl rfl 4 (by decide) kf45 (fun _ h9 => h9) rfl dX4_takeOne_64 ?_
    refine lv_iconst (v := 4) hx hb dX4_takeOne_67 (by decide) ?_
    refine lv_icmp_ne (tgt := 76) hx hb dX4_takeOne_68 (by decide) (fun cz => ?_) (fun cz => ?_)
    · have h := g_f h cz
      refine lv_aload_n hx hb dX4_takeOne_76 rfl (lv_at hl 0 rfl) ?_
      refine va_get (D := (dC, dI)) (ci := 4) (v := .ref (ad 1)) (C := RX4) (T := TX4) (N := 5) hx hb hts ki4 hown hK hP 0 rfl rfl 0 (by decide) kf20 (fun _ h9 => h9) rfl dX4_takeOne_77 ?_
      refine va_get (D := (dC, dI)) (ci := 5) (v := .int ((iT 3))) (C := RX5) (T := TX5) (N := 6) hx hb hts ki5 hown hK hP 1 rfl rfl 3 (by decide) kf70 (fun _ h9 => h9) rfl dX4_takeOne_80 ?_
      refine lv_istore_n (lv' := [(2, .int ((iT 3))), (0, .ref (ad 0)), (1, .int v1)]) hx hb dX4_takeOne_83 rfl hl (by decide) rfl (fun ls hl => ?_)
      refine lv_aload_n hx hb dX4_takeOne_84 rfl (lv_at hl 1 rfl) ?_
      refine va_get (D := (dC, dI)) (ci := 4) (v := .ref (ad 1)) (C := RX4) (T := TX4) (N := 5) hx hb hts ki4 hown hK hP 0 rfl rfl 0 (by decide) kf20 (fun _ h9 => h9) rfl dX4_takeOne_85 ?_
      refine va_get (D := (dC, dI)) (ci := 5) (v := .long wT) (C := RX5) (T := TX5) (N := 6) hx hb hts ki5 hown hK hP 1 rfl rfl 5 (by decide) kf48 (fun _ h9 => h9) rfl dX4_takeOne_88 ?_
      refine lv_lstore_n (lv' := [(3, .long wT), (2, .int ((iT 3))), (0, .ref (ad 0)), (1, .int v1)]) hx hb dX4_takeOne_91 rfl hl (by decide) rfl (fun ls hl => ?_)
      refine lv_aload_n hx hb dX4_takeOne_92 rfl (lv_at hl 2 rfl) ?_
      refine va_get (D := (dC, dI)) (ci := 4) (v := .ref (ad 1)) (C := RX4) (T := TX4) (N := 5) hx hb hts ki4 hown hK hP 0 rfl rfl 0 (by decide) kf20 (fun _ h9 => h9) rfl dX4_takeOne_93 ?_
      obtain ⟨q96, e96, h⟩ := g_b h
      refine callVv (cc := cX4_takeOne) (ws' := zzR ad cy (ad 3) (ad 10) x_iR (us iT [(2, q96.1), (3, q96.2.1), (4, q96.2.2.1)]) q96.2.2.2 tx x_iB lB aB iC aC) (As := []) (rest := []) ⟨hx, hb, hml, hown, hts⟩ (c_T_step l dC dI cy (fun i => ad (i + 1)) H.size N iT wT tx q96 e96) (cwV 0 hts (goodV m_ml_X4_87 m_im_X5_step m_se_X5_step m_in_X5 m_cd_X5_step) rfl rfl rfl (by decide +kernel) ⟨(show 2 + 1 ≤ fo + 6 by omega), (show 8 + (1 + 11) + (42) ≤ lo + 144 by omega)⟩) hN hK hP hD hS hA [1, 2] [none, some 0, some 1, none, none, none, none, none, none, none, none, none, none, none, none, none, none, none, none] rfl rfl rfl rfl rfl rfl 1 rfl rfl rfl hl.1 rfl (Nat.le_of_ble_eq_true rfl) dX4_takeOne_96 ⟨Nat.zero_le _, Nat.zero_le _⟩ (fun H locs hP hD hS => ?_)
      refine lv_lload_n hx hb dX4_takeOne_99 rfl (lv_at hl 0 rfl) ?_
      refine lv_ldc2 (v := 40) hx hb hown kc170 dX4_takeOne_100 ?_
      refine W.lcmp hx hb dX4_takeOne_103 ?_
      refine lv_if_ne (tgt := 115) hx hb dX4_takeOne_104 (by decide) (fun cz => ?_) (fun cz => ?_)
      · have h := g_f h (fun z => cz (lg_cmp0.mpr z))
        refine lv_lload_n hx hb dX4_takeOne_115 rfl (lv_at hl 0 rfl) ?_
        refine lv_ldc2 (v := 7630704) hx hb hown kc178 dX4_takeOne_116 ?_
        refine W.lcmp hx hb dX4_takeOne_119 ?_
        refine lv_if_ne (tgt := 134) hx hb dX4_takeOne_120 (by decide) (fun cz => ?_) (fun cz => ?_)
        · have h := g_f h (fun z => cz (lg_cmp0.mpr z))
          refine lv_lload_n hx hb dX4_takeOne_134 rfl (lv_at hl 0 rfl) ?_
          refine lv_ldc2 (v := 108230834679661) hx hb hown kc180 dX4_takeOne_135 ?_
          refine W.lcmp hx hb dX4_takeOne_138 ?_
          refine lv_if_ne (tgt := 153) hx hb dX4_takeOne_139 (by decide) (fun cz => ?_) (fun cz => ?_)
          · have h := g_f h (fun z => cz (lg_cmp0.mpr z))
            refine lv_lload_n hx hb dX4_takeOne_153 rfl (lv_at hl 0 rfl) ?_
            refine lv_ldc2 (v := 7237492) hx hb hown kc182 dX4_takeOne_154 ?_
            refine W.lcmp hx hb dX4_takeOne_157 ?_
            refine lv_if_ne (tgt := 192) hx hb dX4_takeOne_158 (by decide) (fun cz => ?_) (fun cz => ?_)
            · have h := g_f h (fun z => cz (lg_cmp0.mpr z))
              refine lv_aload_n hx hb dX4_takeOne_192 rfl (lv_at hl 2 rfl) ?_
              refine lv_lload_n hx hb dX4_takeOne_193 rfl (lv_at hl 0 rfl) ?_
              refine lv_ldc2 (v := 1936682341) hx hb hown kc184 dX4_takeOne_194 ?_
              refine W.lcmp hx hb dX4_takeOne_197 ?_
              refine lv_if_ne (tgt := 205) hx hb dX4_takeOne_198 (by decide) (fun cz => ?_) (fun cz => ?_)
              · have h := g_f h (fun z => cz (lg_cmp0.mpr z))
                refine lv_iconst (v := 5) hx hb dX4_takeOne_205 (by decide) ?_
                exact B206 v1 ((iT 3)) ((5 : Int32)) x_iR ((us iT [(2, q96.1), (3, q96.2.1), (4, q96.2.2.1)])) q96.2.2.2 x_iB H locs ls h hP hD hS (lv_sub hl [3, 1] rfl)
              · have h := g_t h (lg_cmp0.mp cz)
                refine lv_iconst (v := 4) hx hb dX4_takeOne_201 (by decide) ?_
                refine lv_goto (tgt := 206) hx hb dX4_takeOne_202 (by decide) ?_
                exact B206 v1 ((iT 3)) ((4 : Int32)) x_iR ((us iT [(2, q96.1), (3, q96.2.1), (4, q96.2.2.1)])) q96.2.2.2 x_iB H locs ls h hP hD hS (lv_sub hl [3, 1] rfl)
            · have h := g_t h (lg_cmp0.mp cz)
              refine lv_aload_n hx hb dX4_takeOne_161 rfl (lv_at hl 2 rfl) ?_
              refine lv_iload_n hx hb dX4_takeOne_162 rfl (lv_at hl 3 rfl) ?_
              refine lv_iconst (v := 1) hx hb dX4_takeOne_163 (by decide) ?_
              refine lv_iadd hx hb dX4_takeOne_164 ?_
              obtain ⟨q165, e165, h⟩ := g_b h
              refine callVis (cc := cX4_takeOne) (w1 := zzR ad cy (ad 3) (ad 10) q165.2.1 q165.2.2.1 q165.2.2.2.1 tx q165.2.2.2.2.1 q165.2.2.2.2.2.1 aB q165.2.2.2.2.2.2.1 q165.2.2.2.2.2.2.2) (As := [.int ((v1 + (1 : Int32)))]) (rest := []) ⟨hx, hb, hml, hown, hts⟩ (hone H.size ((v1 + (1 : Int32))) x_iR ((us iT [(2, q96.1), (3, q96.2.1), (4, q96.2.2.1)])) q96.2.2.2 tx x_iB lB aB iC aC q165 e165) (cwV 1 hts (goodV m_ml_X4_162 m_im_X4_takeOne m_se_X4_takeOne m_in_X4 m_cd_X4_takeOne) rfl rfl rfl (by decide +kernel) ⟨(show fo + 0 + 1 ≤ fo + 6 by omega), (show 8 + (6 + 11) + (lo + 0) ≤ lo + 144 by omega)⟩) hN hK hP hD hS hA rfl 0 rfl rfl rfl hl.1 rfl (Nat.le_of_ble_eq_true rfl) dX4_takeOne_165 ⟨Nat.zero_le _, Nat.zero_le _⟩ (fun H locs hP hD hS => ?_)
              refine lv_istore (lv' := [(5, .int q165.1), (3, .long wT), (2, .int ((iT 3))), (0, .ref (ad 0)), (1, .int v1)]) hx hb dX4_takeOne_168 hl (by decide) rfl (fun ls hl => ?_)
              refine lv_iload hx hb dX4_takeOne_170 (lv_at hl 0 rfl) ?_
              refine lv_iconst (v := (-1)) hx hb dX4_takeOne_172 (by decide) ?_
              refine lv_icmp_ne (tgt := 180) hx hb dX4_takeOne_173 (by decide) (fun cz => ?_) (fun cz => ?_)
              · have h := g_f h cz
                refine lv_aload_n hx hb dX4_takeOne_180 rfl (lv_at hl 3 rfl) ?_
                refine va_get (D := (dC, dI)) (ci := 4) (v := .ref (ad 10)) (C := RX4) (T := TX4) (N := 5) hx hb hts ki4 hown hK hP 0 rfl rfl 2 (by decide) kf34 (fun _ h9 => h9) rfl dX4_takeOne_181 ?_
                refine lv_iconst (v := 3) hx hb dX4_takeOne_184 (by decide) ?_
                refine lv_iload hx hb dX4_takeOne_185 (lv_at hl 0 rfl) ?_
                refine lv_iconst (v := 0) hx hb dX4_takeOne_187 (by decide) ?_
                obtain ⟨q188, e188, h⟩ := g_b h
                refine callVi (cc := cX4_takeOne) (ws' := zzR ad cy (ad 3) (ad 10) q165.2.1 q165.2.2.1 q165.2.2.2.1 tx q165.2.2.2.2.1 q165.2.2.2.2.2.1 aB (us q165.2.2.2.2.2.2.1 [(4, q188.2.1), (9, q188.2.2.1)]) (us q165.2.2.2.2.2.2.2 [(0, q188.2.2.2.1), (1, q188.2.2.2.2.1), (2, q188.2.2.2.2.2.1), (3, q188.2.2.2.2.2.2.1), (5, q188.2.2.2.2.2.2.2.1), (6, q188.2.2.2.2.2.2.2.2.1), (7, q188.2.2.2.2.2.2.2.2.2.1), (8, q188.2.2.2.2.2.2.2.2.2.2)])) (As := [.int ((3 : Int32)), .int q165.1, .int ((0 : Int32))]) (rest := []) ⟨hx, hb, hml, hown, hts⟩ (c_C_make l dC dI cy (fun i => ad (i + 10)) H.size N ((3 : Int32)) q165.1 ((0 : Int32)) q165.2.2.2.2.2.2.1 q165.2.2.2.2.2.2.2 q188 e188) (cwV 3 hts (goodV m_ml_X4_156 m_im_X1_make m_se_X1_make m_in_X1 m_cd_X1_make) rfl rfl rfl (by decide +kernel) ⟨(show 2 + 1 ≤ fo + 6 by omega), (show 8 + (7 + 11) + (48) ≤ lo + 144 by omega)⟩) hN hK hP hD hS hA [10, 11, 12, 13, 14, 15, 16, 17, 18] [none, none, none, none, none, none, none, none, none, none, some 0, some 1, some 2, some 3, some 4, some 5, some 6, some 7, some 8] rfl rfl rfl rfl rfl rfl 10 rfl rfl rfl hl.1 rfl (Nat.le_of_ble_eq_true rfl) dX4_takeOne_188 ⟨Nat.zero_le _, Nat.zero_le _⟩ (fun H locs hP hD hS => ?_)
                have h' := Option.some.inj h
                rw [← hQQ]
                exact W.iret (v := q188.1) hx hb hr (fun t ht hW => ⟨⟨q188.1, (), rfl, by rw [← h'], by rw [← hWQ, ← h', ht]; exact hP, va_K.moved hW.alike hK⟩, hS.F ht⟩) hS.2.2 dX4_takeOne_191
              · have h := g_t h cz
                refine lv_iconst (v := (-1)) hx hb dX4_takeOne_176 (by decide) ?_
                refine lv_goto (tgt := 191) hx hb dX4_takeOne_177 (by decide) ?_
                have h' := Option.some.inj h
                rw [← hQQ]
                exact W.iret (v := (-1 : Int32)) hx hb hr (fun t ht hW => ⟨⟨(-1 : Int32), (), rfl, by rw [← h'], by rw [← hWQ, ← h', ht]; exact hP, va_K.moved hW.alike hK⟩, hS.F ht⟩) hS.2.2 dX4_takeOne_191
          · have h := g_t h (lg_cmp0.mp cz)
            refine lv_aload_n hx hb dX4_takeOne_142 rfl (lv_at hl 2 rfl) ?_
            refine va_get (D := (dC, dI)) (ci := 4) (v := .ref (ad 10)) (C := RX4) (T := TX4) (N := 5) hx hb hts ki4 hown hK hP 0 rfl rfl 2 (by decide) kf34 (fun _ h9 => h9) rfl dX4_takeOne_143 ?_
            refine lv_iconst (v := 2) hx hb dX4_takeOne_146 (by decide) ?_
            refine lv_iconst (v := 0) hx hb dX4_takeOne_147 (by decide) ?_
            refine lv_iconst (v := 0) hx hb dX4_takeOne_148 (by decide) ?_
            obtain ⟨q149, e149, h⟩ := g_b h
            refine callVi (cc := cX4_takeOne) (ws' := zzR ad cy (ad 3) (ad 10) x_iR (us iT [(2, q96.1), (3, q96.2.1), (4, q96.2.2.1)]) q96.2.2.2 tx x_iB lB aB (us iC [(4, q149.2.1), (9, q149.2.2.1)]) (us aC [(0, q149.2.2.2.1), (1, q149.2.2.2.2.1), (2, q149.2.2.2.2.2.1), (3, q149.2.2.2.2.2.2.1), (5, q149.2.2.2.2.2.2.2.1), (6, q149.2.2.2.2.2.2.2.2.1), (7, q149.2.2.2.2.2.2.2.2.2.1), (8, q149.2.2.2.2.2.2.2.2.2.2)])) (As := [.int ((2 : Int32)), .int ((0 : Int32)), .int ((0 : Int32))]) (rest := []) ⟨hx, hb, hml, hown, hts⟩ (c_C_make l dC dI cy (fun i => ad (i + 10)) H.size N ((2 : Int32)) ((0 : Int32)) ((0 : Int32)) iC aC q149 e149) (cwV 3 hts (goodV m_ml_X4_156 m_im_X1_make m_se_X1_make m_in_X1 m_cd_X1_make) rfl rfl rfl (by decide +kernel) ⟨(show 2 + 1 ≤ fo + 6 by omega), (show 8 + (7 + 11) + (48) ≤ lo + 144 by omega)⟩) hN hK hP hD hS hA [10, 11, 12, 13, 14, 15, 16, 17, 18] [none, none, none, none, none, none, none, none, none, none, some 0, some 1, some 2, some 3, some 4, some 5, some 6, some 7, some 8] rfl rfl rfl rfl rfl rfl 10 rfl rfl rfl hl.1 rfl (Nat.le_of_ble_eq_true rfl) dX4_takeOne_149 ⟨Nat.zero_le _, Nat.zero_le _⟩ (fun H locs hP hD hS => ?_)
            have h' := Option.some.inj h
            rw [← hQQ]
            exact W.iret (v := q149.1) hx hb hr (fun t ht hW => ⟨⟨q149.1, (), rfl, by rw [← h'], by rw [← hWQ, ← h', ht]; exact hP, va_K.moved hW.alike hK⟩, hS.F ht⟩) hS.2.2 dX4_takeOne_152
        · have h := g_t h (lg_cmp0.mp cz)
          refine lv_aload_n hx hb dX4_takeOne_123 rfl (lv_at hl 2 rfl) ?_
          refine va_get (D := (dC, dI)) (ci := 4) (v := .ref (ad 10)) (C := RX4) (T := TX4) (N := 5) hx hb hts ki4 hown hK hP 0 rfl rfl 2 (by decide) kf34 (fun _ h9 => h9) rfl dX4_takeOne_124 ?_
          refine lv_iconst (v := 1) hx hb dX4_takeOne_127 (by decide) ?_
          refine lv_iconst (v := 0) hx hb dX4_takeOne_128 (by decide) ?_
          refine lv_iconst (v := 0) hx hb dX4_takeOne_129 (by decide) ?_
          obtain ⟨q130, e130, h⟩ := g_b h
          refine callVi (cc := cX4_takeOne) (ws' := zzR ad cy (ad 3) (ad 10) x_iR (us iT [(2, q96.1), (3, q96.2.1), (4, q96.2.2.1)]) q96.2.2.2 tx x_iB lB aB (us iC [(4, q130.2.1), (9, q130.2.2.1)]) (us aC [(0, q130.2.2.2.1), (1, q130.2.2.2.2.1), (2, q130.2.2.2.2.2.1), (3, q130.2.2.2.2.2.2.1), (5, q130.2.2.2.2.2.2.2.1), (6, q130.2.2.2.2.2.2.2.2.1), (7, q130.2.2.2.2.2.2.2.2.2.1), (8, q130.2.2.2.2.2.2.2.2.2.2)])) (As := [.int ((1 : Int32)), .int ((0 : Int32)), .int ((0 : Int32))]) (rest := []) ⟨hx, hb, hml, hown, hts⟩ (c_C_make l dC dI cy (fun i => ad (i + 10)) H.size N ((1 : Int32)) ((0 : Int32)) ((0 : Int32)) iC aC q130 e130) (cwV 3 hts (goodV m_ml_X4_156 m_im_X1_make m_se_X1_make m_in_X1 m_cd_X1_make) rfl rfl rfl (by decide +kernel) ⟨(show 2 + 1 ≤ fo + 6 by omega), (show 8 + (7 + 11) + (48) ≤ lo + 144 by omega)⟩) hN hK hP hD hS hA [10, 11, 12, 13, 14, 15, 16, 17, 18] [none, none, none, none, none, none, none, none, none, none, some 0, some 1, some 2, some 3, some 4, some 5, some 6, some 7, some 8] rfl rfl rfl rfl rfl rfl 10 rfl rfl rfl hl.1 rfl (Nat.le_of_ble_eq_true rfl) dX4_takeOne_130 ⟨Nat.zero_le _, Nat.zero_le _⟩ (fun H locs hP hD hS => ?_)
          have h' := Option.some.inj h
          rw [← hQQ]
          exact W.iret (v := q130.1) hx hb hr (fun t ht hW => ⟨⟨q130.1, (), rfl, by rw [← h'], by rw [← hWQ, ← h', ht]; exact hP, va_K.moved hW.alike hK⟩, hS.F ht⟩) hS.2.2 dX4_takeOne_133
      · have h := g_t h (lg_cmp0.mp cz)
        refine lv_aload_n hx hb dX4_takeOne_107 rfl (lv_at hl 2 rfl) ?_
        refine lv_iload_n hx hb dX4_takeOne_108 rfl (lv_at hl 3 rfl) ?_
        refine lv_iconst (v := 1) hx hb dX4_takeOne_109 (by decide) ?_
        refine lv_iadd hx hb dX4_takeOne_110 ?_
        obtain ⟨q111, e111, h⟩ := g_b h
        refine callVis (cc := cX4_takeOne) (w1 := zzR ad cy (ad 3) (ad 10) q111.2.1 q111.2.2.1 q111.2.2.2.1 tx q111.2.2.2.2.1 q111.2.2.2.2.2.1 aB q111.2.2.2.2.2.2.1 q111.2.2.2.2.2.2.2) (As := [.int ((v1 + (1 : Int32)))]) (rest := []) ⟨hx, hb, hml, hown, hts⟩ (c_R_takeBracketed l dC dI cy ad H.size N fo lo one hone ((v1 + (1 : Int32))) x_iR ((us iT [(2, q96.1), (3, q96.2.1), (4, q96.2.2.1)])) q96.2.2.2 tx x_iB lB aB iC aC q111 e111) (cwV 1 hts (goodV m_ml_X4_175 m_im_X4_takeBracketed m_se_X4_takeBracketed m_in_X4 m_cd_X4_takeBracketed) rfl rfl rfl (by decide +kernel) ⟨(show fo + 5 + 1 ≤ fo + 6 by omega), (show 8 + (3 + 11) + (lo + 122) ≤ lo + 144 by omega)⟩) hN hK hP hD hS hA rfl 0 rfl rfl rfl hl.1 rfl (Nat.le_of_ble_eq_true rfl) dX4_takeOne_111 ⟨Nat.zero_le _, Nat.zero_le _⟩ (fun H locs hP hD hS => ?_)
        have h' := Option.some.inj h
        rw [← hQQ]
        exact W.iret (v := q111.1) hx hb hr (fun t ht hW => ⟨⟨q111.1, (), rfl, by rw [← h'], by rw [← hWQ, ← h', ht]; exact hP, va_K.moved hW.alike hK⟩, hS.F ht⟩) hS.2.2 dX4_takeOne_114
    · have h := g_t h cz
      refine lv_aload_n hx hb dX4_takeOne_71 rfl (lv_at hl 0 rfl) ?_
      obtain ⟨q72, e72, h⟩ := g_b h
      refine callVis (cc := cX4_takeOne) (w1 := zzR ad cy (ad 3) (ad 10) q72.2.1 q72.2.2.1 q72.2.2.2.1 tx q72.2.2.2.2.1 q72.2.2.2.2.2.1 aB q72.2.2.2.2.2.2.1 q72.2.2.2.2.2.2.2) (As := []) (rest := []) ⟨hx, hb, hml, hown, hts⟩ (c_R_takeName l dC dI cy ad H.size N x_iR iT wT tx x_iB lB aB iC aC q72 e72) (cwV 0 hts (goodV m_ml_X4_172 m_im_X4_takeName m_se_X4_takeName m_in_X4 m_cd_X4_takeName) rfl rfl rfl (by decide +kernel) ⟨(show 3 + 1 ≤ fo + 6 by omega), (show 8 + (3 + 11) + (74) ≤ lo + 144 by omega)⟩) hN hK hP hD hS hA rfl 0 rfl rfl rfl hl.1 rfl (Nat.le_of_ble_eq_true rfl) dX4_takeOne_72 ⟨Nat.zero_le _, Nat.zero_le _⟩ (fun H locs hP hD hS => ?_)
      have h' := Option.some.inj h
      rw [← hQQ]
      exact W.iret (v := q72.1) hx hb hr (fun t ht hW => ⟨⟨q72.1, (), rfl, by rw [← h'], by rw [← hWQ, ← h', ht]; exact hP, va_K.moved hW.alike hK⟩, hS.F ht⟩) hS.2.2 dX4_takeOne_75
  have B37 : ∀ (v1 : Int32) (H : Heap) (locs : List Loc) (ls : Array Slot), f_R_takeOneB_37 N one iR iT wT tx iB lB aB iC aC v1 = some q → va_P (dC, dI) vwCl (zzR ad cy (ad 3) (ad 10) iR iT wT tx iB lB aB iC aC) H → va_D A (zzR ad cy (ad 3) (ad 10) iR iT wT tx iB lB aB iC aC) → va_S A s.heap H locs → lv_has ls 6 [(0, .ref (ad 0)), (1, .int v1)] → W p l e ({ frames := fo + 6, cells := 0, slots := 0, locals := lo + 144 } : Room) s m args below meth c H locs 0 0 QQ (F0 m 37 ls []) := by
    intro v1 H locs ls h hP hD hS hl
    unfold f_R_takeOneB_37 at h
    refine lv_aload_n hx hb dX4_takeOne_37 rfl (lv_at hl 0 rfl) ?_
    refine va_get (D := (dC, dI)) (ci := 4) (v := .ref (ad 1)) (C := RX4) (T := TX4) (N := 5) hx hb hts ki4 hown hK hP 0 rfl rfl 0 (by decide) kf20 (fun _ h9 => h9) rfl dX4_takeOne_38 ?_
    refine va_get (D := (dC, dI)) (ci := 5) (v := .long wT) (C := RX5) (T := TX5) (N := 6) hx hb hts ki5 hown hK hP 1 rfl rfl 5 (by decide) kf48 (fun _ h9 => h9) rfl dX4_takeOne_41 ?_
    refine lv_ldc2 (v := 40) hx hb hown kc170 dX4_takeOne_44 ?_
    refine W.lcmp hx hb dX4_takeOne_47 ?_
    refine lv_if_eq (tgt := 60) hx hb dX4_takeOne_48 (by decide) (fun cz => ?_) (fun cz => ?_)
    · have h := g_t h (lg_cmp0.mp cz)
      exact B60 v1 iR iB H locs ls h hP hD hS (lv_sub hl [0, 1] rfl)
    · have h := g_f h (fun z => cz (lg_cmp0.mpr z))
      refine lv_aload_n hx hb dX4_takeOne_51 rfl (lv_at hl 0 rfl) ?_
      obtain ⟨q52, e52, h⟩ := g_b h
      refine callVis (cc := cX4_takeOne) (w1 := zzR ad cy (ad 3) (ad 10) (us iR [(3, q52.2.1), (4, q52.2.2.1)]) iT wT tx (us iB [(1, q52.2.2.2)]) lB aB iC aC) (As := []) (rest := []) ⟨hx, hb, hml, hown, hts⟩ (c_R_countConcept l dC dI cy ad H.size iR iT wT tx iB lB aB iC aC q52 e52) (cwV 0 hts (goodV m_ml_X4_153 m_im_X4_countConcept m_se_X4_countConcept m_in_X4 m_cd_X4_countConcept) rfl rfl rfl (by decide +kernel) ⟨(show 2 + 1 ≤ fo + 6 by omega), (show 8 + (1 + 11) + (43) ≤ lo + 144 by omega)⟩) hN hK hP hD hS hA rfl 0 rfl rfl rfl hl.1 rfl (Nat.le_of_ble_eq_true rfl) dX4_takeOne_52 ⟨Nat.zero_le _, Nat.zero_le _⟩ (fun H locs hP hD hS => ?_)
      refine lv_if_ne (tgt := 60) hx hb dX4_takeOne_55 (by decide) (fun cz => ?_) (fun cz => ?_)
      · have h := g_f h cz
        exact B60 v1 ((us iR [(3, q52.2.1), (4, q52.2.2.1)])) ((us iB [(1, q52.2.2.2)])) H locs ls h hP hD hS (lv_sub hl [0, 1] rfl)
      · have h := g_t h cz
        refine lv_iconst (v := (-1)) hx hb dX4_takeOne_58 (by decide) ?_
        have h' := Option.some.inj h
        rw [← hQQ]
        exact W.iret (v := (-1 : Int32)) hx hb hr (fun t ht hW => ⟨⟨(-1 : Int32), (), rfl, by rw [← h'], by rw [← hWQ, ← h', ht]; exact hP, va_K.moved hW.alike hK⟩, hS.F ht⟩) hS.2.2 dX4_takeOne_59
  intro H locs hP hD hS
  unfold f_R_takeOneB at h
  refine lv_aload_n hx hb dX4_takeOne_0 rfl (lv_at hl 0 rfl) ?_
  refine va_get (D := (dC, dI)) (ci := 4) (v := .ref (ad 1)) (C := RX4) (T := TX4) (N := 5) hx hb hts ki4 hown hK hP 0 rfl rfl 0 (by decide) kf20 (fun _ h9 => h9) rfl dX4_takeOne_1 ?_
  obtain ⟨q4, e4, h⟩ := g_b h
  refine callVi (cc := cX4_takeOne) (ws' := zzR ad cy (ad 3) (ad 10) iR iT wT tx iB lB aB iC aC) (As := []) (rest := []) ⟨hx, hb, hml, hown, hts⟩ (c_T_beginsConcept l dC dI cy (fun i => ad (i + 1)) H.size iT wT tx q4 e4) (cwV 0 hts (goodV m_ml_X4_90 m_im_X5_beginsConcept m_se_X5_beginsConcept m_in_X5 m_cd_X5_beginsConcept) rfl rfl rfl (by decide +kernel) ⟨(show 1 + 1 ≤ fo + 6 by omega), (show 8 + (1 + 11) + (20) ≤ lo + 144 by omega)⟩) hN hK hP hD hS hA [1, 2] [none, some 0, some 1, none, none, none, none, none, none, none, none, none, none, none, none, none, none, none, none] rfl rfl rfl rfl rfl rfl 1 rfl rfl rfl hl.1 rfl (Nat.le_of_ble_eq_true rfl) dX4_takeOne_4 ⟨Nat.zero_le _, Nat.zero_le _⟩ (fun H locs hP hD hS => ?_)
  refine lv_if_ne (tgt := 15) hx hb dX4_takeOne_7 (by decide) (fun cz => ?_) (fun cz => ?_)
  · have h := g_f h cz
    refine lv_iload_n hx hb dX4_takeOne_15 rfl (lv_at hl 1 rfl) ?_
    refine lv_bipush (v := 12) hx hb dX4_takeOne_16 (by decide) ?_
    refine lv_icmp_lt (tgt := 37) hx hb dX4_takeOne_18 (by decide) (fun cz => ?_) (fun cz => ?_)
    · have h := g_t h cz
      exact B37 a1 H locs ls h hP hD hS (lv_sub hl [0, 1] rfl)
    · have h := g_f h cz
      refine lv_aload_n hx hb dX4_takeOne_21 rfl (lv_at hl 0 rfl) ?_
      refine va_get (D := (dC, dI)) (ci := 4) (v := .ref (ad 1)) (C := RX4) (T := TX4) (N := 5) hx hb hts ki4 hown hK hP 0 rfl rfl 0 (by decide) kf20 (fun _ h9 => h9) rfl dX4_takeOne_22 ?_
      obtain ⟨q25, e25, h⟩ := g_b h
      refine callVi (cc := cX4_takeOne) (ws' := zzR ad cy (ad 3) (ad 10) iR iT wT tx iB lB aB iC aC) (As := []) (rest := []) ⟨hx, hb, hml, hown, hts⟩ (c_T_holdsConcept l dC dI cy (fun i => ad (i + 1)) H.size iT wT tx q25 e25) (cwV 0 hts (goodV m_ml_X4_167 m_im_X5_holdsConcept m_se_X5_holdsConcept m_in_X5 m_cd_X5_holdsConcept) rfl rfl rfl (by decide +kernel) ⟨(show 0 + 1 ≤ fo + 6 by omega), (show 8 + (1 + 11) + (0) ≤ lo + 144 by omega)⟩) hN hK hP hD hS hA [1, 2] [none, some 0, some 1, none, none, none, none, none, none, none, none, none, none, none, none, none, none, none, none] rfl rfl rfl rfl rfl rfl 1 rfl rfl rfl hl.1 rfl (Nat.le_of_ble_eq_true rfl) dX4_takeOne_25 ⟨Nat.zero_le _, Nat.zero_le _⟩ (fun H locs hP hD hS => ?_)
      refine lv_if_eq (tgt := 37) hx hb dX4_takeOne_28 (by decide) (fun cz => ?_) (fun cz => ?_)
      · have h := g_t h cz
        exact B37 a1 H locs ls h hP hD hS (lv_sub hl [0, 1] rfl)
      · have h := g_f h cz
        refine lv_aload_n hx hb dX4_takeOne_31 rfl (lv_at hl 0 rfl) ?_
        refine lv_iconst (v := 3) hx hb dX4_takeOne_32 (by decide) ?_
        obtain ⟨q33, e33, h⟩ := g_b h
        refine callVis (cc := cX4_takeOne) (w1 := zzR ad cy (ad 3) (ad 10) (us iR [(3, q33.2.1), (4, q33.2.2)]) iT wT tx iB lB aB iC aC) (As := [.int ((3 : Int32))]) (rest := []) ⟨hx, hb, hml, hown, hts⟩ (c_R_failHere l dC dI cy ad H.size ((3 : Int32)) iR iT wT tx iB lB aB iC aC q33 e33) (cwV 1 hts (goodV m_ml_X4_77 m_im_X4_failHere m_se_X4_failHere m_in_X4 m_cd_X4_failHere) rfl rfl rfl (by decide +kernel) ⟨(show 1 + 1 ≤ fo + 6 by omega), (show 8 + (2 + 11) + (22) ≤ lo + 144 by omega)⟩) hN hK hP hD hS hA rfl 0 rfl rfl rfl hl.1 rfl (Nat.le_of_ble_eq_true rfl) dX4_takeOne_33 ⟨Nat.zero_le _, Nat.zero_le _⟩ (fun H locs hP hD hS => ?_)
        have h' := Option.some.inj h
        rw [← hQQ]
        exact W.iret (v := q33.1) hx hb hr (fun t ht hW => ⟨⟨q33.1, (), rfl, by rw [← h'], by rw [← hWQ, ← h', ht]; exact hP, va_K.moved hW.alike hK⟩, hS.F ht⟩) hS.2.2 dX4_takeOne_36
  · have h := g_t h cz
    refine lv_aload_n hx hb dX4_takeOne_10 rfl (lv_at hl 0 rfl) ?_
    obtain ⟨q11, e11, h⟩ := g_b h
    refine callVis (cc := cX4_takeOne) (w1 := zzR ad cy (ad 3) (ad 10) (us iR [(3, q11.2.1), (4, q11.2.2)]) iT wT tx iB lB aB iC aC) (As := []) (rest := []) ⟨hx, hb, hml, hown, hts⟩ (c_R_misplaced l dC dI cy ad H.size iR iT wT tx iB lB aB iC aC q11 e11) (cwV 0 hts (goodV m_ml_X4_83 m_im_X4_misplaced m_se_X4_misplaced m_in_X4 m_cd_X4_misplaced) rfl rfl rfl (by decide +kernel) ⟨(show 2 + 1 ≤ fo + 6 by omega), (show 8 + (1 + 11) + (43) ≤ lo + 144 by omega)⟩) hN hK hP hD hS hA rfl 0 rfl rfl rfl hl.1 rfl (Nat.le_of_ble_eq_true rfl) dX4_takeOne_11 ⟨Nat.zero_le _, Nat.zero_le _⟩ (fun H locs hP hD hS => ?_)
    have h' := Option.some.inj h
    rw [← hQQ]
    exact W.iret (v := q11.1) hx hb hr (fun t ht hW => ⟨⟨q11.1, (), rfl, by rw [← h'], by rw [← hWQ, ← h', ht]; exact hP, va_K.moved hW.alike hK⟩, hS.F ht⟩) hS.2.2 dX4_takeOne_14
theorem c_R_takeOne (l : Launch) (dC : Nat → ClassId) (dI : Nat → Nat → Nat) (cy : Nat → ClassId) (ad : Nat → Nat) (sz : Nat) (N : Nat) (d : Nat) (a1 : Int32) (iR : Nat → Int32) (iT : Nat → Int32) (wT : Int64) (tx : Nat → Int32) (iB : Nat → Int32) (lB : Nat → Nat → Int64) (aB : Nat → Nat → Int32) (iC : Nat → Int32) (aC : Nat → Nat → Int32) (q : Int32 × (Nat → Int32) × (Nat → Int32) × Int64 × (Nat → Int32) × (Nat → Nat → Int64) × (Nat → Int32) × (Nat → Nat → Int32)) (h : f_R_takeOne N d a1 iR iT wT tx iB lB aB iC aC = some q) : Met l yX4_takeOne wsX4_takeOne ({ frames := 6 * d, cells := 0, slots := 0, locals := 144 * d } : Room) (cP (dC, dI) cy [.ref (ad 0), .int a1] (zzR ad cy (ad 3) (ad 10) iR iT wT tx iB lB aB iC aC) sz) (cQi (dC, dI) cy q.1 (zzR ad cy (ad 3) (ad 10) q.2.1 q.2.2.1 q.2.2.2.1 tx q.2.2.2.2.1 q.2.2.2.2.2.1 aB q.2.2.2.2.2.2.1 q.2.2.2.2.2.2.2) (va_A (zzR ad cy (ad 3) (ad 10) iR iT wT tx iB lB aB iC aC) sz)) 0 0 (va_A (zzR ad cy (ad 3) (ad 10) iR iT wT tx iB lB aB iC aC) sz) := by
  induction d generalizing sz a1 iR iT wT tx iB lB aB iC aC q with
  | zero => rw [f_R_takeOne] at h; cases h
  | succ d ih =>
    rw [f_R_takeOne] at h
    exact c_R_takeOneB l dC dI cy ad sz N (6 * d) (144 * d) (f_R_takeOne N d) (fun sz a1 iR iT wT tx iB lB aB iC aC q h => ih sz a1 iR iT wT tx iB lB aB iC aC q h) a1 iR iT wT tx iB lB aB iC aC q h
set_option maxHeartbeats 8000000 in
set_option maxRecDepth 100000 in
theorem c_R_takeEnd (l : Launch) (dC : Nat → ClassId) (dI : Nat → Nat → Nat) (cy : Nat → ClassId) (ad : Nat → Nat) (sz : Nat) (N : Nat) (iR : Nat → Int32) (iT : Nat → Int32) (wT : Int64) (tx : Nat → Int32) (iB : Nat → Int32) (lB : Nat → Nat → Int64) (aB : Nat → Nat → Int32) (iC : Nat → Int32) (aC : Nat → Nat → Int32) (q : Int32 × Int32 × Int32 × Int32 × Int32 × Int32 × Int64) (h : f_R_takeEnd N (iR 3) (iR 4) (iT 1) (iT 2) (iT 3) (iT 4) wT tx = some q) : Met l yX4_takeEnd wsX4_takeEnd ({ frames := 3, cells := 0, slots := 0, locals := 63 } : Room) (cP (dC, dI) cy [.ref (ad 0)] (zzR ad cy (ad 3) (ad 10) iR iT wT tx iB lB aB iC aC) sz) (cQi (dC, dI) cy q.1 (zzR ad cy (ad 3) (ad 10) (us iR [(3, q.2.1), (4, q.2.2.1)]) (us iT [(2, q.2.2.2.1), (3, q.2.2.2.2.1), (4, q.2.2.2.2.2.1)]) q.2.2.2.2.2.2 tx iB lB aB iC aC) (va_A (zzR ad cy (ad 3) (ad 10) iR iT wT tx iB lB aB iC aC) sz)) 0 0 (va_A (zzR ad cy (ad 3) (ad 10) iR iT wT tx iB lB aB iC aC) sz) := by
  refine Met.ofW (cc := cX4_takeEnd) (maxL := 1) (ret := (some .boolean)) (by decide) rfl ?_
  intro p e s m args below meth c s₁ B hml hv
  obtain ⟨hav, hsz, hP, hK, hD0, hN⟩ := hv
  have hx := B.exec
  have hb := B.bytes
  have hr := B.returns
  have hts := atoms_spec (ws := wsX4_takeEnd) B.pre
  have hown : s.vm.findClass RX4 = some m.cls := findClass_of_methodNamed B.named
  have hlocks := B.notSynchronized
  subst hsz
  have hD := hD0.self (sz := s.heap.size)
  generalize hAe : va_A (zzR ad cy (ad 3) (ad 10) iR iT wT tx iB lB aB iC aC) s.heap.size = A at hD ⊢
  have hA : ∀ q : Nat, s.heap.size ≤ q → A q := fun q h => by rw [← hAe]; exact Or.inr h
  have hS : va_S A s.heap s.heap [] := va_S.rf
  generalize hWQ : (zzR ad cy (ad 3) (ad 10) (us iR [(3, q.2.1), (4, q.2.2.1)]) (us iT [(2, q.2.2.2.1), (3, q.2.2.2.2.1), (4, q.2.2.2.2.2.1)]) q.2.2.2.2.2.2 tx iB lB aB iC aC) = WQ
  generalize hQQ : MQ below (cQi (dC, dI) cy q.1 WQ A) args s 0 0 A = QQ
  have hl := lv_entry ([.ref (ad 0)] : List Value) (n := 1) (Nat.le_of_ble_eq_true rfl)
  have hfr := lg_entry_eq m ([.ref (ad 0)] : List Value) 1
  rw [← hav] at hfr
  rw [hfr]
  clear hfr hav
  generalize (lg_sl ([.ref (ad 0)] : List Value) ++ List.replicate (1 - (lg_sl ([.ref (ad 0)] : List Value)).length) Slot.unset).toArray = ls at hl ⊢
  have hl : lv_has ls 1 [(0, .ref (ad 0))] := hl
  have kf20 := hts _ (List.mem_cons_of_mem _ m_fl_X4_20)
  have ki4 := (fun w h => List.mem_cons_of_mem _ (i_X4 w h) : ∀ w ∈ u_ws RX4 TX4 5, w ∈ wsX4_takeEnd)
  have kf48 := hts _ (List.mem_cons_of_mem _ m_fl_X4_48)
  have ki5 := (fun w h => List.mem_cons_of_mem _ (i_X5 w h) : ∀ w ∈ u_ws RX5 TX5 6, w ∈ wsX4_takeEnd)
  have kc81 := hts _ (List.mem_cons_of_mem _ m_kl_X4_81)
  refine (?_ : ∀ (H : Heap) (locs : List Loc), va_P (dC, dI) vwCl (zzR ad cy (ad 3) (ad 10) iR iT wT tx iB lB aB iC aC) H → va_D A (zzR ad cy (ad 3) (ad 10) iR iT wT tx iB lB aB iC aC) → va_S A s.heap H locs → W p l e ({ frames := 3, cells := 0, slots := 0, locals := 63 } : Room) s m args below meth c H locs 0 0 QQ (F0 m 0 ls [])) s.heap [] hP hD hS
  clear hP hD hS
  intro H locs hP hD hS
  unfold f_R_takeEnd at h
  refine lv_aload_n hx hb dX4_takeEnd_0 rfl (lv_at hl 0 rfl) ?_
  refine va_get (D := (dC, dI)) (ci := 4) (v := .ref (ad 1)) (C := RX4) (T := TX4) (N := 5) hx hb hts ki4 hown hK hP 0 rfl rfl 0 (by decide) kf20 (fun _ h9 => h9) rfl dX4_takeEnd_1 ?_
  refine va_get (D := (dC, dI)) (ci := 5) (v := .long wT) (C := RX5) (T := TX5) (N := 6) hx hb hts ki5 hown hK hP 1 rfl rfl 5 (by decide) kf48 (fun _ h9 => h9) rfl dX4_takeEnd_4 ?_
  refine lv_ldc2 (v := 59) hx hb hown kc81 dX4_takeEnd_7 ?_
  refine W.lcmp hx hb dX4_takeEnd_10 ?_
  refine lv_if_eq (tgt := 21) hx hb dX4_takeEnd_11 (by decide) (fun cz => ?_) (fun cz => ?_)
  · have h := g_t h (lg_cmp0.mp cz)
    refine lv_aload_n hx hb dX4_takeEnd_21 rfl (lv_at hl 0 rfl) ?_
    refine va_get (D := (dC, dI)) (ci := 4) (v := .ref (ad 1)) (C := RX4) (T := TX4) (N := 5) hx hb hts ki4 hown hK hP 0 rfl rfl 0 (by decide) kf20 (fun _ h9 => h9) rfl dX4_takeEnd_22 ?_
    obtain ⟨q25, e25, h⟩ := g_b h
    refine callVv (cc := cX4_takeEnd) (ws' := zzR ad cy (ad 3) (ad 10) iR (us iT [(2, q25.1), (3, q25.2.1), (4, q25.2.2.1)]) q25.2.2.2 tx iB lB aB iC aC) (As := []) (rest := []) ⟨hx, hb, hml, hown, hts⟩ (c_T_step l dC dI cy (fun i => ad (i + 1)) H.size N iT wT tx q25 e25) (cwV 0 hts (goodV m_ml_X4_87 m_im_X5_step m_se_X5_step m_in_X5 m_cd_X5_step) rfl rfl rfl (by decide +kernel) ⟨Nat.le_of_ble_eq_true rfl, Nat.le_of_ble_eq_true rfl⟩) hN hK hP hD hS hA [1, 2] [none, some 0, some 1, none, none, none, none, none, none, none, none, none, none, none, none, none, none, none, none] rfl rfl rfl rfl rfl rfl 1 rfl rfl rfl hl.1 rfl (Nat.le_of_ble_eq_true rfl) dX4_takeEnd_25 ⟨Nat.zero_le _, Nat.zero_le _⟩ (fun H locs hP hD hS => ?_)
    refine lv_iconst (v := 1) hx hb dX4_takeEnd_28 (by decide) ?_
    have h' := Option.some.inj h
    rw [← hQQ]
    exact W.zret (v := (1 : Int32)) hx hb hr rfl (fun t ht hW => ⟨⟨(1 : Int32), (), rfl, by rw [← h'], by rw [← hWQ, ← h', ht]; exact hP, va_K.moved hW.alike hK⟩, hS.F ht⟩) hS.2.2 dX4_takeEnd_29
  · have h := g_f h (fun z => cz (lg_cmp0.mpr z))
    refine lv_aload_n hx hb dX4_takeEnd_14 rfl (lv_at hl 0 rfl) ?_
    obtain ⟨q15, e15, h⟩ := g_b h
    refine callVis (cc := cX4_takeEnd) (w1 := zzR ad cy (ad 3) (ad 10) (us iR [(3, q15.2.1), (4, q15.2.2)]) iT wT tx iB lB aB iC aC) (As := []) (rest := []) ⟨hx, hb, hml, hown, hts⟩ (c_R_misplaced l dC dI cy ad H.size iR iT wT tx iB lB aB iC aC q15 e15) (cwV 0 hts (goodV m_ml_X4_83 m_im_X4_misplaced m_se_X4_misplaced m_in_X4 m_cd_X4_misplaced) rfl rfl rfl (by decide +kernel) ⟨Nat.le_of_ble_eq_true rfl, Nat.le_of_ble_eq_true rfl⟩) hN hK hP hD hS hA rfl 0 rfl rfl rfl hl.1 rfl (Nat.le_of_ble_eq_true rfl) dX4_takeEnd_15 ⟨Nat.zero_le _, Nat.zero_le _⟩ (fun H locs hP hD hS => ?_)
    refine lv_pop hx hb dX4_takeEnd_18 rfl ?_
    refine lv_iconst (v := 0) hx hb dX4_takeEnd_19 (by decide) ?_
    have h' := Option.some.inj h
    rw [← hQQ]
    exact W.zret (v := (0 : Int32)) hx hb hr rfl (fun t ht hW => ⟨⟨(0 : Int32), (), rfl, by rw [← h'], by rw [← hWQ, ← h', ht]; exact hP, va_K.moved hW.alike hK⟩, hS.F ht⟩) hS.2.2 dX4_takeEnd_20
set_option maxHeartbeats 8000000 in
set_option maxRecDepth 100000 in
theorem c_B_addStatement (l : Launch) (dC : Nat → ClassId) (dI : Nat → Nat → Nat) (cy : Nat → ClassId) (ad : Nat → Nat) (sz : Nat) (a1 : Int32) (a2 : Int32) (a3 : Int32) (iB : Nat → Int32) (lB : Nat → Nat → Int64) (aB : Nat → Nat → Int32) (iC : Nat → Int32) (aC : Nat → Nat → Int32) (q : Int32 × Int32 × (Nat → Int32)) (h : f_B_addStatement a1 a2 a3 (iB 7) (aB 6) = some q) : Met l yX0_addStatement wsX0_addStatement ({ frames := 0, cells := 0, slots := 0, locals := 0 } : Room) (cP (dC, dI) cy [.ref (ad 0), .int a1, .int a2, .int a3] (zzB ad cy iB lB aB iC aC) sz) (cQi (dC, dI) cy q.1 (zzB ad cy (us iB [(7, q.2.1)]) lB (us aB [(6, q.2.2)]) iC aC) (va_A (zzB ad cy iB lB aB iC aC) sz)) 0 0 (va_A (zzB ad cy iB lB aB iC aC) sz) := by
  refine Met.ofW (cc := cX0_addStatement) (maxL := 5) (ret := (some .int)) (by decide) rfl ?_
  intro p e s m args below meth c s₁ B hml hv
  obtain ⟨hav, hsz, hP, hK, hD0, hN⟩ := hv
  have hx := B.exec
  have hb := B.bytes
  have hr := B.returns
  have hts := atoms_spec (ws := wsX0_addStatement) B.pre
  have hown : s.vm.findClass RX0 = some m.cls := findClass_of_methodNamed B.named
  have hlocks := B.notSynchronized
  subst hsz
  have hD := hD0.self (sz := s.heap.size)
  generalize hAe : va_A (zzB ad cy iB lB aB iC aC) s.heap.size = A at hD ⊢
  have hA : ∀ q : Nat, s.heap.size ≤ q → A q := fun q h => by rw [← hAe]; exact Or.inr h
  have hS : va_S A s.heap s.heap [] := va_S.rf
  generalize hWQ : (zzB ad cy (us iB [(7, q.2.1)]) lB (us aB [(6, q.2.2)]) iC aC) = WQ
  generalize hQQ : MQ below (cQi (dC, dI) cy q.1 WQ A) args s 0 0 A = QQ
  have hl := lv_entry ([.ref (ad 0), .int a1, .int a2, .int a3] : List Value) (n := 5) (Nat.le_of_ble_eq_true rfl)
  have hfr := lg_entry_eq m ([.ref (ad 0), .int a1, .int a2, .int a3] : List Value) 5
  rw [← hav] at hfr
  rw [hfr]
  clear hfr hav
  generalize (lg_sl ([.ref (ad 0), .int a1, .int a2, .int a3] : List Value) ++ List.replicate (5 - (lg_sl ([.ref (ad 0), .int a1, .int a2, .int a3] : List Value)).length) Slot.unset).toArray = ls at hl ⊢
  have hl : lv_has ls 5 [(0, .ref (ad 0)), (1, .int a1), (2, .int a2), (3, .int a3)] := hl
  have kf51 := hts _ (List.mem_cons_of_mem _ m_fl_X0_51)
  have ki0 := (fun w h => List.mem_cons_of_mem _ (i_X0 w h) : ∀ w ∈ u_ws RX0 TX0 15, w ∈ wsX0_addStatement)
  have kf25 := hts _ (List.mem_cons_of_mem _ m_fl_X0_25)
  refine (?_ : ∀ (H : Heap) (locs : List Loc), va_P (dC, dI) vwCl (zzB ad cy iB lB aB iC aC) H → va_D A (zzB ad cy iB lB aB iC aC) → va_S A s.heap H locs → W p l e ({ frames := 0, cells := 0, slots := 0, locals := 0 } : Room) s m args below meth c H locs 0 0 QQ (F0 m 0 ls [])) s.heap [] hP hD hS
  clear hP hD hS
  intro H locs hP hD hS
  unfold f_B_addStatement at h
  refine lv_iload_n hx hb dX0_addStatement_0 rfl (lv_at hl 1 rfl) ?_
  refine lv_iload_n hx hb dX0_addStatement_1 rfl (lv_at hl 2 rfl) ?_
  refine lv_bipush (v := 8) hx hb dX0_addStatement_2 (by decide) ?_
  refine lv_ishl hx hb dX0_addStatement_4 ?_
  refine lv_ior hx hb dX0_addStatement_5 ?_
  refine lv_iload_n hx hb dX0_addStatement_6 rfl (lv_at hl 3 rfl) ?_
  refine lv_bipush (v := 16) hx hb dX0_addStatement_7 (by decide) ?_
  refine lv_ishl hx hb dX0_addStatement_9 ?_
  refine lv_ior hx hb dX0_addStatement_10 ?_
  refine lv_istore (lv' := [(4, .int (((a1 ||| (a2 <<< ((8 : Int32) &&& 31))) ||| (a3 <<< ((16 : Int32) &&& 31))))), (0, .ref (ad 0)), (1, .int a1), (2, .int a2), (3, .int a3)]) hx hb dX0_addStatement_11 hl (by decide) rfl (fun ls hl => ?_)
  refine lv_aload_n hx hb dX0_addStatement_13 rfl (lv_at hl 1 rfl) ?_
  refine va_get (D := (dC, dI)) (ci := 0) (v := .int (iB 7)) (C := RX0) (T := TX0) (N := 15) hx hb hts ki0 hown hK hP 0 rfl rfl 7 (by decide) kf51 (fun _ h9 => h9) rfl dX0_addStatement_14 ?_
  refine lv_sipush (v := 246) hx hb dX0_addStatement_17 (by decide) ?_
  refine lv_icmp_ge (tgt := 44) hx hb dX0_addStatement_20 (by decide) (fun cz => ?_) (fun cz => ?_)
  · have h := g_t h cz
    refine lv_iload hx hb dX0_addStatement_44 (lv_at hl 0 rfl) ?_
    have h' := Option.some.inj h
    rw [← hQQ]
    exact W.iret (v := ((a1 ||| (a2 <<< ((8 : Int32) &&& 31))) ||| (a3 <<< ((16 : Int32) &&& 31)))) hx hb hr (fun t ht hW => ⟨⟨((a1 ||| (a2 <<< ((8 : Int32) &&& 31))) ||| (a3 <<< ((16 : Int32) &&& 31))), (), rfl, by rw [← h'], by rw [← hWQ, ← h', ht]; exact hP, va_K.moved hW.alike hK⟩, hS.F ht⟩) hS.2.2 dX0_addStatement_46
  · have h := g_f h cz
    refine lv_aload_n hx hb dX0_addStatement_23 rfl (lv_at hl 1 rfl) ?_
    refine va_get (D := (dC, dI)) (ci := 0) (v := .ref (ad 3)) (C := RX0) (T := TX0) (N := 15) hx hb hts ki0 hown hK hP 0 rfl rfl 6 (by decide) kf25 (fun _ h9 => h9) rfl dX0_addStatement_24 ?_
    refine lv_aload_n hx hb dX0_addStatement_27 rfl (lv_at hl 1 rfl) ?_
    refine va_get (D := (dC, dI)) (ci := 0) (v := .int (iB 7)) (C := RX0) (T := TX0) (N := 15) hx hb hts ki0 hown hK hP 0 rfl rfl 7 (by decide) kf51 (fun _ h9 => h9) rfl dX0_addStatement_28 ?_
    refine lv_iload hx hb dX0_addStatement_31 (lv_at hl 0 rfl) ?_
    obtain ⟨g_14, h⟩ := g_n h
    refine va_iast (f := (aB 6)) hx hb hK hP hD hS 3 0 rfl rfl g_14 dX0_addStatement_33 (fun H locs hP hD hS => ?_)
    have hP : va_P (dC, dI) vwCl (zzB ad cy iB lB (us aB [(6, (upd (aB 6) (iB 7).toNatClampNeg (((a1 ||| (a2 <<< ((8 : Int32) &&& 31))) ||| (a3 <<< ((16 : Int32) &&& 31))))))]) iC aC) H := Eq.mp (congrArg (fun w => va_P (dC, dI) vwCl w H) (sfB_aB6 ad cy iB lB aB iC aC ((upd (aB 6) (iB 7).toNatClampNeg (((a1 ||| (a2 <<< ((8 : Int32) &&& 31))) ||| (a3 <<< ((16 : Int32) &&& 31)))))))) hP
    have hD : va_D A (zzB ad cy iB lB (us aB [(6, (upd (aB 6) (iB 7).toNatClampNeg (((a1 ||| (a2 <<< ((8 : Int32) &&& 31))) ||| (a3 <<< ((16 : Int32) &&& 31))))))]) iC aC) := Eq.mp (congrArg (fun w => va_D A w) (sfB_aB6 ad cy iB lB aB iC aC ((upd (aB 6) (iB 7).toNatClampNeg (((a1 ||| (a2 <<< ((8 : Int32) &&& 31))) ||| (a3 <<< ((16 : Int32) &&& 31)))))))) hD
    refine lv_aload_n hx hb dX0_addStatement_34 rfl (lv_at hl 1 rfl) ?_
    refine lv_dup hx hb dX0_addStatement_35 rfl ?_
    refine va_get (D := (dC, dI)) (ci := 0) (v := .int (iB 7)) (C := RX0) (T := TX0) (N := 15) hx hb hts ki0 hown hK hP 0 rfl rfl 7 (by decide) kf51 (fun _ h9 => h9) rfl dX0_addStatement_36 ?_
    refine lv_iconst (v := 1) hx hb dX0_addStatement_39 (by decide) ?_
    refine lv_iadd hx hb dX0_addStatement_40 ?_
    refine va_put (D := (dC, dI)) (ci := 0) (v := .int (((iB 7) + (1 : Int32)))) (ty := .int) (C := RX0) (T := TX0) (N := 15) hx hb hts ki0 tyX0 tyX0_ok nmX0 hown hK hP hD hS 0 rfl rfl 7 (by decide) kf51 (fun _ h9 => h9) rfl (by decide +kernel) rfl rfl (Nat.le_of_ble_eq_true rfl) dX0_addStatement_41 (fun H locs hP hD hS => ?_)
    have hP : va_P (dC, dI) vwCl (zzB ad cy (us iB [(7, ((iB 7) + (1 : Int32)))]) lB (us aB [(6, (upd (aB 6) (iB 7).toNatClampNeg (((a1 ||| (a2 <<< ((8 : Int32) &&& 31))) ||| (a3 <<< ((16 : Int32) &&& 31))))))]) iC aC) H := Eq.mp (congrArg (fun w => va_P (dC, dI) vwCl w H) (sfB_iB7 ad cy iB lB (us aB [(6, (upd (aB 6) (iB 7).toNatClampNeg (((a1 ||| (a2 <<< ((8 : Int32) &&& 31))) ||| (a3 <<< ((16 : Int32) &&& 31))))))]) iC aC (((iB 7) + (1 : Int32))))) hP
    have hD : va_D A (zzB ad cy (us iB [(7, ((iB 7) + (1 : Int32)))]) lB (us aB [(6, (upd (aB 6) (iB 7).toNatClampNeg (((a1 ||| (a2 <<< ((8 : Int32) &&& 31))) ||| (a3 <<< ((16 : Int32) &&& 31))))))]) iC aC) := Eq.mp (congrArg (fun w => va_D A w) (sfB_iB7 ad cy iB lB (us aB [(6, (upd (aB 6) (iB 7).toNatClampNeg (((a1 ||| (a2 <<< ((8 : Int32) &&& 31))) ||| (a3 <<< ((16 : Int32) &&& 31))))))]) iC aC (((iB 7) + (1 : Int32))))) hD
    refine lv_iload hx hb dX0_addStatement_44 (lv_at hl 0 rfl) ?_
    have h' := Option.some.inj h
    rw [← hQQ]
    exact W.iret (v := ((a1 ||| (a2 <<< ((8 : Int32) &&& 31))) ||| (a3 <<< ((16 : Int32) &&& 31)))) hx hb hr (fun t ht hW => ⟨⟨((a1 ||| (a2 <<< ((8 : Int32) &&& 31))) ||| (a3 <<< ((16 : Int32) &&& 31))), (), rfl, by rw [← h'], by rw [← hWQ, ← h', ht]; exact hP, va_K.moved hW.alike hK⟩, hS.F ht⟩) hS.2.2 dX0_addStatement_46
set_option maxHeartbeats 8000000 in
set_option maxRecDepth 100000 in
theorem c_B_addRule (l : Launch) (dC : Nat → ClassId) (dI : Nat → Nat → Nat) (cy : Nat → ClassId) (ad : Nat → Nat) (sz : Nat) (a1 : Int32) (a2 : Int32) (a3 : Int32) (iB : Nat → Int32) (lB : Nat → Nat → Int64) (aB : Nat → Nat → Int32) (iC : Nat → Int32) (aC : Nat → Nat → Int32) (q : Int32 × Int32 × (Nat → Int32) × (Nat → Int32)) (h : f_B_addRule a1 a2 a3 (iB 7) (iB 9) (aB 6) (aB 8) = some q) : Met l yX0_addRule wsX0_addRule ({ frames := 1, cells := 0, slots := 0, locals := 24 } : Room) (cP (dC, dI) cy [.ref (ad 0), .int a1, .int a2, .int a3] (zzB ad cy iB lB aB iC aC) sz) (cQv (dC, dI) cy (zzB ad cy (us iB [(7, q.1), (9, q.2.1)]) lB (us aB [(6, q.2.2.1), (8, q.2.2.2)]) iC aC) (va_A (zzB ad cy iB lB aB iC aC) sz)) 0 0 (va_A (zzB ad cy iB lB aB iC aC) sz) := by
  refine Met.ofW (cc := cX0_addRule) (maxL := 4) (ret := none) (by decide) rfl ?_
  intro p e s m args below meth c s₁ B hml hv
  obtain ⟨hav, hsz, hP, hK, hD0, hN⟩ := hv
  have hx := B.exec
  have hb := B.bytes
  have hr := B.returns
  have hts := atoms_spec (ws := wsX0_addRule) B.pre
  have hown : s.vm.findClass RX0 = some m.cls := findClass_of_methodNamed B.named
  have hlocks := B.notSynchronized
  subst hsz
  have hD := hD0.self (sz := s.heap.size)
  generalize hAe : va_A (zzB ad cy iB lB aB iC aC) s.heap.size = A at hD ⊢
  have hA : ∀ q : Nat, s.heap.size ≤ q → A q := fun q h => by rw [← hAe]; exact Or.inr h
  have hS : va_S A s.heap s.heap [] := va_S.rf
  generalize hWQ : (zzB ad cy (us iB [(7, q.1), (9, q.2.1)]) lB (us aB [(6, q.2.2.1), (8, q.2.2.2)]) iC aC) = WQ
  generalize hQQ : MQ below (cQv (dC, dI) cy WQ A) args s 0 0 A = QQ
  have hl := lv_entry ([.ref (ad 0), .int a1, .int a2, .int a3] : List Value) (n := 4) (Nat.le_of_ble_eq_true rfl)
  have hfr := lg_entry_eq m ([.ref (ad 0), .int a1, .int a2, .int a3] : List Value) 4
  rw [← hav] at hfr
  rw [hfr]
  clear hfr hav
  generalize (lg_sl ([.ref (ad 0), .int a1, .int a2, .int a3] : List Value) ++ List.replicate (4 - (lg_sl ([.ref (ad 0), .int a1, .int a2, .int a3] : List Value)).length) Slot.unset).toArray = ls at hl ⊢
  have hl : lv_has ls 4 [(0, .ref (ad 0)), (1, .int a1), (2, .int a2), (3, .int a3)] := hl
  have kf54 := hts _ (List.mem_cons_of_mem _ m_fl_X0_54)
  have ki0 := (fun w h => List.mem_cons_of_mem _ (i_X0 w h) : ∀ w ∈ u_ws RX0 TX0 15, w ∈ wsX0_addRule)
  have kf29 := hts _ (List.mem_cons_of_mem _ m_fl_X0_29)
  refine (?_ : ∀ (H : Heap) (locs : List Loc), va_P (dC, dI) vwCl (zzB ad cy iB lB aB iC aC) H → va_D A (zzB ad cy iB lB aB iC aC) → va_S A s.heap H locs → W p l e ({ frames := 1, cells := 0, slots := 0, locals := 24 } : Room) s m args below meth c H locs 0 0 QQ (F0 m 0 ls [])) s.heap [] hP hD hS
  clear hP hD hS
  intro H locs hP hD hS
  unfold f_B_addRule at h
  refine lv_aload_n hx hb dX0_addRule_0 rfl (lv_at hl 0 rfl) ?_
  refine va_get (D := (dC, dI)) (ci := 0) (v := .int (iB 9)) (C := RX0) (T := TX0) (N := 15) hx hb hts ki0 hown hK hP 0 rfl rfl 9 (by decide) kf54 (fun _ h9 => h9) rfl dX0_addRule_1 ?_
  refine lv_bipush (v := 12) hx hb dX0_addRule_4 (by decide) ?_
  refine lv_icmp_ge (tgt := 35) hx hb dX0_addRule_6 (by decide) (fun cz => ?_) (fun cz => ?_)
  · have h := g_t h cz
    have h' := Option.some.inj h
    rw [← hQQ]
    exact W.vret hx hb hr (fun t ht hW => ⟨⟨(), rfl, trivial, by rw [← hWQ, ← h', ht]; exact hP, va_K.moved hW.alike hK⟩, hS.F ht⟩) hS.2.2 dX0_addRule_35
  · have h := g_f h cz
    refine lv_aload_n hx hb dX0_addRule_9 rfl (lv_at hl 0 rfl) ?_
    refine va_get (D := (dC, dI)) (ci := 0) (v := .ref (ad 4)) (C := RX0) (T := TX0) (N := 15) hx hb hts ki0 hown hK hP 0 rfl rfl 8 (by decide) kf29 (fun _ h9 => h9) rfl dX0_addRule_10 ?_
    refine lv_aload_n hx hb dX0_addRule_13 rfl (lv_at hl 0 rfl) ?_
    refine va_get (D := (dC, dI)) (ci := 0) (v := .int (iB 9)) (C := RX0) (T := TX0) (N := 15) hx hb hts ki0 hown hK hP 0 rfl rfl 9 (by decide) kf54 (fun _ h9 => h9) rfl dX0_addRule_14 ?_
    refine lv_aload_n hx hb dX0_addRule_17 rfl (lv_at hl 0 rfl) ?_
    refine lv_iload_n hx hb dX0_addRule_18 rfl (lv_at hl 1 rfl) ?_
    refine lv_iload_n hx hb dX0_addRule_19 rfl (lv_at hl 2 rfl) ?_
    refine lv_iload_n hx hb dX0_addRule_20 rfl (lv_at hl 3 rfl) ?_
    obtain ⟨q21, e21, h⟩ := g_b h
    refine callVis (cc := cX0_addRule) (w1 := zzB ad cy (us iB [(7, q21.2.1)]) lB (us aB [(6, q21.2.2)]) iC aC) (As := [.int a1, .int a2, .int a3]) (rest := [.int (iB 9), .ref (ad 4)]) ⟨hx, hb, hml, hown, hts⟩ (c_B_addStatement l dC dI cy ad H.size a1 a2 a3 iB lB aB iC aC q21 e21) (cwV 3 hts (goodV m_ml_X0_70 m_im_X0_addStatement m_se_X0_addStatement m_in_X0 m_cd_X0_addStatement) rfl rfl rfl (by decide +kernel) ⟨Nat.le_of_ble_eq_true rfl, Nat.le_of_ble_eq_true rfl⟩) hN hK hP hD hS hA rfl 0 rfl rfl rfl hl.1 rfl (Nat.le_of_ble_eq_true rfl) dX0_addRule_21 ⟨Nat.zero_le _, Nat.zero_le _⟩ (fun H locs hP hD hS => ?_)
    obtain ⟨g_15, h⟩ := g_n h
    refine va_iast (f := (aB 8)) hx hb hK hP hD hS 4 0 rfl rfl g_15 dX0_addRule_24 (fun H locs hP hD hS => ?_)
    have hP : va_P (dC, dI) vwCl (zzB ad cy (us iB [(7, q21.2.1)]) lB (us aB [(6, q21.2.2), (8, (upd (aB 8) (iB 9).toNatClampNeg q21.1))]) iC aC) H := Eq.mp (congrArg (fun w => va_P (dC, dI) vwCl w H) (stB_aB8 ad cy (us iB [(7, q21.2.1)]) lB aB iC aC [(6, q21.2.2)] ((upd (aB 8) (iB 9).toNatClampNeg q21.1)))) hP
    have hD : va_D A (zzB ad cy (us iB [(7, q21.2.1)]) lB (us aB [(6, q21.2.2), (8, (upd (aB 8) (iB 9).toNatClampNeg q21.1))]) iC aC) := Eq.mp (congrArg (fun w => va_D A w) (stB_aB8 ad cy (us iB [(7, q21.2.1)]) lB aB iC aC [(6, q21.2.2)] ((upd (aB 8) (iB 9).toNatClampNeg q21.1)))) hD
    refine lv_aload_n hx hb dX0_addRule_25 rfl (lv_at hl 0 rfl) ?_
    refine lv_dup hx hb dX0_addRule_26 rfl ?_
    refine va_get (D := (dC, dI)) (ci := 0) (v := .int (iB 9)) (C := RX0) (T := TX0) (N := 15) hx hb hts ki0 hown hK hP 0 rfl rfl 9 (by decide) kf54 (fun _ h9 => h9) rfl dX0_addRule_27 ?_
    refine lv_iconst (v := 1) hx hb dX0_addRule_30 (by decide) ?_
    refine lv_iadd hx hb dX0_addRule_31 ?_
    refine va_put (D := (dC, dI)) (ci := 0) (v := .int (((iB 9) + (1 : Int32)))) (ty := .int) (C := RX0) (T := TX0) (N := 15) hx hb hts ki0 tyX0 tyX0_ok nmX0 hown hK hP hD hS 0 rfl rfl 9 (by decide) kf54 (fun _ h9 => h9) rfl (by decide +kernel) rfl rfl (Nat.le_of_ble_eq_true rfl) dX0_addRule_32 (fun H locs hP hD hS => ?_)
    have hP : va_P (dC, dI) vwCl (zzB ad cy (us iB [(7, q21.2.1), (9, ((iB 9) + (1 : Int32)))]) lB (us aB [(6, q21.2.2), (8, (upd (aB 8) (iB 9).toNatClampNeg q21.1))]) iC aC) H := Eq.mp (congrArg (fun w => va_P (dC, dI) vwCl w H) (stB_iB9 ad cy iB lB (us aB [(6, q21.2.2), (8, (upd (aB 8) (iB 9).toNatClampNeg q21.1))]) iC aC [(7, q21.2.1)] (((iB 9) + (1 : Int32))))) hP
    have hD : va_D A (zzB ad cy (us iB [(7, q21.2.1), (9, ((iB 9) + (1 : Int32)))]) lB (us aB [(6, q21.2.2), (8, (upd (aB 8) (iB 9).toNatClampNeg q21.1))]) iC aC) := Eq.mp (congrArg (fun w => va_D A w) (stB_iB9 ad cy iB lB (us aB [(6, q21.2.2), (8, (upd (aB 8) (iB 9).toNatClampNeg q21.1))]) iC aC [(7, q21.2.1)] (((iB 9) + (1 : Int32))))) hD
    have h' := Option.some.inj h
    rw [← hQQ]
    exact W.vret hx hb hr (fun t ht hW => ⟨⟨(), rfl, trivial, by rw [← hWQ, ← h', ht]; exact hP, va_K.moved hW.alike hK⟩, hS.F ht⟩) hS.2.2 dX0_addRule_35
set_option maxHeartbeats 8000000 in
set_option maxRecDepth 100000 in
theorem c_R_takeRule (l : Launch) (dC : Nat → ClassId) (dI : Nat → Nat → Nat) (cy : Nat → ClassId) (ad : Nat → Nat) (sz : Nat) (N : Nat) (iR : Nat → Int32) (iT : Nat → Int32) (wT : Int64) (tx : Nat → Int32) (iB : Nat → Int32) (lB : Nat → Nat → Int64) (aB : Nat → Nat → Int32) (iC : Nat → Int32) (aC : Nat → Nat → Int32) (q : (Nat → Int32) × (Nat → Int32) × Int64 × (Nat → Int32) × (Nat → Nat → Int64) × (Nat → Nat → Int32) × (Nat → Int32) × (Nat → Nat → Int32)) (h : f_R_takeRule N iR iT wT tx iB lB aB iC aC = some q) : Met l yX4_takeRule wsX4_takeRule ({ frames := 89, cells := 0, slots := 0, locals := 2138 } : Room) (cP (dC, dI) cy [.ref (ad 0)] (zzR ad cy (ad 3) (ad 10) iR iT wT tx iB lB aB iC aC) sz) (cQv (dC, dI) cy (zzR ad cy (ad 3) (ad 10) q.1 q.2.1 q.2.2.1 tx q.2.2.2.1 q.2.2.2.2.1 q.2.2.2.2.2.1 q.2.2.2.2.2.2.1 q.2.2.2.2.2.2.2) (va_A (zzR ad cy (ad 3) (ad 10) iR iT wT tx iB lB aB iC aC) sz)) 0 0 (va_A (zzR ad cy (ad 3) (ad 10) iR iT wT tx iB lB aB iC aC) sz) := by
  refine Met.ofW (cc := cX4_takeRule) (maxL := 4) (ret := none) (by decide) rfl ?_
  intro p e s m args below meth c s₁ B hml hv
  obtain ⟨hav, hsz, hP, hK, hD0, hN⟩ := hv
  have hx := B.exec
  have hb := B.bytes
  have hr := B.returns
  have hts := atoms_spec (ws := wsX4_takeRule) B.pre
  have hown : s.vm.findClass RX4 = some m.cls := findClass_of_methodNamed B.named
  have hlocks := B.notSynchronized
  subst hsz
  have hD := hD0.self (sz := s.heap.size)
  generalize hAe : va_A (zzR ad cy (ad 3) (ad 10) iR iT wT tx iB lB aB iC aC) s.heap.size = A at hD ⊢
  have hA : ∀ q : Nat, s.heap.size ≤ q → A q := fun q h => by rw [← hAe]; exact Or.inr h
  have hS : va_S A s.heap s.heap [] := va_S.rf
  generalize hWQ : (zzR ad cy (ad 3) (ad 10) q.1 q.2.1 q.2.2.1 tx q.2.2.2.1 q.2.2.2.2.1 q.2.2.2.2.2.1 q.2.2.2.2.2.2.1 q.2.2.2.2.2.2.2) = WQ
  generalize hQQ : MQ below (cQv (dC, dI) cy WQ A) args s 0 0 A = QQ
  have hl := lv_entry ([.ref (ad 0)] : List Value) (n := 4) (Nat.le_of_ble_eq_true rfl)
  have hfr := lg_entry_eq m ([.ref (ad 0)] : List Value) 4
  rw [← hav] at hfr
  rw [hfr]
  clear hfr hav
  generalize (lg_sl ([.ref (ad 0)] : List Value) ++ List.replicate (4 - (lg_sl ([.ref (ad 0)] : List Value)).length) Slot.unset).toArray = ls at hl ⊢
  have hl : lv_has ls 4 [(0, .ref (ad 0))] := hl
  have kf20 := hts _ (List.mem_cons_of_mem _ m_fl_X4_20)
  have ki4 := (fun w h => List.mem_cons_of_mem _ (i_X4 w h) : ∀ w ∈ u_ws RX4 TX4 5, w ∈ wsX4_takeRule)
  have kf24 := hts _ (List.mem_cons_of_mem _ m_fl_X4_24)
  have kf48 := hts _ (List.mem_cons_of_mem _ m_fl_X4_48)
  have ki5 := (fun w h => List.mem_cons_of_mem _ (i_X5 w h) : ∀ w ∈ u_ws RX5 TX5 6, w ∈ wsX4_takeRule)
  have kc100 := hts _ (List.mem_cons_of_mem _ m_kl_X4_100)
  have kf94 := hts _ (List.mem_cons_of_mem _ m_fl_X4_94)
  have ki0 := (fun w h => List.mem_cons_of_mem _ (i_X0 w h) : ∀ w ∈ u_ws RX0 TX0 15, w ∈ wsX4_takeRule)
  have kc102 := hts _ (List.mem_cons_of_mem _ m_kl_X4_102)
  refine (?_ : ∀ (H : Heap) (locs : List Loc), va_P (dC, dI) vwCl (zzR ad cy (ad 3) (ad 10) iR iT wT tx iB lB aB iC aC) H → va_D A (zzR ad cy (ad 3) (ad 10) iR iT wT tx iB lB aB iC aC) → va_S A s.heap H locs → W p l e ({ frames := 89, cells := 0, slots := 0, locals := 2138 } : Room) s m args below meth c H locs 0 0 QQ (F0 m 0 ls [])) s.heap [] hP hD hS
  clear hP hD hS
  have B100 : ∀ (v1 : Int32) (s0 : Int32) (x_iR : Nat → Int32) (x_iT : Nat → Int32) (x_wT : Int64) (x_iB : Nat → Int32) (x_lB : Nat → Nat → Int64) (x_iC : Nat → Int32) (x_aC : Nat → Nat → Int32) (H : Heap) (locs : List Loc) (ls : Array Slot), f_R_takeRule_100 N iR iT wT tx iB lB aB iC aC v1 s0 x_iR x_iT x_wT x_iB x_lB x_iC x_aC = some q → va_P (dC, dI) vwCl (zzR ad cy (ad 3) (ad 10) x_iR x_iT x_wT tx x_iB x_lB aB x_iC x_aC) H → va_D A (zzR ad cy (ad 3) (ad 10) x_iR x_iT x_wT tx x_iB x_lB aB x_iC x_aC) → va_S A s.heap H locs → lv_has ls 4 [(0, .ref (ad 0)), (1, .int v1)] → W p l e ({ frames := 89, cells := 0, slots := 0, locals := 2138 } : Room) s m args below meth c H locs 0 0 QQ (F0 m 100 ls [.int s0]) := by
    intro v1 s0 x_iR x_iT x_wT x_iB x_lB x_iC x_aC H locs ls h hP hD hS hl
    unfold f_R_takeRule_100 at h
    refine lv_istore_n (lv' := [(2, .int s0), (0, .ref (ad 0)), (1, .int v1)]) hx hb dX4_takeRule_100 rfl hl (by decide) rfl (fun ls hl => ?_)
    refine lv_aload_n hx hb dX4_takeRule_101 rfl (lv_at hl 1 rfl) ?_
    refine va_get (D := (dC, dI)) (ci := 4) (v := .ref (ad 1)) (C := RX4) (T := TX4) (N := 5) hx hb hts ki4 hown hK hP 0 rfl rfl 0 (by decide) kf20 (fun _ h9 => h9) rfl dX4_takeRule_102 ?_
    obtain ⟨q105, e105, h⟩ := g_b h
    refine callVv (cc := cX4_takeRule) (ws' := zzR ad cy (ad 3) (ad 10) x_iR (us x_iT [(2, q105.1), (3, q105.2.1), (4, q105.2.2.1)]) q105.2.2.2 tx x_iB x_lB aB x_iC x_aC) (As := []) (rest := []) ⟨hx, hb, hml, hown, hts⟩ (c_T_step l dC dI cy (fun i => ad (i + 1)) H.size N x_iT x_wT tx q105 e105) (cwV 0 hts (goodV m_ml_X4_87 m_im_X5_step m_se_X5_step m_in_X5 m_cd_X5_step) rfl rfl rfl (by decide +kernel) ⟨Nat.le_of_ble_eq_true rfl, Nat.le_of_ble_eq_true rfl⟩) hN hK hP hD hS hA [1, 2] [none, some 0, some 1, none, none, none, none, none, none, none, none, none, none, none, none, none, none, none, none] rfl rfl rfl rfl rfl rfl 1 rfl rfl rfl hl.1 rfl (Nat.le_of_ble_eq_true rfl) dX4_takeRule_105 ⟨Nat.zero_le _, Nat.zero_le _⟩ (fun H locs hP hD hS => ?_)
    refine lv_aload_n hx hb dX4_takeRule_108 rfl (lv_at hl 1 rfl) ?_
    refine lv_iconst (v := 0) hx hb dX4_takeRule_109 (by decide) ?_
    obtain ⟨q110, e110, h⟩ := g_b h
    refine callVis (cc := cX4_takeRule) (w1 := zzR ad cy (ad 3) (ad 10) q110.2.1 q110.2.2.1 q110.2.2.2.1 tx q110.2.2.2.2.1 q110.2.2.2.2.2.1 aB q110.2.2.2.2.2.2.1 q110.2.2.2.2.2.2.2) (As := [.int ((0 : Int32))]) (rest := []) ⟨hx, hb, hml, hown, hts⟩ (c_R_takeConcept l dC dI cy ad H.size N 84 2016 (f_R_takeOne N 14) (fun sz a1 iR iT wT tx iB lB aB iC aC q h => c_R_takeOne l dC dI cy ad sz N 14 a1 iR iT wT tx iB lB aB iC aC q h) ((0 : Int32)) x_iR ((us x_iT [(2, q105.1), (3, q105.2.1), (4, q105.2.2.1)])) q105.2.2.2 tx x_iB x_lB aB x_iC x_aC q110 e110) (cwV 1 hts (goodV m_ml_X4_97 m_im_X4_takeConcept m_se_X4_takeConcept m_in_X4 m_cd_X4_takeConcept) rfl rfl rfl (by decide +kernel) ⟨Nat.le_of_ble_eq_true rfl, Nat.le_of_ble_eq_true rfl⟩) hN hK hP hD hS hA rfl 0 rfl rfl rfl hl.1 rfl (Nat.le_of_ble_eq_true rfl) dX4_takeRule_110 ⟨Nat.zero_le _, Nat.zero_le _⟩ (fun H locs hP hD hS => ?_)
    refine lv_istore_n (lv' := [(3, .int q110.1), (2, .int s0), (0, .ref (ad 0)), (1, .int v1)]) hx hb dX4_takeRule_113 rfl hl (by decide) rfl (fun ls hl => ?_)
    refine lv_iload_n hx hb dX4_takeRule_114 rfl (lv_at hl 0 rfl) ?_
    refine lv_iconst (v := (-1)) hx hb dX4_takeRule_115 (by decide) ?_
    refine lv_icmp_eq (tgt := 136) hx hb dX4_takeRule_116 (by decide) (fun cz => ?_) (fun cz => ?_)
    · have h := g_t h cz
      have h' := Option.some.inj h
      rw [← hQQ]
      exact W.vret hx hb hr (fun t ht hW => ⟨⟨(), rfl, trivial, by rw [← hWQ, ← h', ht]; exact hP, va_K.moved hW.alike hK⟩, hS.F ht⟩) hS.2.2 dX4_takeRule_136
    · have h := g_f h cz
      refine lv_aload_n hx hb dX4_takeRule_119 rfl (lv_at hl 2 rfl) ?_
      obtain ⟨q120, e120, h⟩ := g_b h
      refine callVis (cc := cX4_takeRule) (w1 := zzR ad cy (ad 3) (ad 10) (us q110.2.1 [(3, q120.2.1), (4, q120.2.2.1)]) (us q110.2.2.1 [(2, q120.2.2.2.1), (3, q120.2.2.2.2.1), (4, q120.2.2.2.2.2.1)]) q120.2.2.2.2.2.2 tx q110.2.2.2.2.1 q110.2.2.2.2.2.1 aB q110.2.2.2.2.2.2.1 q110.2.2.2.2.2.2.2) (As := []) (rest := []) ⟨hx, hb, hml, hown, hts⟩ (c_R_takeEnd l dC dI cy ad H.size N q110.2.1 q110.2.2.1 q110.2.2.2.1 tx q110.2.2.2.2.1 q110.2.2.2.2.2.1 aB q110.2.2.2.2.2.2.1 q110.2.2.2.2.2.2.2 q120 e120) (cwV 0 hts (goodV m_ml_X4_104 m_im_X4_takeEnd m_se_X4_takeEnd m_in_X4 m_cd_X4_takeEnd) rfl rfl rfl (by decide +kernel) ⟨Nat.le_of_ble_eq_true rfl, Nat.le_of_ble_eq_true rfl⟩) hN hK hP hD hS hA rfl 0 rfl rfl rfl hl.1 rfl (Nat.le_of_ble_eq_true rfl) dX4_takeRule_120 ⟨Nat.zero_le _, Nat.zero_le _⟩ (fun H locs hP hD hS => ?_)
      refine lv_if_eq (tgt := 136) hx hb dX4_takeRule_123 (by decide) (fun cz => ?_) (fun cz => ?_)
      · have h := g_t h cz
        have h' := Option.some.inj h
        rw [← hQQ]
        exact W.vret hx hb hr (fun t ht hW => ⟨⟨(), rfl, trivial, by rw [← hWQ, ← h', ht]; exact hP, va_K.moved hW.alike hK⟩, hS.F ht⟩) hS.2.2 dX4_takeRule_136
      · have h := g_f h cz
        refine lv_aload_n hx hb dX4_takeRule_126 rfl (lv_at hl 2 rfl) ?_
        refine va_get (D := (dC, dI)) (ci := 4) (v := .ref (ad 3)) (C := RX4) (T := TX4) (N := 5) hx hb hts ki4 hown hK hP 0 rfl rfl 1 (by decide) kf24 (fun _ h9 => h9) rfl dX4_takeRule_127 ?_
        refine lv_iload_n hx hb dX4_takeRule_130 rfl (lv_at hl 1 rfl) ?_
        refine lv_iload_n hx hb dX4_takeRule_131 rfl (lv_at hl 3 rfl) ?_
        refine lv_iload_n hx hb dX4_takeRule_132 rfl (lv_at hl 0 rfl) ?_
        obtain ⟨q133, e133, h⟩ := g_b h
        refine callVv (cc := cX4_takeRule) (ws' := zzR ad cy (ad 3) (ad 10) (us q110.2.1 [(3, q120.2.1), (4, q120.2.2.1)]) (us q110.2.2.1 [(2, q120.2.2.2.1), (3, q120.2.2.2.2.1), (4, q120.2.2.2.2.2.1)]) q120.2.2.2.2.2.2 tx (us q110.2.2.2.2.1 [(7, q133.1), (9, q133.2.1)]) q110.2.2.2.2.2.1 (us aB [(6, q133.2.2.1), (8, q133.2.2.2)]) q110.2.2.2.2.2.2.1 q110.2.2.2.2.2.2.2) (As := [.int s0, .int v1, .int q110.1]) (rest := []) ⟨hx, hb, hml, hown, hts⟩ (c_B_addRule l dC dI cy (fun i => ad (i + 3)) H.size s0 v1 q110.1 q110.2.2.2.2.1 q110.2.2.2.2.2.1 aB q110.2.2.2.2.2.2.1 q110.2.2.2.2.2.2.2 q133 e133) (cwV 3 hts (goodV m_ml_X4_107 m_im_X0_addRule m_se_X0_addRule m_in_X0 m_cd_X0_addRule) rfl rfl rfl (by decide +kernel) ⟨Nat.le_of_ble_eq_true rfl, Nat.le_of_ble_eq_true rfl⟩) hN hK hP hD hS hA [3, 4, 5, 6, 7, 8, 9, 10, 11, 12, 13, 14, 15, 16, 17, 18] [none, none, none, some 0, some 1, some 2, some 3, some 4, some 5, some 6, some 7, some 8, some 9, some 10, some 11, some 12, some 13, some 14, some 15] rfl rfl rfl rfl rfl rfl 3 rfl rfl rfl hl.1 rfl (Nat.le_of_ble_eq_true rfl) dX4_takeRule_133 ⟨Nat.zero_le _, Nat.zero_le _⟩ (fun H locs hP hD hS => ?_)
        have h' := Option.some.inj h
        rw [← hQQ]
        exact W.vret hx hb hr (fun t ht hW => ⟨⟨(), rfl, trivial, by rw [← hWQ, ← h', ht]; exact hP, va_K.moved hW.alike hK⟩, hS.F ht⟩) hS.2.2 dX4_takeRule_136
  have B81 : ∀ (v1 : Int32) (x_iR : Nat → Int32) (x_iT : Nat → Int32) (x_wT : Int64) (x_iB : Nat → Int32) (x_lB : Nat → Nat → Int64) (x_iC : Nat → Int32) (x_aC : Nat → Nat → Int32) (H : Heap) (locs : List Loc) (ls : Array Slot), f_R_takeRule_81 N iR iT wT tx iB lB aB iC aC v1 x_iR x_iT x_wT x_iB x_lB x_iC x_aC = some q → va_P (dC, dI) vwCl (zzR ad cy (ad 3) (ad 10) x_iR x_iT x_wT tx x_iB x_lB aB x_iC x_aC) H → va_D A (zzR ad cy (ad 3) (ad 10) x_iR x_iT x_wT tx x_iB x_lB aB x_iC x_aC) → va_S A s.heap H locs → lv_has ls 4 [(0, .ref (ad 0)), (1, .int v1)] → W p l e ({ frames := 89, cells := 0, slots := 0, locals := 2138 } : Room) s m args below meth c H locs 0 0 QQ (F0 m 81 ls []) := by
    intro v1 x_iR x_iT x_wT x_iB x_lB x_iC x_aC H locs ls h hP hD hS hl
    unfold f_R_takeRule_81 at h
    refine lv_aload_n hx hb dX4_takeRule_81 rfl (lv_at hl 0 rfl) ?_
    refine va_get (D := (dC, dI)) (ci := 4) (v := .ref (ad 1)) (C := RX4) (T := TX4) (N := 5) hx hb hts ki4 hown hK hP 0 rfl rfl 0 (by decide) kf20 (fun _ h9 => h9) rfl dX4_takeRule_82 ?_
    refine va_get (D := (dC, dI)) (ci := 5) (v := .long x_wT) (C := RX5) (T := TX5) (N := 6) hx hb hts ki5 hown hK hP 1 rfl rfl 5 (by decide) kf48 (fun _ h9 => h9) rfl dX4_takeRule_85 ?_
    refine lv_ldc2 (v := 60) hx hb hown kc100 dX4_takeRule_88 ?_
    refine W.lcmp hx hb dX4_takeRule_91 ?_
    refine lv_if_ne (tgt := 99) hx hb dX4_takeRule_92 (by decide) (fun cz => ?_) (fun cz => ?_)
    · have h := g_f h (fun z => cz (lg_cmp0.mpr z))
      refine lv_iconst (v := 1) hx hb dX4_takeRule_99 (by decide) ?_
      exact B100 v1 ((1 : Int32)) x_iR x_iT x_wT x_iB x_lB x_iC x_aC H locs ls h hP hD hS (lv_sub hl [0, 1] rfl)
    · have h := g_t h (lg_cmp0.mp cz)
      refine lv_iconst (v := 0) hx hb dX4_takeRule_95 (by decide) ?_
      refine lv_goto (tgt := 100) hx hb dX4_takeRule_96 (by decide) ?_
      exact B100 v1 ((0 : Int32)) x_iR x_iT x_wT x_iB x_lB x_iC x_aC H locs ls h hP hD hS (lv_sub hl [0, 1] rfl)
  intro H locs hP hD hS
  unfold f_R_takeRule at h
  refine lv_aload_n hx hb dX4_takeRule_0 rfl (lv_at hl 0 rfl) ?_
  refine va_get (D := (dC, dI)) (ci := 4) (v := .ref (ad 1)) (C := RX4) (T := TX4) (N := 5) hx hb hts ki4 hown hK hP 0 rfl rfl 0 (by decide) kf20 (fun _ h9 => h9) rfl dX4_takeRule_1 ?_
  obtain ⟨q4, e4, h⟩ := g_b h
  refine callVi (cc := cX4_takeRule) (ws' := zzR ad cy (ad 3) (ad 10) iR iT wT tx iB lB aB iC aC) (As := []) (rest := []) ⟨hx, hb, hml, hown, hts⟩ (c_T_beginsConcept l dC dI cy (fun i => ad (i + 1)) H.size iT wT tx q4 e4) (cwV 0 hts (goodV m_ml_X4_90 m_im_X5_beginsConcept m_se_X5_beginsConcept m_in_X5 m_cd_X5_beginsConcept) rfl rfl rfl (by decide +kernel) ⟨Nat.le_of_ble_eq_true rfl, Nat.le_of_ble_eq_true rfl⟩) hN hK hP hD hS hA [1, 2] [none, some 0, some 1, none, none, none, none, none, none, none, none, none, none, none, none, none, none, none, none] rfl rfl rfl rfl rfl rfl 1 rfl rfl rfl hl.1 rfl (Nat.le_of_ble_eq_true rfl) dX4_takeRule_4 ⟨Nat.zero_le _, Nat.zero_le _⟩ (fun H locs hP hD hS => ?_)
  refine lv_if_ne (tgt := 16) hx hb dX4_takeRule_7 (by decide) (fun cz => ?_) (fun cz => ?_)
  · have h := g_f h cz
    refine lv_aload_n hx hb dX4_takeRule_16 rfl (lv_at hl 0 rfl) ?_
    refine va_get (D := (dC, dI)) (ci := 4) (v := .ref (ad 3)) (C := RX4) (T := TX4) (N := 5) hx hb hts ki4 hown hK hP 0 rfl rfl 1 (by decide) kf24 (fun _ h9 => h9) rfl dX4_takeRule_17 ?_
    refine va_get (D := (dC, dI)) (ci := 0) (v := .int ((iB 9))) (C := RX0) (T := TX0) (N := 15) hx hb hts ki0 hown hK hP 3 rfl rfl 9 (by decide) kf94 (fun _ h9 => h9) rfl dX4_takeRule_20 ?_
    refine lv_bipush (v := 12) hx hb dX4_takeRule_23 (by decide) ?_
    refine lv_icmp_lt (tgt := 35) hx hb dX4_takeRule_25 (by decide) (fun cz => ?_) (fun cz => ?_)
    · have h := g_t h cz
      refine lv_aload_n hx hb dX4_takeRule_35 rfl (lv_at hl 0 rfl) ?_
      refine lv_iconst (v := 0) hx hb dX4_takeRule_36 (by decide) ?_
      obtain ⟨q37, e37, h⟩ := g_b h
      refine callVis (cc := cX4_takeRule) (w1 := zzR ad cy (ad 3) (ad 10) q37.2.1 q37.2.2.1 q37.2.2.2.1 tx q37.2.2.2.2.1 q37.2.2.2.2.2.1 aB q37.2.2.2.2.2.2.1 q37.2.2.2.2.2.2.2) (As := [.int ((0 : Int32))]) (rest := []) ⟨hx, hb, hml, hown, hts⟩ (c_R_takeConcept l dC dI cy ad H.size N 84 2016 (f_R_takeOne N 14) (fun sz a1 iR iT wT tx iB lB aB iC aC q h => c_R_takeOne l dC dI cy ad sz N 14 a1 iR iT wT tx iB lB aB iC aC q h) ((0 : Int32)) iR iT wT tx iB lB aB iC aC q37 e37) (cwV 1 hts (goodV m_ml_X4_97 m_im_X4_takeConcept m_se_X4_takeConcept m_in_X4 m_cd_X4_takeConcept) rfl rfl rfl (by decide +kernel) ⟨Nat.le_of_ble_eq_true rfl, Nat.le_of_ble_eq_true rfl⟩) hN hK hP hD hS hA rfl 0 rfl rfl rfl hl.1 rfl (Nat.le_of_ble_eq_true rfl) dX4_takeRule_37 ⟨Nat.zero_le _, Nat.zero_le _⟩ (fun H locs hP hD hS => ?_)
      refine lv_istore_n (lv' := [(1, .int q37.1), (0, .ref (ad 0))]) hx hb dX4_takeRule_40 rfl hl (by decide) rfl (fun ls hl => ?_)
      refine lv_iload_n hx hb dX4_takeRule_41 rfl (lv_at hl 0 rfl) ?_
      refine lv_iconst (v := (-1)) hx hb dX4_takeRule_42 (by decide) ?_
      refine lv_icmp_ne (tgt := 47) hx hb dX4_takeRule_43 (by decide) (fun cz => ?_) (fun cz => ?_)
      · have h := g_f h cz
        refine lv_aload_n hx hb dX4_takeRule_47 rfl (lv_at hl 1 rfl) ?_
        refine va_get (D := (dC, dI)) (ci := 4) (v := .ref (ad 1)) (C := RX4) (T := TX4) (N := 5) hx hb hts ki4 hown hK hP 0 rfl rfl 0 (by decide) kf20 (fun _ h9 => h9) rfl dX4_takeRule_48 ?_
        refine va_get (D := (dC, dI)) (ci := 5) (v := .long q37.2.2.2.1) (C := RX5) (T := TX5) (N := 6) hx hb hts ki5 hown hK hP 1 rfl rfl 5 (by decide) kf48 (fun _ h9 => h9) rfl dX4_takeRule_51 ?_
        refine lv_ldc2 (v := 60) hx hb hown kc100 dX4_takeRule_54 ?_
        refine W.lcmp hx hb dX4_takeRule_57 ?_
        refine lv_if_eq (tgt := 81) hx hb dX4_takeRule_58 (by decide) (fun cz => ?_) (fun cz => ?_)
        · have h := g_t h (lg_cmp0.mp cz)
          exact B81 q37.1 q37.2.1 q37.2.2.1 q37.2.2.2.1 q37.2.2.2.2.1 q37.2.2.2.2.2.1 q37.2.2.2.2.2.2.1 q37.2.2.2.2.2.2.2 H locs ls h hP hD hS (lv_sub hl [1, 0] rfl)
        · have h := g_f h (fun z => cz (lg_cmp0.mpr z))
          refine lv_aload_n hx hb dX4_takeRule_61 rfl (lv_at hl 1 rfl) ?_
          refine va_get (D := (dC, dI)) (ci := 4) (v := .ref (ad 1)) (C := RX4) (T := TX4) (N := 5) hx hb hts ki4 hown hK hP 0 rfl rfl 0 (by decide) kf20 (fun _ h9 => h9) rfl dX4_takeRule_62 ?_
          refine va_get (D := (dC, dI)) (ci := 5) (v := .long q37.2.2.2.1) (C := RX5) (T := TX5) (N := 6) hx hb hts ki5 hown hK hP 1 rfl rfl 5 (by decide) kf48 (fun _ h9 => h9) rfl dX4_takeRule_65 ?_
          refine lv_ldc2 (v := 61) hx hb hown kc102 dX4_takeRule_68 ?_
          refine W.lcmp hx hb dX4_takeRule_71 ?_
          refine lv_if_eq (tgt := 81) hx hb dX4_takeRule_72 (by decide) (fun cz => ?_) (fun cz => ?_)
          · have h := g_t h (lg_cmp0.mp cz)
            exact B81 q37.1 q37.2.1 q37.2.2.1 q37.2.2.2.1 q37.2.2.2.2.1 q37.2.2.2.2.2.1 q37.2.2.2.2.2.2.1 q37.2.2.2.2.2.2.2 H locs ls h hP hD hS (lv_sub hl [1, 0] rfl)
          · have h := g_f h (fun z => cz (lg_cmp0.mpr z))
            refine lv_aload_n hx hb dX4_takeRule_75 rfl (lv_at hl 1 rfl) ?_
            obtain ⟨q76, e76, h⟩ := g_b h
            refine callVis (cc := cX4_takeRule) (w1 := zzR ad cy (ad 3) (ad 10) (us q37.2.1 [(3, q76.2.1), (4, q76.2.2)]) q37.2.2.1 q37.2.2.2.1 tx q37.2.2.2.2.1 q37.2.2.2.2.2.1 aB q37.2.2.2.2.2.2.1 q37.2.2.2.2.2.2.2) (As := []) (rest := []) ⟨hx, hb, hml, hown, hts⟩ (c_R_misplaced l dC dI cy ad H.size q37.2.1 q37.2.2.1 q37.2.2.2.1 tx q37.2.2.2.2.1 q37.2.2.2.2.2.1 aB q37.2.2.2.2.2.2.1 q37.2.2.2.2.2.2.2 q76 e76) (cwV 0 hts (goodV m_ml_X4_83 m_im_X4_misplaced m_se_X4_misplaced m_in_X4 m_cd_X4_misplaced) rfl rfl rfl (by decide +kernel) ⟨Nat.le_of_ble_eq_true rfl, Nat.le_of_ble_eq_true rfl⟩) hN hK hP hD hS hA rfl 0 rfl rfl rfl hl.1 rfl (Nat.le_of_ble_eq_true rfl) dX4_takeRule_76 ⟨Nat.zero_le _, Nat.zero_le _⟩ (fun H locs hP hD hS => ?_)
            refine lv_pop hx hb dX4_takeRule_79 rfl ?_
            have h' := Option.some.inj h
            rw [← hQQ]
            exact W.vret hx hb hr (fun t ht hW => ⟨⟨(), rfl, trivial, by rw [← hWQ, ← h', ht]; exact hP, va_K.moved hW.alike hK⟩, hS.F ht⟩) hS.2.2 dX4_takeRule_80
      · have h := g_t h cz
        have h' := Option.some.inj h
        rw [← hQQ]
        exact W.vret hx hb hr (fun t ht hW => ⟨⟨(), rfl, trivial, by rw [← hWQ, ← h', ht]; exact hP, va_K.moved hW.alike hK⟩, hS.F ht⟩) hS.2.2 dX4_takeRule_46
    · have h := g_f h cz
      refine lv_aload_n hx hb dX4_takeRule_28 rfl (lv_at hl 0 rfl) ?_
      refine lv_iconst (v := 3) hx hb dX4_takeRule_29 (by decide) ?_
      obtain ⟨q30, e30, h⟩ := g_b h
      refine callVis (cc := cX4_takeRule) (w1 := zzR ad cy (ad 3) (ad 10) (us iR [(3, q30.2.1), (4, q30.2.2)]) iT wT tx iB lB aB iC aC) (As := [.int ((3 : Int32))]) (rest := []) ⟨hx, hb, hml, hown, hts⟩ (c_R_failHere l dC dI cy ad H.size ((3 : Int32)) iR iT wT tx iB lB aB iC aC q30 e30) (cwV 1 hts (goodV m_ml_X4_77 m_im_X4_failHere m_se_X4_failHere m_in_X4 m_cd_X4_failHere) rfl rfl rfl (by decide +kernel) ⟨Nat.le_of_ble_eq_true rfl, Nat.le_of_ble_eq_true rfl⟩) hN hK hP hD hS hA rfl 0 rfl rfl rfl hl.1 rfl (Nat.le_of_ble_eq_true rfl) dX4_takeRule_30 ⟨Nat.zero_le _, Nat.zero_le _⟩ (fun H locs hP hD hS => ?_)
      refine lv_pop hx hb dX4_takeRule_33 rfl ?_
      have h' := Option.some.inj h
      rw [← hQQ]
      exact W.vret hx hb hr (fun t ht hW => ⟨⟨(), rfl, trivial, by rw [← hWQ, ← h', ht]; exact hP, va_K.moved hW.alike hK⟩, hS.F ht⟩) hS.2.2 dX4_takeRule_34
  · have h := g_t h cz
    refine lv_aload_n hx hb dX4_takeRule_10 rfl (lv_at hl 0 rfl) ?_
    obtain ⟨q11, e11, h⟩ := g_b h
    refine callVis (cc := cX4_takeRule) (w1 := zzR ad cy (ad 3) (ad 10) (us iR [(3, q11.2.1), (4, q11.2.2)]) iT wT tx iB lB aB iC aC) (As := []) (rest := []) ⟨hx, hb, hml, hown, hts⟩ (c_R_misplaced l dC dI cy ad H.size iR iT wT tx iB lB aB iC aC q11 e11) (cwV 0 hts (goodV m_ml_X4_83 m_im_X4_misplaced m_se_X4_misplaced m_in_X4 m_cd_X4_misplaced) rfl rfl rfl (by decide +kernel) ⟨Nat.le_of_ble_eq_true rfl, Nat.le_of_ble_eq_true rfl⟩) hN hK hP hD hS hA rfl 0 rfl rfl rfl hl.1 rfl (Nat.le_of_ble_eq_true rfl) dX4_takeRule_11 ⟨Nat.zero_le _, Nat.zero_le _⟩ (fun H locs hP hD hS => ?_)
    refine lv_pop hx hb dX4_takeRule_14 rfl ?_
    have h' := Option.some.inj h
    rw [← hQQ]
    exact W.vret hx hb hr (fun t ht hW => ⟨⟨(), rfl, trivial, by rw [← hWQ, ← h', ht]; exact hP, va_K.moved hW.alike hK⟩, hS.F ht⟩) hS.2.2 dX4_takeRule_15
set_option maxHeartbeats 8000000 in
set_option maxRecDepth 100000 in
theorem c_B_isOrdered (l : Launch) (dC : Nat → ClassId) (dI : Nat → Nat → Nat) (cy : Nat → ClassId) (ad : Nat → Nat) (sz : Nat) (a1 : Int32) (iB : Nat → Int32) (lB : Nat → Nat → Int64) (aB : Nat → Nat → Int32) (iC : Nat → Int32) (aC : Nat → Nat → Int32) (q : Int32) (h : f_B_isOrdered a1 (iB 14) = some q) : Met l yX0_isOrdered wsX0_isOrdered ({ frames := 0, cells := 0, slots := 0, locals := 0 } : Room) (cP (dC, dI) cy [.ref (ad 0), .int a1] (zzB ad cy iB lB aB iC aC) sz) (cQi (dC, dI) cy q (zzB ad cy iB lB aB iC aC) (va_A (zzB ad cy iB lB aB iC aC) sz)) 0 0 (va_A (zzB ad cy iB lB aB iC aC) sz) := by
  refine Met.ofW (cc := cX0_isOrdered) (maxL := 2) (ret := (some .boolean)) (by decide) rfl ?_
  intro p e s m args below meth c s₁ B hml hv
  obtain ⟨hav, hsz, hP, hK, hD0, hN⟩ := hv
  have hx := B.exec
  have hb := B.bytes
  have hr := B.returns
  have hts := atoms_spec (ws := wsX0_isOrdered) B.pre
  have hown : s.vm.findClass RX0 = some m.cls := findClass_of_methodNamed B.named
  have hlocks := B.notSynchronized
  subst hsz
  have hD := hD0.self (sz := s.heap.size)
  generalize hAe : va_A (zzB ad cy iB lB aB iC aC) s.heap.size = A at hD ⊢
  have hA : ∀ q : Nat, s.heap.size ≤ q → A q := fun q h => by rw [← hAe]; exact Or.inr h
  have hS : va_S A s.heap s.heap [] := va_S.rf
  generalize hWQ : (zzB ad cy iB lB aB iC aC) = WQ
  generalize hQQ : MQ below (cQi (dC, dI) cy q WQ A) args s 0 0 A = QQ
  have hl := lv_entry ([.ref (ad 0), .int a1] : List Value) (n := 2) (Nat.le_of_ble_eq_true rfl)
  have hfr := lg_entry_eq m ([.ref (ad 0), .int a1] : List Value) 2
  rw [← hav] at hfr
  rw [hfr]
  clear hfr hav
  generalize (lg_sl ([.ref (ad 0), .int a1] : List Value) ++ List.replicate (2 - (lg_sl ([.ref (ad 0), .int a1] : List Value)).length) Slot.unset).toArray = ls at hl ⊢
  have hl : lv_has ls 2 [(0, .ref (ad 0)), (1, .int a1)] := hl
  have kf63 := hts _ (List.mem_cons_of_mem _ m_fl_X0_63)
  have ki0 := (fun w h => List.mem_cons_of_mem _ (i_X0 w h) : ∀ w ∈ u_ws RX0 TX0 15, w ∈ wsX0_isOrdered)
  refine (?_ : ∀ (H : Heap) (locs : List Loc), va_P (dC, dI) vwCl (zzB ad cy iB lB aB iC aC) H → va_D A (zzB ad cy iB lB aB iC aC) → va_S A s.heap H locs → W p l e ({ frames := 0, cells := 0, slots := 0, locals := 0 } : Room) s m args below meth c H locs 0 0 QQ (F0 m 0 ls [])) s.heap [] hP hD hS
  clear hP hD hS
  intro H locs hP hD hS
  unfold f_B_isOrdered at h
  refine lv_aload_n hx hb dX0_isOrdered_0 rfl (lv_at hl 0 rfl) ?_
  refine va_get (D := (dC, dI)) (ci := 0) (v := .int (iB 14)) (C := RX0) (T := TX0) (N := 15) hx hb hts ki0 hown hK hP 0 rfl rfl 14 (by decide) kf63 (fun _ h9 => h9) rfl dX0_isOrdered_1 ?_
  refine lv_iload_n hx hb dX0_isOrdered_4 rfl (lv_at hl 1 rfl) ?_
  refine lv_ishr hx hb dX0_isOrdered_5 ?_
  refine lv_iconst (v := 1) hx hb dX0_isOrdered_6 (by decide) ?_
  refine lv_iand hx hb dX0_isOrdered_7 ?_
  refine lv_iconst (v := 1) hx hb dX0_isOrdered_8 (by decide) ?_
  refine lv_icmp_ne (tgt := 16) hx hb dX0_isOrdered_9 (by decide) (fun cz => ?_) (fun cz => ?_)
  · have h := g_f h cz
    refine lv_iconst (v := 0) hx hb dX0_isOrdered_16 (by decide) ?_
    have h' := Option.some.inj h
    rw [← hQQ]
    exact W.zret (v := (0 : Int32)) hx hb hr rfl (fun t ht hW => ⟨⟨(0 : Int32), (), rfl, by rw [← h'], by rw [← hWQ, ht]; exact hP, va_K.moved hW.alike hK⟩, hS.F ht⟩) hS.2.2 dX0_isOrdered_17
  · have h := g_t h cz
    refine lv_iconst (v := 1) hx hb dX0_isOrdered_12 (by decide) ?_
    refine lv_goto (tgt := 17) hx hb dX0_isOrdered_13 (by decide) ?_
    have h' := Option.some.inj h
    rw [← hQQ]
    exact W.zret (v := (1 : Int32)) hx hb hr rfl (fun t ht hW => ⟨⟨(1 : Int32), (), rfl, by rw [← h'], by rw [← hWQ, ht]; exact hP, va_K.moved hW.alike hK⟩, hS.F ht⟩) hS.2.2 dX0_isOrdered_17
set_option maxHeartbeats 8000000 in
set_option maxRecDepth 100000 in
theorem c_B_addSingle (l : Launch) (dC : Nat → ClassId) (dI : Nat → Nat → Nat) (cy : Nat → ClassId) (ad : Nat → Nat) (sz : Nat) (a1 : Int32) (iB : Nat → Int32) (lB : Nat → Nat → Int64) (aB : Nat → Nat → Int32) (iC : Nat → Int32) (aC : Nat → Nat → Int32) (q : Int32 × Int32 × (Nat → Int32)) (h : f_B_addSingle a1 (iB 7) (iB 13) (aB 6) = some q) : Met l yX0_addSingle wsX0_addSingle ({ frames := 1, cells := 0, slots := 0, locals := 24 } : Room) (cP (dC, dI) cy [.ref (ad 0), .int a1] (zzB ad cy iB lB aB iC aC) sz) (cQv (dC, dI) cy (zzB ad cy (us iB [(7, q.1), (13, q.2.1)]) lB (us aB [(6, q.2.2)]) iC aC) (va_A (zzB ad cy iB lB aB iC aC) sz)) 0 0 (va_A (zzB ad cy iB lB aB iC aC) sz) := by
  refine Met.ofW (cc := cX0_addSingle) (maxL := 2) (ret := none) (by decide) rfl ?_
  intro p e s m args below meth c s₁ B hml hv
  obtain ⟨hav, hsz, hP, hK, hD0, hN⟩ := hv
  have hx := B.exec
  have hb := B.bytes
  have hr := B.returns
  have hts := atoms_spec (ws := wsX0_addSingle) B.pre
  have hown : s.vm.findClass RX0 = some m.cls := findClass_of_methodNamed B.named
  have hlocks := B.notSynchronized
  subst hsz
  have hD := hD0.self (sz := s.heap.size)
  generalize hAe : va_A (zzB ad cy iB lB aB iC aC) s.heap.size = A at hD ⊢
  have hA : ∀ q : Nat, s.heap.size ≤ q → A q := fun q h => by rw [← hAe]; exact Or.inr h
  have hS : va_S A s.heap s.heap [] := va_S.rf
  generalize hWQ : (zzB ad cy (us iB [(7, q.1), (13, q.2.1)]) lB (us aB [(6, q.2.2)]) iC aC) = WQ
  generalize hQQ : MQ below (cQv (dC, dI) cy WQ A) args s 0 0 A = QQ
  have hl := lv_entry ([.ref (ad 0), .int a1] : List Value) (n := 2) (Nat.le_of_ble_eq_true rfl)
  have hfr := lg_entry_eq m ([.ref (ad 0), .int a1] : List Value) 2
  rw [← hav] at hfr
  rw [hfr]
  clear hfr hav
  generalize (lg_sl ([.ref (ad 0), .int a1] : List Value) ++ List.replicate (2 - (lg_sl ([.ref (ad 0), .int a1] : List Value)).length) Slot.unset).toArray = ls at hl ⊢
  have hl : lv_has ls 2 [(0, .ref (ad 0)), (1, .int a1)] := hl
  have kf60 := hts _ (List.mem_cons_of_mem _ m_fl_X0_60)
  have ki0 := (fun w h => List.mem_cons_of_mem _ (i_X0 w h) : ∀ w ∈ u_ws RX0 TX0 15, w ∈ wsX0_addSingle)
  refine (?_ : ∀ (H : Heap) (locs : List Loc), va_P (dC, dI) vwCl (zzB ad cy iB lB aB iC aC) H → va_D A (zzB ad cy iB lB aB iC aC) → va_S A s.heap H locs → W p l e ({ frames := 1, cells := 0, slots := 0, locals := 24 } : Room) s m args below meth c H locs 0 0 QQ (F0 m 0 ls [])) s.heap [] hP hD hS
  clear hP hD hS
  intro H locs hP hD hS
  unfold f_B_addSingle at h
  refine lv_aload_n hx hb dX0_addSingle_0 rfl (lv_at hl 0 rfl) ?_
  refine lv_iconst (v := 4) hx hb dX0_addSingle_1 (by decide) ?_
  refine lv_iload_n hx hb dX0_addSingle_2 rfl (lv_at hl 1 rfl) ?_
  refine lv_iconst (v := 0) hx hb dX0_addSingle_3 (by decide) ?_
  obtain ⟨q4, e4, h⟩ := g_b h
  refine callVis (cc := cX0_addSingle) (w1 := zzB ad cy (us iB [(7, q4.2.1)]) lB (us aB [(6, q4.2.2)]) iC aC) (As := [.int ((4 : Int32)), .int a1, .int ((0 : Int32))]) (rest := []) ⟨hx, hb, hml, hown, hts⟩ (c_B_addStatement l dC dI cy ad H.size ((4 : Int32)) a1 ((0 : Int32)) iB lB aB iC aC q4 e4) (cwV 3 hts (goodV m_ml_X0_70 m_im_X0_addStatement m_se_X0_addStatement m_in_X0 m_cd_X0_addStatement) rfl rfl rfl (by decide +kernel) ⟨Nat.le_of_ble_eq_true rfl, Nat.le_of_ble_eq_true rfl⟩) hN hK hP hD hS hA rfl 0 rfl rfl rfl hl.1 rfl (Nat.le_of_ble_eq_true rfl) dX0_addSingle_4 ⟨Nat.zero_le _, Nat.zero_le _⟩ (fun H locs hP hD hS => ?_)
  refine lv_pop hx hb dX0_addSingle_7 rfl ?_
  refine lv_aload_n hx hb dX0_addSingle_8 rfl (lv_at hl 0 rfl) ?_
  refine lv_dup hx hb dX0_addSingle_9 rfl ?_
  refine va_get (D := (dC, dI)) (ci := 0) (v := .int (iB 13)) (C := RX0) (T := TX0) (N := 15) hx hb hts ki0 hown hK hP 0 rfl rfl 13 (by decide) kf60 (fun _ h9 => h9) rfl dX0_addSingle_10 ?_
  refine lv_iconst (v := 1) hx hb dX0_addSingle_13 (by decide) ?_
  refine lv_iload_n hx hb dX0_addSingle_14 rfl (lv_at hl 1 rfl) ?_
  refine lv_ishl hx hb dX0_addSingle_15 ?_
  refine lv_ior hx hb dX0_addSingle_16 ?_
  refine va_put (D := (dC, dI)) (ci := 0) (v := .int (((iB 13) ||| ((1 : Int32) <<< (a1 &&& 31))))) (ty := .int) (C := RX0) (T := TX0) (N := 15) hx hb hts ki0 tyX0 tyX0_ok nmX0 hown hK hP hD hS 0 rfl rfl 13 (by decide) kf60 (fun _ h9 => h9) rfl (by decide +kernel) rfl rfl (Nat.le_of_ble_eq_true rfl) dX0_addSingle_17 (fun H locs hP hD hS => ?_)
  have hP : va_P (dC, dI) vwCl (zzB ad cy (us iB [(7, q4.2.1), (13, ((iB 13) ||| ((1 : Int32) <<< (a1 &&& 31))))]) lB (us aB [(6, q4.2.2)]) iC aC) H := Eq.mp (congrArg (fun w => va_P (dC, dI) vwCl w H) (stB_iB13 ad cy iB lB (us aB [(6, q4.2.2)]) iC aC [(7, q4.2.1)] (((iB 13) ||| ((1 : Int32) <<< (a1 &&& 31)))))) hP
  have hD : va_D A (zzB ad cy (us iB [(7, q4.2.1), (13, ((iB 13) ||| ((1 : Int32) <<< (a1 &&& 31))))]) lB (us aB [(6, q4.2.2)]) iC aC) := Eq.mp (congrArg (fun w => va_D A w) (stB_iB13 ad cy iB lB (us aB [(6, q4.2.2)]) iC aC [(7, q4.2.1)] (((iB 13) ||| ((1 : Int32) <<< (a1 &&& 31)))))) hD
  have h' := Option.some.inj h
  rw [← hQQ]
  exact W.vret hx hb hr (fun t ht hW => ⟨⟨(), rfl, trivial, by rw [← hWQ, ← h', ht]; exact hP, va_K.moved hW.alike hK⟩, hS.F ht⟩) hS.2.2 dX0_addSingle_20
set_option maxHeartbeats 8000000 in
set_option maxRecDepth 100000 in
theorem c_R_takeSingle (l : Launch) (dC : Nat → ClassId) (dI : Nat → Nat → Nat) (cy : Nat → ClassId) (ad : Nat → Nat) (sz : Nat) (N : Nat) (iR : Nat → Int32) (iT : Nat → Int32) (wT : Int64) (tx : Nat → Int32) (iB : Nat → Int32) (lB : Nat → Nat → Int64) (aB : Nat → Nat → Int32) (iC : Nat → Int32) (aC : Nat → Nat → Int32) (q : Int32 × Int32 × Int32 × Int32 × Int32 × Int64 × Int32 × Int32 × Int32 × (Nat → Int64) × (Nat → Int32)) (h : f_R_takeSingle N (iR 3) (iR 4) (iT 1) (iT 2) (iT 3) (iT 4) wT tx (iB 3) (iB 5) (iB 7) (iB 13) (iB 14) (lB 2) (lB 4) (aB 6) = some q) : Met l yX4_takeSingle wsX4_takeSingle ({ frames := 4, cells := 0, slots := 0, locals := 84 } : Room) (cP (dC, dI) cy [.ref (ad 0)] (zzR ad cy (ad 3) (ad 10) iR iT wT tx iB lB aB iC aC) sz) (cQv (dC, dI) cy (zzR ad cy (ad 3) (ad 10) (us iR [(3, q.1), (4, q.2.1)]) (us iT [(2, q.2.2.1), (3, q.2.2.2.1), (4, q.2.2.2.2.1)]) q.2.2.2.2.2.1 tx (us iB [(5, q.2.2.2.2.2.2.1), (7, q.2.2.2.2.2.2.2.1), (13, q.2.2.2.2.2.2.2.2.1)]) (us lB [(4, q.2.2.2.2.2.2.2.2.2.1)]) (us aB [(6, q.2.2.2.2.2.2.2.2.2.2)]) iC aC) (va_A (zzR ad cy (ad 3) (ad 10) iR iT wT tx iB lB aB iC aC) sz)) 0 0 (va_A (zzR ad cy (ad 3) (ad 10) iR iT wT tx iB lB aB iC aC) sz) := by
  refine Met.ofW (cc := cX4_takeSingle) (maxL := 3) (ret := none) (by decide) rfl ?_
  intro p e s m args below meth c s₁ B hml hv
  obtain ⟨hav, hsz, hP, hK, hD0, hN⟩ := hv
  have hx := B.exec
  have hb := B.bytes
  have hr := B.returns
  have hts := atoms_spec (ws := wsX4_takeSingle) B.pre
  have hown : s.vm.findClass RX4 = some m.cls := findClass_of_methodNamed B.named
  have hlocks := B.notSynchronized
  subst hsz
  have hD := hD0.self (sz := s.heap.size)
  generalize hAe : va_A (zzR ad cy (ad 3) (ad 10) iR iT wT tx iB lB aB iC aC) s.heap.size = A at hD ⊢
  have hA : ∀ q : Nat, s.heap.size ≤ q → A q := fun q h => by rw [← hAe]; exact Or.inr h
  have hS : va_S A s.heap s.heap [] := va_S.rf
  generalize hWQ : (zzR ad cy (ad 3) (ad 10) (us iR [(3, q.1), (4, q.2.1)]) (us iT [(2, q.2.2.1), (3, q.2.2.2.1), (4, q.2.2.2.2.1)]) q.2.2.2.2.2.1 tx (us iB [(5, q.2.2.2.2.2.2.1), (7, q.2.2.2.2.2.2.2.1), (13, q.2.2.2.2.2.2.2.2.1)]) (us lB [(4, q.2.2.2.2.2.2.2.2.2.1)]) (us aB [(6, q.2.2.2.2.2.2.2.2.2.2)]) iC aC) = WQ
  generalize hQQ : MQ below (cQv (dC, dI) cy WQ A) args s 0 0 A = QQ
  have hl := lv_entry ([.ref (ad 0)] : List Value) (n := 3) (Nat.le_of_ble_eq_true rfl)
  have hfr := lg_entry_eq m ([.ref (ad 0)] : List Value) 3
  rw [← hav] at hfr
  rw [hfr]
  clear hfr hav
  generalize (lg_sl ([.ref (ad 0)] : List Value) ++ List.replicate (3 - (lg_sl ([.ref (ad 0)] : List Value)).length) Slot.unset).toArray = ls at hl ⊢
  have hl : lv_has ls 3 [(0, .ref (ad 0))] := hl
  have kf20 := hts _ (List.mem_cons_of_mem _ m_fl_X4_20)
  have ki4 := (fun w h => List.mem_cons_of_mem _ (i_X4 w h) : ∀ w ∈ u_ws RX4 TX4 5, w ∈ wsX4_takeSingle)
  have kf70 := hts _ (List.mem_cons_of_mem _ m_fl_X4_70)
  have ki5 := (fun w h => List.mem_cons_of_mem _ (i_X5 w h) : ∀ w ∈ u_ws RX5 TX5 6, w ∈ wsX4_takeSingle)
  have kf24 := hts _ (List.mem_cons_of_mem _ m_fl_X4_24)
  refine (?_ : ∀ (H : Heap) (locs : List Loc), va_P (dC, dI) vwCl (zzR ad cy (ad 3) (ad 10) iR iT wT tx iB lB aB iC aC) H → va_D A (zzR ad cy (ad 3) (ad 10) iR iT wT tx iB lB aB iC aC) → va_S A s.heap H locs → W p l e ({ frames := 4, cells := 0, slots := 0, locals := 84 } : Room) s m args below meth c H locs 0 0 QQ (F0 m 0 ls [])) s.heap [] hP hD hS
  clear hP hD hS
  intro H locs hP hD hS
  unfold f_R_takeSingle at h
  refine lv_aload_n hx hb dX4_takeSingle_0 rfl (lv_at hl 0 rfl) ?_
  refine va_get (D := (dC, dI)) (ci := 4) (v := .ref (ad 1)) (C := RX4) (T := TX4) (N := 5) hx hb hts ki4 hown hK hP 0 rfl rfl 0 (by decide) kf20 (fun _ h9 => h9) rfl dX4_takeSingle_1 ?_
  obtain ⟨q4, e4, h⟩ := g_b h
  refine callVv (cc := cX4_takeSingle) (ws' := zzR ad cy (ad 3) (ad 10) iR (us iT [(2, q4.1), (3, q4.2.1), (4, q4.2.2.1)]) q4.2.2.2 tx iB lB aB iC aC) (As := []) (rest := []) ⟨hx, hb, hml, hown, hts⟩ (c_T_step l dC dI cy (fun i => ad (i + 1)) H.size N iT wT tx q4 e4) (cwV 0 hts (goodV m_ml_X4_87 m_im_X5_step m_se_X5_step m_in_X5 m_cd_X5_step) rfl rfl rfl (by decide +kernel) ⟨Nat.le_of_ble_eq_true rfl, Nat.le_of_ble_eq_true rfl⟩) hN hK hP hD hS hA [1, 2] [none, some 0, some 1, none, none, none, none, none, none, none, none, none, none, none, none, none, none, none, none] rfl rfl rfl rfl rfl rfl 1 rfl rfl rfl hl.1 rfl (Nat.le_of_ble_eq_true rfl) dX4_takeSingle_4 ⟨Nat.zero_le _, Nat.zero_le _⟩ (fun H locs hP hD hS => ?_)
  refine lv_aload_n hx hb dX4_takeSingle_7 rfl (lv_at hl 0 rfl) ?_
  refine va_get (D := (dC, dI)) (ci := 4) (v := .ref (ad 1)) (C := RX4) (T := TX4) (N := 5) hx hb hts ki4 hown hK hP 0 rfl rfl 0 (by decide) kf20 (fun _ h9 => h9) rfl dX4_takeSingle_8 ?_
  refine va_get (D := (dC, dI)) (ci := 5) (v := .int q4.2.1) (C := RX5) (T := TX5) (N := 6) hx hb hts ki5 hown hK hP 1 rfl rfl 3 (by decide) kf70 (fun _ h9 => h9) rfl dX4_takeSingle_11 ?_
  refine lv_istore_n (lv' := [(1, .int q4.2.1), (0, .ref (ad 0))]) hx hb dX4_takeSingle_14 rfl hl (by decide) rfl (fun ls hl => ?_)
  refine lv_aload_n hx hb dX4_takeSingle_15 rfl (lv_at hl 1 rfl) ?_
  obtain ⟨q16, e16, h⟩ := g_b h
  refine callVis (cc := cX4_takeSingle) (w1 := zzR ad cy (ad 3) (ad 10) (us iR [(3, q16.2.1), (4, q16.2.2.1)]) (us iT [(2, q16.2.2.2.1), (3, q16.2.2.2.2.1), (4, q16.2.2.2.2.2.1)]) q16.2.2.2.2.2.2.1 tx (us iB [(5, q16.2.2.2.2.2.2.2.1)]) (us lB [(4, q16.2.2.2.2.2.2.2.2)]) aB iC aC) (As := []) (rest := []) ⟨hx, hb, hml, hown, hts⟩ (c_R_takeRole l dC dI cy ad H.size N iR ((us iT [(2, q4.1), (3, q4.2.1), (4, q4.2.2.1)])) q4.2.2.2 tx iB lB aB iC aC q16 e16) (cwV 0 hts (goodV m_ml_X4_117 m_im_X4_takeRole m_se_X4_takeRole m_in_X4 m_cd_X4_takeRole) rfl rfl rfl (by decide +kernel) ⟨Nat.le_of_ble_eq_true rfl, Nat.le_of_ble_eq_true rfl⟩) hN hK hP hD hS hA rfl 0 rfl rfl rfl hl.1 rfl (Nat.le_of_ble_eq_true rfl) dX4_takeSingle_16 ⟨Nat.zero_le _, Nat.zero_le _⟩ (fun H locs hP hD hS => ?_)
  refine lv_istore_n (lv' := [(2, .int q16.1), (1, .int q4.2.1), (0, .ref (ad 0))]) hx hb dX4_takeSingle_19 rfl hl (by decide) rfl (fun ls hl => ?_)
  refine lv_iload_n hx hb dX4_takeSingle_20 rfl (lv_at hl 0 rfl) ?_
  refine lv_iconst (v := (-1)) hx hb dX4_takeSingle_21 (by decide) ?_
  refine lv_icmp_ne (tgt := 26) hx hb dX4_takeSingle_22 (by decide) (fun cz => ?_) (fun cz => ?_)
  · have h := g_f h cz
    refine lv_aload_n hx hb dX4_takeSingle_26 rfl (lv_at hl 2 rfl) ?_
    refine va_get (D := (dC, dI)) (ci := 4) (v := .ref (ad 3)) (C := RX4) (T := TX4) (N := 5) hx hb hts ki4 hown hK hP 0 rfl rfl 1 (by decide) kf24 (fun _ h9 => h9) rfl dX4_takeSingle_27 ?_
    refine lv_iload_n hx hb dX4_takeSingle_30 rfl (lv_at hl 0 rfl) ?_
    obtain ⟨q31, e31, h⟩ := g_b h
    refine callVi (cc := cX4_takeSingle) (ws' := zzR ad cy (ad 3) (ad 10) (us iR [(3, q16.2.1), (4, q16.2.2.1)]) (us iT [(2, q16.2.2.2.1), (3, q16.2.2.2.2.1), (4, q16.2.2.2.2.2.1)]) q16.2.2.2.2.2.2.1 tx (us iB [(5, q16.2.2.2.2.2.2.2.1)]) (us lB [(4, q16.2.2.2.2.2.2.2.2)]) aB iC aC) (As := [.int q16.1]) (rest := []) ⟨hx, hb, hml, hown, hts⟩ (c_B_isOrdered l dC dI cy (fun i => ad (i + 3)) H.size q16.1 ((us iB [(5, q16.2.2.2.2.2.2.2.1)])) ((us lB [(4, q16.2.2.2.2.2.2.2.2)])) aB iC aC q31 e31) (cwV 1 hts (goodV m_ml_X4_132 m_im_X0_isOrdered m_se_X0_isOrdered m_in_X0 m_cd_X0_isOrdered) rfl rfl rfl (by decide +kernel) ⟨Nat.le_of_ble_eq_true rfl, Nat.le_of_ble_eq_true rfl⟩) hN hK hP hD hS hA [3, 4, 5, 6, 7, 8, 9, 10, 11, 12, 13, 14, 15, 16, 17, 18] [none, none, none, some 0, some 1, some 2, some 3, some 4, some 5, some 6, some 7, some 8, some 9, some 10, some 11, some 12, some 13, some 14, some 15] rfl rfl rfl rfl rfl rfl 3 rfl rfl rfl hl.1 rfl (Nat.le_of_ble_eq_true rfl) dX4_takeSingle_31 ⟨Nat.zero_le _, Nat.zero_le _⟩ (fun H locs hP hD hS => ?_)
    refine lv_if_eq (tgt := 48) hx hb dX4_takeSingle_34 (by decide) (fun cz => ?_) (fun cz => ?_)
    · have h := g_t h cz
      refine lv_aload_n hx hb dX4_takeSingle_48 rfl (lv_at hl 2 rfl) ?_
      obtain ⟨q49, e49, h⟩ := g_b h
      refine callVis (cc := cX4_takeSingle) (w1 := zzR ad cy (ad 3) (ad 10) (us iR [(3, q49.2.1), (4, q49.2.2.1)]) (us iT [(2, q49.2.2.2.1), (3, q49.2.2.2.2.1), (4, q49.2.2.2.2.2.1)]) q49.2.2.2.2.2.2 tx (us iB [(5, q16.2.2.2.2.2.2.2.1)]) (us lB [(4, q16.2.2.2.2.2.2.2.2)]) aB iC aC) (As := []) (rest := []) ⟨hx, hb, hml, hown, hts⟩ (c_R_takeEnd l dC dI cy ad H.size N ((us iR [(3, q16.2.1), (4, q16.2.2.1)])) ((us iT [(2, q16.2.2.2.1), (3, q16.2.2.2.2.1), (4, q16.2.2.2.2.2.1)])) q16.2.2.2.2.2.2.1 tx ((us iB [(5, q16.2.2.2.2.2.2.2.1)])) ((us lB [(4, q16.2.2.2.2.2.2.2.2)])) aB iC aC q49 e49) (cwV 0 hts (goodV m_ml_X4_104 m_im_X4_takeEnd m_se_X4_takeEnd m_in_X4 m_cd_X4_takeEnd) rfl rfl rfl (by decide +kernel) ⟨Nat.le_of_ble_eq_true rfl, Nat.le_of_ble_eq_true rfl⟩) hN hK hP hD hS hA rfl 0 rfl rfl rfl hl.1 rfl (Nat.le_of_ble_eq_true rfl) dX4_takeSingle_49 ⟨Nat.zero_le _, Nat.zero_le _⟩ (fun H locs hP hD hS => ?_)
      refine lv_if_eq (tgt := 63) hx hb dX4_takeSingle_52 (by decide) (fun cz => ?_) (fun cz => ?_)
      · have h := g_t h cz
        have h' := Option.some.inj h
        rw [← hQQ]
        exact W.vret hx hb hr (fun t ht hW => ⟨⟨(), rfl, trivial, by rw [← hWQ, ← h', ht]; exact hP, va_K.moved hW.alike hK⟩, hS.F ht⟩) hS.2.2 dX4_takeSingle_63
      · have h := g_f h cz
        refine lv_aload_n hx hb dX4_takeSingle_55 rfl (lv_at hl 2 rfl) ?_
        refine va_get (D := (dC, dI)) (ci := 4) (v := .ref (ad 3)) (C := RX4) (T := TX4) (N := 5) hx hb hts ki4 hown hK hP 0 rfl rfl 1 (by decide) kf24 (fun _ h9 => h9) rfl dX4_takeSingle_56 ?_
        refine lv_iload_n hx hb dX4_takeSingle_59 rfl (lv_at hl 0 rfl) ?_
        obtain ⟨q60, e60, h⟩ := g_b h
        refine callVv (cc := cX4_takeSingle) (ws' := zzR ad cy (ad 3) (ad 10) (us iR [(3, q49.2.1), (4, q49.2.2.1)]) (us iT [(2, q49.2.2.2.1), (3, q49.2.2.2.2.1), (4, q49.2.2.2.2.2.1)]) q49.2.2.2.2.2.2 tx (us iB [(5, q16.2.2.2.2.2.2.2.1), (7, q60.1), (13, q60.2.1)]) (us lB [(4, q16.2.2.2.2.2.2.2.2)]) (us aB [(6, q60.2.2)]) iC aC) (As := [.int q16.1]) (rest := []) ⟨hx, hb, hml, hown, hts⟩ (c_B_addSingle l dC dI cy (fun i => ad (i + 3)) H.size q16.1 ((us iB [(5, q16.2.2.2.2.2.2.2.1)])) ((us lB [(4, q16.2.2.2.2.2.2.2.2)])) aB iC aC q60 e60) (cwV 1 hts (goodV m_ml_X4_135 m_im_X0_addSingle m_se_X0_addSingle m_in_X0 m_cd_X0_addSingle) rfl rfl rfl (by decide +kernel) ⟨Nat.le_of_ble_eq_true rfl, Nat.le_of_ble_eq_true rfl⟩) hN hK hP hD hS hA [3, 4, 5, 6, 7, 8, 9, 10, 11, 12, 13, 14, 15, 16, 17, 18] [none, none, none, some 0, some 1, some 2, some 3, some 4, some 5, some 6, some 7, some 8, some 9, some 10, some 11, some 12, some 13, some 14, some 15] rfl rfl rfl rfl rfl rfl 3 rfl rfl rfl hl.1 rfl (Nat.le_of_ble_eq_true rfl) dX4_takeSingle_60 ⟨Nat.zero_le _, Nat.zero_le _⟩ (fun H locs hP hD hS => ?_)
        have h' := Option.some.inj h
        rw [← hQQ]
        exact W.vret hx hb hr (fun t ht hW => ⟨⟨(), rfl, trivial, by rw [← hWQ, ← h', ht]; exact hP, va_K.moved hW.alike hK⟩, hS.F ht⟩) hS.2.2 dX4_takeSingle_63
    · have h := g_f h cz
      refine lv_aload_n hx hb dX4_takeSingle_37 rfl (lv_at hl 2 rfl) ?_
      refine lv_bipush (v := 6) hx hb dX4_takeSingle_38 (by decide) ?_
      refine lv_iload_n hx hb dX4_takeSingle_40 rfl (lv_at hl 1 rfl) ?_
      obtain ⟨q41, e41, h⟩ := g_b h
      refine callVis (cc := cX4_takeSingle) (w1 := zzR ad cy (ad 3) (ad 10) (us iR [(3, q41.2.1), (4, q41.2.2)]) (us iT [(2, q16.2.2.2.1), (3, q16.2.2.2.2.1), (4, q16.2.2.2.2.2.1)]) q16.2.2.2.2.2.2.1 tx (us iB [(5, q16.2.2.2.2.2.2.2.1)]) (us lB [(4, q16.2.2.2.2.2.2.2.2)]) aB iC aC) (As := [.int ((6 : Int32)), .int q4.2.1]) (rest := []) ⟨hx, hb, hml, hown, hts⟩ (c_R_fail l dC dI cy ad H.size ((6 : Int32)) q4.2.1 ((us iR [(3, q16.2.1), (4, q16.2.2.1)])) ((us iT [(2, q16.2.2.2.1), (3, q16.2.2.2.2.1), (4, q16.2.2.2.2.2.1)])) q16.2.2.2.2.2.2.1 tx ((us iB [(5, q16.2.2.2.2.2.2.2.1)])) ((us lB [(4, q16.2.2.2.2.2.2.2.2)])) aB iC aC q41 e41) (cwV 2 hts (goodV m_ml_X4_73 m_im_X4_fail m_se_X4_fail m_in_X4 m_cd_X4_fail) rfl rfl rfl (by decide +kernel) ⟨Nat.le_of_ble_eq_true rfl, Nat.le_of_ble_eq_true rfl⟩) hN hK hP hD hS hA rfl 0 rfl rfl rfl hl.1 rfl (Nat.le_of_ble_eq_true rfl) dX4_takeSingle_41 ⟨Nat.zero_le _, Nat.zero_le _⟩ (fun H locs hP hD hS => ?_)
      refine lv_pop hx hb dX4_takeSingle_44 rfl ?_
      refine lv_goto (tgt := 63) hx hb dX4_takeSingle_45 (by decide) ?_
      have h' := Option.some.inj h
      rw [← hQQ]
      exact W.vret hx hb hr (fun t ht hW => ⟨⟨(), rfl, trivial, by rw [← hWQ, ← h', ht]; exact hP, va_K.moved hW.alike hK⟩, hS.F ht⟩) hS.2.2 dX4_takeSingle_63
  · have h := g_t h cz
    have h' := Option.some.inj h
    rw [← hQQ]
    exact W.vret hx hb hr (fun t ht hW => ⟨⟨(), rfl, trivial, by rw [← hWQ, ← h', ht]; exact hP, va_K.moved hW.alike hK⟩, hS.F ht⟩) hS.2.2 dX4_takeSingle_25
set_option maxHeartbeats 8000000 in
set_option maxRecDepth 100000 in
theorem c_B_isSingle (l : Launch) (dC : Nat → ClassId) (dI : Nat → Nat → Nat) (cy : Nat → ClassId) (ad : Nat → Nat) (sz : Nat) (a1 : Int32) (iB : Nat → Int32) (lB : Nat → Nat → Int64) (aB : Nat → Nat → Int32) (iC : Nat → Int32) (aC : Nat → Nat → Int32) (q : Int32) (h : f_B_isSingle a1 (iB 13) = some q) : Met l yX0_isSingle wsX0_isSingle ({ frames := 0, cells := 0, slots := 0, locals := 0 } : Room) (cP (dC, dI) cy [.ref (ad 0), .int a1] (zzB ad cy iB lB aB iC aC) sz) (cQi (dC, dI) cy q (zzB ad cy iB lB aB iC aC) (va_A (zzB ad cy iB lB aB iC aC) sz)) 0 0 (va_A (zzB ad cy iB lB aB iC aC) sz) := by
  refine Met.ofW (cc := cX0_isSingle) (maxL := 2) (ret := (some .boolean)) (by decide) rfl ?_
  intro p e s m args below meth c s₁ B hml hv
  obtain ⟨hav, hsz, hP, hK, hD0, hN⟩ := hv
  have hx := B.exec
  have hb := B.bytes
  have hr := B.returns
  have hts := atoms_spec (ws := wsX0_isSingle) B.pre
  have hown : s.vm.findClass RX0 = some m.cls := findClass_of_methodNamed B.named
  have hlocks := B.notSynchronized
  subst hsz
  have hD := hD0.self (sz := s.heap.size)
  generalize hAe : va_A (zzB ad cy iB lB aB iC aC) s.heap.size = A at hD ⊢
  have hA : ∀ q : Nat, s.heap.size ≤ q → A q := fun q h => by rw [← hAe]; exact Or.inr h
  have hS : va_S A s.heap s.heap [] := va_S.rf
  generalize hWQ : (zzB ad cy iB lB aB iC aC) = WQ
  generalize hQQ : MQ below (cQi (dC, dI) cy q WQ A) args s 0 0 A = QQ
  have hl := lv_entry ([.ref (ad 0), .int a1] : List Value) (n := 2) (Nat.le_of_ble_eq_true rfl)
  have hfr := lg_entry_eq m ([.ref (ad 0), .int a1] : List Value) 2
  rw [← hav] at hfr
  rw [hfr]
  clear hfr hav
  generalize (lg_sl ([.ref (ad 0), .int a1] : List Value) ++ List.replicate (2 - (lg_sl ([.ref (ad 0), .int a1] : List Value)).length) Slot.unset).toArray = ls at hl ⊢
  have hl : lv_has ls 2 [(0, .ref (ad 0)), (1, .int a1)] := hl
  have kf60 := hts _ (List.mem_cons_of_mem _ m_fl_X0_60)
  have ki0 := (fun w h => List.mem_cons_of_mem _ (i_X0 w h) : ∀ w ∈ u_ws RX0 TX0 15, w ∈ wsX0_isSingle)
  refine (?_ : ∀ (H : Heap) (locs : List Loc), va_P (dC, dI) vwCl (zzB ad cy iB lB aB iC aC) H → va_D A (zzB ad cy iB lB aB iC aC) → va_S A s.heap H locs → W p l e ({ frames := 0, cells := 0, slots := 0, locals := 0 } : Room) s m args below meth c H locs 0 0 QQ (F0 m 0 ls [])) s.heap [] hP hD hS
  clear hP hD hS
  intro H locs hP hD hS
  unfold f_B_isSingle at h
  refine lv_aload_n hx hb dX0_isSingle_0 rfl (lv_at hl 0 rfl) ?_
  refine va_get (D := (dC, dI)) (ci := 0) (v := .int (iB 13)) (C := RX0) (T := TX0) (N := 15) hx hb hts ki0 hown hK hP 0 rfl rfl 13 (by decide) kf60 (fun _ h9 => h9) rfl dX0_isSingle_1 ?_
  refine lv_iload_n hx hb dX0_isSingle_4 rfl (lv_at hl 1 rfl) ?_
  refine lv_ishr hx hb dX0_isSingle_5 ?_
  refine lv_iconst (v := 1) hx hb dX0_isSingle_6 (by decide) ?_
  refine lv_iand hx hb dX0_isSingle_7 ?_
  refine lv_iconst (v := 1) hx hb dX0_isSingle_8 (by decide) ?_
  refine lv_icmp_ne (tgt := 16) hx hb dX0_isSingle_9 (by decide) (fun cz => ?_) (fun cz => ?_)
  · have h := g_f h cz
    refine lv_iconst (v := 0) hx hb dX0_isSingle_16 (by decide) ?_
    have h' := Option.some.inj h
    rw [← hQQ]
    exact W.zret (v := (0 : Int32)) hx hb hr rfl (fun t ht hW => ⟨⟨(0 : Int32), (), rfl, by rw [← h'], by rw [← hWQ, ht]; exact hP, va_K.moved hW.alike hK⟩, hS.F ht⟩) hS.2.2 dX0_isSingle_17
  · have h := g_t h cz
    refine lv_iconst (v := 1) hx hb dX0_isSingle_12 (by decide) ?_
    refine lv_goto (tgt := 17) hx hb dX0_isSingle_13 (by decide) ?_
    have h' := Option.some.inj h
    rw [← hQQ]
    exact W.zret (v := (1 : Int32)) hx hb hr rfl (fun t ht hW => ⟨⟨(1 : Int32), (), rfl, by rw [← h'], by rw [← hWQ, ht]; exact hP, va_K.moved hW.alike hK⟩, hS.F ht⟩) hS.2.2 dX0_isSingle_17
set_option maxHeartbeats 8000000 in
set_option maxRecDepth 100000 in
theorem c_B_rolesAbove (l : Launch) (dC : Nat → ClassId) (dI : Nat → Nat → Nat) (cy : Nat → ClassId) (ad : Nat → Nat) (sz : Nat) (a1 : Int32) (iB : Nat → Int32) (lB : Nat → Nat → Int64) (aB : Nat → Nat → Int32) (iC : Nat → Int32) (aC : Nat → Nat → Int32) (q : Int32) (h : f_B_rolesAbove a1 (aB 12) = some q) : Met l yX0_rolesAbove wsX0_rolesAbove ({ frames := 0, cells := 0, slots := 0, locals := 0 } : Room) (cP (dC, dI) cy [.ref (ad 0), .int a1] (zzB ad cy iB lB aB iC aC) sz) (cQi (dC, dI) cy q (zzB ad cy iB lB aB iC aC) (va_A (zzB ad cy iB lB aB iC aC) sz)) 0 0 (va_A (zzB ad cy iB lB aB iC aC) sz) := by
  refine Met.ofW (cc := cX0_rolesAbove) (maxL := 2) (ret := (some .int)) (by decide) rfl ?_
  intro p e s m args below meth c s₁ B hml hv
  obtain ⟨hav, hsz, hP, hK, hD0, hN⟩ := hv
  have hx := B.exec
  have hb := B.bytes
  have hr := B.returns
  have hts := atoms_spec (ws := wsX0_rolesAbove) B.pre
  have hown : s.vm.findClass RX0 = some m.cls := findClass_of_methodNamed B.named
  have hlocks := B.notSynchronized
  subst hsz
  have hD := hD0.self (sz := s.heap.size)
  generalize hAe : va_A (zzB ad cy iB lB aB iC aC) s.heap.size = A at hD ⊢
  have hA : ∀ q : Nat, s.heap.size ≤ q → A q := fun q h => by rw [← hAe]; exact Or.inr h
  have hS : va_S A s.heap s.heap [] := va_S.rf
  generalize hWQ : (zzB ad cy iB lB aB iC aC) = WQ
  generalize hQQ : MQ below (cQi (dC, dI) cy q WQ A) args s 0 0 A = QQ
  have hl := lv_entry ([.ref (ad 0), .int a1] : List Value) (n := 2) (Nat.le_of_ble_eq_true rfl)
  have hfr := lg_entry_eq m ([.ref (ad 0), .int a1] : List Value) 2
  rw [← hav] at hfr
  rw [hfr]
  clear hfr hav
  generalize (lg_sl ([.ref (ad 0), .int a1] : List Value) ++ List.replicate (2 - (lg_sl ([.ref (ad 0), .int a1] : List Value)).length) Slot.unset).toArray = ls at hl ⊢
  have hl : lv_has ls 2 [(0, .ref (ad 0)), (1, .int a1)] := hl
  have kf35 := hts _ (List.mem_cons_of_mem _ m_fl_X0_35)
  have ki0 := (fun w h => List.mem_cons_of_mem _ (i_X0 w h) : ∀ w ∈ u_ws RX0 TX0 15, w ∈ wsX0_rolesAbove)
  refine (?_ : ∀ (H : Heap) (locs : List Loc), va_P (dC, dI) vwCl (zzB ad cy iB lB aB iC aC) H → va_D A (zzB ad cy iB lB aB iC aC) → va_S A s.heap H locs → W p l e ({ frames := 0, cells := 0, slots := 0, locals := 0 } : Room) s m args below meth c H locs 0 0 QQ (F0 m 0 ls [])) s.heap [] hP hD hS
  clear hP hD hS
  intro H locs hP hD hS
  unfold f_B_rolesAbove at h
  refine lv_iload_n hx hb dX0_rolesAbove_0 rfl (lv_at hl 1 rfl) ?_
  refine lv_if_lt (tgt := 18) hx hb dX0_rolesAbove_1 (by decide) (fun cz => ?_) (fun cz => ?_)
  · have h := g_t h cz
    refine lv_iconst (v := 0) hx hb dX0_rolesAbove_18 (by decide) ?_
    have h' := Option.some.inj h
    rw [← hQQ]
    exact W.iret (v := (0 : Int32)) hx hb hr (fun t ht hW => ⟨⟨(0 : Int32), (), rfl, by rw [← h'], by rw [← hWQ, ht]; exact hP, va_K.moved hW.alike hK⟩, hS.F ht⟩) hS.2.2 dX0_rolesAbove_19
  · have h := g_f h cz
    refine lv_iload_n hx hb dX0_rolesAbove_4 rfl (lv_at hl 1 rfl) ?_
    refine lv_iconst (v := 3) hx hb dX0_rolesAbove_5 (by decide) ?_
    refine lv_icmp_ge (tgt := 18) hx hb dX0_rolesAbove_6 (by decide) (fun cz => ?_) (fun cz => ?_)
    · have h := g_t h cz
      refine lv_iconst (v := 0) hx hb dX0_rolesAbove_18 (by decide) ?_
      have h' := Option.some.inj h
      rw [← hQQ]
      exact W.iret (v := (0 : Int32)) hx hb hr (fun t ht hW => ⟨⟨(0 : Int32), (), rfl, by rw [← h'], by rw [← hWQ, ht]; exact hP, va_K.moved hW.alike hK⟩, hS.F ht⟩) hS.2.2 dX0_rolesAbove_19
    · have h := g_f h cz
      refine lv_aload_n hx hb dX0_rolesAbove_9 rfl (lv_at hl 0 rfl) ?_
      refine va_get (D := (dC, dI)) (ci := 0) (v := .ref (ad 6)) (C := RX0) (T := TX0) (N := 15) hx hb hts ki0 hown hK hP 0 rfl rfl 12 (by decide) kf35 (fun _ h9 => h9) rfl dX0_rolesAbove_10 ?_
      refine lv_iload_n hx hb dX0_rolesAbove_13 rfl (lv_at hl 1 rfl) ?_
      obtain ⟨g_16, h⟩ := g_n h
      refine va_iald (f := (aB 12)) hx hb hK hP 6 0 rfl rfl g_16 dX0_rolesAbove_14 ?_
      refine lv_goto (tgt := 19) hx hb dX0_rolesAbove_15 (by decide) ?_
      have h' := Option.some.inj h
      rw [← hQQ]
      exact W.iret (v := ((aB 12) a1.toNatClampNeg)) hx hb hr (fun t ht hW => ⟨⟨((aB 12) a1.toNatClampNeg), (), rfl, by rw [← h'], by rw [← hWQ, ht]; exact hP, va_K.moved hW.alike hK⟩, hS.F ht⟩) hS.2.2 dX0_rolesAbove_19
set_option maxHeartbeats 8000000 in
set_option maxRecDepth 100000 in
theorem c_B_isRoleUnder (l : Launch) (dC : Nat → ClassId) (dI : Nat → Nat → Nat) (cy : Nat → ClassId) (ad : Nat → Nat) (sz : Nat) (a1 : Int32) (a2 : Int32) (iB : Nat → Int32) (lB : Nat → Nat → Int64) (aB : Nat → Nat → Int32) (iC : Nat → Int32) (aC : Nat → Nat → Int32) (q : Int32) (h : f_B_isRoleUnder a1 a2 (aB 12) = some q) : Met l yX0_isRoleUnder wsX0_isRoleUnder ({ frames := 1, cells := 0, slots := 0, locals := 21 } : Room) (cP (dC, dI) cy [.ref (ad 0), .int a1, .int a2] (zzB ad cy iB lB aB iC aC) sz) (cQi (dC, dI) cy q (zzB ad cy iB lB aB iC aC) (va_A (zzB ad cy iB lB aB iC aC) sz)) 0 0 (va_A (zzB ad cy iB lB aB iC aC) sz) := by
  refine Met.ofW (cc := cX0_isRoleUnder) (maxL := 3) (ret := (some .boolean)) (by decide) rfl ?_
  intro p e s m args below meth c s₁ B hml hv
  obtain ⟨hav, hsz, hP, hK, hD0, hN⟩ := hv
  have hx := B.exec
  have hb := B.bytes
  have hr := B.returns
  have hts := atoms_spec (ws := wsX0_isRoleUnder) B.pre
  have hown : s.vm.findClass RX0 = some m.cls := findClass_of_methodNamed B.named
  have hlocks := B.notSynchronized
  subst hsz
  have hD := hD0.self (sz := s.heap.size)
  generalize hAe : va_A (zzB ad cy iB lB aB iC aC) s.heap.size = A at hD ⊢
  have hA : ∀ q : Nat, s.heap.size ≤ q → A q := fun q h => by rw [← hAe]; exact Or.inr h
  have hS : va_S A s.heap s.heap [] := va_S.rf
  generalize hWQ : (zzB ad cy iB lB aB iC aC) = WQ
  generalize hQQ : MQ below (cQi (dC, dI) cy q WQ A) args s 0 0 A = QQ
  have hl := lv_entry ([.ref (ad 0), .int a1, .int a2] : List Value) (n := 3) (Nat.le_of_ble_eq_true rfl)
  have hfr := lg_entry_eq m ([.ref (ad 0), .int a1, .int a2] : List Value) 3
  rw [← hav] at hfr
  rw [hfr]
  clear hfr hav
  generalize (lg_sl ([.ref (ad 0), .int a1, .int a2] : List Value) ++ List.replicate (3 - (lg_sl ([.ref (ad 0), .int a1, .int a2] : List Value)).length) Slot.unset).toArray = ls at hl ⊢
  have hl : lv_has ls 3 [(0, .ref (ad 0)), (1, .int a1), (2, .int a2)] := hl
  refine (?_ : ∀ (H : Heap) (locs : List Loc), va_P (dC, dI) vwCl (zzB ad cy iB lB aB iC aC) H → va_D A (zzB ad cy iB lB aB iC aC) → va_S A s.heap H locs → W p l e ({ frames := 1, cells := 0, slots := 0, locals := 21 } : Room) s m args below meth c H locs 0 0 QQ (F0 m 0 ls [])) s.heap [] hP hD hS
  clear hP hD hS
  intro H locs hP hD hS
  unfold f_B_isRoleUnder at h
  refine lv_aload_n hx hb dX0_isRoleUnder_0 rfl (lv_at hl 0 rfl) ?_
  refine lv_iload_n hx hb dX0_isRoleUnder_1 rfl (lv_at hl 1 rfl) ?_
  obtain ⟨q2, e2, h⟩ := g_b h
  refine callVis (cc := cX0_isRoleUnder) (w1 := zzB ad cy iB lB aB iC aC) (As := [.int a1]) (rest := []) ⟨hx, hb, hml, hown, hts⟩ (c_B_rolesAbove l dC dI cy ad H.size a1 iB lB aB iC aC q2 e2) (cwV 1 hts (goodV m_ml_X0_74 m_im_X0_rolesAbove m_se_X0_rolesAbove m_in_X0 m_cd_X0_rolesAbove) rfl rfl rfl (by decide +kernel) ⟨Nat.le_of_ble_eq_true rfl, Nat.le_of_ble_eq_true rfl⟩) hN hK hP hD hS hA rfl 0 rfl rfl rfl hl.1 rfl (Nat.le_of_ble_eq_true rfl) dX0_isRoleUnder_2 ⟨Nat.zero_le _, Nat.zero_le _⟩ (fun H locs hP hD hS => ?_)
  refine lv_iload_n hx hb dX0_isRoleUnder_5 rfl (lv_at hl 2 rfl) ?_
  refine lv_ishr hx hb dX0_isRoleUnder_6 ?_
  refine lv_iconst (v := 1) hx hb dX0_isRoleUnder_7 (by decide) ?_
  refine lv_iand hx hb dX0_isRoleUnder_8 ?_
  refine lv_iconst (v := 1) hx hb dX0_isRoleUnder_9 (by decide) ?_
  refine lv_icmp_ne (tgt := 17) hx hb dX0_isRoleUnder_10 (by decide) (fun cz => ?_) (fun cz => ?_)
  · have h := g_f h cz
    refine lv_iconst (v := 0) hx hb dX0_isRoleUnder_17 (by decide) ?_
    have h' := Option.some.inj h
    rw [← hQQ]
    exact W.zret (v := (0 : Int32)) hx hb hr rfl (fun t ht hW => ⟨⟨(0 : Int32), (), rfl, by rw [← h'], by rw [← hWQ, ht]; exact hP, va_K.moved hW.alike hK⟩, hS.F ht⟩) hS.2.2 dX0_isRoleUnder_18
  · have h := g_t h cz
    refine lv_iconst (v := 1) hx hb dX0_isRoleUnder_13 (by decide) ?_
    refine lv_goto (tgt := 18) hx hb dX0_isRoleUnder_14 (by decide) ?_
    have h' := Option.some.inj h
    rw [← hQQ]
    exact W.zret (v := (1 : Int32)) hx hb hr rfl (fun t ht hW => ⟨⟨(1 : Int32), (), rfl, by rw [← h'], by rw [← hWQ, ht]; exact hP, va_K.moved hW.alike hK⟩, hS.F ht⟩) hS.2.2 dX0_isRoleUnder_18
set_option maxHeartbeats 8000000 in
set_option maxRecDepth 100000 in
theorem c_B_addOrder (l : Launch) (dC : Nat → ClassId) (dI : Nat → Nat → Nat) (cy : Nat → ClassId) (ad : Nat → Nat) (sz : Nat) (N : Nat) (a1 : Int32) (a2 : Int32) (iB : Nat → Int32) (lB : Nat → Nat → Int64) (aB : Nat → Nat → Int32) (iC : Nat → Int32) (aC : Nat → Nat → Int32) (q : Int32 × Int32 × (Nat → Int32) × (Nat → Int32)) (h : f_B_addOrder N a1 a2 (iB 7) (iB 14) (aB 6) (aB 12) = some q) : Met l yX0_addOrder wsX0_addOrder ({ frames := 2, cells := 0, slots := 0, locals := 43 } : Room) (cP (dC, dI) cy [.ref (ad 0), .int a1, .int a2] (zzB ad cy iB lB aB iC aC) sz) (cQv (dC, dI) cy (zzB ad cy (us iB [(7, q.1), (14, q.2.1)]) lB (us aB [(6, q.2.2.1), (12, q.2.2.2)]) iC aC) (va_A (zzB ad cy iB lB aB iC aC) sz)) 0 0 (va_A (zzB ad cy iB lB aB iC aC) sz) := by
  refine Met.ofW (cc := cX0_addOrder) (maxL := 5) (ret := none) (by decide) rfl ?_
  intro p e s m args below meth c s₁ B hml hv
  obtain ⟨hav, hsz, hP, hK, hD0, hN⟩ := hv
  have hx := B.exec
  have hb := B.bytes
  have hr := B.returns
  have hts := atoms_spec (ws := wsX0_addOrder) B.pre
  have hown : s.vm.findClass RX0 = some m.cls := findClass_of_methodNamed B.named
  have hlocks := B.notSynchronized
  subst hsz
  have hD := hD0.self (sz := s.heap.size)
  generalize hAe : va_A (zzB ad cy iB lB aB iC aC) s.heap.size = A at hD ⊢
  have hA : ∀ q : Nat, s.heap.size ≤ q → A q := fun q h => by rw [← hAe]; exact Or.inr h
  have hS : va_S A s.heap s.heap [] := va_S.rf
  generalize hWQ : (zzB ad cy (us iB [(7, q.1), (14, q.2.1)]) lB (us aB [(6, q.2.2.1), (12, q.2.2.2)]) iC aC) = WQ
  generalize hQQ : MQ below (cQv (dC, dI) cy WQ A) args s 0 0 A = QQ
  have hl := lv_entry ([.ref (ad 0), .int a1, .int a2] : List Value) (n := 5) (Nat.le_of_ble_eq_true rfl)
  have hfr := lg_entry_eq m ([.ref (ad 0), .int a1, .int a2] : List Value) 5
  rw [← hav] at hfr
  rw [hfr]
  clear hfr hav
  generalize (lg_sl ([.ref (ad 0), .int a1, .int a2] : List Value) ++ List.replicate (5 - (lg_sl ([.ref (ad 0), .int a1, .int a2] : List Value)).length) Slot.unset).toArray = ls at hl ⊢
  have hl : lv_has ls 5 [(0, .ref (ad 0)), (1, .int a1), (2, .int a2)] := hl
  have kf35 := hts _ (List.mem_cons_of_mem _ m_fl_X0_35)
  have ki0 := (fun w h => List.mem_cons_of_mem _ (i_X0 w h) : ∀ w ∈ u_ws RX0 TX0 15, w ∈ wsX0_addOrder)
  have kf63 := hts _ (List.mem_cons_of_mem _ m_fl_X0_63)
  refine (?_ : ∀ (H : Heap) (locs : List Loc), va_P (dC, dI) vwCl (zzB ad cy iB lB aB iC aC) H → va_D A (zzB ad cy iB lB aB iC aC) → va_S A s.heap H locs → W p l e ({ frames := 2, cells := 0, slots := 0, locals := 43 } : Room) s m args below meth c H locs 0 0 QQ (F0 m 0 ls [])) s.heap [] hP hD hS
  clear hP hD hS
  have B59 : ∀ (v1 : Int32) (v3 : Int32) (v4 : Int32) (x_iB7 : Int32) (x_iB14 : Int32) (x_aB6 : Nat → Int32) (x_aB12 : Nat → Int32) (k37 : Int32 → (Nat → Int32) → Option (Int32 × Int32 × (Nat → Int32) × (Nat → Int32))) (hk37 : ∀ (v4' : Int32) (x_aB12' : Nat → Int32) (H : Heap) (locs : List Loc) (ls : Array Slot), k37 v4' x_aB12' = some q → va_P (dC, dI) vwCl (zzB ad cy (us iB [(7, x_iB7), (14, x_iB14)]) lB (us aB [(6, x_aB6), (12, x_aB12')]) iC aC) H → va_D A (zzB ad cy (us iB [(7, x_iB7), (14, x_iB14)]) lB (us aB [(6, x_aB6), (12, x_aB12')]) iC aC) → va_S A s.heap H locs → lv_has ls 5 [(0, .ref (ad 0)), (1, .int v1), (3, .int v3), (4, .int v4')] → W p l e ({ frames := 2, cells := 0, slots := 0, locals := 43 } : Room) s m args below meth c H locs 0 0 QQ (F0 m 37 ls [])) (H : Heap) (locs : List Loc) (ls : Array Slot), f_B_addOrder_59 N (iB 7) (iB 14) (aB 6) (aB 12) k37 v1 v3 v4 x_iB7 x_iB14 x_aB6 x_aB12 = some q → va_P (dC, dI) vwCl (zzB ad cy (us iB [(7, x_iB7), (14, x_iB14)]) lB (us aB [(6, x_aB6), (12, x_aB12)]) iC aC) H → va_D A (zzB ad cy (us iB [(7, x_iB7), (14, x_iB14)]) lB (us aB [(6, x_aB6), (12, x_aB12)]) iC aC) → va_S A s.heap H locs → lv_has ls 5 [(0, .ref (ad 0)), (1, .int v1), (3, .int v3), (4, .int v4)] → W p l e ({ frames := 2, cells := 0, slots := 0, locals := 43 } : Room) s m args below meth c H locs 0 0 QQ (F0 m 59 ls []) := by
    intro v1 v3 v4 x_iB7 x_iB14 x_aB6 x_aB12 k37 hk37 H locs ls h hP hD hS hl
    unfold f_B_addOrder_59 at h
    refine lv_aload_n hx hb dX0_addOrder_59 rfl (lv_at hl 0 rfl) ?_
    refine va_get (D := (dC, dI)) (ci := 0) (v := .ref (ad 6)) (C := RX0) (T := TX0) (N := 15) hx hb hts ki0 hown hK hP 0 rfl rfl 12 (by decide) kf35 (fun _ h9 => h9) rfl dX0_addOrder_60 ?_
    refine lv_iload hx hb dX0_addOrder_63 (lv_at hl 3 rfl) ?_
    refine lv_dup2_11 hx hb dX0_addOrder_65 rfl rfl ?_
    obtain ⟨g_17, h⟩ := g_n h
    refine va_iald (f := x_aB12) hx hb hK hP 6 0 rfl rfl g_17 dX0_addOrder_66 ?_
    refine lv_iload_n hx hb dX0_addOrder_67 rfl (lv_at hl 2 rfl) ?_
    refine lv_ior hx hb dX0_addOrder_68 ?_
    refine va_iast (f := x_aB12) hx hb hK hP hD hS 6 0 rfl rfl g_17 dX0_addOrder_69 (fun H locs hP hD hS => ?_)
    have hP : va_P (dC, dI) vwCl (zzB ad cy (us iB [(7, x_iB7), (14, x_iB14)]) lB (us aB [(6, x_aB6), (12, (upd x_aB12 v4.toNatClampNeg (((x_aB12 v4.toNatClampNeg) ||| v3))))]) iC aC) H := Eq.mp (congrArg (fun w => va_P (dC, dI) vwCl w H) (stB_aB12 ad cy (us iB [(7, x_iB7), (14, x_iB14)]) lB aB iC aC [(6, x_aB6), (12, x_aB12)] ((upd x_aB12 v4.toNatClampNeg (((x_aB12 v4.toNatClampNeg) ||| v3)))))) hP
    have hD : va_D A (zzB ad cy (us iB [(7, x_iB7), (14, x_iB14)]) lB (us aB [(6, x_aB6), (12, (upd x_aB12 v4.toNatClampNeg (((x_aB12 v4.toNatClampNeg) ||| v3))))]) iC aC) := Eq.mp (congrArg (fun w => va_D A w) (stB_aB12 ad cy (us iB [(7, x_iB7), (14, x_iB14)]) lB aB iC aC [(6, x_aB6), (12, x_aB12)] ((upd x_aB12 v4.toNatClampNeg (((x_aB12 v4.toNatClampNeg) ||| v3)))))) hD
    refine lv_iinc (v := (v4 + (1 : Int32))) (lv' := [(4, .int ((v4 + (1 : Int32)))), (0, .ref (ad 0)), (1, .int v1), (3, .int v3)]) hx hb dX0_addOrder_70 hl (k := 3) rfl rfl (by decide) rfl (fun ls hl => ?_)
    refine lv_goto (tgt := 37) hx hb dX0_addOrder_73 (by decide) ?_
    exact hk37 ((v4 + (1 : Int32))) ((upd x_aB12 v4.toNatClampNeg (((x_aB12 v4.toNatClampNeg) ||| v3)))) H locs ls h hP hD hS (lv_sub hl [1, 2, 3, 0] rfl)
  have B37 : ∀ (n : Nat) (v1 : Int32) (v3 : Int32) (x_iB7 : Int32) (x_iB14 : Int32) (x_aB6 : Nat → Int32) (v4 : Int32) (x_aB12 : Nat → Int32) (H : Heap) (locs : List Loc) (ls : Array Slot), f_B_addOrder_37 N (iB 7) (iB 14) (aB 6) (aB 12) v1 v3 x_iB7 x_iB14 x_aB6 n v4 x_aB12 = some q → va_P (dC, dI) vwCl (zzB ad cy (us iB [(7, x_iB7), (14, x_iB14)]) lB (us aB [(6, x_aB6), (12, x_aB12)]) iC aC) H → va_D A (zzB ad cy (us iB [(7, x_iB7), (14, x_iB14)]) lB (us aB [(6, x_aB6), (12, x_aB12)]) iC aC) → va_S A s.heap H locs → lv_has ls 5 [(0, .ref (ad 0)), (1, .int v1), (3, .int v3), (4, .int v4)] → W p l e ({ frames := 2, cells := 0, slots := 0, locals := 43 } : Room) s m args below meth c H locs 0 0 QQ (F0 m 37 ls []) := by
    intro n
    induction n with
    | zero =>
      intro v1 v3 x_iB7 x_iB14 x_aB6 v4 x_aB12 H locs ls h hP hD hS hl
      rw [f_B_addOrder_37] at h
      cases h
    | succ n ih =>
      intro v1 v3 x_iB7 x_iB14 x_aB6 v4 x_aB12 H locs ls h hP hD hS hl
      rw [f_B_addOrder_37] at h
      refine lv_iload hx hb dX0_addOrder_37 (lv_at hl 3 rfl) ?_
      refine lv_iconst (v := 3) hx hb dX0_addOrder_39 (by decide) ?_
      refine lv_icmp_ge (tgt := 76) hx hb dX0_addOrder_40 (by decide) (fun cz => ?_) (fun cz => ?_)
      · have h := g_t h cz
        have h' := Option.some.inj h
        rw [← hQQ]
        exact W.vret hx hb hr (fun t ht hW => ⟨⟨(), rfl, trivial, by rw [← hWQ, ← h', ht]; exact hP, va_K.moved hW.alike hK⟩, hS.F ht⟩) hS.2.2 dX0_addOrder_76
      · have h := g_f h cz
        refine lv_iload hx hb dX0_addOrder_43 (lv_at hl 3 rfl) ?_
        refine lv_iload_n hx hb dX0_addOrder_45 rfl (lv_at hl 1 rfl) ?_
        refine lv_icmp_eq (tgt := 59) hx hb dX0_addOrder_46 (by decide) (fun cz => ?_) (fun cz => ?_)
        · have h := g_t h cz
          exact B59 v1 v3 v4 x_iB7 x_iB14 x_aB6 x_aB12 (f_B_addOrder_37 N (iB 7) (iB 14) (aB 6) (aB 12) v1 v3 x_iB7 x_iB14 x_aB6 n) (ih v1 v3 x_iB7 x_iB14 x_aB6) H locs ls h hP hD hS (lv_sub hl [0, 1, 2, 3] rfl)
        · have h := g_f h cz
          refine lv_aload_n hx hb dX0_addOrder_49 rfl (lv_at hl 0 rfl) ?_
          refine lv_iload hx hb dX0_addOrder_50 (lv_at hl 3 rfl) ?_
          refine lv_iload_n hx hb dX0_addOrder_52 rfl (lv_at hl 1 rfl) ?_
          obtain ⟨q53, e53, h⟩ := g_b h
          refine callVis (cc := cX0_addOrder) (w1 := zzB ad cy (us iB [(7, x_iB7), (14, x_iB14)]) lB (us aB [(6, x_aB6), (12, x_aB12)]) iC aC) (As := [.int v4, .int v1]) (rest := []) ⟨hx, hb, hml, hown, hts⟩ (c_B_isRoleUnder l dC dI cy ad H.size v4 v1 ((us iB [(7, x_iB7), (14, x_iB14)])) lB ((us aB [(6, x_aB6), (12, x_aB12)])) iC aC q53 e53) (cwV 2 hts (goodV m_ml_X0_78 m_im_X0_isRoleUnder m_se_X0_isRoleUnder m_in_X0 m_cd_X0_isRoleUnder) rfl rfl rfl (by decide +kernel) ⟨Nat.le_of_ble_eq_true rfl, Nat.le_of_ble_eq_true rfl⟩) hN hK hP hD hS hA rfl 0 rfl rfl rfl hl.1 rfl (Nat.le_of_ble_eq_true rfl) dX0_addOrder_53 ⟨Nat.zero_le _, Nat.zero_le _⟩ (fun H locs hP hD hS => ?_)
          refine lv_if_eq (tgt := 70) hx hb dX0_addOrder_56 (by decide) (fun cz => ?_) (fun cz => ?_)
          · have h := g_t h cz
            refine lv_iinc (v := (v4 + (1 : Int32))) (lv' := [(4, .int ((v4 + (1 : Int32)))), (0, .ref (ad 0)), (1, .int v1), (3, .int v3)]) hx hb dX0_addOrder_70 hl (k := 3) rfl rfl (by decide) rfl (fun ls hl => ?_)
            refine lv_goto (tgt := 37) hx hb dX0_addOrder_73 (by decide) ?_
            exact ih v1 v3 x_iB7 x_iB14 x_aB6 ((v4 + (1 : Int32))) x_aB12 H locs ls h hP hD hS (lv_sub hl [1, 2, 3, 0] rfl)
          · have h := g_f h cz
            exact B59 v1 v3 v4 x_iB7 x_iB14 x_aB6 x_aB12 (f_B_addOrder_37 N (iB 7) (iB 14) (aB 6) (aB 12) v1 v3 x_iB7 x_iB14 x_aB6 n) (ih v1 v3 x_iB7 x_iB14 x_aB6) H locs ls h hP hD hS (lv_sub hl [0, 1, 2, 3] rfl)
  intro H locs hP hD hS
  unfold f_B_addOrder at h
  refine lv_aload_n hx hb dX0_addOrder_0 rfl (lv_at hl 0 rfl) ?_
  refine lv_iconst (v := 3) hx hb dX0_addOrder_1 (by decide) ?_
  refine lv_iload_n hx hb dX0_addOrder_2 rfl (lv_at hl 1 rfl) ?_
  refine lv_iload_n hx hb dX0_addOrder_3 rfl (lv_at hl 2 rfl) ?_
  obtain ⟨q4, e4, h⟩ := g_b h
  refine callVis (cc := cX0_addOrder) (w1 := zzB ad cy (us iB [(7, q4.2.1)]) lB (us aB [(6, q4.2.2)]) iC aC) (As := [.int ((3 : Int32)), .int a1, .int a2]) (rest := []) ⟨hx, hb, hml, hown, hts⟩ (c_B_addStatement l dC dI cy ad H.size ((3 : Int32)) a1 a2 iB lB aB iC aC q4 e4) (cwV 3 hts (goodV m_ml_X0_70 m_im_X0_addStatement m_se_X0_addStatement m_in_X0 m_cd_X0_addStatement) rfl rfl rfl (by decide +kernel) ⟨Nat.le_of_ble_eq_true rfl, Nat.le_of_ble_eq_true rfl⟩) hN hK hP hD hS hA rfl 0 rfl rfl rfl hl.1 rfl (Nat.le_of_ble_eq_true rfl) dX0_addOrder_4 ⟨Nat.zero_le _, Nat.zero_le _⟩ (fun H locs hP hD hS => ?_)
  refine lv_pop hx hb dX0_addOrder_7 rfl ?_
  refine lv_aload_n hx hb dX0_addOrder_8 rfl (lv_at hl 0 rfl) ?_
  refine lv_dup hx hb dX0_addOrder_9 rfl ?_
  refine va_get (D := (dC, dI)) (ci := 0) (v := .int (iB 14)) (C := RX0) (T := TX0) (N := 15) hx hb hts ki0 hown hK hP 0 rfl rfl 14 (by decide) kf63 (fun _ h9 => h9) rfl dX0_addOrder_10 ?_
  refine lv_iconst (v := 1) hx hb dX0_addOrder_13 (by decide) ?_
  refine lv_iload_n hx hb dX0_addOrder_14 rfl (lv_at hl 1 rfl) ?_
  refine lv_ishl hx hb dX0_addOrder_15 ?_
  refine lv_iconst (v := 1) hx hb dX0_addOrder_16 (by decide) ?_
  refine lv_iload_n hx hb dX0_addOrder_17 rfl (lv_at hl 2 rfl) ?_
  refine lv_ishl hx hb dX0_addOrder_18 ?_
  refine lv_ior hx hb dX0_addOrder_19 ?_
  refine lv_ior hx hb dX0_addOrder_20 ?_
  refine va_put (D := (dC, dI)) (ci := 0) (v := .int (((iB 14) ||| (((1 : Int32) <<< (a1 &&& 31)) ||| ((1 : Int32) <<< (a2 &&& 31)))))) (ty := .int) (C := RX0) (T := TX0) (N := 15) hx hb hts ki0 tyX0 tyX0_ok nmX0 hown hK hP hD hS 0 rfl rfl 14 (by decide) kf63 (fun _ h9 => h9) rfl (by decide +kernel) rfl rfl (Nat.le_of_ble_eq_true rfl) dX0_addOrder_21 (fun H locs hP hD hS => ?_)
  have hP : va_P (dC, dI) vwCl (zzB ad cy (us iB [(7, q4.2.1), (14, ((iB 14) ||| (((1 : Int32) <<< (a1 &&& 31)) ||| ((1 : Int32) <<< (a2 &&& 31)))))]) lB (us aB [(6, q4.2.2)]) iC aC) H := Eq.mp (congrArg (fun w => va_P (dC, dI) vwCl w H) (stB_iB14 ad cy iB lB (us aB [(6, q4.2.2)]) iC aC [(7, q4.2.1)] (((iB 14) ||| (((1 : Int32) <<< (a1 &&& 31)) ||| ((1 : Int32) <<< (a2 &&& 31))))))) hP
  have hD : va_D A (zzB ad cy (us iB [(7, q4.2.1), (14, ((iB 14) ||| (((1 : Int32) <<< (a1 &&& 31)) ||| ((1 : Int32) <<< (a2 &&& 31)))))]) lB (us aB [(6, q4.2.2)]) iC aC) := Eq.mp (congrArg (fun w => va_D A w) (stB_iB14 ad cy iB lB (us aB [(6, q4.2.2)]) iC aC [(7, q4.2.1)] (((iB 14) ||| (((1 : Int32) <<< (a1 &&& 31)) ||| ((1 : Int32) <<< (a2 &&& 31))))))) hD
  refine lv_iconst (v := 1) hx hb dX0_addOrder_24 (by decide) ?_
  refine lv_iload_n hx hb dX0_addOrder_25 rfl (lv_at hl 2 rfl) ?_
  refine lv_ishl hx hb dX0_addOrder_26 ?_
  refine lv_aload_n hx hb dX0_addOrder_27 rfl (lv_at hl 0 rfl) ?_
  refine lv_iload_n hx hb dX0_addOrder_28 rfl (lv_at hl 2 rfl) ?_
  obtain ⟨q29, e29, h⟩ := g_b h
  refine callVis (cc := cX0_addOrder) (w1 := zzB ad cy (us iB [(7, q4.2.1), (14, ((iB 14) ||| (((1 : Int32) <<< (a1 &&& 31)) ||| ((1 : Int32) <<< (a2 &&& 31)))))]) lB (us aB [(6, q4.2.2)]) iC aC) (As := [.int a2]) (rest := [.int (((1 : Int32) <<< (a2 &&& 31)))]) ⟨hx, hb, hml, hown, hts⟩ (c_B_rolesAbove l dC dI cy ad H.size a2 ((us iB [(7, q4.2.1), (14, ((iB 14) ||| (((1 : Int32) <<< (a1 &&& 31)) ||| ((1 : Int32) <<< (a2 &&& 31)))))])) lB ((us aB [(6, q4.2.2)])) iC aC q29 e29) (cwV 1 hts (goodV m_ml_X0_74 m_im_X0_rolesAbove m_se_X0_rolesAbove m_in_X0 m_cd_X0_rolesAbove) rfl rfl rfl (by decide +kernel) ⟨Nat.le_of_ble_eq_true rfl, Nat.le_of_ble_eq_true rfl⟩) hN hK hP hD hS hA rfl 0 rfl rfl rfl hl.1 rfl (Nat.le_of_ble_eq_true rfl) dX0_addOrder_29 ⟨Nat.zero_le _, Nat.zero_le _⟩ (fun H locs hP hD hS => ?_)
  refine lv_ior hx hb dX0_addOrder_32 ?_
  refine lv_istore_n (lv' := [(3, .int ((((1 : Int32) <<< (a2 &&& 31)) ||| q29))), (0, .ref (ad 0)), (1, .int a1), (2, .int a2)]) hx hb dX0_addOrder_33 rfl hl (by decide) rfl (fun ls hl => ?_)
  refine lv_iconst (v := 0) hx hb dX0_addOrder_34 (by decide) ?_
  refine lv_istore (lv' := [(4, .int ((0 : Int32))), (3, .int ((((1 : Int32) <<< (a2 &&& 31)) ||| q29))), (0, .ref (ad 0)), (1, .int a1), (2, .int a2)]) hx hb dX0_addOrder_35 hl (by decide) rfl (fun ls hl => ?_)
  exact B37 N a1 ((((1 : Int32) <<< (a2 &&& 31)) ||| q29)) q4.2.1 (((iB 14) ||| (((1 : Int32) <<< (a1 &&& 31)) ||| ((1 : Int32) <<< (a2 &&& 31))))) q4.2.2 ((0 : Int32)) (aB 12) H locs ls h hP hD hS (lv_sub hl [2, 3, 1, 0] rfl)
set_option maxHeartbeats 8000000 in
set_option maxRecDepth 100000 in
theorem c_R_takeOrder (l : Launch) (dC : Nat → ClassId) (dI : Nat → Nat → Nat) (cy : Nat → ClassId) (ad : Nat → Nat) (sz : Nat) (N : Nat) (iR : Nat → Int32) (iT : Nat → Int32) (wT : Int64) (tx : Nat → Int32) (iB : Nat → Int32) (lB : Nat → Nat → Int64) (aB : Nat → Nat → Int32) (iC : Nat → Int32) (aC : Nat → Nat → Int32) (q : Int32 × Int32 × Int32 × Int32 × Int32 × Int64 × Int32 × Int32 × Int32 × (Nat → Int64) × (Nat → Int32) × (Nat → Int32)) (h : f_R_takeOrder N (iR 3) (iR 4) (iT 1) (iT 2) (iT 3) (iT 4) wT tx (iB 3) (iB 5) (iB 7) (iB 13) (iB 14) (lB 2) (lB 4) (aB 6) (aB 12) = some q) : Met l yX4_takeOrder wsX4_takeOrder ({ frames := 4, cells := 0, slots := 0, locals := 84 } : Room) (cP (dC, dI) cy [.ref (ad 0)] (zzR ad cy (ad 3) (ad 10) iR iT wT tx iB lB aB iC aC) sz) (cQv (dC, dI) cy (zzR ad cy (ad 3) (ad 10) (us iR [(3, q.1), (4, q.2.1)]) (us iT [(2, q.2.2.1), (3, q.2.2.2.1), (4, q.2.2.2.2.1)]) q.2.2.2.2.2.1 tx (us iB [(5, q.2.2.2.2.2.2.1), (7, q.2.2.2.2.2.2.2.1), (14, q.2.2.2.2.2.2.2.2.1)]) (us lB [(4, q.2.2.2.2.2.2.2.2.2.1)]) (us aB [(6, q.2.2.2.2.2.2.2.2.2.2.1), (12, q.2.2.2.2.2.2.2.2.2.2.2)]) iC aC) (va_A (zzR ad cy (ad 3) (ad 10) iR iT wT tx iB lB aB iC aC) sz)) 0 0 (va_A (zzR ad cy (ad 3) (ad 10) iR iT wT tx iB lB aB iC aC) sz) := by
  refine Met.ofW (cc := cX4_takeOrder) (maxL := 4) (ret := none) (by decide) rfl ?_
  intro p e s m args below meth c s₁ B hml hv
  obtain ⟨hav, hsz, hP, hK, hD0, hN⟩ := hv
  have hx := B.exec
  have hb := B.bytes
  have hr := B.returns
  have hts := atoms_spec (ws := wsX4_takeOrder) B.pre
  have hown : s.vm.findClass RX4 = some m.cls := findClass_of_methodNamed B.named
  have hlocks := B.notSynchronized
  subst hsz
  have hD := hD0.self (sz := s.heap.size)
  generalize hAe : va_A (zzR ad cy (ad 3) (ad 10) iR iT wT tx iB lB aB iC aC) s.heap.size = A at hD ⊢
  have hA : ∀ q : Nat, s.heap.size ≤ q → A q := fun q h => by rw [← hAe]; exact Or.inr h
  have hS : va_S A s.heap s.heap [] := va_S.rf
  generalize hWQ : (zzR ad cy (ad 3) (ad 10) (us iR [(3, q.1), (4, q.2.1)]) (us iT [(2, q.2.2.1), (3, q.2.2.2.1), (4, q.2.2.2.2.1)]) q.2.2.2.2.2.1 tx (us iB [(5, q.2.2.2.2.2.2.1), (7, q.2.2.2.2.2.2.2.1), (14, q.2.2.2.2.2.2.2.2.1)]) (us lB [(4, q.2.2.2.2.2.2.2.2.2.1)]) (us aB [(6, q.2.2.2.2.2.2.2.2.2.2.1), (12, q.2.2.2.2.2.2.2.2.2.2.2)]) iC aC) = WQ
  generalize hQQ : MQ below (cQv (dC, dI) cy WQ A) args s 0 0 A = QQ
  have hl := lv_entry ([.ref (ad 0)] : List Value) (n := 4) (Nat.le_of_ble_eq_true rfl)
  have hfr := lg_entry_eq m ([.ref (ad 0)] : List Value) 4
  rw [← hav] at hfr
  rw [hfr]
  clear hfr hav
  generalize (lg_sl ([.ref (ad 0)] : List Value) ++ List.replicate (4 - (lg_sl ([.ref (ad 0)] : List Value)).length) Slot.unset).toArray = ls at hl ⊢
  have hl : lv_has ls 4 [(0, .ref (ad 0))] := hl
  have kf20 := hts _ (List.mem_cons_of_mem _ m_fl_X4_20)
  have ki4 := (fun w h => List.mem_cons_of_mem _ (i_X4 w h) : ∀ w ∈ u_ws RX4 TX4 5, w ∈ wsX4_takeOrder)
  have kf70 := hts _ (List.mem_cons_of_mem _ m_fl_X4_70)
  have ki5 := (fun w h => List.mem_cons_of_mem _ (i_X5 w h) : ∀ w ∈ u_ws RX5 TX5 6, w ∈ wsX4_takeOrder)
  have kf24 := hts _ (List.mem_cons_of_mem _ m_fl_X4_24)
  refine (?_ : ∀ (H : Heap) (locs : List Loc), va_P (dC, dI) vwCl (zzR ad cy (ad 3) (ad 10) iR iT wT tx iB lB aB iC aC) H → va_D A (zzR ad cy (ad 3) (ad 10) iR iT wT tx iB lB aB iC aC) → va_S A s.heap H locs → W p l e ({ frames := 4, cells := 0, slots := 0, locals := 84 } : Room) s m args below meth c H locs 0 0 QQ (F0 m 0 ls [])) s.heap [] hP hD hS
  clear hP hD hS
  have B93 : ∀ (v1 : Int32) (x_iR3 : Int32) (x_iR4 : Int32) (x_iT2 : Int32) (x_iT3 : Int32) (x_iT4 : Int32) (x_wT : Int64) (x_iB5 : Int32) (x_lB4 : Nat → Int64) (H : Heap) (locs : List Loc) (ls : Array Slot), f_R_takeOrder_93 N (iR 3) (iR 4) (iT 1) (iT 2) (iT 3) (iT 4) wT tx (iB 3) (iB 5) (iB 7) (iB 13) (iB 14) (lB 2) (lB 4) (aB 6) (aB 12) v1 x_iR3 x_iR4 x_iT2 x_iT3 x_iT4 x_wT x_iB5 x_lB4 = some q → va_P (dC, dI) vwCl (zzR ad cy (ad 3) (ad 10) (us iR [(3, x_iR3), (4, x_iR4)]) (us iT [(2, x_iT2), (3, x_iT3), (4, x_iT4)]) x_wT tx (us iB [(5, x_iB5)]) (us lB [(4, x_lB4)]) aB iC aC) H → va_D A (zzR ad cy (ad 3) (ad 10) (us iR [(3, x_iR3), (4, x_iR4)]) (us iT [(2, x_iT2), (3, x_iT3), (4, x_iT4)]) x_wT tx (us iB [(5, x_iB5)]) (us lB [(4, x_lB4)]) aB iC aC) → va_S A s.heap H locs → lv_has ls 4 [(0, .ref (ad 0)), (1, .int v1)] → W p l e ({ frames := 4, cells := 0, slots := 0, locals := 84 } : Room) s m args below meth c H locs 0 0 QQ (F0 m 93 ls []) := by
    intro v1 x_iR3 x_iR4 x_iT2 x_iT3 x_iT4 x_wT x_iB5 x_lB4 H locs ls h hP hD hS hl
    unfold f_R_takeOrder_93 at h
    refine lv_aload_n hx hb dX4_takeOrder_93 rfl (lv_at hl 0 rfl) ?_
    refine lv_bipush (v := 6) hx hb dX4_takeOrder_94 (by decide) ?_
    refine lv_iload_n hx hb dX4_takeOrder_96 rfl (lv_at hl 1 rfl) ?_
    obtain ⟨q97, e97, h⟩ := g_b h
    refine callVis (cc := cX4_takeOrder) (w1 := zzR ad cy (ad 3) (ad 10) (us iR [(3, q97.2.1), (4, q97.2.2)]) (us iT [(2, x_iT2), (3, x_iT3), (4, x_iT4)]) x_wT tx (us iB [(5, x_iB5)]) (us lB [(4, x_lB4)]) aB iC aC) (As := [.int ((6 : Int32)), .int v1]) (rest := []) ⟨hx, hb, hml, hown, hts⟩ (c_R_fail l dC dI cy ad H.size ((6 : Int32)) v1 ((us iR [(3, x_iR3), (4, x_iR4)])) ((us iT [(2, x_iT2), (3, x_iT3), (4, x_iT4)])) x_wT tx ((us iB [(5, x_iB5)])) ((us lB [(4, x_lB4)])) aB iC aC q97 e97) (cwV 2 hts (goodV m_ml_X4_73 m_im_X4_fail m_se_X4_fail m_in_X4 m_cd_X4_fail) rfl rfl rfl (by decide +kernel) ⟨Nat.le_of_ble_eq_true rfl, Nat.le_of_ble_eq_true rfl⟩) hN hK hP hD hS hA rfl 0 rfl rfl rfl hl.1 rfl (Nat.le_of_ble_eq_true rfl) dX4_takeOrder_97 ⟨Nat.zero_le _, Nat.zero_le _⟩ (fun H locs hP hD hS => ?_)
    refine lv_pop hx hb dX4_takeOrder_100 rfl ?_
    refine lv_goto (tgt := 120) hx hb dX4_takeOrder_101 (by decide) ?_
    have h' := Option.some.inj h
    rw [← hQQ]
    exact W.vret hx hb hr (fun t ht hW => ⟨⟨(), rfl, trivial, by rw [← hWQ, ← h', ht]; exact hP, va_K.moved hW.alike hK⟩, hS.F ht⟩) hS.2.2 dX4_takeOrder_120
  intro H locs hP hD hS
  unfold f_R_takeOrder at h
  refine lv_aload_n hx hb dX4_takeOrder_0 rfl (lv_at hl 0 rfl) ?_
  refine va_get (D := (dC, dI)) (ci := 4) (v := .ref (ad 1)) (C := RX4) (T := TX4) (N := 5) hx hb hts ki4 hown hK hP 0 rfl rfl 0 (by decide) kf20 (fun _ h9 => h9) rfl dX4_takeOrder_1 ?_
  obtain ⟨q4, e4, h⟩ := g_b h
  refine callVv (cc := cX4_takeOrder) (ws' := zzR ad cy (ad 3) (ad 10) iR (us iT [(2, q4.1), (3, q4.2.1), (4, q4.2.2.1)]) q4.2.2.2 tx iB lB aB iC aC) (As := []) (rest := []) ⟨hx, hb, hml, hown, hts⟩ (c_T_step l dC dI cy (fun i => ad (i + 1)) H.size N iT wT tx q4 e4) (cwV 0 hts (goodV m_ml_X4_87 m_im_X5_step m_se_X5_step m_in_X5 m_cd_X5_step) rfl rfl rfl (by decide +kernel) ⟨Nat.le_of_ble_eq_true rfl, Nat.le_of_ble_eq_true rfl⟩) hN hK hP hD hS hA [1, 2] [none, some 0, some 1, none, none, none, none, none, none, none, none, none, none, none, none, none, none, none, none] rfl rfl rfl rfl rfl rfl 1 rfl rfl rfl hl.1 rfl (Nat.le_of_ble_eq_true rfl) dX4_takeOrder_4 ⟨Nat.zero_le _, Nat.zero_le _⟩ (fun H locs hP hD hS => ?_)
  refine lv_aload_n hx hb dX4_takeOrder_7 rfl (lv_at hl 0 rfl) ?_
  refine va_get (D := (dC, dI)) (ci := 4) (v := .ref (ad 1)) (C := RX4) (T := TX4) (N := 5) hx hb hts ki4 hown hK hP 0 rfl rfl 0 (by decide) kf20 (fun _ h9 => h9) rfl dX4_takeOrder_8 ?_
  refine va_get (D := (dC, dI)) (ci := 5) (v := .int q4.2.1) (C := RX5) (T := TX5) (N := 6) hx hb hts ki5 hown hK hP 1 rfl rfl 3 (by decide) kf70 (fun _ h9 => h9) rfl dX4_takeOrder_11 ?_
  refine lv_istore_n (lv' := [(1, .int q4.2.1), (0, .ref (ad 0))]) hx hb dX4_takeOrder_14 rfl hl (by decide) rfl (fun ls hl => ?_)
  refine lv_aload_n hx hb dX4_takeOrder_15 rfl (lv_at hl 1 rfl) ?_
  obtain ⟨q16, e16, h⟩ := g_b h
  refine callVis (cc := cX4_takeOrder) (w1 := zzR ad cy (ad 3) (ad 10) (us iR [(3, q16.2.1), (4, q16.2.2.1)]) (us iT [(2, q16.2.2.2.1), (3, q16.2.2.2.2.1), (4, q16.2.2.2.2.2.1)]) q16.2.2.2.2.2.2.1 tx (us iB [(5, q16.2.2.2.2.2.2.2.1)]) (us lB [(4, q16.2.2.2.2.2.2.2.2)]) aB iC aC) (As := []) (rest := []) ⟨hx, hb, hml, hown, hts⟩ (c_R_takeRole l dC dI cy ad H.size N iR ((us iT [(2, q4.1), (3, q4.2.1), (4, q4.2.2.1)])) q4.2.2.2 tx iB lB aB iC aC q16 e16) (cwV 0 hts (goodV m_ml_X4_117 m_im_X4_takeRole m_se_X4_takeRole m_in_X4 m_cd_X4_takeRole) rfl rfl rfl (by decide +kernel) ⟨Nat.le_of_ble_eq_true rfl, Nat.le_of_ble_eq_true rfl⟩) hN hK hP hD hS hA rfl 0 rfl rfl rfl hl.1 rfl (Nat.le_of_ble_eq_true rfl) dX4_takeOrder_16 ⟨Nat.zero_le _, Nat.zero_le _⟩ (fun H locs hP hD hS => ?_)
  refine lv_istore_n (lv' := [(2, .int q16.1), (1, .int q4.2.1), (0, .ref (ad 0))]) hx hb dX4_takeOrder_19 rfl hl (by decide) rfl (fun ls hl => ?_)
  refine lv_iload_n hx hb dX4_takeOrder_20 rfl (lv_at hl 0 rfl) ?_
  refine lv_iconst (v := (-1)) hx hb dX4_takeOrder_21 (by decide) ?_
  refine lv_icmp_ne (tgt := 26) hx hb dX4_takeOrder_22 (by decide) (fun cz => ?_) (fun cz => ?_)
  · have h := g_f h cz
    refine lv_aload_n hx hb dX4_takeOrder_26 rfl (lv_at hl 2 rfl) ?_
    refine va_get (D := (dC, dI)) (ci := 4) (v := .ref (ad 3)) (C := RX4) (T := TX4) (N := 5) hx hb hts ki4 hown hK hP 0 rfl rfl 1 (by decide) kf24 (fun _ h9 => h9) rfl dX4_takeOrder_27 ?_
    refine lv_iload_n hx hb dX4_takeOrder_30 rfl (lv_at hl 0 rfl) ?_
    obtain ⟨q31, e31, h⟩ := g_b h
    refine callVi (cc := cX4_takeOrder) (ws' := zzR ad cy (ad 3) (ad 10) (us iR [(3, q16.2.1), (4, q16.2.2.1)]) (us iT [(2, q16.2.2.2.1), (3, q16.2.2.2.2.1), (4, q16.2.2.2.2.2.1)]) q16.2.2.2.2.2.2.1 tx (us iB [(5, q16.2.2.2.2.2.2.2.1)]) (us lB [(4, q16.2.2.2.2.2.2.2.2)]) aB iC aC) (As := [.int q16.1]) (rest := []) ⟨hx, hb, hml, hown, hts⟩ (c_B_isSingle l dC dI cy (fun i => ad (i + 3)) H.size q16.1 ((us iB [(5, q16.2.2.2.2.2.2.2.1)])) ((us lB [(4, q16.2.2.2.2.2.2.2.2)])) aB iC aC q31 e31) (cwV 1 hts (goodV m_ml_X4_120 m_im_X0_isSingle m_se_X0_isSingle m_in_X0 m_cd_X0_isSingle) rfl rfl rfl (by decide +kernel) ⟨Nat.le_of_ble_eq_true rfl, Nat.le_of_ble_eq_true rfl⟩) hN hK hP hD hS hA [3, 4, 5, 6, 7, 8, 9, 10, 11, 12, 13, 14, 15, 16, 17, 18] [none, none, none, some 0, some 1, some 2, some 3, some 4, some 5, some 6, some 7, some 8, some 9, some 10, some 11, some 12, some 13, some 14, some 15] rfl rfl rfl rfl rfl rfl 3 rfl rfl rfl hl.1 rfl (Nat.le_of_ble_eq_true rfl) dX4_takeOrder_31 ⟨Nat.zero_le _, Nat.zero_le _⟩ (fun H locs hP hD hS => ?_)
    refine lv_if_eq (tgt := 46) hx hb dX4_takeOrder_34 (by decide) (fun cz => ?_) (fun cz => ?_)
    · have h := g_t h cz
      refine lv_aload_n hx hb dX4_takeOrder_46 rfl (lv_at hl 2 rfl) ?_
      refine va_get (D := (dC, dI)) (ci := 4) (v := .ref (ad 1)) (C := RX4) (T := TX4) (N := 5) hx hb hts ki4 hown hK hP 0 rfl rfl 0 (by decide) kf20 (fun _ h9 => h9) rfl dX4_takeOrder_47 ?_
      refine va_get (D := (dC, dI)) (ci := 5) (v := .int q16.2.2.2.2.1) (C := RX5) (T := TX5) (N := 6) hx hb hts ki5 hown hK hP 1 rfl rfl 3 (by decide) kf70 (fun _ h9 => h9) rfl dX4_takeOrder_50 ?_
      refine lv_istore_n (lv' := [(1, .int q16.2.2.2.2.1), (2, .int q16.1), (0, .ref (ad 0))]) hx hb dX4_takeOrder_53 rfl hl (by decide) rfl (fun ls hl => ?_)
      refine lv_aload_n hx hb dX4_takeOrder_54 rfl (lv_at hl 2 rfl) ?_
      obtain ⟨q55, e55, h⟩ := g_b h
      refine callVis (cc := cX4_takeOrder) (w1 := zzR ad cy (ad 3) (ad 10) (us iR [(3, q55.2.1), (4, q55.2.2.1)]) (us iT [(2, q55.2.2.2.1), (3, q55.2.2.2.2.1), (4, q55.2.2.2.2.2.1)]) q55.2.2.2.2.2.2.1 tx (us iB [(5, q55.2.2.2.2.2.2.2.1)]) (us lB [(4, q55.2.2.2.2.2.2.2.2)]) aB iC aC) (As := []) (rest := []) ⟨hx, hb, hml, hown, hts⟩ (c_R_takeRole l dC dI cy ad H.size N ((us iR [(3, q16.2.1), (4, q16.2.2.1)])) ((us iT [(2, q16.2.2.2.1), (3, q16.2.2.2.2.1), (4, q16.2.2.2.2.2.1)])) q16.2.2.2.2.2.2.1 tx ((us iB [(5, q16.2.2.2.2.2.2.2.1)])) ((us lB [(4, q16.2.2.2.2.2.2.2.2)])) aB iC aC q55 e55) (cwV 0 hts (goodV m_ml_X4_117 m_im_X4_takeRole m_se_X4_takeRole m_in_X4 m_cd_X4_takeRole) rfl rfl rfl (by decide +kernel) ⟨Nat.le_of_ble_eq_true rfl, Nat.le_of_ble_eq_true rfl⟩) hN hK hP hD hS hA rfl 0 rfl rfl rfl hl.1 rfl (Nat.le_of_ble_eq_true rfl) dX4_takeOrder_55 ⟨Nat.zero_le _, Nat.zero_le _⟩ (fun H locs hP hD hS => ?_)
      refine lv_istore_n (lv' := [(3, .int q55.1), (1, .int q16.2.2.2.2.1), (2, .int q16.1), (0, .ref (ad 0))]) hx hb dX4_takeOrder_58 rfl hl (by decide) rfl (fun ls hl => ?_)
      refine lv_iload_n hx hb dX4_takeOrder_59 rfl (lv_at hl 0 rfl) ?_
      refine lv_iconst (v := (-1)) hx hb dX4_takeOrder_60 (by decide) ?_
      refine lv_icmp_ne (tgt := 65) hx hb dX4_takeOrder_61 (by decide) (fun cz => ?_) (fun cz => ?_)
      · have h := g_f h cz
        refine lv_iload_n hx hb dX4_takeOrder_65 rfl (lv_at hl 0 rfl) ?_
        refine lv_iload_n hx hb dX4_takeOrder_66 rfl (lv_at hl 2 rfl) ?_
        refine lv_icmp_eq (tgt := 93) hx hb dX4_takeOrder_67 (by decide) (fun cz => ?_) (fun cz => ?_)
        · have h := g_t h cz
          exact B93 q16.2.2.2.2.1 q55.2.1 q55.2.2.1 q55.2.2.2.1 q55.2.2.2.2.1 q55.2.2.2.2.2.1 q55.2.2.2.2.2.2.1 q55.2.2.2.2.2.2.2.1 q55.2.2.2.2.2.2.2.2 H locs ls h hP hD hS (lv_sub hl [3, 1] rfl)
        · have h := g_f h cz
          refine lv_aload_n hx hb dX4_takeOrder_70 rfl (lv_at hl 3 rfl) ?_
          refine va_get (D := (dC, dI)) (ci := 4) (v := .ref (ad 3)) (C := RX4) (T := TX4) (N := 5) hx hb hts ki4 hown hK hP 0 rfl rfl 1 (by decide) kf24 (fun _ h9 => h9) rfl dX4_takeOrder_71 ?_
          refine lv_iload_n hx hb dX4_takeOrder_74 rfl (lv_at hl 0 rfl) ?_
          obtain ⟨q75, e75, h⟩ := g_b h
          refine callVi (cc := cX4_takeOrder) (ws' := zzR ad cy (ad 3) (ad 10) (us iR [(3, q55.2.1), (4, q55.2.2.1)]) (us iT [(2, q55.2.2.2.1), (3, q55.2.2.2.2.1), (4, q55.2.2.2.2.2.1)]) q55.2.2.2.2.2.2.1 tx (us iB [(5, q55.2.2.2.2.2.2.2.1)]) (us lB [(4, q55.2.2.2.2.2.2.2.2)]) aB iC aC) (As := [.int q55.1]) (rest := []) ⟨hx, hb, hml, hown, hts⟩ (c_B_isSingle l dC dI cy (fun i => ad (i + 3)) H.size q55.1 ((us iB [(5, q55.2.2.2.2.2.2.2.1)])) ((us lB [(4, q55.2.2.2.2.2.2.2.2)])) aB iC aC q75 e75) (cwV 1 hts (goodV m_ml_X4_120 m_im_X0_isSingle m_se_X0_isSingle m_in_X0 m_cd_X0_isSingle) rfl rfl rfl (by decide +kernel) ⟨Nat.le_of_ble_eq_true rfl, Nat.le_of_ble_eq_true rfl⟩) hN hK hP hD hS hA [3, 4, 5, 6, 7, 8, 9, 10, 11, 12, 13, 14, 15, 16, 17, 18] [none, none, none, some 0, some 1, some 2, some 3, some 4, some 5, some 6, some 7, some 8, some 9, some 10, some 11, some 12, some 13, some 14, some 15] rfl rfl rfl rfl rfl rfl 3 rfl rfl rfl hl.1 rfl (Nat.le_of_ble_eq_true rfl) dX4_takeOrder_75 ⟨Nat.zero_le _, Nat.zero_le _⟩ (fun H locs hP hD hS => ?_)
          refine lv_if_ne (tgt := 93) hx hb dX4_takeOrder_78 (by decide) (fun cz => ?_) (fun cz => ?_)
          · have h := g_f h cz
            exact B93 q16.2.2.2.2.1 q55.2.1 q55.2.2.1 q55.2.2.2.1 q55.2.2.2.2.1 q55.2.2.2.2.2.1 q55.2.2.2.2.2.2.1 q55.2.2.2.2.2.2.2.1 q55.2.2.2.2.2.2.2.2 H locs ls h hP hD hS (lv_sub hl [3, 1] rfl)
          · have h := g_t h cz
            refine lv_aload_n hx hb dX4_takeOrder_81 rfl (lv_at hl 3 rfl) ?_
            refine va_get (D := (dC, dI)) (ci := 4) (v := .ref (ad 3)) (C := RX4) (T := TX4) (N := 5) hx hb hts ki4 hown hK hP 0 rfl rfl 1 (by decide) kf24 (fun _ h9 => h9) rfl dX4_takeOrder_82 ?_
            refine lv_iload_n hx hb dX4_takeOrder_85 rfl (lv_at hl 0 rfl) ?_
            refine lv_iload_n hx hb dX4_takeOrder_86 rfl (lv_at hl 2 rfl) ?_
            obtain ⟨q87, e87, h⟩ := g_b h
            refine callVi (cc := cX4_takeOrder) (ws' := zzR ad cy (ad 3) (ad 10) (us iR [(3, q55.2.1), (4, q55.2.2.1)]) (us iT [(2, q55.2.2.2.1), (3, q55.2.2.2.2.1), (4, q55.2.2.2.2.2.1)]) q55.2.2.2.2.2.2.1 tx (us iB [(5, q55.2.2.2.2.2.2.2.1)]) (us lB [(4, q55.2.2.2.2.2.2.2.2)]) aB iC aC) (As := [.int q55.1, .int q16.1]) (rest := []) ⟨hx, hb, hml, hown, hts⟩ (c_B_isRoleUnder l dC dI cy (fun i => ad (i + 3)) H.size q55.1 q16.1 ((us iB [(5, q55.2.2.2.2.2.2.2.1)])) ((us lB [(4, q55.2.2.2.2.2.2.2.2)])) aB iC aC q87 e87) (cwV 2 hts (goodV m_ml_X4_124 m_im_X0_isRoleUnder m_se_X0_isRoleUnder m_in_X0 m_cd_X0_isRoleUnder) rfl rfl rfl (by decide +kernel) ⟨Nat.le_of_ble_eq_true rfl, Nat.le_of_ble_eq_true rfl⟩) hN hK hP hD hS hA [3, 4, 5, 6, 7, 8, 9, 10, 11, 12, 13, 14, 15, 16, 17, 18] [none, none, none, some 0, some 1, some 2, some 3, some 4, some 5, some 6, some 7, some 8, some 9, some 10, some 11, some 12, some 13, some 14, some 15] rfl rfl rfl rfl rfl rfl 3 rfl rfl rfl hl.1 rfl (Nat.le_of_ble_eq_true rfl) dX4_takeOrder_87 ⟨Nat.zero_le _, Nat.zero_le _⟩ (fun H locs hP hD hS => ?_)
            refine lv_if_eq (tgt := 104) hx hb dX4_takeOrder_90 (by decide) (fun cz => ?_) (fun cz => ?_)
            · have h := g_t h cz
              refine lv_aload_n hx hb dX4_takeOrder_104 rfl (lv_at hl 3 rfl) ?_
              obtain ⟨q105, e105, h⟩ := g_b h
              refine callVis (cc := cX4_takeOrder) (w1 := zzR ad cy (ad 3) (ad 10) (us iR [(3, q105.2.1), (4, q105.2.2.1)]) (us iT [(2, q105.2.2.2.1), (3, q105.2.2.2.2.1), (4, q105.2.2.2.2.2.1)]) q105.2.2.2.2.2.2 tx (us iB [(5, q55.2.2.2.2.2.2.2.1)]) (us lB [(4, q55.2.2.2.2.2.2.2.2)]) aB iC aC) (As := []) (rest := []) ⟨hx, hb, hml, hown, hts⟩ (c_R_takeEnd l dC dI cy ad H.size N ((us iR [(3, q55.2.1), (4, q55.2.2.1)])) ((us iT [(2, q55.2.2.2.1), (3, q55.2.2.2.2.1), (4, q55.2.2.2.2.2.1)])) q55.2.2.2.2.2.2.1 tx ((us iB [(5, q55.2.2.2.2.2.2.2.1)])) ((us lB [(4, q55.2.2.2.2.2.2.2.2)])) aB iC aC q105 e105) (cwV 0 hts (goodV m_ml_X4_104 m_im_X4_takeEnd m_se_X4_takeEnd m_in_X4 m_cd_X4_takeEnd) rfl rfl rfl (by decide +kernel) ⟨Nat.le_of_ble_eq_true rfl, Nat.le_of_ble_eq_true rfl⟩) hN hK hP hD hS hA rfl 0 rfl rfl rfl hl.1 rfl (Nat.le_of_ble_eq_true rfl) dX4_takeOrder_105 ⟨Nat.zero_le _, Nat.zero_le _⟩ (fun H locs hP hD hS => ?_)
              refine lv_if_eq (tgt := 120) hx hb dX4_takeOrder_108 (by decide) (fun cz => ?_) (fun cz => ?_)
              · have h := g_t h cz
                have h' := Option.some.inj h
                rw [← hQQ]
                exact W.vret hx hb hr (fun t ht hW => ⟨⟨(), rfl, trivial, by rw [← hWQ, ← h', ht]; exact hP, va_K.moved hW.alike hK⟩, hS.F ht⟩) hS.2.2 dX4_takeOrder_120
              · have h := g_f h cz
                refine lv_aload_n hx hb dX4_takeOrder_111 rfl (lv_at hl 3 rfl) ?_
                refine va_get (D := (dC, dI)) (ci := 4) (v := .ref (ad 3)) (C := RX4) (T := TX4) (N := 5) hx hb hts ki4 hown hK hP 0 rfl rfl 1 (by decide) kf24 (fun _ h9 => h9) rfl dX4_takeOrder_112 ?_
                refine lv_iload_n hx hb dX4_takeOrder_115 rfl (lv_at hl 2 rfl) ?_
                refine lv_iload_n hx hb dX4_takeOrder_116 rfl (lv_at hl 0 rfl) ?_
                obtain ⟨q117, e117, h⟩ := g_b h
                refine callVv (cc := cX4_takeOrder) (ws' := zzR ad cy (ad 3) (ad 10) (us iR [(3, q105.2.1), (4, q105.2.2.1)]) (us iT [(2, q105.2.2.2.1), (3, q105.2.2.2.2.1), (4, q105.2.2.2.2.2.1)]) q105.2.2.2.2.2.2 tx (us iB [(5, q55.2.2.2.2.2.2.2.1), (7, q117.1), (14, q117.2.1)]) (us lB [(4, q55.2.2.2.2.2.2.2.2)]) (us aB [(6, q117.2.2.1), (12, q117.2.2.2)]) iC aC) (As := [.int q16.1, .int q55.1]) (rest := []) ⟨hx, hb, hml, hown, hts⟩ (c_B_addOrder l dC dI cy (fun i => ad (i + 3)) H.size N q16.1 q55.1 ((us iB [(5, q55.2.2.2.2.2.2.2.1)])) ((us lB [(4, q55.2.2.2.2.2.2.2.2)])) aB iC aC q117 e117) (cwV 2 hts (goodV m_ml_X4_128 m_im_X0_addOrder m_se_X0_addOrder m_in_X0 m_cd_X0_addOrder) rfl rfl rfl (by decide +kernel) ⟨Nat.le_of_ble_eq_true rfl, Nat.le_of_ble_eq_true rfl⟩) hN hK hP hD hS hA [3, 4, 5, 6, 7, 8, 9, 10, 11, 12, 13, 14, 15, 16, 17, 18] [none, none, none, some 0, some 1, some 2, some 3, some 4, some 5, some 6, some 7, some 8, some 9, some 10, some 11, some 12, some 13, some 14, some 15] rfl rfl rfl rfl rfl rfl 3 rfl rfl rfl hl.1 rfl (Nat.le_of_ble_eq_true rfl) dX4_takeOrder_117 ⟨Nat.zero_le _, Nat.zero_le _⟩ (fun H locs hP hD hS => ?_)
                have h' := Option.some.inj h
                rw [← hQQ]
                exact W.vret hx hb hr (fun t ht hW => ⟨⟨(), rfl, trivial, by rw [← hWQ, ← h', ht]; exact hP, va_K.moved hW.alike hK⟩, hS.F ht⟩) hS.2.2 dX4_takeOrder_120
            · have h := g_f h cz
              exact B93 q16.2.2.2.2.1 q55.2.1 q55.2.2.1 q55.2.2.2.1 q55.2.2.2.2.1 q55.2.2.2.2.2.1 q55.2.2.2.2.2.2.1 q55.2.2.2.2.2.2.2.1 q55.2.2.2.2.2.2.2.2 H locs ls h hP hD hS (lv_sub hl [3, 1] rfl)
      · have h := g_t h cz
        have h' := Option.some.inj h
        rw [← hQQ]
        exact W.vret hx hb hr (fun t ht hW => ⟨⟨(), rfl, trivial, by rw [← hWQ, ← h', ht]; exact hP, va_K.moved hW.alike hK⟩, hS.F ht⟩) hS.2.2 dX4_takeOrder_64
    · have h := g_f h cz
      refine lv_aload_n hx hb dX4_takeOrder_37 rfl (lv_at hl 2 rfl) ?_
      refine lv_bipush (v := 6) hx hb dX4_takeOrder_38 (by decide) ?_
      refine lv_iload_n hx hb dX4_takeOrder_40 rfl (lv_at hl 1 rfl) ?_
      obtain ⟨q41, e41, h⟩ := g_b h
      refine callVis (cc := cX4_takeOrder) (w1 := zzR ad cy (ad 3) (ad 10) (us iR [(3, q41.2.1), (4, q41.2.2)]) (us iT [(2, q16.2.2.2.1), (3, q16.2.2.2.2.1), (4, q16.2.2.2.2.2.1)]) q16.2.2.2.2.2.2.1 tx (us iB [(5, q16.2.2.2.2.2.2.2.1)]) (us lB [(4, q16.2.2.2.2.2.2.2.2)]) aB iC aC) (As := [.int ((6 : Int32)), .int q4.2.1]) (rest := []) ⟨hx, hb, hml, hown, hts⟩ (c_R_fail l dC dI cy ad H.size ((6 : Int32)) q4.2.1 ((us iR [(3, q16.2.1), (4, q16.2.2.1)])) ((us iT [(2, q16.2.2.2.1), (3, q16.2.2.2.2.1), (4, q16.2.2.2.2.2.1)])) q16.2.2.2.2.2.2.1 tx ((us iB [(5, q16.2.2.2.2.2.2.2.1)])) ((us lB [(4, q16.2.2.2.2.2.2.2.2)])) aB iC aC q41 e41) (cwV 2 hts (goodV m_ml_X4_73 m_im_X4_fail m_se_X4_fail m_in_X4 m_cd_X4_fail) rfl rfl rfl (by decide +kernel) ⟨Nat.le_of_ble_eq_true rfl, Nat.le_of_ble_eq_true rfl⟩) hN hK hP hD hS hA rfl 0 rfl rfl rfl hl.1 rfl (Nat.le_of_ble_eq_true rfl) dX4_takeOrder_41 ⟨Nat.zero_le _, Nat.zero_le _⟩ (fun H locs hP hD hS => ?_)
      refine lv_pop hx hb dX4_takeOrder_44 rfl ?_
      have h' := Option.some.inj h
      rw [← hQQ]
      exact W.vret hx hb hr (fun t ht hW => ⟨⟨(), rfl, trivial, by rw [← hWQ, ← h', ht]; exact hP, va_K.moved hW.alike hK⟩, hS.F ht⟩) hS.2.2 dX4_takeOrder_45
  · have h := g_t h cz
    have h' := Option.some.inj h
    rw [← hQQ]
    exact W.vret hx hb hr (fun t ht hW => ⟨⟨(), rfl, trivial, by rw [← hWQ, ← h', ht]; exact hP, va_K.moved hW.alike hK⟩, hS.F ht⟩) hS.2.2 dX4_takeOrder_25
