def f_P_printConcept_12 (N : Nat) (iB3 : Int32) (iB5 : Int32) (lB2 : Nat → Int64) (lB4 : Nat → Int64) (iC4 : Int32) (aC0 : Nat → Int32) (aC1 : Nat → Int32) (aC2 : Nat → Int32) (iP1 : Int32) (iP4 : Int32) (aP0 : Nat → Int32) (aP3 : Nat → Int32)  : Nat → Int32 → Int32 → Int32 → (Nat → Int32) → (Nat → Int32) → Option (Int32 × Int32 × (Nat → Int32) × (Nat → Int32))
  | 0, _, _, _, _, _ => none
  | n + 1, v2, x_iP1, x_iP4, x_aP0, x_aP3 => if (800 : Int32) ≤ v2 then (some (x_iP1, x_iP4, x_aP0, x_aP3)) else (if x_iP4 ≤ 0 then (some (x_iP1, x_iP4, x_aP0, x_aP3)) else (if (x_iP4 - (1 : Int32)) < 0 ∨ 500 ≤ ((x_iP4 - (1 : Int32))).toNatClampNeg then none else (if (x_aP3 ((x_iP4 - (1 : Int32))).toNatClampNeg) = (-4 : Int32) then ((f_P_putJoint N ((28530 : Int64)) x_iP1 x_aP0).bind fun q110 => (f_P_printConcept_12 N iB3 iB5 lB2 lB4 iC4 aC0 aC1 aC2 iP1 iP4 aP0 aP3 n ((v2 + (1 : Int32))) q110.1 ((x_iP4 - (1 : Int32))) q110.2 x_aP3)) else (if (x_aP3 ((x_iP4 - (1 : Int32))).toNatClampNeg) = (-3 : Int32) then ((f_P_putJoint N ((6385252 : Int64)) x_iP1 x_aP0).bind fun q100 => (f_P_printConcept_12 N iB3 iB5 lB2 lB4 iC4 aC0 aC1 aC2 iP1 iP4 aP0 aP3 n ((v2 + (1 : Int32))) q100.1 ((x_iP4 - (1 : Int32))) q100.2 x_aP3)) else (if (x_aP3 ((x_iP4 - (1 : Int32))).toNatClampNeg) = (-2 : Int32) then ((f_P_putWord N ((41 : Int64)) x_iP1 x_aP0).bind fun q90 => (f_P_printConcept_12 N iB3 iB5 lB2 lB4 iC4 aC0 aC1 aC2 iP1 iP4 aP0 aP3 n ((v2 + (1 : Int32))) q90.1 ((x_iP4 - (1 : Int32))) q90.2 x_aP3)) else (if (x_aP3 ((x_iP4 - (1 : Int32))).toNatClampNeg) = (-1 : Int32) then ((f_P_putWord N ((40 : Int64)) x_iP1 x_aP0).bind fun q80 => (f_P_printConcept_12 N iB3 iB5 lB2 lB4 iC4 aC0 aC1 aC2 iP1 iP4 aP0 aP3 n ((v2 + (1 : Int32))) q80.1 ((x_iP4 - (1 : Int32))) q80.2 x_aP3)) else ((f_P_printNode N ((x_aP3 ((x_iP4 - (1 : Int32))).toNatClampNeg)) iB3 iB5 lB2 lB4 iC4 aC0 aC1 aC2 x_iP1 ((x_iP4 - (1 : Int32))) x_aP0 x_aP3).bind fun q118 => (f_P_printConcept_12 N iB3 iB5 lB2 lB4 iC4 aC0 aC1 aC2 iP1 iP4 aP0 aP3 n ((v2 + (1 : Int32))) q118.1 q118.2.1 q118.2.2.1 q118.2.2.2))))))))
def f_P_printConcept (N : Nat) (a1 : Int32) (iB3 : Int32) (iB5 : Int32) (lB2 : Nat → Int64) (lB4 : Nat → Int64) (iC4 : Int32) (aC0 : Nat → Int32) (aC1 : Nat → Int32) (aC2 : Nat → Int32) (iP1 : Int32) (iP4 : Int32) (aP0 : Nat → Int32) (aP3 : Nat → Int32) : Option (Int32 × Int32 × (Nat → Int32) × (Nat → Int32)) := (f_P_await a1 ((0 : Int32)) aP3).bind fun q7 => (f_P_printConcept_12 N iB3 iB5 lB2 lB4 iC4 aC0 aC1 aC2 iP1 iP4 aP0 aP3 N ((0 : Int32)) iP1 q7.1 aP0 q7.2)
set_option maxHeartbeats 8000000 in
set_option maxRecDepth 100000 in
theorem c_P_printConcept (l : Launch) (dC : Nat → ClassId) (dI : Nat → Nat → Nat) (cy : Nat → ClassId) (ad : Nat → Nat) (sz : Nat) (N : Nat) (a1 : Int32) (iP : Nat → Int32) (aP : Nat → Nat → Int32) (iB : Nat → Int32) (lB : Nat → Nat → Int64) (aB : Nat → Nat → Int32) (iC : Nat → Int32) (aC : Nat → Nat → Int32) (q : Int32 × Int32 × (Nat → Int32) × (Nat → Int32)) (h : f_P_printConcept N a1 (iB 3) (iB 5) (lB 2) (lB 4) (iC 4) (aC 0) (aC 1) (aC 2) (iP 1) (iP 4) (aP 0) (aP 3) = some q) : Met l yX3_printConcept wsX3_printConcept ({ frames := 3, cells := 0, slots := 0, locals := 72 } : Room) (cP (dC, dI) cy [.ref (ad 0), .int a1] (zzP ad cy (ad 3) iP aP iB lB aB iC aC) sz) (cQv (dC, dI) cy (zzP ad cy (ad 3) (us iP [(1, q.1), (4, q.2.1)]) (us aP [(0, q.2.2.1), (3, q.2.2.2)]) iB lB aB iC aC) (va_A (zzP ad cy (ad 3) iP aP iB lB aB iC aC) sz)) 0 0 (va_A (zzP ad cy (ad 3) iP aP iB lB aB iC aC) sz) := by
  refine Met.ofW (cc := cX3_printConcept) (maxL := 4) (ret := none) (by decide) rfl ?_
  intro p e s m args below meth c s₁ B hml hv
  obtain ⟨hav, hsz, hP, hK, hD0, hN⟩ := hv
  have hx := B.exec
  have hb := B.bytes
  have hr := B.returns
  have hts := atoms_spec (ws := wsX3_printConcept) B.pre
  have hown : s.vm.findClass RX3 = some m.cls := findClass_of_methodNamed B.named
  have hlocks := B.notSynchronized
  subst hsz
  have hD := hD0.self (sz := s.heap.size)
  generalize hAe : va_A (zzP ad cy (ad 3) iP aP iB lB aB iC aC) s.heap.size = A at hD ⊢
  have hA : ∀ q : Nat, s.heap.size ≤ q → A q := fun q h => by rw [← hAe]; exact Or.inr h
  have hS : va_S A s.heap s.heap [] := va_S.rf
  generalize hWQ : (zzP ad cy (ad 3) (us iP [(1, q.1), (4, q.2.1)]) (us aP [(0, q.2.2.1), (3, q.2.2.2)]) iB lB aB iC aC) = WQ
  generalize hQQ : MQ below (cQv (dC, dI) cy WQ A) args s 0 0 A = QQ
  have hl := lv_entry ([.ref (ad 0), .int a1] : List Value) (n := 4) (Nat.le_of_ble_eq_true rfl)
  have hfr := lg_entry_eq m ([.ref (ad 0), .int a1] : List Value) 4
  rw [← hav] at hfr
  rw [hfr]
  clear hfr hav
  generalize (lg_sl ([.ref (ad 0), .int a1] : List Value) ++ List.replicate (4 - (lg_sl ([.ref (ad 0), .int a1] : List Value)).length) Slot.unset).toArray = ls at hl ⊢
  have hl : lv_has ls 4 [(0, .ref (ad 0)), (1, .int a1)] := hl
  have kf79 := hts _ (List.mem_cons_of_mem _ m_fl_X3_79)
  have ki3 := (fun w h => List.mem_cons_of_mem _ (i_X3 w h) : ∀ w ∈ u_ws RX3 TX3 5, w ∈ wsX3_printConcept)
  have kf15 := hts _ (List.mem_cons_of_mem _ m_fl_X3_15)
  have kc94 := hts _ (List.mem_cons_of_mem _ m_kl_X3_94)
  have kc89 := hts _ (List.mem_cons_of_mem _ m_kl_X3_89)
  have kc87 := hts _ (List.mem_cons_of_mem _ m_kl_X3_87)
  have kc85 := hts _ (List.mem_cons_of_mem _ m_kl_X3_85)
  refine (?_ : ∀ (H : Heap) (locs : List Loc), va_P (dC, dI) vwCl (zzP ad cy (ad 3) iP aP iB lB aB iC aC) H → va_D A (zzP ad cy (ad 3) iP aP iB lB aB iC aC) → va_S A s.heap H locs → W p l e ({ frames := 3, cells := 0, slots := 0, locals := 72 } : Room) s m args below meth c H locs 0 0 QQ (F0 m 0 ls [])) s.heap [] hP hD hS
  clear hP hD hS
  have B12 : ∀ (n : Nat) (v2 : Int32) (x_iP1 : Int32) (x_iP4 : Int32) (x_aP0 : Nat → Int32) (x_aP3 : Nat → Int32) (H : Heap) (locs : List Loc) (ls : Array Slot), f_P_printConcept_12 N (iB 3) (iB 5) (lB 2) (lB 4) (iC 4) (aC 0) (aC 1) (aC 2) (iP 1) (iP 4) (aP 0) (aP 3) n v2 x_iP1 x_iP4 x_aP0 x_aP3 = some q → va_P (dC, dI) vwCl (zzP ad cy (ad 3) (us iP [(1, x_iP1), (4, x_iP4)]) (us aP [(0, x_aP0), (3, x_aP3)]) iB lB aB iC aC) H → va_D A (zzP ad cy (ad 3) (us iP [(1, x_iP1), (4, x_iP4)]) (us aP [(0, x_aP0), (3, x_aP3)]) iB lB aB iC aC) → va_S A s.heap H locs → lv_has ls 4 [(0, .ref (ad 0)), (2, .int v2)] → W p l e ({ frames := 3, cells := 0, slots := 0, locals := 72 } : Room) s m args below meth c H locs 0 0 QQ (F0 m 12 ls []) := by
    intro n
    induction n with
    | zero =>
      intro v2 x_iP1 x_iP4 x_aP0 x_aP3 H locs ls h hP hD hS hl
      rw [f_P_printConcept_12] at h
      cases h
    | succ n ih =>
      intro v2 x_iP1 x_iP4 x_aP0 x_aP3 H locs ls h hP hD hS hl
      rw [f_P_printConcept_12] at h
      refine lv_iload_n hx hb dX3_printConcept_12 rfl (lv_at hl 1 rfl) ?_
      refine lv_sipush (v := 800) hx hb dX3_printConcept_13 (by decide) ?_
      refine lv_icmp_ge (tgt := 127) hx hb dX3_printConcept_16 (by decide) (fun cz => ?_) (fun cz => ?_)
      · have h := g_t h cz
        have h' := Option.some.inj h
        rw [← hQQ]
        exact W.vret hx hb hr (fun t ht hW => ⟨⟨(), rfl, trivial, by rw [← hWQ, ← h', ht]; exact hP, va_K.moved hW.alike hK⟩, hS.F ht⟩) hS.2.2 dX3_printConcept_127
      · have h := g_f h cz
        refine lv_aload_n hx hb dX3_printConcept_19 rfl (lv_at hl 0 rfl) ?_
        refine va_get (D := (dC, dI)) (ci := 3) (v := .int x_iP4) (C := RX3) (T := TX3) (N := 5) hx hb hts ki3 hown hK hP 0 rfl rfl 4 (by decide) kf79 (fun _ h9 => h9) rfl dX3_printConcept_20 ?_
        refine lv_if_le (tgt := 127) hx hb dX3_printConcept_23 (by decide) (fun cz => ?_) (fun cz => ?_)
        · have h := g_t h cz
          have h' := Option.some.inj h
          rw [← hQQ]
          exact W.vret hx hb hr (fun t ht hW => ⟨⟨(), rfl, trivial, by rw [← hWQ, ← h', ht]; exact hP, va_K.moved hW.alike hK⟩, hS.F ht⟩) hS.2.2 dX3_printConcept_127
        · have h := g_f h cz
          refine lv_aload_n hx hb dX3_printConcept_26 rfl (lv_at hl 0 rfl) ?_
          refine lv_dup hx hb dX3_printConcept_27 rfl ?_
          refine va_get (D := (dC, dI)) (ci := 3) (v := .int x_iP4) (C := RX3) (T := TX3) (N := 5) hx hb hts ki3 hown hK hP 0 rfl rfl 4 (by decide) kf79 (fun _ h9 => h9) rfl dX3_printConcept_28 ?_
          refine lv_iconst (v := 1) hx hb dX3_printConcept_31 (by decide) ?_
          refine lv_isub hx hb dX3_printConcept_32 ?_
          refine va_put (D := (dC, dI)) (ci := 3) (v := .int ((x_iP4 - (1 : Int32)))) (ty := .int) (C := RX3) (T := TX3) (N := 5) hx hb hts ki3 tyX3 tyX3_ok nmX3 hown hK hP hD hS 0 rfl rfl 4 (by decide) kf79 (fun _ h9 => h9) rfl (by decide +kernel) rfl rfl (Nat.le_of_ble_eq_true rfl) dX3_printConcept_33 (fun H locs hP hD hS => ?_)
          have hP : va_P (dC, dI) vwCl (zzP ad cy (ad 3) (us iP [(1, x_iP1), (4, (x_iP4 - (1 : Int32)))]) (us aP [(0, x_aP0), (3, x_aP3)]) iB lB aB iC aC) H := Eq.mp (congrArg (fun w => va_P (dC, dI) vwCl w H) (stP_iP4 ad cy (ad 3) iP (us aP [(0, x_aP0), (3, x_aP3)]) iB lB aB iC aC [(1, x_iP1), (4, x_iP4)] ((x_iP4 - (1 : Int32))))) hP
          have hD : va_D A (zzP ad cy (ad 3) (us iP [(1, x_iP1), (4, (x_iP4 - (1 : Int32)))]) (us aP [(0, x_aP0), (3, x_aP3)]) iB lB aB iC aC) := Eq.mp (congrArg (fun w => va_D A w) (stP_iP4 ad cy (ad 3) iP (us aP [(0, x_aP0), (3, x_aP3)]) iB lB aB iC aC [(1, x_iP1), (4, x_iP4)] ((x_iP4 - (1 : Int32))))) hD
          refine lv_aload_n hx hb dX3_printConcept_36 rfl (lv_at hl 0 rfl) ?_
          refine va_get (D := (dC, dI)) (ci := 3) (v := .ref (ad 2)) (C := RX3) (T := TX3) (N := 5) hx hb hts ki3 hown hK hP 0 rfl rfl 3 (by decide) kf15 (fun _ h9 => h9) rfl dX3_printConcept_37 ?_
          refine lv_aload_n hx hb dX3_printConcept_40 rfl (lv_at hl 0 rfl) ?_
          refine va_get (D := (dC, dI)) (ci := 3) (v := .int ((x_iP4 - (1 : Int32)))) (C := RX3) (T := TX3) (N := 5) hx hb hts ki3 hown hK hP 0 rfl rfl 4 (by decide) kf79 (fun _ h9 => h9) rfl dX3_printConcept_41 ?_
          obtain ⟨g_45, h⟩ := g_n h
          refine va_iald (f := x_aP3) hx hb hK hP 2 0 rfl rfl g_45 dX3_printConcept_44 ?_
          refine lv_istore_n (lv' := [(3, .int ((x_aP3 ((x_iP4 - (1 : Int32))).toNatClampNeg))), (0, .ref (ad 0)), (2, .int v2)]) hx hb dX3_printConcept_45 rfl hl (by decide) rfl (fun ls hl => ?_)
          refine lv_iload_n hx hb dX3_printConcept_46 rfl (lv_at hl 0 rfl) ?_
          rcases Decidable.em ((x_aP3 ((x_iP4 - (1 : Int32))).toNatClampNeg) = (-4 : Int32)) with c0 | c0
          · have h := g_t h c0
            refine lv_tableIn (off := 59) (tgt := 106) hx hb dX3_printConcept_47 (by rw [c0]; decide) (by rw [c0]; decide) (by rw [c0]; rfl) (by decide) ?_
            refine lv_aload_n hx hb dX3_printConcept_106 rfl (lv_at hl 1 rfl) ?_
            refine lv_ldc2 (v := 28530) hx hb hown kc94 dX3_printConcept_107 ?_
            obtain ⟨q110, e110, h⟩ := g_b h
            refine callVvs (cc := cX3_printConcept) (w1 := zzP ad cy (ad 3) (us iP [(1, q110.1), (4, (x_iP4 - (1 : Int32)))]) (us aP [(0, q110.2), (3, x_aP3)]) iB lB aB iC aC) (As := [.long ((28530 : Int64))]) (rest := []) ⟨hx, hb, hml, hown, hts⟩ (c_P_putJoint l dC dI cy ad H.size N ((28530 : Int64)) ((us iP [(1, x_iP1), (4, (x_iP4 - (1 : Int32)))])) ((us aP [(0, x_aP0), (3, x_aP3)])) iB lB aB iC aC q110 e110) (cwV 1 hts (goodV m_ml_X3_91 m_im_X3_putJoint m_se_X3_putJoint m_in_X3 m_cd_X3_putJoint) rfl rfl rfl (by decide +kernel) ⟨Nat.le_of_ble_eq_true rfl, Nat.le_of_ble_eq_true rfl⟩) hN hK hP hD hS hA rfl 0 rfl rfl rfl hl.1 rfl (Nat.le_of_ble_eq_true rfl) dX3_printConcept_110 ⟨Nat.zero_le _, Nat.zero_le _⟩ (fun H locs hP hD hS => ?_)
            refine lv_goto (tgt := 121) hx hb dX3_printConcept_113 (by decide) ?_
            refine lv_iinc (v := (v2 + (1 : Int32))) (lv' := [(2, .int ((v2 + (1 : Int32)))), (3, .int ((x_aP3 ((x_iP4 - (1 : Int32))).toNatClampNeg))), (0, .ref (ad 0))]) hx hb dX3_printConcept_121 hl (k := 2) rfl rfl (by decide) rfl (fun ls hl => ?_)
            refine lv_goto (tgt := 12) hx hb dX3_printConcept_124 (by decide) ?_
            exact ih ((v2 + (1 : Int32))) q110.1 ((x_iP4 - (1 : Int32))) q110.2 x_aP3 H locs ls h hP hD hS (lv_sub hl [2, 0] rfl)
          · have h := g_f h c0
            rcases Decidable.em ((x_aP3 ((x_iP4 - (1 : Int32))).toNatClampNeg) = (-3 : Int32)) with c1 | c1
            · have h := g_t h c1
              refine lv_tableIn (off := 49) (tgt := 96) hx hb dX3_printConcept_47 (by rw [c1]; decide) (by rw [c1]; decide) (by rw [c1]; rfl) (by decide) ?_
              refine lv_aload_n hx hb dX3_printConcept_96 rfl (lv_at hl 1 rfl) ?_
              refine lv_ldc2 (v := 6385252) hx hb hown kc89 dX3_printConcept_97 ?_
              obtain ⟨q100, e100, h⟩ := g_b h
              refine callVvs (cc := cX3_printConcept) (w1 := zzP ad cy (ad 3) (us iP [(1, q100.1), (4, (x_iP4 - (1 : Int32)))]) (us aP [(0, q100.2), (3, x_aP3)]) iB lB aB iC aC) (As := [.long ((6385252 : Int64))]) (rest := []) ⟨hx, hb, hml, hown, hts⟩ (c_P_putJoint l dC dI cy ad H.size N ((6385252 : Int64)) ((us iP [(1, x_iP1), (4, (x_iP4 - (1 : Int32)))])) ((us aP [(0, x_aP0), (3, x_aP3)])) iB lB aB iC aC q100 e100) (cwV 1 hts (goodV m_ml_X3_91 m_im_X3_putJoint m_se_X3_putJoint m_in_X3 m_cd_X3_putJoint) rfl rfl rfl (by decide +kernel) ⟨Nat.le_of_ble_eq_true rfl, Nat.le_of_ble_eq_true rfl⟩) hN hK hP hD hS hA rfl 0 rfl rfl rfl hl.1 rfl (Nat.le_of_ble_eq_true rfl) dX3_printConcept_100 ⟨Nat.zero_le _, Nat.zero_le _⟩ (fun H locs hP hD hS => ?_)
              refine lv_goto (tgt := 121) hx hb dX3_printConcept_103 (by decide) ?_
              refine lv_iinc (v := (v2 + (1 : Int32))) (lv' := [(2, .int ((v2 + (1 : Int32)))), (3, .int ((x_aP3 ((x_iP4 - (1 : Int32))).toNatClampNeg))), (0, .ref (ad 0))]) hx hb dX3_printConcept_121 hl (k := 2) rfl rfl (by decide) rfl (fun ls hl => ?_)
              refine lv_goto (tgt := 12) hx hb dX3_printConcept_124 (by decide) ?_
              exact ih ((v2 + (1 : Int32))) q100.1 ((x_iP4 - (1 : Int32))) q100.2 x_aP3 H locs ls h hP hD hS (lv_sub hl [2, 0] rfl)
            · have h := g_f h c1
              rcases Decidable.em ((x_aP3 ((x_iP4 - (1 : Int32))).toNatClampNeg) = (-2 : Int32)) with c2 | c2
              · have h := g_t h c2
                refine lv_tableIn (off := 39) (tgt := 86) hx hb dX3_printConcept_47 (by rw [c2]; decide) (by rw [c2]; decide) (by rw [c2]; rfl) (by decide) ?_
                refine lv_aload_n hx hb dX3_printConcept_86 rfl (lv_at hl 1 rfl) ?_
                refine lv_ldc2 (v := 41) hx hb hown kc87 dX3_printConcept_87 ?_
                obtain ⟨q90, e90, h⟩ := g_b h
                refine callVvs (cc := cX3_printConcept) (w1 := zzP ad cy (ad 3) (us iP [(1, q90.1), (4, (x_iP4 - (1 : Int32)))]) (us aP [(0, q90.2), (3, x_aP3)]) iB lB aB iC aC) (As := [.long ((41 : Int64))]) (rest := []) ⟨hx, hb, hml, hown, hts⟩ (c_P_putWord l dC dI cy ad H.size N ((41 : Int64)) ((us iP [(1, x_iP1), (4, (x_iP4 - (1 : Int32)))])) ((us aP [(0, x_aP0), (3, x_aP3)])) iB lB aB iC aC q90 e90) (cwV 1 hts (goodV m_ml_X3_42 m_im_X3_putWord m_se_X3_putWord m_in_X3 m_cd_X3_putWord) rfl rfl rfl (by decide +kernel) ⟨Nat.le_of_ble_eq_true rfl, Nat.le_of_ble_eq_true rfl⟩) hN hK hP hD hS hA rfl 0 rfl rfl rfl hl.1 rfl (Nat.le_of_ble_eq_true rfl) dX3_printConcept_90 ⟨Nat.zero_le _, Nat.zero_le _⟩ (fun H locs hP hD hS => ?_)
                refine lv_goto (tgt := 121) hx hb dX3_printConcept_93 (by decide) ?_
                refine lv_iinc (v := (v2 + (1 : Int32))) (lv' := [(2, .int ((v2 + (1 : Int32)))), (3, .int ((x_aP3 ((x_iP4 - (1 : Int32))).toNatClampNeg))), (0, .ref (ad 0))]) hx hb dX3_printConcept_121 hl (k := 2) rfl rfl (by decide) rfl (fun ls hl => ?_)
                refine lv_goto (tgt := 12) hx hb dX3_printConcept_124 (by decide) ?_
                exact ih ((v2 + (1 : Int32))) q90.1 ((x_iP4 - (1 : Int32))) q90.2 x_aP3 H locs ls h hP hD hS (lv_sub hl [2, 0] rfl)
              · have h := g_f h c2
                rcases Decidable.em ((x_aP3 ((x_iP4 - (1 : Int32))).toNatClampNeg) = (-1 : Int32)) with c3 | c3
                · have h := g_t h c3
                  refine lv_tableIn (off := 29) (tgt := 76) hx hb dX3_printConcept_47 (by rw [c3]; decide) (by rw [c3]; decide) (by rw [c3]; rfl) (by decide) ?_
                  refine lv_aload_n hx hb dX3_printConcept_76 rfl (lv_at hl 1 rfl) ?_
                  refine lv_ldc2 (v := 40) hx hb hown kc85 dX3_printConcept_77 ?_
                  obtain ⟨q80, e80, h⟩ := g_b h
                  refine callVvs (cc := cX3_printConcept) (w1 := zzP ad cy (ad 3) (us iP [(1, q80.1), (4, (x_iP4 - (1 : Int32)))]) (us aP [(0, q80.2), (3, x_aP3)]) iB lB aB iC aC) (As := [.long ((40 : Int64))]) (rest := []) ⟨hx, hb, hml, hown, hts⟩ (c_P_putWord l dC dI cy ad H.size N ((40 : Int64)) ((us iP [(1, x_iP1), (4, (x_iP4 - (1 : Int32)))])) ((us aP [(0, x_aP0), (3, x_aP3)])) iB lB aB iC aC q80 e80) (cwV 1 hts (goodV m_ml_X3_42 m_im_X3_putWord m_se_X3_putWord m_in_X3 m_cd_X3_putWord) rfl rfl rfl (by decide +kernel) ⟨Nat.le_of_ble_eq_true rfl, Nat.le_of_ble_eq_true rfl⟩) hN hK hP hD hS hA rfl 0 rfl rfl rfl hl.1 rfl (Nat.le_of_ble_eq_true rfl) dX3_printConcept_80 ⟨Nat.zero_le _, Nat.zero_le _⟩ (fun H locs hP hD hS => ?_)
                  refine lv_goto (tgt := 121) hx hb dX3_printConcept_83 (by decide) ?_
                  refine lv_iinc (v := (v2 + (1 : Int32))) (lv' := [(2, .int ((v2 + (1 : Int32)))), (3, .int ((x_aP3 ((x_iP4 - (1 : Int32))).toNatClampNeg))), (0, .ref (ad 0))]) hx hb dX3_printConcept_121 hl (k := 2) rfl rfl (by decide) rfl (fun ls hl => ?_)
                  refine lv_goto (tgt := 12) hx hb dX3_printConcept_124 (by decide) ?_
                  exact ih ((v2 + (1 : Int32))) q80.1 ((x_iP4 - (1 : Int32))) q80.2 x_aP3 H locs ls h hP hD hS (lv_sub hl [2, 0] rfl)
                · have h := g_f h c3
                  refine lv_tableOut (tgt := 116) hx hb dX3_printConcept_47 (by have z0 := tne (n := -4) (by decide) c0; have z1 := tne (n := -3) (by decide) c1; have z2 := tne (n := -2) (by decide) c2; have z3 := tne (n := -1) (by decide) c3; omega) (by decide) ?_
                  refine lv_aload_n hx hb dX3_printConcept_116 rfl (lv_at hl 1 rfl) ?_
                  refine lv_iload_n hx hb dX3_printConcept_117 rfl (lv_at hl 0 rfl) ?_
                  obtain ⟨q118, e118, h⟩ := g_b h
                  refine callVvs (cc := cX3_printConcept) (w1 := zzP ad cy (ad 3) (us iP [(1, q118.1), (4, q118.2.1)]) (us aP [(0, q118.2.2.1), (3, q118.2.2.2)]) iB lB aB iC aC) (As := [.int ((x_aP3 ((x_iP4 - (1 : Int32))).toNatClampNeg))]) (rest := []) ⟨hx, hb, hml, hown, hts⟩ (c_P_printNode l dC dI cy ad H.size N ((x_aP3 ((x_iP4 - (1 : Int32))).toNatClampNeg)) ((us iP [(1, x_iP1), (4, (x_iP4 - (1 : Int32)))])) ((us aP [(0, x_aP0), (3, x_aP3)])) iB lB aB iC aC q118 e118) (cwV 1 hts (goodV m_ml_X3_96 m_im_X3_printNode m_se_X3_printNode m_in_X3 m_cd_X3_printNode) rfl rfl rfl (by decide +kernel) ⟨Nat.le_of_ble_eq_true rfl, Nat.le_of_ble_eq_true rfl⟩) hN hK hP hD hS hA rfl 0 rfl rfl rfl hl.1 rfl (Nat.le_of_ble_eq_true rfl) dX3_printConcept_118 ⟨Nat.zero_le _, Nat.zero_le _⟩ (fun H locs hP hD hS => ?_)
                  refine lv_iinc (v := (v2 + (1 : Int32))) (lv' := [(2, .int ((v2 + (1 : Int32)))), (3, .int ((x_aP3 ((x_iP4 - (1 : Int32))).toNatClampNeg))), (0, .ref (ad 0))]) hx hb dX3_printConcept_121 hl (k := 2) rfl rfl (by decide) rfl (fun ls hl => ?_)
                  refine lv_goto (tgt := 12) hx hb dX3_printConcept_124 (by decide) ?_
                  exact ih ((v2 + (1 : Int32))) q118.1 q118.2.1 q118.2.2.1 q118.2.2.2 H locs ls h hP hD hS (lv_sub hl [2, 0] rfl)
  intro H locs hP hD hS
  unfold f_P_printConcept at h
  refine lv_aload_n hx hb dX3_printConcept_0 rfl (lv_at hl 0 rfl) ?_
  refine lv_iconst (v := 0) hx hb dX3_printConcept_1 (by decide) ?_
  refine va_put (D := (dC, dI)) (ci := 3) (v := .int ((0 : Int32))) (ty := .int) (C := RX3) (T := TX3) (N := 5) hx hb hts ki3 tyX3 tyX3_ok nmX3 hown hK hP hD hS 0 rfl rfl 4 (by decide) kf79 (fun _ h9 => h9) rfl (by decide +kernel) rfl rfl (Nat.le_of_ble_eq_true rfl) dX3_printConcept_2 (fun H locs hP hD hS => ?_)
  have hP : va_P (dC, dI) vwCl (zzP ad cy (ad 3) (us iP [(4, (0 : Int32))]) aP iB lB aB iC aC) H := Eq.mp (congrArg (fun w => va_P (dC, dI) vwCl w H) (sfP_iP4 ad cy (ad 3) iP aP iB lB aB iC aC ((0 : Int32)))) hP
  have hD : va_D A (zzP ad cy (ad 3) (us iP [(4, (0 : Int32))]) aP iB lB aB iC aC) := Eq.mp (congrArg (fun w => va_D A w) (sfP_iP4 ad cy (ad 3) iP aP iB lB aB iC aC ((0 : Int32)))) hD
  refine lv_aload_n hx hb dX3_printConcept_5 rfl (lv_at hl 0 rfl) ?_
  refine lv_iload_n hx hb dX3_printConcept_6 rfl (lv_at hl 1 rfl) ?_
  obtain ⟨q7, e7, h⟩ := g_b h
  refine callVvs (cc := cX3_printConcept) (w1 := zzP ad cy (ad 3) (us iP [(4, q7.1)]) (us aP [(3, q7.2)]) iB lB aB iC aC) (As := [.int a1]) (rest := []) ⟨hx, hb, hml, hown, hts⟩ (c_P_await l dC dI cy ad H.size a1 ((us iP [(4, (0 : Int32))])) aP iB lB aB iC aC q7 e7) (cwV 1 hts (goodV m_ml_X3_82 m_im_X3_await m_se_X3_await m_in_X3 m_cd_X3_await) rfl rfl rfl (by decide +kernel) ⟨Nat.le_of_ble_eq_true rfl, Nat.le_of_ble_eq_true rfl⟩) hN hK hP hD hS hA rfl 0 rfl rfl rfl hl.1 rfl (Nat.le_of_ble_eq_true rfl) dX3_printConcept_7 ⟨Nat.zero_le _, Nat.zero_le _⟩ (fun H locs hP hD hS => ?_)
  refine lv_iconst (v := 0) hx hb dX3_printConcept_10 (by decide) ?_
  refine lv_istore_n (lv' := [(2, .int ((0 : Int32))), (0, .ref (ad 0)), (1, .int a1)]) hx hb dX3_printConcept_11 rfl hl (by decide) rfl (fun ls hl => ?_)
  exact B12 N ((0 : Int32)) (iP 1) q7.1 (aP 0) q7.2 H locs ls h hP hD hS (lv_sub hl [1, 0] rfl)
