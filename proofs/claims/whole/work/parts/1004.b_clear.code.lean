def f_B_clear_39 (N : Nat) (iB1 : Int32) (iB3 : Int32) (iB5 : Int32) (iB7 : Int32) (iB9 : Int32) (iB11 : Int32) (iB13 : Int32) (iB14 : Int32) (aB12 : Nat → Int32) (iC4 : Int32) (iC9 : Int32) (x_iB1 : Int32) (x_iB3 : Int32) (x_iB5 : Int32) (x_iB7 : Int32) (x_iB9 : Int32) (x_iB11 : Int32) (x_iC4 : Int32) (x_iC9 : Int32) : Nat → Int32 → (Nat → Int32) → Option (Int32 × Int32 × Int32 × Int32 × Int32 × Int32 × Int32 × Int32 × (Nat → Int32) × Int32 × Int32)
  | 0, _, _ => none
  | n + 1, v1, x_aB12 => if (3 : Int32) ≤ v1 then (some (x_iB1, x_iB3, x_iB5, x_iB7, x_iB9, x_iB11, (0 : Int32), (0 : Int32), x_aB12, x_iC4, x_iC9)) else (if v1 < 0 ∨ 3 ≤ v1.toNatClampNeg then none else (f_B_clear_39 N iB1 iB3 iB5 iB7 iB9 iB11 iB13 iB14 aB12 iC4 iC9 x_iB1 x_iB3 x_iB5 x_iB7 x_iB9 x_iB11 x_iC4 x_iC9 n ((v1 + (1 : Int32))) ((upd x_aB12 v1.toNatClampNeg ((0 : Int32))))))
def f_B_clear (N : Nat) (iB1 : Int32) (iB3 : Int32) (iB5 : Int32) (iB7 : Int32) (iB9 : Int32) (iB11 : Int32) (iB13 : Int32) (iB14 : Int32) (aB12 : Nat → Int32) (iC4 : Int32) (iC9 : Int32) : Option (Int32 × Int32 × Int32 × Int32 × Int32 × Int32 × Int32 × Int32 × (Nat → Int32) × Int32 × Int32) := (f_C_clear iC4 iC9).bind fun q4 => (f_B_clear_39 N iB1 iB3 iB5 iB7 iB9 iB11 iB13 iB14 aB12 iC4 iC9 ((0 : Int32)) ((0 : Int32)) ((0 : Int32)) ((0 : Int32)) ((0 : Int32)) ((0 : Int32)) q4.1 q4.2 N ((0 : Int32)) aB12)
set_option maxHeartbeats 8000000 in
set_option maxRecDepth 100000 in
theorem c_B_clear (l : Launch) (dC : Nat → ClassId) (dI : Nat → Nat → Nat) (cy : Nat → ClassId) (ad : Nat → Nat) (sz : Nat) (N : Nat) (iB : Nat → Int32) (lB : Nat → Nat → Int64) (aB : Nat → Nat → Int32) (iC : Nat → Int32) (aC : Nat → Nat → Int32) (q : Int32 × Int32 × Int32 × Int32 × Int32 × Int32 × Int32 × Int32 × (Nat → Int32) × Int32 × Int32) (h : f_B_clear N (iB 1) (iB 3) (iB 5) (iB 7) (iB 9) (iB 11) (iB 13) (iB 14) (aB 12) (iC 4) (iC 9) = some q) : Met l yX0_clear wsX0_clear ({ frames := 1, cells := 0, slots := 0, locals := 20 } : Room) (cP (dC, dI) cy [.ref (ad 0)] (zzB ad cy iB lB aB iC aC) sz) (cQv (dC, dI) cy (zzB ad cy (us iB [(1, q.1), (3, q.2.1), (5, q.2.2.1), (7, q.2.2.2.1), (9, q.2.2.2.2.1), (11, q.2.2.2.2.2.1), (13, q.2.2.2.2.2.2.1), (14, q.2.2.2.2.2.2.2.1)]) lB (us aB [(12, q.2.2.2.2.2.2.2.2.1)]) (us iC [(4, q.2.2.2.2.2.2.2.2.2.1), (9, q.2.2.2.2.2.2.2.2.2.2)]) aC) (va_A (zzB ad cy iB lB aB iC aC) sz)) 0 0 (va_A (zzB ad cy iB lB aB iC aC) sz) := by
  refine Met.ofW (cc := cX0_clear) (maxL := 2) (ret := none) (by decide) rfl ?_
  intro p e s m args below meth c s₁ B hml hv
  obtain ⟨hav, hsz, hP, hK, hD0, hN⟩ := hv
  have hx := B.exec
  have hb := B.bytes
  have hr := B.returns
  have hts := atoms_spec (ws := wsX0_clear) B.pre
  have hown : s.vm.findClass RX0 = some m.cls := findClass_of_methodNamed B.named
  have hlocks := B.notSynchronized
  subst hsz
  have hD := hD0.self (sz := s.heap.size)
  generalize hAe : va_A (zzB ad cy iB lB aB iC aC) s.heap.size = A at hD ⊢
  have hA : ∀ q : Nat, s.heap.size ≤ q → A q := fun q h => by rw [← hAe]; exact Or.inr h
  have hS : va_S A s.heap s.heap [] := va_S.rf
  generalize hWQ : (zzB ad cy (us iB [(1, q.1), (3, q.2.1), (5, q.2.2.1), (7, q.2.2.2.1), (9, q.2.2.2.2.1), (11, q.2.2.2.2.2.1), (13, q.2.2.2.2.2.2.1), (14, q.2.2.2.2.2.2.2.1)]) lB (us aB [(12, q.2.2.2.2.2.2.2.2.1)]) (us iC [(4, q.2.2.2.2.2.2.2.2.2.1), (9, q.2.2.2.2.2.2.2.2.2.2)]) aC) = WQ
  generalize hQQ : MQ below (cQv (dC, dI) cy WQ A) args s 0 0 A = QQ
  have hl := lv_entry ([.ref (ad 0)] : List Value) (n := 2) (Nat.le_of_ble_eq_true rfl)
  have hfr := lg_entry_eq m ([.ref (ad 0)] : List Value) 2
  rw [← hav] at hfr
  rw [hfr]
  clear hfr hav
  generalize (lg_sl ([.ref (ad 0)] : List Value) ++ List.replicate (2 - (lg_sl ([.ref (ad 0)] : List Value)).length) Slot.unset).toArray = ls at hl ⊢
  have hl : lv_has ls 2 [(0, .ref (ad 0))] := hl
  have kf60 := hts _ (List.mem_cons_of_mem _ m_fl_X0_60)
  have ki0 := (fun w h => List.mem_cons_of_mem _ (i_X0 w h) : ∀ w ∈ u_ws RX0 TX0 15, w ∈ wsX0_clear)
  have kf63 := hts _ (List.mem_cons_of_mem _ m_fl_X0_63)
  have kf35 := hts _ (List.mem_cons_of_mem _ m_fl_X0_35)
  have kf12 := hts _ (List.mem_cons_of_mem _ m_fl_X0_12)
  have kf41 := hts _ (List.mem_cons_of_mem _ m_fl_X0_41)
  have kf45 := hts _ (List.mem_cons_of_mem _ m_fl_X0_45)
  have kf48 := hts _ (List.mem_cons_of_mem _ m_fl_X0_48)
  have kf51 := hts _ (List.mem_cons_of_mem _ m_fl_X0_51)
  have kf54 := hts _ (List.mem_cons_of_mem _ m_fl_X0_54)
  have kf57 := hts _ (List.mem_cons_of_mem _ m_fl_X0_57)
  refine (?_ : ∀ (H : Heap) (locs : List Loc), va_P (dC, dI) vwCl (zzB ad cy iB lB aB iC aC) H → va_D A (zzB ad cy iB lB aB iC aC) → va_S A s.heap H locs → W p l e ({ frames := 1, cells := 0, slots := 0, locals := 20 } : Room) s m args below meth c H locs 0 0 QQ (F0 m 0 ls [])) s.heap [] hP hD hS
  clear hP hD hS
  have B39 : ∀ (n : Nat) (x_iB1 : Int32) (x_iB3 : Int32) (x_iB5 : Int32) (x_iB7 : Int32) (x_iB9 : Int32) (x_iB11 : Int32) (x_iC4 : Int32) (x_iC9 : Int32) (v1 : Int32) (x_aB12 : Nat → Int32) (H : Heap) (locs : List Loc) (ls : Array Slot), f_B_clear_39 N (iB 1) (iB 3) (iB 5) (iB 7) (iB 9) (iB 11) (iB 13) (iB 14) (aB 12) (iC 4) (iC 9) x_iB1 x_iB3 x_iB5 x_iB7 x_iB9 x_iB11 x_iC4 x_iC9 n v1 x_aB12 = some q → va_P (dC, dI) vwCl (zzB ad cy (us iB [(1, x_iB1), (3, x_iB3), (5, x_iB5), (7, x_iB7), (9, x_iB9), (11, x_iB11)]) lB (us aB [(12, x_aB12)]) (us iC [(4, x_iC4), (9, x_iC9)]) aC) H → va_D A (zzB ad cy (us iB [(1, x_iB1), (3, x_iB3), (5, x_iB5), (7, x_iB7), (9, x_iB9), (11, x_iB11)]) lB (us aB [(12, x_aB12)]) (us iC [(4, x_iC4), (9, x_iC9)]) aC) → va_S A s.heap H locs → lv_has ls 2 [(0, .ref (ad 0)), (1, .int v1)] → W p l e ({ frames := 1, cells := 0, slots := 0, locals := 20 } : Room) s m args below meth c H locs 0 0 QQ (F0 m 39 ls []) := by
    intro n
    induction n with
    | zero =>
      intro x_iB1 x_iB3 x_iB5 x_iB7 x_iB9 x_iB11 x_iC4 x_iC9 v1 x_aB12 H locs ls h hP hD hS hl
      rw [f_B_clear_39] at h
      cases h
    | succ n ih =>
      intro x_iB1 x_iB3 x_iB5 x_iB7 x_iB9 x_iB11 x_iC4 x_iC9 v1 x_aB12 H locs ls h hP hD hS hl
      rw [f_B_clear_39] at h
      refine lv_iload_n hx hb dX0_clear_39 rfl (lv_at hl 1 rfl) ?_
      refine lv_iconst (v := 3) hx hb dX0_clear_40 (by decide) ?_
      refine lv_icmp_ge (tgt := 57) hx hb dX0_clear_41 (by decide) (fun cz => ?_) (fun cz => ?_)
      · have h := g_t h cz
        refine lv_aload_n hx hb dX0_clear_57 rfl (lv_at hl 0 rfl) ?_
        refine lv_iconst (v := 0) hx hb dX0_clear_58 (by decide) ?_
        refine va_put (D := (dC, dI)) (ci := 0) (v := .int ((0 : Int32))) (ty := .int) (C := RX0) (T := TX0) (N := 15) hx hb hts ki0 tyX0 tyX0_ok nmX0 hown hK hP hD hS 0 rfl rfl 13 (by decide) kf60 (fun _ h9 => h9) rfl (by decide +kernel) rfl rfl (Nat.le_of_ble_eq_true rfl) dX0_clear_59 (fun H locs hP hD hS => ?_)
        have hP : va_P (dC, dI) vwCl (zzB ad cy (us iB [(1, x_iB1), (3, x_iB3), (5, x_iB5), (7, x_iB7), (9, x_iB9), (11, x_iB11), (13, (0 : Int32))]) lB (us aB [(12, x_aB12)]) (us iC [(4, x_iC4), (9, x_iC9)]) aC) H := Eq.mp (congrArg (fun w => va_P (dC, dI) vwCl w H) (stB_iB13 ad cy iB lB (us aB [(12, x_aB12)]) (us iC [(4, x_iC4), (9, x_iC9)]) aC [(1, x_iB1), (3, x_iB3), (5, x_iB5), (7, x_iB7), (9, x_iB9), (11, x_iB11)] ((0 : Int32)))) hP
        have hD : va_D A (zzB ad cy (us iB [(1, x_iB1), (3, x_iB3), (5, x_iB5), (7, x_iB7), (9, x_iB9), (11, x_iB11), (13, (0 : Int32))]) lB (us aB [(12, x_aB12)]) (us iC [(4, x_iC4), (9, x_iC9)]) aC) := Eq.mp (congrArg (fun w => va_D A w) (stB_iB13 ad cy iB lB (us aB [(12, x_aB12)]) (us iC [(4, x_iC4), (9, x_iC9)]) aC [(1, x_iB1), (3, x_iB3), (5, x_iB5), (7, x_iB7), (9, x_iB9), (11, x_iB11)] ((0 : Int32)))) hD
        refine lv_aload_n hx hb dX0_clear_62 rfl (lv_at hl 0 rfl) ?_
        refine lv_iconst (v := 0) hx hb dX0_clear_63 (by decide) ?_
        refine va_put (D := (dC, dI)) (ci := 0) (v := .int ((0 : Int32))) (ty := .int) (C := RX0) (T := TX0) (N := 15) hx hb hts ki0 tyX0 tyX0_ok nmX0 hown hK hP hD hS 0 rfl rfl 14 (by decide) kf63 (fun _ h9 => h9) rfl (by decide +kernel) rfl rfl (Nat.le_of_ble_eq_true rfl) dX0_clear_64 (fun H locs hP hD hS => ?_)
        have hP : va_P (dC, dI) vwCl (zzB ad cy (us iB [(1, x_iB1), (3, x_iB3), (5, x_iB5), (7, x_iB7), (9, x_iB9), (11, x_iB11), (13, (0 : Int32)), (14, (0 : Int32))]) lB (us aB [(12, x_aB12)]) (us iC [(4, x_iC4), (9, x_iC9)]) aC) H := Eq.mp (congrArg (fun w => va_P (dC, dI) vwCl w H) (stB_iB14 ad cy iB lB (us aB [(12, x_aB12)]) (us iC [(4, x_iC4), (9, x_iC9)]) aC [(1, x_iB1), (3, x_iB3), (5, x_iB5), (7, x_iB7), (9, x_iB9), (11, x_iB11), (13, (0 : Int32))] ((0 : Int32)))) hP
        have hD : va_D A (zzB ad cy (us iB [(1, x_iB1), (3, x_iB3), (5, x_iB5), (7, x_iB7), (9, x_iB9), (11, x_iB11), (13, (0 : Int32)), (14, (0 : Int32))]) lB (us aB [(12, x_aB12)]) (us iC [(4, x_iC4), (9, x_iC9)]) aC) := Eq.mp (congrArg (fun w => va_D A w) (stB_iB14 ad cy iB lB (us aB [(12, x_aB12)]) (us iC [(4, x_iC4), (9, x_iC9)]) aC [(1, x_iB1), (3, x_iB3), (5, x_iB5), (7, x_iB7), (9, x_iB9), (11, x_iB11), (13, (0 : Int32))] ((0 : Int32)))) hD
        have h' := Option.some.inj h
        rw [← hQQ]
        exact W.vret hx hb hr (fun t ht hW => ⟨⟨(), rfl, trivial, by rw [← hWQ, ← h', ht]; exact hP, va_K.moved hW.alike hK⟩, hS.F ht⟩) hS.2.2 dX0_clear_67
      · have h := g_f h cz
        refine lv_aload_n hx hb dX0_clear_44 rfl (lv_at hl 0 rfl) ?_
        refine va_get (D := (dC, dI)) (ci := 0) (v := .ref (ad 6)) (C := RX0) (T := TX0) (N := 15) hx hb hts ki0 hown hK hP 0 rfl rfl 12 (by decide) kf35 (fun _ h9 => h9) rfl dX0_clear_45 ?_
        refine lv_iload_n hx hb dX0_clear_48 rfl (lv_at hl 1 rfl) ?_
        refine lv_iconst (v := 0) hx hb dX0_clear_49 (by decide) ?_
        obtain ⟨g_1, h⟩ := g_n h
        refine va_iast (f := x_aB12) hx hb hK hP hD hS 6 0 rfl rfl g_1 dX0_clear_50 (fun H locs hP hD hS => ?_)
        have hP : va_P (dC, dI) vwCl (zzB ad cy (us iB [(1, x_iB1), (3, x_iB3), (5, x_iB5), (7, x_iB7), (9, x_iB9), (11, x_iB11)]) lB (us aB [(12, (upd x_aB12 v1.toNatClampNeg ((0 : Int32))))]) (us iC [(4, x_iC4), (9, x_iC9)]) aC) H := Eq.mp (congrArg (fun w => va_P (dC, dI) vwCl w H) (stB_aB12 ad cy (us iB [(1, x_iB1), (3, x_iB3), (5, x_iB5), (7, x_iB7), (9, x_iB9), (11, x_iB11)]) lB aB (us iC [(4, x_iC4), (9, x_iC9)]) aC [(12, x_aB12)] ((upd x_aB12 v1.toNatClampNeg ((0 : Int32)))))) hP
        have hD : va_D A (zzB ad cy (us iB [(1, x_iB1), (3, x_iB3), (5, x_iB5), (7, x_iB7), (9, x_iB9), (11, x_iB11)]) lB (us aB [(12, (upd x_aB12 v1.toNatClampNeg ((0 : Int32))))]) (us iC [(4, x_iC4), (9, x_iC9)]) aC) := Eq.mp (congrArg (fun w => va_D A w) (stB_aB12 ad cy (us iB [(1, x_iB1), (3, x_iB3), (5, x_iB5), (7, x_iB7), (9, x_iB9), (11, x_iB11)]) lB aB (us iC [(4, x_iC4), (9, x_iC9)]) aC [(12, x_aB12)] ((upd x_aB12 v1.toNatClampNeg ((0 : Int32)))))) hD
        refine lv_iinc (v := (v1 + (1 : Int32))) (lv' := [(1, .int ((v1 + (1 : Int32)))), (0, .ref (ad 0))]) hx hb dX0_clear_51 hl (k := 1) rfl rfl (by decide) rfl (fun ls hl => ?_)
        refine lv_goto (tgt := 39) hx hb dX0_clear_54 (by decide) ?_
        exact ih x_iB1 x_iB3 x_iB5 x_iB7 x_iB9 x_iB11 x_iC4 x_iC9 ((v1 + (1 : Int32))) ((upd x_aB12 v1.toNatClampNeg ((0 : Int32)))) H locs ls h hP hD hS (lv_sub hl [1, 0] rfl)
  intro H locs hP hD hS
  unfold f_B_clear at h
  refine lv_aload_n hx hb dX0_clear_0 rfl (lv_at hl 0 rfl) ?_
  refine va_get (D := (dC, dI)) (ci := 0) (v := .ref (ad 7)) (C := RX0) (T := TX0) (N := 15) hx hb hts ki0 hown hK hP 0 rfl rfl 0 (by decide) kf12 (fun _ h9 => h9) rfl dX0_clear_1 ?_
  obtain ⟨q4, e4, h⟩ := g_b h
  refine callVv (cc := cX0_clear) (ws' := zzB ad cy iB lB aB (us iC [(4, q4.1), (9, q4.2)]) aC) (As := []) (rest := []) ⟨hx, hb, hml, hown, hts⟩ (c_C_clear l dC dI cy (fun i => ad (i + 7)) H.size iC aC q4 e4) (cwV 0 hts (goodV m_ml_X0_38 m_im_X1_clear m_se_X1_clear m_in_X1 m_cd_X1_clear) rfl rfl rfl (by decide +kernel) ⟨Nat.le_of_ble_eq_true rfl, Nat.le_of_ble_eq_true rfl⟩) hN hK hP hD hS hA [7, 8, 9, 10, 11, 12, 13, 14, 15] [none, none, none, none, none, none, none, some 0, some 1, some 2, some 3, some 4, some 5, some 6, some 7, some 8] rfl rfl rfl rfl rfl rfl 7 rfl rfl rfl hl.1 rfl (Nat.le_of_ble_eq_true rfl) dX0_clear_4 ⟨Nat.zero_le _, Nat.zero_le _⟩ (fun H locs hP hD hS => ?_)
  refine lv_aload_n hx hb dX0_clear_7 rfl (lv_at hl 0 rfl) ?_
  refine lv_iconst (v := 0) hx hb dX0_clear_8 (by decide) ?_
  refine va_put (D := (dC, dI)) (ci := 0) (v := .int ((0 : Int32))) (ty := .int) (C := RX0) (T := TX0) (N := 15) hx hb hts ki0 tyX0 tyX0_ok nmX0 hown hK hP hD hS 0 rfl rfl 1 (by decide) kf41 (fun _ h9 => h9) rfl (by decide +kernel) rfl rfl (Nat.le_of_ble_eq_true rfl) dX0_clear_9 (fun H locs hP hD hS => ?_)
  have hP : va_P (dC, dI) vwCl (zzB ad cy (us iB [(1, (0 : Int32))]) lB aB (us iC [(4, q4.1), (9, q4.2)]) aC) H := Eq.mp (congrArg (fun w => va_P (dC, dI) vwCl w H) (sfB_iB1 ad cy iB lB aB (us iC [(4, q4.1), (9, q4.2)]) aC ((0 : Int32)))) hP
  have hD : va_D A (zzB ad cy (us iB [(1, (0 : Int32))]) lB aB (us iC [(4, q4.1), (9, q4.2)]) aC) := Eq.mp (congrArg (fun w => va_D A w) (sfB_iB1 ad cy iB lB aB (us iC [(4, q4.1), (9, q4.2)]) aC ((0 : Int32)))) hD
  refine lv_aload_n hx hb dX0_clear_12 rfl (lv_at hl 0 rfl) ?_
  refine lv_iconst (v := 0) hx hb dX0_clear_13 (by decide) ?_
  refine va_put (D := (dC, dI)) (ci := 0) (v := .int ((0 : Int32))) (ty := .int) (C := RX0) (T := TX0) (N := 15) hx hb hts ki0 tyX0 tyX0_ok nmX0 hown hK hP hD hS 0 rfl rfl 3 (by decide) kf45 (fun _ h9 => h9) rfl (by decide +kernel) rfl rfl (Nat.le_of_ble_eq_true rfl) dX0_clear_14 (fun H locs hP hD hS => ?_)
  have hP : va_P (dC, dI) vwCl (zzB ad cy (us iB [(1, (0 : Int32)), (3, (0 : Int32))]) lB aB (us iC [(4, q4.1), (9, q4.2)]) aC) H := Eq.mp (congrArg (fun w => va_P (dC, dI) vwCl w H) (stB_iB3 ad cy iB lB aB (us iC [(4, q4.1), (9, q4.2)]) aC [(1, (0 : Int32))] ((0 : Int32)))) hP
  have hD : va_D A (zzB ad cy (us iB [(1, (0 : Int32)), (3, (0 : Int32))]) lB aB (us iC [(4, q4.1), (9, q4.2)]) aC) := Eq.mp (congrArg (fun w => va_D A w) (stB_iB3 ad cy iB lB aB (us iC [(4, q4.1), (9, q4.2)]) aC [(1, (0 : Int32))] ((0 : Int32)))) hD
  refine lv_aload_n hx hb dX0_clear_17 rfl (lv_at hl 0 rfl) ?_
  refine lv_iconst (v := 0) hx hb dX0_clear_18 (by decide) ?_
  refine va_put (D := (dC, dI)) (ci := 0) (v := .int ((0 : Int32))) (ty := .int) (C := RX0) (T := TX0) (N := 15) hx hb hts ki0 tyX0 tyX0_ok nmX0 hown hK hP hD hS 0 rfl rfl 5 (by decide) kf48 (fun _ h9 => h9) rfl (by decide +kernel) rfl rfl (Nat.le_of_ble_eq_true rfl) dX0_clear_19 (fun H locs hP hD hS => ?_)
  have hP : va_P (dC, dI) vwCl (zzB ad cy (us iB [(1, (0 : Int32)), (3, (0 : Int32)), (5, (0 : Int32))]) lB aB (us iC [(4, q4.1), (9, q4.2)]) aC) H := Eq.mp (congrArg (fun w => va_P (dC, dI) vwCl w H) (stB_iB5 ad cy iB lB aB (us iC [(4, q4.1), (9, q4.2)]) aC [(1, (0 : Int32)), (3, (0 : Int32))] ((0 : Int32)))) hP
  have hD : va_D A (zzB ad cy (us iB [(1, (0 : Int32)), (3, (0 : Int32)), (5, (0 : Int32))]) lB aB (us iC [(4, q4.1), (9, q4.2)]) aC) := Eq.mp (congrArg (fun w => va_D A w) (stB_iB5 ad cy iB lB aB (us iC [(4, q4.1), (9, q4.2)]) aC [(1, (0 : Int32)), (3, (0 : Int32))] ((0 : Int32)))) hD
  refine lv_aload_n hx hb dX0_clear_22 rfl (lv_at hl 0 rfl) ?_
  refine lv_iconst (v := 0) hx hb dX0_clear_23 (by decide) ?_
  refine va_put (D := (dC, dI)) (ci := 0) (v := .int ((0 : Int32))) (ty := .int) (C := RX0) (T := TX0) (N := 15) hx hb hts ki0 tyX0 tyX0_ok nmX0 hown hK hP hD hS 0 rfl rfl 7 (by decide) kf51 (fun _ h9 => h9) rfl (by decide +kernel) rfl rfl (Nat.le_of_ble_eq_true rfl) dX0_clear_24 (fun H locs hP hD hS => ?_)
  have hP : va_P (dC, dI) vwCl (zzB ad cy (us iB [(1, (0 : Int32)), (3, (0 : Int32)), (5, (0 : Int32)), (7, (0 : Int32))]) lB aB (us iC [(4, q4.1), (9, q4.2)]) aC) H := Eq.mp (congrArg (fun w => va_P (dC, dI) vwCl w H) (stB_iB7 ad cy iB lB aB (us iC [(4, q4.1), (9, q4.2)]) aC [(1, (0 : Int32)), (3, (0 : Int32)), (5, (0 : Int32))] ((0 : Int32)))) hP
  have hD : va_D A (zzB ad cy (us iB [(1, (0 : Int32)), (3, (0 : Int32)), (5, (0 : Int32)), (7, (0 : Int32))]) lB aB (us iC [(4, q4.1), (9, q4.2)]) aC) := Eq.mp (congrArg (fun w => va_D A w) (stB_iB7 ad cy iB lB aB (us iC [(4, q4.1), (9, q4.2)]) aC [(1, (0 : Int32)), (3, (0 : Int32)), (5, (0 : Int32))] ((0 : Int32)))) hD
  refine lv_aload_n hx hb dX0_clear_27 rfl (lv_at hl 0 rfl) ?_
  refine lv_iconst (v := 0) hx hb dX0_clear_28 (by decide) ?_
  refine va_put (D := (dC, dI)) (ci := 0) (v := .int ((0 : Int32))) (ty := .int) (C := RX0) (T := TX0) (N := 15) hx hb hts ki0 tyX0 tyX0_ok nmX0 hown hK hP hD hS 0 rfl rfl 9 (by decide) kf54 (fun _ h9 => h9) rfl (by decide +kernel) rfl rfl (Nat.le_of_ble_eq_true rfl) dX0_clear_29 (fun H locs hP hD hS => ?_)
  have hP : va_P (dC, dI) vwCl (zzB ad cy (us iB [(1, (0 : Int32)), (3, (0 : Int32)), (5, (0 : Int32)), (7, (0 : Int32)), (9, (0 : Int32))]) lB aB (us iC [(4, q4.1), (9, q4.2)]) aC) H := Eq.mp (congrArg (fun w => va_P (dC, dI) vwCl w H) (stB_iB9 ad cy iB lB aB (us iC [(4, q4.1), (9, q4.2)]) aC [(1, (0 : Int32)), (3, (0 : Int32)), (5, (0 : Int32)), (7, (0 : Int32))] ((0 : Int32)))) hP
  have hD : va_D A (zzB ad cy (us iB [(1, (0 : Int32)), (3, (0 : Int32)), (5, (0 : Int32)), (7, (0 : Int32)), (9, (0 : Int32))]) lB aB (us iC [(4, q4.1), (9, q4.2)]) aC) := Eq.mp (congrArg (fun w => va_D A w) (stB_iB9 ad cy iB lB aB (us iC [(4, q4.1), (9, q4.2)]) aC [(1, (0 : Int32)), (3, (0 : Int32)), (5, (0 : Int32)), (7, (0 : Int32))] ((0 : Int32)))) hD
  refine lv_aload_n hx hb dX0_clear_32 rfl (lv_at hl 0 rfl) ?_
  refine lv_iconst (v := 0) hx hb dX0_clear_33 (by decide) ?_
  refine va_put (D := (dC, dI)) (ci := 0) (v := .int ((0 : Int32))) (ty := .int) (C := RX0) (T := TX0) (N := 15) hx hb hts ki0 tyX0 tyX0_ok nmX0 hown hK hP hD hS 0 rfl rfl 11 (by decide) kf57 (fun _ h9 => h9) rfl (by decide +kernel) rfl rfl (Nat.le_of_ble_eq_true rfl) dX0_clear_34 (fun H locs hP hD hS => ?_)
  have hP : va_P (dC, dI) vwCl (zzB ad cy (us iB [(1, (0 : Int32)), (3, (0 : Int32)), (5, (0 : Int32)), (7, (0 : Int32)), (9, (0 : Int32)), (11, (0 : Int32))]) lB aB (us iC [(4, q4.1), (9, q4.2)]) aC) H := Eq.mp (congrArg (fun w => va_P (dC, dI) vwCl w H) (stB_iB11 ad cy iB lB aB (us iC [(4, q4.1), (9, q4.2)]) aC [(1, (0 : Int32)), (3, (0 : Int32)), (5, (0 : Int32)), (7, (0 : Int32)), (9, (0 : Int32))] ((0 : Int32)))) hP
  have hD : va_D A (zzB ad cy (us iB [(1, (0 : Int32)), (3, (0 : Int32)), (5, (0 : Int32)), (7, (0 : Int32)), (9, (0 : Int32)), (11, (0 : Int32))]) lB aB (us iC [(4, q4.1), (9, q4.2)]) aC) := Eq.mp (congrArg (fun w => va_D A w) (stB_iB11 ad cy iB lB aB (us iC [(4, q4.1), (9, q4.2)]) aC [(1, (0 : Int32)), (3, (0 : Int32)), (5, (0 : Int32)), (7, (0 : Int32)), (9, (0 : Int32))] ((0 : Int32)))) hD
  refine lv_iconst (v := 0) hx hb dX0_clear_37 (by decide) ?_
  refine lv_istore_n (lv' := [(1, .int ((0 : Int32))), (0, .ref (ad 0))]) hx hb dX0_clear_38 rfl hl (by decide) rfl (fun ls hl => ?_)
  exact B39 N ((0 : Int32)) ((0 : Int32)) ((0 : Int32)) ((0 : Int32)) ((0 : Int32)) ((0 : Int32)) q4.1 q4.2 ((0 : Int32)) (aB 12) H locs ls h hP hD hS (lv_sub hl [1, 0] rfl)
