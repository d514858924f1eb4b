def f_B_addOrder_59 (N : Nat) (iB7 : Int32) (iB14 : Int32) (aB6 : Nat → Int32) (aB12 : Nat → Int32) (k37 : Int32 → (Nat → Int32) → Option (Int32 × Int32 × (Nat → Int32) × (Nat → Int32))) (v1 : Int32) (v3 : Int32) (v4 : Int32) (x_iB7 : Int32) (x_iB14 : Int32) (x_aB6 : Nat → Int32) (x_aB12 : Nat → Int32) : Option (Int32 × Int32 × (Nat → Int32) × (Nat → Int32)) := if v4 < 0 ∨ 3 ≤ v4.toNatClampNeg then none else (k37 ((v4 + (1 : Int32))) ((upd x_aB12 v4.toNatClampNeg (((x_aB12 v4.toNatClampNeg) ||| v3)))))
def f_B_addOrder_37 (N : Nat) (iB7 : Int32) (iB14 : Int32) (aB6 : Nat → Int32) (aB12 : Nat → Int32) (v1 : Int32) (v3 : Int32) (x_iB7 : Int32) (x_iB14 : Int32) (x_aB6 : Nat → Int32) : Nat → Int32 → (Nat → Int32) → Option (Int32 × Int32 × (Nat → Int32) × (Nat → Int32))
  | 0, _, _ => none
  | n + 1, v4, x_aB12 => if (3 : Int32) ≤ v4 then (some (x_iB7, x_iB14, x_aB6, x_aB12)) else (if v4 = v1 then (f_B_addOrder_59 N iB7 iB14 aB6 aB12 (f_B_addOrder_37 N iB7 iB14 aB6 aB12 v1 v3 x_iB7 x_iB14 x_aB6 n) v1 v3 v4 x_iB7 x_iB14 x_aB6 x_aB12) else ((f_B_isRoleUnder v4 v1 x_aB12).bind fun q53 => (if q53 = 0 then (f_B_addOrder_37 N iB7 iB14 aB6 aB12 v1 v3 x_iB7 x_iB14 x_aB6 n ((v4 + (1 : Int32))) x_aB12) else (f_B_addOrder_59 N iB7 iB14 aB6 aB12 (f_B_addOrder_37 N iB7 iB14 aB6 aB12 v1 v3 x_iB7 x_iB14 x_aB6 n) v1 v3 v4 x_iB7 x_iB14 x_aB6 x_aB12))))
def f_B_addOrder (N : Nat) (a1 : Int32) (a2 : Int32) (iB7 : Int32) (iB14 : Int32) (aB6 : Nat → Int32) (aB12 : Nat → Int32) : Option (Int32 × Int32 × (Nat → Int32) × (Nat → Int32)) := (f_B_addStatement ((3 : Int32)) a1 a2 iB7 aB6).bind fun q4 => ((f_B_rolesAbove a2 aB12).bind fun q29 => (f_B_addOrder_37 N iB7 iB14 aB6 aB12 a1 ((((1 : Int32) <<< (a2 &&& 31)) ||| q29)) q4.2.1 ((iB14 ||| (((1 : Int32) <<< (a1 &&& 31)) ||| ((1 : Int32) <<< (a2 &&& 31))))) q4.2.2 N ((0 : Int32)) aB12))
set_option maxHeartbeats 8000000 in
set_option maxRecDepth 100000 in
theorem c_B_addOrder (l : Launch) (dC : Nat → ClassId) (dI : Nat → Nat → Nat) (cy : Nat → ClassId) (ad : Nat → Nat) (sz : Nat) (N : Nat) (a1 : Int32) (a2 : Int32) (iB : Nat → Int32) (lB : Nat → Nat → Int64) (aB : Nat → Nat → Int32) (iC : Nat → Int32) (aC : Nat → Nat → Int32) (q : Int32 × Int32 × (Nat → Int32) × (Nat → Int32)) (h : f_B_addOrder N a1 a2 (iB 7) (iB 14) (aB 6) (aB 12) = some q) : Met l yX0_addOrder wsX0_addOrder ({ frames := 2, cells := 0, slots := 0, locals := 43 } : Room) (cP (dC, dI) cy [.ref (ad 0), .int a1, .int a2] (zzB ad cy iB lB aB iC aC) sz) (cQv (dC, dI) cy (zzB ad cy (us iB [(7, q.1), (14, q.2.1)]) lB (us aB [(6, q.2.2.1), (12, q.2.2.2)]) iC aC) (va_A (zzB ad cy iB lB aB iC aC) sz)) 0 0 (va_A (zzB ad cy iB lB aB iC aC) sz) := by
  refine Met.ofW (cc := cX0_addOrder) (maxL := 5) (ret := none) (by decide) rfl ?_
  intro p e s m args below meth c s₁ B hml hv
  obtain ⟨hav, hsz, hP, hK, hD0, hN⟩ := hv
  have hx := B.exec
  have hb := B.bytes
  have hr := B.returns
  have hts := atoms_spec (ws := wsX0_addOrder) B.pre
  have hown : s.vm.findClass RX0 = some m.cls := findClass_of_methodNamed B.named
  have hlocks := B.notSynchronized
  subst hsz
  have hD := hD0.self (sz := s.heap.size)
  generalize hAe : va_A (zzB ad cy iB lB aB iC aC) s.heap.size = A at hD ⊢
  have hA : ∀ q : Nat, s.heap.size ≤ q → A q := fun q h => by rw [← hAe]; exact Or.inr h
  have hS : va_S A s.heap s.heap [] := va_S.rf
  generalize hWQ : (zzB ad cy (us iB [(7, q.1), (14, q.2.1)]) lB (us aB [(6, q.2.2.1), (12, q.2.2.2)]) iC aC) = WQ
  generalize hQQ : MQ below (cQv (dC, dI) cy WQ A) args s 0 0 A = QQ
  have hl := lv_entry ([.ref (ad 0), .int a1, .int a2] : List Value) (n := 5) (Nat.le_of_ble_eq_true rfl)
  have hfr := lg_entry_eq m ([.ref (ad 0), .int a1, .int a2] : List Value) 5
  rw [← hav] at hfr
  rw [hfr]
  clear hfr hav
  generalize (lg_sl ([.ref (ad 0), .int a1, .int a2] : List Value) ++ List.replicate (5 - (lg_sl ([.ref (ad 0), .int a1, .int a2] : List Value)).length) Slot.unset).toArray = ls at hl ⊢
  have hl : lv_has ls 5 [(0, .ref (ad 0)), (1, .int a1), (2, .int a2)] := hl
  have kf35 := hts _ (List.mem_cons_of_mem _ m_fl_X0_35)
  have ki0 := (fun w h => List.mem_cons_of_mem _ (i_X0 w h) : ∀ w ∈ u_ws RX0 TX0 15, w ∈ wsX0_addOrder)
  have kf63 := hts _ (List.mem_cons_of_mem _ m_fl_X0_63)
  refine (?_ : ∀ (H : Heap) (locs : List Loc), va_P (dC, dI) vwCl (zzB ad cy iB lB aB iC aC) H → va_D A (zzB ad cy iB lB aB iC aC) → va_S A s.heap H locs → W p l e ({ frames := 2, cells := 0, slots := 0, locals := 43 } : Room) s m args below meth c H locs 0 0 QQ (F0 m 0 ls [])) s.heap [] hP hD hS
  clear hP hD hS
  have B59 : ∀ (v1 : Int32) (v3 : Int32) (v4 : Int32) (x_iB7 : Int32) (x_iB14 : Int32) (x_aB6 : Nat → Int32) (x_aB12 : Nat → Int32) (k37 : Int32 → (Nat → Int32) → Option (Int32 × Int32 × (Nat → Int32) × (Nat → Int32))) (hk37 : ∀ (v4' : Int32) (x_aB12' : Nat → Int32) (H : Heap) (locs : List Loc) (ls : Array Slot), k37 v4' x_aB12' = some q → va_P (dC, dI) vwCl (zzB ad cy (us iB [(7, x_iB7), (14, x_iB14)]) lB (us aB [(6, x_aB6), (12, x_aB12')]) iC aC) H → va_D A (zzB ad cy (us iB [(7, x_iB7), (14, x_iB14)]) lB (us aB [(6, x_aB6), (12, x_aB12')]) iC aC) → va_S A s.heap H locs → lv_has ls 5 [(0, .ref (ad 0)), (1, .int v1), (3, .int v3), (4, .int v4')] → W p l e ({ frames := 2, cells := 0, slots := 0, locals := 43 } : Room) s m args below meth c H locs 0 0 QQ (F0 m 37 ls [])) (H : Heap) (locs : List Loc) (ls : Array Slot), f_B_addOrder_59 N (iB 7) (iB 14) (aB 6) (aB 12) k37 v1 v3 v4 x_iB7 x_iB14 x_aB6 x_aB12 = some q → va_P (dC, dI) vwCl (zzB ad cy (us iB [(7, x_iB7), (14, x_iB14)]) lB (us aB [(6, x_aB6), (12, x_aB12)]) iC aC) H → va_D A (zzB ad cy (us iB [(7, x_iB7), (14, x_iB14)]) lB (us aB [(6, x_aB6), (12, x_aB12)]) iC aC) → va_S A s.heap H locs → lv_has ls 5 [(0, .ref (ad 0)), (1, .int v1), (3, .int v3), (4, .int v4)] → W p l e ({ frames := 2, cells := 0, slots := 0, locals := 43 } : Room) s m args below meth c H locs 0 0 QQ (F0 m 59 ls []) := by
    intro v1 v3 v4 x_iB7 x_iB14 x_aB6 x_aB12 k37 hk37 H locs ls h hP hD hS hl
    unfold f_B_addOrder_59 at h
    refine lv_aload_n hx hb dX0_addOrder_59 rfl (lv_at hl 0 rfl) ?_
    refine va_get (D := (dC, dI)) (ci := 0) (v := .ref (ad 6)) (C := RX0) (T := TX0) (N := 15) hx hb hts ki0 hown hK hP 0 rfl rfl 12 (by decide) kf35 (fun _ h9 => h9) rfl dX0_addOrder_60 ?_
    refine lv_iload hx hb dX0_addOrder_63 (lv_at hl 3 rfl) ?_
    refine lv_dup2_11 hx hb dX0_addOrder_65 rfl rfl ?_
    obtain ⟨g_17, h⟩ := g_n h
    refine va_iald (f := x_aB12) hx hb hK hP 6 0 rfl rfl g_17 dX0_addOrder_66 ?_
    refine lv_iload_n hx hb dX0_addOrder_67 rfl (lv_at hl 2 rfl) ?_
    refine lv_ior hx hb dX0_addOrder_68 ?_
    refine va_iast (f := x_aB12) hx hb hK hP hD hS 6 0 rfl rfl g_17 dX0_addOrder_69 (fun H locs hP hD hS => ?_)
    have hP : va_P (dC, dI) vwCl (zzB ad cy (us iB [(7, x_iB7), (14, x_iB14)]) lB (us aB [(6, x_aB6), (12, (upd x_aB12 v4.toNatClampNeg (((x_aB12 v4.toNatClampNeg) ||| v3))))]) iC aC) H := Eq.mp (congrArg (fun w => va_P (dC, dI) vwCl w H) (stB_aB12 ad cy (us iB [(7, x_iB7), (14, x_iB14)]) lB aB iC aC [(6, x_aB6), (12, x_aB12)] ((upd x_aB12 v4.toNatClampNeg (((x_aB12 v4.toNatClampNeg) ||| v3)))))) hP
    have hD : va_D A (zzB ad cy (us iB [(7, x_iB7), (14, x_iB14)]) lB (us aB [(6, x_aB6), (12, (upd x_aB12 v4.toNatClampNeg (((x_aB12 v4.toNatClampNeg) ||| v3))))]) iC aC) := Eq.mp (congrArg (fun w => va_D A w) (stB_aB12 ad cy (us iB [(7, x_iB7), (14, x_iB14)]) lB aB iC aC [(6, x_aB6), (12, x_aB12)] ((upd x_aB12 v4.toNatClampNeg (((x_aB12 v4.toNatClampNeg) ||| v3)))))) hD
    refine lv_iinc (v := (v4 + (1 : Int32))) (lv' := [(4, .int ((v4 + (1 : Int32)))), (0, .ref (ad 0)), (1, .int v1), (3, .int v3)]) hx hb dX0_addOrder_70 hl (k := 3) rfl rfl (by decide) rfl (fun ls hl => ?_)
    refine lv_goto (tgt := 37) hx hb dX0_addOrder_73 (by decide) ?_
    exact hk37 ((v4 + (1 : Int32))) ((upd x_aB12 v4.toNatClampNeg (((x_aB12 v4.toNatClampNeg) ||| v3)))) H locs ls h hP hD hS (lv_sub hl [1, 2, 3, 0] rfl)
  have B37 : ∀ (n : Nat) (v1 : Int32) (v3 : Int32) (x_iB7 : Int32) (x_iB14 : Int32) (x_aB6 : Nat → Int32) (v4 : Int32) (x_aB12 : Nat → Int32) (H : Heap) (locs : List Loc) (ls : Array Slot), f_B_addOrder_37 N (iB 7) (iB 14) (aB 6) (aB 12) v1 v3 x_iB7 x_iB14 x_aB6 n v4 x_aB12 = some q → va_P (dC, dI) vwCl (zzB ad cy (us iB [(7, x_iB7), (14, x_iB14)]) lB (us aB [(6, x_aB6), (12, x_aB12)]) iC aC) H → va_D A (zzB ad cy (us iB [(7, x_iB7), (14, x_iB14)]) lB (us aB [(6, x_aB6), (12, x_aB12)]) iC aC) → va_S A s.heap H locs → lv_has ls 5 [(0, .ref (ad 0)), (1, .int v1), (3, .int v3), (4, .int v4)] → W p l e ({ frames := 2, cells := 0, slots := 0, locals := 43 } : Room) s m args below meth c H locs 0 0 QQ (F0 m 37 ls []) := by
    intro n
    induction n with
    | zero =>
      intro v1 v3 x_iB7 x_iB14 x_aB6 v4 x_aB12 H locs ls h hP hD hS hl
      rw [f_B_addOrder_37] at h
      cases h
    | succ n ih =>
      intro v1 v3 x_iB7 x_iB14 x_aB6 v4 x_aB12 H locs ls h hP hD hS hl
      rw [f_B_addOrder_37] at h
      refine lv_iload hx hb dX0_addOrder_37 (lv_at hl 3 rfl) ?_
      refine lv_iconst (v := 3) hx hb dX0_addOrder_39 (by decide) ?_
      refine lv_icmp_ge (tgt := 76) hx hb dX0_addOrder_40 (by decide) (fun cz => ?_) (fun cz => ?_)
      · have h := g_t h cz
        have h' := Option.some.inj h
        rw [← hQQ]
        exact W.vret hx hb hr (fun t ht hW => ⟨⟨(), rfl, trivial, by rw [← hWQ, ← h', ht]; exact hP, va_K.moved hW.alike hK⟩, hS.F ht⟩) hS.2.2 dX0_addOrder_76
      · have h := g_f h cz
        refine lv_iload hx hb dX0_addOrder_43 (lv_at hl 3 rfl) ?_
        refine lv_iload_n hx hb dX0_addOrder_45 rfl (lv_at hl 1 rfl) ?_
        refine lv_icmp_eq (tgt := 59) hx hb dX0_addOrder_46 (by decide) (fun cz => ?_) (fun cz => ?_)
        · have h := g_t h cz
          exact B59 v1 v3 v4 x_iB7 x_iB14 x_aB6 x_aB12 (f_B_addOrder_37 N (iB 7) (iB 14) (aB 6) (aB 12) v1 v3 x_iB7 x_iB14 x_aB6 n) (ih v1 v3 x_iB7 x_iB14 x_aB6) H locs ls h hP hD hS (lv_sub hl [0, 1, 2, 3] rfl)
        · have h := g_f h cz
          refine lv_aload_n hx hb dX0_addOrder_49 rfl (lv_at hl 0 rfl) ?_
          refine lv_iload hx hb dX0_addOrder_50 (lv_at hl 3 rfl) ?_
          refine lv_iload_n hx hb dX0_addOrder_52 rfl (lv_at hl 1 rfl) ?_
          obtain ⟨q53, e53, h⟩ := g_b h
          refine callVis (cc := cX0_addOrder) (w1 := zzB ad cy (us iB [(7, x_iB7), (14, x_iB14)]) lB (us aB [(6, x_aB6), (12, x_aB12)]) iC aC) (As := [.int v4, .int v1]) (rest := []) ⟨hx, hb, hml, hown, hts⟩ (c_B_isRoleUnder l dC dI cy ad H.size v4 v1 ((us iB [(7, x_iB7), (14, x_iB14)])) lB ((us aB [(6, x_aB6), (12, x_aB12)])) iC aC q53 e53) (cwV 2 hts (goodV m_ml_X0_78 m_im_X0_isRoleUnder m_se_X0_isRoleUnder m_in_X0 m_cd_X0_isRoleUnder) rfl rfl rfl (by decide +kernel) ⟨Nat.le_of_ble_eq_true rfl, Nat.le_of_ble_eq_true rfl⟩) hN hK hP hD hS hA rfl 0 rfl rfl rfl hl.1 rfl (Nat.le_of_ble_eq_true rfl) dX0_addOrder_53 ⟨Nat.zero_le _, Nat.zero_le _⟩ (fun H locs hP hD hS => ?_)
          refine lv_if_eq (tgt := 70) hx hb dX0_addOrder_56 (by decide) (fun cz => ?_) (fun cz => ?_)
          · have h := g_t h cz
            refine lv_iinc (v := (v4 + (1 : Int32))) (lv' := [(4, .int ((v4 + (1 : Int32)))), (0, .ref (ad 0)), (1, .int v1), (3, .int v3)]) hx hb dX0_addOrder_70 hl (k := 3) rfl rfl (by decide) rfl (fun ls hl => ?_)
            refine lv_goto (tgt := 37) hx hb dX0_addOrder_73 (by decide) ?_
            exact ih v1 v3 x_iB7 x_iB14 x_aB6 ((v4 + (1 : Int32))) x_aB12 H locs ls h hP hD hS (lv_sub hl [1, 2, 3, 0] rfl)
          · have h := g_f h cz
            exact B59 v1 v3 v4 x_iB7 x_iB14 x_aB6 x_aB12 (f_B_addOrder_37 N (iB 7) (iB 14) (aB 6) (aB 12) v1 v3 x_iB7 x_iB14 x_aB6 n) (ih v1 v3 x_iB7 x_iB14 x_aB6) H locs ls h hP hD hS (lv_sub hl [0, 1, 2, 3] rfl)
  intro H locs hP hD hS
  unfold f_B_addOrder at h
  refine lv_aload_n hx hb dX0_addOrder_0 rfl (lv_at hl 0 rfl) ?_
  refine lv_iconst (v := 3) hx hb dX0_addOrder_1 (by decide) ?_
  refine lv_iload_n hx hb dX0_addOrder_2 rfl (lv_at hl 1 rfl) ?_
  refine lv_iload_n hx hb dX0_addOrder_3 rfl (lv_at hl 2 rfl) ?_
  obtain ⟨q4, e4, h⟩ := g_b h
  refine callVis (cc := cX0_addOrder) (w1 := zzB ad cy (us iB [(7, q4.2.1)]) lB (us aB [(6, q4.2.2)]) iC aC) (As := [.int ((3 : Int32)), .int a1, .int a2]) (rest := []) ⟨hx, hb, hml, hown, hts⟩ (c_B_addStatement l dC dI cy ad H.size ((3 : Int32)) a1 a2 iB lB aB iC aC q4 e4) (cwV 3 hts (goodV m_ml_X0_70 m_im_X0_addStatement m_se_X0_addStatement m_in_X0 m_cd_X0_addStatement) rfl rfl rfl (by decide +kernel) ⟨Nat.le_of_ble_eq_true rfl, Nat.le_of_ble_eq_true rfl⟩) hN hK hP hD hS hA rfl 0 rfl rfl rfl hl.1 rfl (Nat.le_of_ble_eq_true rfl) dX0_addOrder_4 ⟨Nat.zero_le _, Nat.zero_le _⟩ (fun H locs hP hD hS => ?_)
  refine lv_pop hx hb dX0_addOrder_7 rfl ?_
  refine lv_aload_n hx hb dX0_addOrder_8 rfl (lv_at hl 0 rfl) ?_
  refine lv_dup hx hb dX0_addOrder_9 rfl ?_
  refine va_get (D := (dC, dI)) (ci := 0) (v := .int (iB 14)) (C := RX0) (T := TX0) (N := 15) hx hb hts ki0 hown hK hP 0 rfl rfl 14 (by decide) kf63 (fun _ h9 => h9) rfl dX0_addOrder_10 ?_
  refine lv_iconst (v := 1) hx hb dX0_addOrder_13 (by decide) ?_
  refine lv_iload_n hx hb dX0_addOrder_14 rfl (lv_at hl 1 rfl) ?_
  refine lv_ishl hx hb dX0_addOrder_15 ?_
  refine lv_iconst (v := 1) hx hb dX0_addOrder_16 (by decide) ?_
  refine lv_iload_n hx hb dX0_addOrder_17 rfl (lv_at hl 2 rfl) ?_
  refine lv_ishl hx hb dX0_addOrder_18 ?_
  refine lv_ior hx hb dX0_addOrder_19 ?_
  refine lv_ior hx hb dX0_addOrder_20 ?_
  refine va_put (D := (dC, dI)) (ci := 0) (v := .int (((iB 14) ||| (((1 : Int32) <<< (a1 &&& 31)) ||| ((1 : Int32) <<< (a2 &&& 31)))))) (ty := .int) (C := RX0) (T := TX0) (N := 15) hx hb hts ki0 tyX0 tyX0_ok nmX0 hown hK hP hD hS 0 rfl rfl 14 (by decide) kf63 (fun _ h9 => h9) rfl (by decide +kernel) rfl rfl (Nat.le_of_ble_eq_true rfl) dX0_addOrder_21 (fun H locs hP hD hS => ?_)
  have hP : va_P (dC, dI) vwCl (zzB ad cy (us iB [(7, q4.2.1), (14, ((iB 14) ||| (((1 : Int32) <<< (a1 &&& 31)) ||| ((1 : Int32) <<< (a2 &&& 31)))))]) lB (us aB [(6, q4.2.2)]) iC aC) H := Eq.mp (congrArg (fun w => va_P (dC, dI) vwCl w H) (stB_iB14 ad cy iB lB (us aB [(6, q4.2.2)]) iC aC [(7, q4.2.1)] (((iB 14) ||| (((1 : Int32) <<< (a1 &&& 31)) ||| ((1 : Int32) <<< (a2 &&& 31))))))) hP
  have hD : va_D A (zzB ad cy (us iB [(7, q4.2.1), (14, ((iB 14) ||| (((1 : Int32) <<< (a1 &&& 31)) ||| ((1 : Int32) <<< (a2 &&& 31)))))]) lB (us aB [(6, q4.2.2)]) iC aC) := Eq.mp (congrArg (fun w => va_D A w) (stB_iB14 ad cy iB lB (us aB [(6, q4.2.2)]) iC aC [(7, q4.2.1)] (((iB 14) ||| (((1 : Int32) <<< (a1 &&& 31)) ||| ((1 : Int32) <<< (a2 &&& 31))))))) hD
  refine lv_iconst (v := 1) hx hb dX0_addOrder_24 (by decide) ?_
  refine lv_iload_n hx hb dX0_addOrder_25 rfl (lv_at hl 2 rfl) ?_
  refine lv_ishl hx hb dX0_addOrder_26 ?_
  refine lv_aload_n hx hb dX0_addOrder_27 rfl (lv_at hl 0 rfl) ?_
  refine lv_iload_n hx hb dX0_addOrder_28 rfl (lv_at hl 2 rfl) ?_
  obtain ⟨q29, e29, h⟩ := g_b h
  refine callVis (cc := cX0_addOrder) (w1 := zzB ad cy (us iB [(7, q4.2.1), (14, ((iB 14) ||| (((1 : Int32) <<< (a1 &&& 31)) ||| ((1 : Int32) <<< (a2 &&& 31)))))]) lB (us aB [(6, q4.2.2)]) iC aC) (As := [.int a2]) (rest := [.int (((1 : Int32) <<< (a2 &&& 31)))]) ⟨hx, hb, hml, hown, hts⟩ (c_B_rolesAbove l dC dI cy ad H.size a2 ((us iB [(7, q4.2.1), (14, ((iB 14) ||| (((1 : Int32) <<< (a1 &&& 31)) ||| ((1 : Int32) <<< (a2 &&& 31)))))])) lB ((us aB [(6, q4.2.2)])) iC aC q29 e29) (cwV 1 hts (goodV m_ml_X0_74 m_im_X0_rolesAbove m_se_X0_rolesAbove m_in_X0 m_cd_X0_rolesAbove) rfl rfl rfl (by decide +kernel) ⟨Nat.le_of_ble_eq_true rfl, Nat.le_of_ble_eq_true rfl⟩) hN hK hP hD hS hA rfl 0 rfl rfl rfl hl.1 rfl (Nat.le_of_ble_eq_true rfl) dX0_addOrder_29 ⟨Nat.zero_le _, Nat.zero_le _⟩ (fun H locs hP hD hS => ?_)
  refine lv_ior hx hb dX0_addOrder_32 ?_
  refine lv_istore_n (lv' := [(3, .int ((((1 : Int32) <<< (a2 &&& 31)) ||| q29))), (0, .ref (ad 0)), (1, .int a1), (2, .int a2)]) hx hb dX0_addOrder_33 rfl hl (by decide) rfl (fun ls hl => ?_)
  refine lv_iconst (v := 0) hx hb dX0_addOrder_34 (by decide) ?_
  refine lv_istore (lv' := [(4, .int ((0 : Int32))), (3, .int ((((1 : Int32) <<< (a2 &&& 31)) ||| q29))), (0, .ref (ad 0)), (1, .int a1), (2, .int a2)]) hx hb dX0_addOrder_35 hl (by decide) rfl (fun ls hl => ?_)
  exact B37 N a1 ((((1 : Int32) <<< (a2 &&& 31)) ||| q29)) q4.2.1 (((iB 14) ||| (((1 : Int32) <<< (a1 &&& 31)) ||| ((1 : Int32) <<< (a2 &&& 31))))) q4.2.2 ((0 : Int32)) (aB 12) H locs ls h hP hD hS (lv_sub hl [2, 3, 1, 0] rfl)
