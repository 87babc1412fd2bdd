theorem rg_C_cloud_0 {d : Nat} {P : Nat → mj_L → List mj_V → mj_M → Prop} {R : Option mj_V → mj_M → Prop} (hP : mj_Cl mj_c0 (mj_Sp d) (0 < d) P R) {x1 : Int32} {x2 : Int32} {x3 : Int32} {M : mj_M} (h :
  ∃ (y_2 : Int32) (M_1 : mj_M), mj_Sp d 21 [mj_i x1, mj_i (nI 0), mj_i (nI 3)] M (some (mj_i y_2)) M_1 ∧
  (¬ y_2 = 0 →
  R (some (mj_i (-(nI 1)))) M_1) ∧
  (¬ ¬ y_2 = 0 →
  ∃ (y_4 : Int32) (M_3 : mj_M), mj_Sp d 21 [mj_i x2, mj_i (nI 0), mj_i (nI 24)] M_1 (some (mj_i y_4)) M_3 ∧
    (¬ y_4 = 0 →
    R (some (mj_i (-(nI 1)))) M_3) ∧
    (¬ ¬ y_4 = 0 →
    ∃ (y_6 : Int32) (M_5 : mj_M), mj_Sp d 21 [mj_i x3, mj_i (nI 1), mj_i (nI 999)] M_3 (some (mj_i y_6)) M_5 ∧
      (y_6 = 0 →
      ((M_5 0 0 0 0) < (nI 6) →
        ∃ (y_8 : Int32) (M_7 : mj_M), mj_Sp d 32 [mj_r (0, 0, 0), mj_i x1, mj_i x2, mj_i x3] M_5 (some (mj_i y_8)) M_7 ∧
          R (some (mj_i y_8)) M_7) ∧
        (¬ (M_5 0 0 0 0) < (nI 6) →
        R (some (mj_i (-(nI 3)))) M_5)) ∧
      (¬ y_6 = 0 →
      R (some (mj_i (-(nI 1)))) M_5)))) : P 0 [some (mj_r (13, 50, 0)), some (mj_i x1), some (mj_i x2), some (mj_i x3)] [] M :=
  hP 0 _ _ _ ⟨rfl, Exists.elim h fun e1 g1 => Exists.elim g1 fun a1 b1 => ⟨e1, a1, b1.1, hP 6 _ _ _ ⟨fun c2 => hP 30 _ _ _ (b1.2.1 c2), fun c2 => ⟨rfl, Exists.elim (b1.2.2 c2) fun e3 g3 => Exists.elim g3 fun a3 b3 => ⟨e3, a3, b3.1, hP 16 _ _ _ ⟨fun c4 => hP 30 _ _ _ (b3.2.1 c4), fun c4 => ⟨rfl, Exists.elim (b3.2.2 c4) fun e5 g5 => Exists.elim g5 fun a5 b5 => ⟨e5, a5, b5.1, hP 27 _ _ _ ⟨fun c6 => hP 32 _ _ _ ⟨rfl, ⟨rfl, ⟨fun c7 => hP 47 _ _ _ ⟨rfl, ⟨rfl, Exists.elim ((b5.2.1 c6).1 c7) fun e8 g8 => Exists.elim g8 fun a8 b8 => ⟨e8, a8, b8.1, hP 57 _ _ _ b8.2⟩⟩⟩, fun c7 => ((b5.2.1 c6).2 c7)⟩⟩⟩, fun c6 => hP 30 _ _ _ (b5.2.2 c6)⟩⟩⟩⟩⟩⟩⟩⟩⟩
theorem rg_C_village_0 {d : Nat} {P : Nat → mj_L → List mj_V → mj_M → Prop} {R : Option mj_V → mj_M → Prop} (hP : mj_Cl mj_c1 (mj_Sp d) (0 < d) P R) {x1 : Int32} {x2 : Int32} {x3 : Int32} {M : mj_M} (h :
  ∃ (y_2 : Int32) (M_1 : mj_M), mj_Sp d 21 [mj_i x1, mj_i (nI 0), mj_i (nI 24)] M (some (mj_i y_2)) M_1 ∧
  (¬ y_2 = 0 →
  R (some (mj_i (-(nI 1)))) M_1) ∧
  (¬ ¬ y_2 = 0 →
  ∃ (y_4 : Int32) (M_3 : mj_M), mj_Sp d 21 [mj_i x2, mj_i (nI 0), mj_i (nI 9)] M_1 (some (mj_i y_4)) M_3 ∧
    (¬ y_4 = 0 →
    R (some (mj_i (-(nI 1)))) M_3) ∧
    (¬ ¬ y_4 = 0 →
    ∃ (y_6 : Int32) (M_5 : mj_M), mj_Sp d 21 [mj_i x3, mj_i (nI 0), mj_i (nI 99)] M_3 (some (mj_i y_6)) M_5 ∧
      (y_6 = 0 →
      ∃ (y_8 : Int32) (M_7 : mj_M), mj_Sp d 31 [mj_r (0, 0, 0), mj_i x1] M_5 (some (mj_i y_8)) M_7 ∧
        (y_8 < 0 →
        ((M_7 0 0 0 1) < (nI 4) →
          ∃ (y_10 : Int32) (M_9 : mj_M), mj_Sp d 33 [mj_r (0, 0, 0), mj_i x1, mj_i x2, mj_i x3] M_7 (some (mj_i y_10)) M_9 ∧
            R (some (mj_i y_10)) M_9) ∧
          (¬ (M_7 0 0 0 1) < (nI 4) →
          R (some (mj_i (-(nI 3)))) M_7)) ∧
        (¬ y_8 < 0 →
        R (some (mj_i (-(nI 2)))) M_7)) ∧
      (¬ y_6 = 0 →
      R (some (mj_i (-(nI 1)))) M_5)))) : P 0 [some (mj_r (13, 50, 0)), some (mj_i x1), some (mj_i x2), some (mj_i x3)] [] M :=
  hP 0 _ _ _ ⟨rfl, Exists.elim h fun e1 g1 => Exists.elim g1 fun a1 b1 => ⟨e1, a1, b1.1, hP 7 _ _ _ ⟨fun c2 => hP 30 _ _ _ (b1.2.1 c2), fun c2 => ⟨rfl, Exists.elim (b1.2.2 c2) fun e3 g3 => Exists.elim g3 fun a3 b3 => ⟨e3, a3, b3.1, hP 17 _ _ _ ⟨fun c4 => hP 30 _ _ _ (b3.2.1 c4), fun c4 => ⟨rfl, Exists.elim (b3.2.2 c4) fun e5 g5 => Exists.elim g5 fun a5 b5 => ⟨e5, a5, b5.1, hP 27 _ _ _ ⟨fun c6 => hP 32 _ _ _ ⟨rfl, ⟨rfl, Exists.elim (b5.2.1 c6) fun e7 g7 => Exists.elim g7 fun a7 b7 => ⟨e7, a7, b7.1, hP 40 _ _ _ ⟨fun c8 => hP 46 _ _ _ ⟨rfl, ⟨rfl, ⟨fun c9 => hP 60 _ _ _ ⟨rfl, ⟨rfl, Exists.elim ((b7.2.1 c8).1 c9) fun e10 g10 => Exists.elim g10 fun a10 b10 => ⟨e10, a10, b10.1, hP 70 _ _ _ b10.2⟩⟩⟩, fun c9 => ((b7.2.1 c8).2 c9)⟩⟩⟩, fun c8 => (b7.2.2 c8)⟩⟩⟩⟩, fun c6 => hP 30 _ _ _ (b5.2.2 c6)⟩⟩⟩⟩⟩⟩⟩⟩⟩
theorem rg_C_told_0 {d : Nat} {P : Nat → mj_L → List mj_V → mj_M → Prop} {R : Option mj_V → mj_M → Prop} (hP : mj_Cl mj_c2 (mj_Sp d) (0 < d) P R) {x1 : Int32} {x2 : Int32} {M : mj_M} (h :
  ∃ (y_2 : Int32) (M_1 : mj_M), mj_Sp d 28 [mj_r (0, 0, 0), mj_i x1] M (some (mj_i y_2)) M_1 ∧
  (¬ y_2 = 0 →
  (x2 = nI 0 →
    vp_in x1 6 ∧ R (some (mj_i (M_1 0 1 0 x1.toNatClampNeg))) M_1) ∧
    (¬ x2 = nI 0 →
    (x2 = nI 1 →
      vp_in x1 6 ∧ R (some (mj_i (M_1 0 2 0 x1.toNatClampNeg))) M_1) ∧
      (¬ x2 = nI 1 →
      (x2 = nI 2 →
        vp_in x1 6 ∧ R (some (mj_i (M_1 0 3 0 x1.toNatClampNeg))) M_1) ∧
        (¬ x2 = nI 2 →
        (x2 = nI 3 →
          ∃ (y_4 : Int32) (M_3 : mj_M), mj_Sp d 34 [mj_r (0, 0, 0), mj_i x1] M_1 (some (mj_i y_4)) M_3 ∧
            R (some (mj_i y_4)) M_3) ∧
          (¬ x2 = nI 3 →
          R (some (mj_i (-(nI 1)))) M_1))))) ∧
  (¬ ¬ y_2 = 0 →
  R (some (mj_i (-(nI 1)))) M_1)) : P 0 [some (mj_r (13, 50, 0)), some (mj_i x1), some (mj_i x2)] [] M :=
  hP 0 _ _ _ ⟨rfl, ⟨rfl, Exists.elim h fun e1 g1 => Exists.elim g1 fun a1 b1 => ⟨e1, a1, b1.1, hP 8 _ _ _ ⟨fun c2 => hP 13 _ _ _ ⟨fun c3 => hP 44 _ _ _ ⟨rfl, ⟨rfl, ⟨((b1.2.1 c2).1 c3).1, ((b1.2.1 c2).1 c3).2⟩⟩⟩, fun c3 => ⟨fun c4 => hP 54 _ _ _ ⟨rfl, ⟨rfl, ⟨(((b1.2.1 c2).2 c3).1 c4).1, (((b1.2.1 c2).2 c3).1 c4).2⟩⟩⟩, fun c4 => ⟨fun c5 => hP 64 _ _ _ ⟨rfl, ⟨rfl, ⟨((((b1.2.1 c2).2 c3).2 c4).1 c5).1, ((((b1.2.1 c2).2 c3).2 c4).1 c5).2⟩⟩⟩, fun c5 => ⟨fun c6 => hP 74 _ _ _ ⟨rfl, ⟨rfl, Exists.elim (((((b1.2.1 c2).2 c3).2 c4).2 c5).1 c6) fun e7 g7 => Exists.elim g7 fun a7 b7 => ⟨e7, a7, b7.1, hP 82 _ _ _ b7.2⟩⟩⟩, fun c6 => hP 83 _ _ _ (((((b1.2.1 c2).2 c3).2 c4).2 c5).2 c6)⟩⟩⟩⟩, fun c2 => (b1.2.2 c2)⟩⟩⟩⟩
theorem rg_C_of_0 {d : Nat} {P : Nat → mj_L → List mj_V → mj_M → Prop} {R : Option mj_V → mj_M → Prop} (hP : mj_Cl mj_c3 (mj_Sp d) (0 < d) P R) {x1 : Int32} {x2 : Int32} {M : mj_M} (h :
  ∃ (y_2 : Int32) (M_1 : mj_M), mj_Sp d 30 [mj_r (0, 0, 0), mj_i x1] M (some (mj_i y_2)) M_1 ∧
  (¬ y_2 = 0 →
  (x2 = nI 0 →
    vp_in x1 4 ∧ R (some (mj_i (M_1 0 5 0 x1.toNatClampNeg))) M_1) ∧
    (¬ x2 = nI 0 →
    (x2 = nI 1 →
      vp_in x1 4 ∧ R (some (mj_i (M_1 0 6 0 x1.toNatClampNeg))) M_1) ∧
      (¬ x2 = nI 1 →
      (x2 = nI 2 →
        vp_in x1 4 ∧ R (some (mj_i (M_1 0 7 0 x1.toNatClampNeg))) M_1) ∧
        (¬ x2 = nI 2 →
        (x2 = nI 3 →
          vp_in x1 4 ∧ R (some (mj_i (M_1 0 8 0 x1.toNatClampNeg))) M_1) ∧
          (¬ x2 = nI 3 →
          (x2 = nI 4 →
            vp_in x1 4 ∧ ∃ (y_4 : Int32) (M_3 : mj_M), mj_Sp d 35 [mj_r (0, 0, 0), mj_i x1] M_1 (some (mj_i y_4)) M_3 ∧
              R (some (mj_i ((M_1 0 6 0 x1.toNatClampNeg) - y_4))) M_3) ∧
            (¬ x2 = nI 4 →
            R (some (mj_i (-(nI 1)))) M_1)))))) ∧
  (¬ ¬ y_2 = 0 →
  R (some (mj_i (-(nI 1)))) M_1)) : P 0 [some (mj_r (13, 50, 0)), some (mj_i x1), some (mj_i x2)] [] M :=
  hP 0 _ _ _ ⟨rfl, ⟨rfl, Exists.elim h fun e1 g1 => Exists.elim g1 fun a1 b1 => ⟨e1, a1, b1.1, hP 8 _ _ _ ⟨fun c2 => hP 13 _ _ _ ⟨fun c3 => hP 48 _ _ _ ⟨rfl, ⟨rfl, ⟨((b1.2.1 c2).1 c3).1, ((b1.2.1 c2).1 c3).2⟩⟩⟩, fun c3 => ⟨fun c4 => hP 58 _ _ _ ⟨rfl, ⟨rfl, ⟨(((b1.2.1 c2).2 c3).1 c4).1, (((b1.2.1 c2).2 c3).1 c4).2⟩⟩⟩, fun c4 => ⟨fun c5 => hP 68 _ _ _ ⟨rfl, ⟨rfl, ⟨((((b1.2.1 c2).2 c3).2 c4).1 c5).1, ((((b1.2.1 c2).2 c3).2 c4).1 c5).2⟩⟩⟩, fun c5 => ⟨fun c6 => hP 78 _ _ _ ⟨rfl, ⟨rfl, ⟨(((((b1.2.1 c2).2 c3).2 c4).2 c5).1 c6).1, (((((b1.2.1 c2).2 c3).2 c4).2 c5).1 c6).2⟩⟩⟩, fun c6 => ⟨fun c7 => hP 88 _ _ _ ⟨rfl, ⟨rfl, ⟨((((((b1.2.1 c2).2 c3).2 c4).2 c5).2 c6).1 c7).1, ⟨rfl, ⟨rfl, Exists.elim (((((((b1.2.1 c2).2 c3).2 c4).2 c5).2 c6).1 c7).2) fun e8 g8 => Exists.elim g8 fun a8 b8 => ⟨e8, a8, b8.1, hP 105 _ _ _ b8.2⟩⟩⟩⟩⟩⟩, fun c7 => hP 107 _ _ _ ((((((b1.2.1 c2).2 c3).2 c4).2 c5).2 c6).2 c7)⟩⟩⟩⟩⟩, fun c2 => (b1.2.2 c2)⟩⟩⟩⟩
theorem rg_C_set_0 {d : Nat} {P : Nat → mj_L → List mj_V → mj_M → Prop} {R : Option mj_V → mj_M → Prop} (hP : mj_Cl mj_c4 (mj_Sp d) (0 < d) P R) {x1 : Int32} {x2 : Int32} {x3 : Int32} {M : mj_M} (h :
  ∃ (y_2 : Int32) (M_1 : mj_M), mj_Sp d 30 [mj_r (0, 0, 0), mj_i x1] M (some (mj_i y_2)) M_1 ∧
  (y_2 = 0 →
  R (some (mj_i (-(nI 1)))) M_1) ∧
  (¬ y_2 = 0 →
  ∃ (y_4 : Int32) (M_3 : mj_M), mj_Sp d 21 [mj_i x2, mj_i (nI 0), mj_i (nI 1)] M_1 (some (mj_i y_4)) M_3 ∧
    (¬ y_4 = 0 →
    R (some (mj_i (-(nI 1)))) M_3) ∧
    (¬ ¬ y_4 = 0 →
    (¬ x2 = 0 →
      ∃ (y_6 : Int32) (M_5 : mj_M), mj_Sp d 21 [mj_i x3, mj_i (nI 0), mj_i (nI 99)] M_3 (some (mj_i y_6)) M_5 ∧
        (y_6 = 0 →
        (¬ x2 = (nI 1) →
          ∃ (y_8 : Int32) (M_7 : mj_M), mj_Sp d 35 [mj_r (0, 0, 0), mj_i x1] M_5 (some (mj_i y_8)) M_7 ∧
            (y_8 ≤ x3 →
            vp_in x1 4 ∧ ∀ x4_9 : Int32, x4_9 = M_7 0 6 0 x1.toNatClampNeg → vp_in x1 4 ∧ ∀ M_10 : mj_M, M_10 = mj_wl M_7 (0, 6, 0, x1.toNatClampNeg) x3 → R (some (mj_i x4_9)) M_10) ∧
            (¬ y_8 ≤ x3 →
            R (some (mj_i (-(nI 2)))) M_7)) ∧
          (¬ ¬ x2 = (nI 1) →
          vp_in x1 4 ∧ ∀ x4_11 : Int32, x4_11 = M_5 0 7 0 x1.toNatClampNeg → vp_in x1 4 ∧ ∀ M_12 : mj_M, M_12 = mj_wl M_5 (0, 7, 0, x1.toNatClampNeg) x3 → R (some (mj_i x4_11)) M_12)) ∧
        (¬ y_6 = 0 →
        R (some (mj_i (-(nI 1)))) M_5)) ∧
      (¬ ¬ x2 = 0 →
      ∃ (y_14 : Int32) (M_13 : mj_M), mj_Sp d 21 [mj_i x3, mj_i (nI 0), mj_i (nI 9)] M_3 (some (mj_i y_14)) M_13 ∧
        (y_14 = 0 →
        (¬ x2 = (nI 1) →
          ∃ (y_16 : Int32) (M_15 : mj_M), mj_Sp d 35 [mj_r (0, 0, 0), mj_i x1] M_13 (some (mj_i y_16)) M_15 ∧
            (y_16 ≤ x3 →
            vp_in x1 4 ∧ ∀ x4_17 : Int32, x4_17 = M_15 0 6 0 x1.toNatClampNeg → vp_in x1 4 ∧ ∀ M_18 : mj_M, M_18 = mj_wl M_15 (0, 6, 0, x1.toNatClampNeg) x3 → R (some (mj_i x4_17)) M_18) ∧
            (¬ y_16 ≤ x3 →
            R (some (mj_i (-(nI 2)))) M_15)) ∧
          (¬ ¬ x2 = (nI 1) →
          vp_in x1 4 ∧ ∀ x4_19 : Int32, x4_19 = M_13 0 7 0 x1.toNatClampNeg → vp_in x1 4 ∧ ∀ M_20 : mj_M, M_20 = mj_wl M_13 (0, 7, 0, x1.toNatClampNeg) x3 → R (some (mj_i x4_19)) M_20)) ∧
        (¬ y_14 = 0 →
        R (some (mj_i (-(nI 1)))) M_13))))) : P 0 [some (mj_r (13, 50, 0)), some (mj_i x1), some (mj_i x2), some (mj_i x3), none] [] M :=
  hP 0 _ _ _ ⟨rfl, ⟨rfl, Exists.elim h fun e1 g1 => Exists.elim g1 fun a1 b1 => ⟨e1, a1, b1.1, hP 8 _ _ _ ⟨fun c2 => hP 39 _ _ _ (b1.2.1 c2), fun c2 => ⟨rfl, Exists.elim (b1.2.2 c2) fun e3 g3 => Exists.elim g3 fun a3 b3 => ⟨e3, a3, b3.1, hP 17 _ _ _ ⟨fun c4 => hP 39 _ _ _ (b3.2.1 c4), fun c4 => ⟨fun c5 => hP 31 _ _ _ (hP 33 _ _ _ ⟨rfl, Exists.elim ((b3.2.2 c4).1 c5) fun e6 g6 => Exists.elim g6 fun a6 b6 => ⟨e6, a6, b6.1, hP 36 _ _ _ ⟨fun c7 => hP 41 _ _ _ ⟨fun c8 => hP 70 _ _ _ ⟨rfl, ⟨rfl, Exists.elim ((b6.2.1 c7).1 c8) fun e9 g9 => Exists.elim g9 fun a9 b9 => ⟨e9, a9, b9.1, hP 78 _ _ _ ⟨fun c10 => hP 85 _ _ _ ⟨rfl, ⟨rfl, ⟨(b9.2.1 c10).1, ⟨rfl, ⟨rfl, ⟨rfl, ⟨rfl, ⟨((b9.2.1 c10).2 _ rfl).1, (((b9.2.1 c10).2 _ rfl).2 _ rfl)⟩⟩⟩⟩⟩⟩⟩⟩, fun c10 => (b9.2.2 c10)⟩⟩⟩⟩, fun c8 => ⟨rfl, ⟨rfl, ⟨((b6.2.1 c7).2 c8).1, ⟨rfl, ⟨rfl, ⟨rfl, ⟨rfl, ⟨(((b6.2.1 c7).2 c8).2 _ rfl).1, ((((b6.2.1 c7).2 c8).2 _ rfl).2 _ rfl)⟩⟩⟩⟩⟩⟩⟩⟩⟩, fun c7 => hP 39 _ _ _ (b6.2.2 c7)⟩⟩⟩), fun c5 => hP 33 _ _ _ ⟨rfl, Exists.elim ((b3.2.2 c4).2 c5) fun e11 g11 => Exists.elim g11 fun a11 b11 => ⟨e11, a11, b11.1, hP 36 _ _ _ ⟨fun c12 => hP 41 _ _ _ ⟨fun c13 => hP 70 _ _ _ ⟨rfl, ⟨rfl, Exists.elim ((b11.2.1 c12).1 c13) fun e14 g14 => Exists.elim g14 fun a14 b14 => ⟨e14, a14, b14.1, hP 78 _ _ _ ⟨fun c15 => hP 85 _ _ _ ⟨rfl, ⟨rfl, ⟨(b14.2.1 c15).1, ⟨rfl, ⟨rfl, ⟨rfl, ⟨rfl, ⟨((b14.2.1 c15).2 _ rfl).1, (((b14.2.1 c15).2 _ rfl).2 _ rfl)⟩⟩⟩⟩⟩⟩⟩⟩, fun c15 => (b14.2.2 c15)⟩⟩⟩⟩, fun c13 => ⟨rfl, ⟨rfl, ⟨((b11.2.1 c12).2 c13).1, ⟨rfl, ⟨rfl, ⟨rfl, ⟨rfl, ⟨(((b11.2.1 c12).2 c13).2 _ rfl).1, ((((b11.2.1 c12).2 c13).2 _ rfl).2 _ rfl)⟩⟩⟩⟩⟩⟩⟩⟩⟩, fun c12 => hP 39 _ _ _ (b11.2.2 c12)⟩⟩⟩⟩⟩⟩⟩⟩⟩⟩⟩
theorem rg_C_hold_0 {d : Nat} {P : Nat → mj_L → List mj_V → mj_M → Prop} {R : Option mj_V → mj_M → Prop} (hP : mj_Cl mj_c5 (mj_Sp d) (0 < d) P R) {x1 : Int32} {x2 : Int32} {x3 : Int32} {M : mj_M} (h :
  ∃ (y_2 : Int32) (M_1 : mj_M), mj_Sp d 30 [mj_r (0, 0, 0), mj_i x1] M (some (mj_i y_2)) M_1 ∧
  (y_2 = 0 →
  R (some (mj_i (-(nI 1)))) M_1) ∧
  (¬ y_2 = 0 →
  ∃ (y_4 : Int32) (M_3 : mj_M), mj_Sp d 28 [mj_r (0, 0, 0), mj_i x2] M_1 (some (mj_i y_4)) M_3 ∧
    (y_4 = 0 →
    R (some (mj_i (-(nI 1)))) M_3) ∧
    (¬ y_4 = 0 →
    ∃ (y_6 : Int32) (M_5 : mj_M), mj_Sp d 21 [mj_i x3, mj_i (nI 0), mj_i (nI 9)] M_3 (some (mj_i y_6)) M_5 ∧
      (y_6 = 0 →
      ∃ (y_8 : Int32) (M_7 : mj_M), mj_Sp d 29 [mj_r (0, 0, 0), mj_i x2] M_5 (some (mj_i y_8)) M_7 ∧
        (¬ y_8 = 0 →
        vp_in x2 6 ∧ vp_in x1 4 ∧ ∀ x4_9 : Int32, x4_9 = M_7 0 4 x2.toNatClampNeg x1.toNatClampNeg → ∃ (y_11 : Int32) (M_10 : mj_M), mj_Sp d 35 [mj_r (0, 0, 0), mj_i x1] M_7 (some (mj_i y_11)) M_10 ∧
          vp_in x1 4 ∧ (((y_11 - x4_9) + x3) ≤ (M_10 0 6 0 x1.toNatClampNeg) →
          vp_in x2 6 ∧ vp_in x1 4 ∧ ∀ M_12 : mj_M, M_12 = mj_wl M_10 (0, 4, x2.toNatClampNeg, x1.toNatClampNeg) x3 → R (some (mj_i x4_9)) M_12) ∧
          (¬ ((y_11 - x4_9) + x3) ≤ (M_10 0 6 0 x1.toNatClampNeg) →
          R (some (mj_i (-(nI 3)))) M_10)) ∧
        (¬ ¬ y_8 = 0 →
        R (some (mj_i (-(nI 2)))) M_7)) ∧
      (¬ y_6 = 0 →
      R (some (mj_i (-(nI 1)))) M_5)))) : P 0 [some (mj_r (13, 50, 0)), some (mj_i x1), some (mj_i x2), some (mj_i x3), none] [] M :=
  hP 0 _ _ _ ⟨rfl, ⟨rfl, Exists.elim h fun e1 g1 => Exists.elim g1 fun a1 b1 => ⟨e1, a1, b1.1, hP 8 _ _ _ ⟨fun c2 => hP 32 _ _ _ (b1.2.1 c2), fun c2 => ⟨rfl, ⟨rfl, Exists.elim (b1.2.2 c2) fun e3 g3 => Exists.elim g3 fun a3 b3 => ⟨e3, a3, b3.1, hP 19 _ _ _ ⟨fun c4 => hP 32 _ _ _ (b3.2.1 c4), fun c4 => ⟨rfl, Exists.elim (b3.2.2 c4) fun e5 g5 => Exists.elim g5 fun a5 b5 => ⟨e5, a5, b5.1, hP 29 _ _ _ ⟨fun c6 => hP 34 _ _ _ ⟨rfl, ⟨rfl, Exists.elim (b5.2.1 c6) fun e7 g7 => Exists.elim g7 fun a7 b7 => ⟨e7, a7, b7.1, hP 42 _ _ _ ⟨fun c8 => hP 48 _ _ _ ⟨rfl, ⟨rfl, ⟨(b7.2.1 c8).1, ⟨(b7.2.1 c8).2.1, ⟨rfl, ⟨rfl, ⟨rfl, Exists.elim ((b7.2.1 c8).2.2 _ rfl) fun e9 g9 => Exists.elim g9 fun a9 b9 => ⟨e9, a9, b9.1, hP 69 _ _ _ ⟨rfl, ⟨rfl, ⟨b9.2.1, ⟨fun c10 => hP 89 _ _ _ ⟨rfl, ⟨rfl, ⟨(b9.2.2.1 c10).1, ⟨rfl, ⟨(b9.2.2.1 c10).2.1, ((b9.2.2.1 c10).2.2 _ rfl)⟩⟩⟩⟩⟩, fun c10 => (b9.2.2.2 c10)⟩⟩⟩⟩⟩⟩⟩⟩⟩⟩⟩⟩, fun c8 => (b7.2.2 c8)⟩⟩⟩⟩, fun c6 => hP 32 _ _ _ (b5.2.2 c6)⟩⟩⟩⟩⟩⟩⟩⟩⟩⟩⟩
theorem rg_C_holds_0 {d : Nat} {P : Nat → mj_L → List mj_V → mj_M → Prop} {R : Option mj_V → mj_M → Prop} (hP : mj_Cl mj_c6 (mj_Sp d) (0 < d) P R) {x1 : Int32} {x2 : Int32} {M : mj_M} (h :
  ∃ (y_2 : Int32) (M_1 : mj_M), mj_Sp d 30 [mj_r (0, 0, 0), mj_i x1] M (some (mj_i y_2)) M_1 ∧
  (y_2 = 0 →
  R (some (mj_i (-(nI 1)))) M_1) ∧
  (¬ y_2 = 0 →
  ∃ (y_4 : Int32) (M_3 : mj_M), mj_Sp d 28 [mj_r (0, 0, 0), mj_i x2] M_1 (some (mj_i y_4)) M_3 ∧
    (¬ y_4 = 0 →
    vp_in x2 6 ∧ vp_in x1 4 ∧ R (some (mj_i (M_3 0 4 x2.toNatClampNeg x1.toNatClampNeg))) M_3) ∧
    (¬ ¬ y_4 = 0 →
    R (some (mj_i (-(nI 1)))) M_3))) : P 0 [some (mj_r (13, 50, 0)), some (mj_i x1), some (mj_i x2)] [] M :=
  hP 0 _ _ _ ⟨rfl, ⟨rfl, Exists.elim h fun e1 g1 => Exists.elim g1 fun a1 b1 => ⟨e1, a1, b1.1, hP 8 _ _ _ ⟨fun c2 => hP 22 _ _ _ (b1.2.1 c2), fun c2 => ⟨rfl, ⟨rfl, Exists.elim (b1.2.2 c2) fun e3 g3 => Exists.elim g3 fun a3 b3 => ⟨e3, a3, b3.1, hP 19 _ _ _ ⟨fun c4 => hP 24 _ _ _ ⟨rfl, ⟨rfl, ⟨(b3.2.1 c4).1, ⟨(b3.2.1 c4).2.1, (b3.2.1 c4).2.2⟩⟩⟩⟩, fun c4 => hP 22 _ _ _ (b3.2.2 c4)⟩⟩⟩⟩⟩⟩⟩⟩
theorem rg_C_join_0 {d : Nat} {P : Nat → mj_L → List mj_V → mj_M → Prop} {R : Option mj_V → mj_M → Prop} (hP : mj_Cl mj_c7 (mj_Sp d) (0 < d) P R) {x1 : Int32} {x2 : Int32} {M : mj_M} (h :
  ∃ (y_2 : Int32) (M_1 : mj_M), mj_Sp d 28 [mj_r (0, 0, 0), mj_i x1] M (some (mj_i y_2)) M_1 ∧
  (y_2 = 0 →
  R (some (mj_i (-(nI 1)))) M_1) ∧
  (¬ y_2 = 0 →
  ∃ (y_4 : Int32) (M_3 : mj_M), mj_Sp d 28 [mj_r (0, 0, 0), mj_i x2] M_1 (some (mj_i y_4)) M_3 ∧
    (y_4 = 0 →
    R (some (mj_i (-(nI 1)))) M_3) ∧
    (¬ y_4 = 0 →
    (¬ x1 = x2 →
      ∃ (y_6 : Int32) (M_5 : mj_M), mj_Sp d 29 [mj_r (0, 0, 0), mj_i x1] M_3 (some (mj_i y_6)) M_5 ∧
        (y_6 = 0 →
        R (some (mj_i (-(nI 2)))) M_5) ∧
        (¬ y_6 = 0 →
        vp_in x1 6 ∧ vp_in x2 6 ∧ ((M_5 0 2 0 x1.toNatClampNeg) = (M_5 0 2 0 x2.toNatClampNeg) →
          ∃ M_7 : mj_M, mj_Sp d 38 [mj_r (0, 0, 0), mj_i x1, mj_i x2] M_5 none M_7 ∧
            vp_in x1 6 ∧ R (some (mj_i (M_7 0 3 0 x1.toNatClampNeg))) M_7) ∧
          (¬ (M_5 0 2 0 x1.toNatClampNeg) = (M_5 0 2 0 x2.toNatClampNeg) →
          R (some (mj_i (-(nI 2)))) M_5))) ∧
      (¬ ¬ x1 = x2 →
      R (some (mj_i (-(nI 1)))) M_3)))) : P 0 [some (mj_r (13, 50, 0)), some (mj_i x1), some (mj_i x2)] [] M :=
  hP 0 _ _ _ ⟨rfl, ⟨rfl, Exists.elim h fun e1 g1 => Exists.elim g1 fun a1 b1 => ⟨e1, a1, b1.1, hP 8 _ _ _ ⟨fun c2 => hP 27 _ _ _ (b1.2.1 c2), fun c2 => ⟨rfl, ⟨rfl, Exists.elim (b1.2.2 c2) fun e3 g3 => Exists.elim g3 fun a3 b3 => ⟨e3, a3, b3.1, hP 19 _ _ _ ⟨fun c4 => hP 27 _ _ _ (b3.2.1 c4), fun c4 => ⟨fun c5 => hP 29 _ _ _ ⟨rfl, ⟨rfl, Exists.elim ((b3.2.2 c4).1 c5) fun e6 g6 => Exists.elim g6 fun a6 b6 => ⟨e6, a6, b6.1, hP 37 _ _ _ ⟨fun c7 => hP 61 _ _ _ (b6.2.1 c7), fun c7 => ⟨rfl, ⟨rfl, ⟨(b6.2.2 c7).1, ⟨rfl, ⟨rfl, ⟨(b6.2.2 c7).2.1, ⟨fun c8 => hP 64 _ _ _ ⟨rfl, ⟨rfl, Exists.elim ((b6.2.2 c7).2.2.1 c8) fun a9 b9 => ⟨a9, b9.1, hP 73 _ _ _ ⟨rfl, ⟨rfl, ⟨b9.2.1, b9.2.2⟩⟩⟩⟩⟩⟩, fun c8 => hP 61 _ _ _ ((b6.2.2 c7).2.2.2 c8)⟩⟩⟩⟩⟩⟩⟩⟩⟩⟩⟩, fun c5 => hP 27 _ _ _ ((b3.2.2 c4).2 c5)⟩⟩⟩⟩⟩⟩⟩⟩⟩
theorem rg_C_split_0 {d : Nat} {P : Nat → mj_L → List mj_V → mj_M → Prop} {R : Option mj_V → mj_M → Prop} (hP : mj_Cl mj_c8 (mj_Sp d) (0 < d) P R) {x1 : Int32} {x2 : Int32} {M : mj_M} (h :
  ∃ (y_2 : Int32) (M_1 : mj_M), mj_Sp d 28 [mj_r (0, 0, 0), mj_i x1] M (some (mj_i y_2)) M_1 ∧
  (y_2 = 0 →
  R (some (mj_i (-(nI 1)))) M_1) ∧
  (¬ y_2 = 0 →
  ∃ (y_4 : Int32) (M_3 : mj_M), mj_Sp d 21 [mj_i x2, mj_i (nI 1), mj_i (nI 999)] M_1 (some (mj_i y_4)) M_3 ∧
    (y_4 = 0 →
    ∃ (y_6 : Int32) (M_5 : mj_M), mj_Sp d 29 [mj_r (0, 0, 0), mj_i x1] M_3 (some (mj_i y_6)) M_5 ∧
      (y_6 = 0 →
      R (some (mj_i (-(nI 2)))) M_5) ∧
      (¬ y_6 = 0 →
      vp_in x1 6 ∧ (x2 < (M_5 0 3 0 x1.toNatClampNeg) →
        ((M_5 0 0 0 0) < (nI 6) →
          vp_in x1 6 ∧ vp_in x1 6 ∧ ∀ M_7 : mj_M, M_7 = mj_wl M_5 (0, 3, 0, x1.toNatClampNeg) ((M_5 0 3 0 x1.toNatClampNeg) - x2) → vp_in x1 6 ∧ vp_in x1 6 ∧ ∃ (y_9 : Int32) (M_8 : mj_M), mj_Sp d 32 [mj_r (0, 0, 0), mj_i (M_7 0 1 0 x1.toNatClampNeg), mj_i (M_7 0 2 0 x1.toNatClampNeg), mj_i x2] M_7 (some (mj_i y_9)) M_8 ∧
            R (some (mj_i y_9)) M_8) ∧
          (¬ (M_5 0 0 0 0) < (nI 6) →
          R (some (mj_i (-(nI 3)))) M_5)) ∧
        (¬ x2 < (M_5 0 3 0 x1.toNatClampNeg) →
        R (some (mj_i (-(nI 2)))) M_5))) ∧
    (¬ y_4 = 0 →
    R (some (mj_i (-(nI 1)))) M_3))) : P 0 [some (mj_r (13, 50, 0)), some (mj_i x1), some (mj_i x2)] [] M :=
  hP 0 _ _ _ ⟨rfl, ⟨rfl, Exists.elim h fun e1 g1 => Exists.elim g1 fun a1 b1 => ⟨e1, a1, b1.1, hP 8 _ _ _ ⟨fun c2 => hP 22 _ _ _ (b1.2.1 c2), fun c2 => ⟨rfl, Exists.elim (b1.2.2 c2) fun e3 g3 => Exists.elim g3 fun a3 b3 => ⟨e3, a3, b3.1, hP 19 _ _ _ ⟨fun c4 => hP 24 _ _ _ ⟨rfl, ⟨rfl, Exists.elim (b3.2.1 c4) fun e5 g5 => Exists.elim g5 fun a5 b5 => ⟨e5, a5, b5.1, hP 32 _ _ _ ⟨fun c6 => hP 48 _ _ _ (b5.2.1 c6), fun c6 => ⟨rfl, ⟨rfl, ⟨(b5.2.2 c6).1, ⟨fun c7 => hP 51 _ _ _ ⟨rfl, ⟨rfl, ⟨fun c8 => hP 66 _ _ _ ⟨rfl, ⟨rfl, ⟨(((b5.2.2 c6).2.1 c7).1 c8).1, ⟨rfl, ⟨(((b5.2.2 c6).2.1 c7).1 c8).2.1, ⟨rfl, ⟨rfl, ⟨rfl, ⟨((((b5.2.2 c6).2.1 c7).1 c8).2.2 _ rfl).1, ⟨rfl, ⟨rfl, ⟨((((b5.2.2 c6).2.1 c7).1 c8).2.2 _ rfl).2.1, ⟨rfl, Exists.elim (((((b5.2.2 c6).2.1 c7).1 c8).2.2 _ rfl).2.2) fun e9 g9 => Exists.elim g9 fun a9 b9 => ⟨e9, a9, b9.1, hP 105 _ _ _ b9.2⟩⟩⟩⟩⟩⟩⟩⟩⟩⟩⟩⟩⟩⟩, fun c8 => (((b5.2.2 c6).2.1 c7).2 c8)⟩⟩⟩, fun c7 => hP 48 _ _ _ ((b5.2.2 c6).2.2 c7)⟩⟩⟩⟩⟩⟩⟩⟩, fun c4 => hP 22 _ _ _ (b3.2.2 c4)⟩⟩⟩⟩⟩⟩⟩
theorem rg_C_salt_0 {d : Nat} {P : Nat → mj_L → List mj_V → mj_M → Prop} {R : Option mj_V → mj_M → Prop} (hP : mj_Cl mj_c9 (mj_Sp d) (0 < d) P R) {x1 : Int32} {M : mj_M} (h :
  ∃ (y_2 : Int32) (M_1 : mj_M), mj_Sp d 28 [mj_r (0, 0, 0), mj_i x1] M (some (mj_i y_2)) M_1 ∧
  (¬ y_2 = 0 →
  ∃ (y_4 : Int32) (M_3 : mj_M), mj_Sp d 29 [mj_r (0, 0, 0), mj_i x1] M_1 (some (mj_i y_4)) M_3 ∧
    (¬ y_4 = 0 →
    vp_in x1 6 ∧ ∀ x2_5 : Int32, x2_5 = M_3 0 1 0 x1.toNatClampNeg → vp_in x1 6 ∧ ∀ M_6 : mj_M, M_6 = mj_wl M_3 (0, 1, 0, x1.toNatClampNeg) (nI 3) → R (some (mj_i x2_5)) M_6) ∧
    (¬ ¬ y_4 = 0 →
    R (some (mj_i (-(nI 2)))) M_3)) ∧
  (¬ ¬ y_2 = 0 →
  R (some (mj_i (-(nI 1)))) M_1)) : P 0 [some (mj_r (13, 50, 0)), some (mj_i x1), none] [] M :=
  hP 0 _ _ _ ⟨rfl, ⟨rfl, Exists.elim h fun e1 g1 => Exists.elim g1 fun a1 b1 => ⟨e1, a1, b1.1, hP 8 _ _ _ ⟨fun c2 => hP 13 _ _ _ ⟨rfl, ⟨rfl, Exists.elim (b1.2.1 c2) fun e3 g3 => Exists.elim g3 fun a3 b3 => ⟨e3, a3, b3.1, hP 21 _ _ _ ⟨fun c4 => hP 27 _ _ _ ⟨rfl, ⟨rfl, ⟨(b3.2.1 c4).1, ⟨rfl, ⟨rfl, ⟨rfl, ⟨rfl, ⟨((b3.2.1 c4).2 _ rfl).1, (((b3.2.1 c4).2 _ rfl).2 _ rfl)⟩⟩⟩⟩⟩⟩⟩⟩, fun c4 => (b3.2.2 c4)⟩⟩⟩⟩, fun c2 => (b1.2.2 c2)⟩⟩⟩⟩
theorem rg_C_type_0 {d : Nat} {P : Nat → mj_L → List mj_V → mj_M → Prop} {R : Option mj_V → mj_M → Prop} (hP : mj_Cl mj_c10 (mj_Sp d) (0 < d) P R) {w1 : Int64} {x3 : Int32} {M : mj_M} (h :
  ∃ (y_2 : Int32) (M_1 : mj_M), mj_Sp d 21 [mj_i x3, mj_i (nI 1), mj_i (nI 8)] M (some (mj_i y_2)) M_1 ∧
  (y_2 = 0 →
  P 15 [some (mj_r (13, 50, 0)), some (mj_l w1), none, some (mj_i x3), some (mj_i (nI 0))] [] M_1) ∧
  (¬ y_2 = 0 →
  R (some (mj_i (-(nI 1)))) M_1)) : P 0 [some (mj_r (13, 50, 0)), some (mj_l w1), none, some (mj_i x3), none] [] M :=
  hP 0 _ _ _ ⟨rfl, Exists.elim h fun e1 g1 => Exists.elim g1 fun a1 b1 => ⟨e1, a1, b1.1, hP 7 _ _ _ ⟨fun c2 => hP 12 _ _ _ ⟨rfl, (b1.2.1 c2)⟩, fun c2 => (b1.2.2 c2)⟩⟩⟩
theorem rg_C_type_15 {d : Nat} {P : Nat → mj_L → List mj_V → mj_M → Prop} {R : Option mj_V → mj_M → Prop} (hP : mj_Cl mj_c10 (mj_Sp d) (0 < d) P R) {w1 : Int64} {x3 : Int32} {x4 : Int32} {M : mj_M} (h :
  (x3 ≤ x4 →
  (((M 6 45 0 0) + x3) ≤ (nI 48) →
    ∀ x4_1 : Int32, x4_1 = x3 - (nI 1) → P 67 [some (mj_r (13, 50, 0)), some (mj_l w1), none, some (mj_i x3), some (mj_i x4_1)] [] M) ∧
    (¬ ((M 6 45 0 0) + x3) ≤ (nI 48) →
    R (some (mj_i (-(nI 3)))) M)) ∧
  (¬ x3 ≤ x4 →
  ∃ (y_3 : Int32) (M_2 : mj_M), mj_Sp d 22 [mj_l w1, mj_i x4] M (some (mj_i y_3)) M_2 ∧
    ∃ (y_5 : Int32) (M_4 : mj_M), mj_Sp d 21 [mj_i y_3, mj_i (nI 32), mj_i (nI 126)] M_2 (some (mj_i y_5)) M_4 ∧
    (y_5 = 0 →
    ∀ x4_6 : Int32, x4_6 = x4 + (nI 1) → P 15 [some (mj_r (13, 50, 0)), some (mj_l w1), none, some (mj_i x3), some (mj_i x4_6)] [] M_4) ∧
    (¬ y_5 = 0 →
    R (some (mj_i (-(nI 1)))) M_4))) : P 15 [some (mj_r (13, 50, 0)), some (mj_l w1), none, some (mj_i x3), some (mj_i x4)] [] M :=
  hP 15 _ _ _ ⟨fun c1 => hP 45 _ _ _ ⟨rfl, ⟨rfl, ⟨fun c2 => hP 62 _ _ _ ⟨rfl, (((h.1 c1).1 c2) _ rfl)⟩, fun c2 => ((h.1 c1).2 c2)⟩⟩⟩, fun c1 => ⟨rfl, Exists.elim (h.2 c1) fun e3 g3 => Exists.elim g3 fun a3 b3 => ⟨e3, a3, b3.1, hP 27 _ _ _ ⟨rfl, Exists.elim b3.2 fun e4 g4 => Exists.elim g4 fun a4 b4 => ⟨e4, a4, b4.1, hP 34 _ _ _ ⟨fun c5 => hP 39 _ _ _ ⟨rfl, ((b4.2.1 c5) _ rfl)⟩, fun c5 => (b4.2.2 c5)⟩⟩⟩⟩⟩⟩
theorem rg_C_type_67 {d : Nat} {P : Nat → mj_L → List mj_V → mj_M → Prop} {R : Option mj_V → mj_M → Prop} (hP : mj_Cl mj_c10 (mj_Sp d) (0 < d) P R) {w1 : Int64} {x3 : Int32} {x4 : Int32} {M : mj_M} (h :
  (x4 < 0 →
  R (some (mj_i (M 6 45 0 0))) M) ∧
  (¬ x4 < 0 →
  ∃ (y_2 : Int32) (M_1 : mj_M), mj_Sp d 22 [mj_l w1, mj_i x4] M (some (mj_i y_2)) M_1 ∧
    ∃ M_3 : mj_M, mj_Sp d 53 [mj_r (6, 45, 0), mj_i y_2] M_1 none M_3 ∧
    ∀ x4_4 : Int32, x4_4 = x4 + (-(nI 1)) → P 67 [some (mj_r (13, 50, 0)), some (mj_l w1), none, some (mj_i x3), some (mj_i x4_4)] [] M_3)) : P 67 [some (mj_r (13, 50, 0)), some (mj_l w1), none, some (mj_i x3), some (mj_i x4)] [] M :=
  hP 67 _ _ _ ⟨fun c1 => hP 91 _ _ _ ⟨rfl, ⟨rfl, (h.1 c1)⟩⟩, fun c1 => ⟨rfl, ⟨rfl, Exists.elim (h.2 c1) fun e2 g2 => Exists.elim g2 fun a2 b2 => ⟨e2, a2, b2.1, hP 82 _ _ _ ⟨rfl, Exists.elim b2.2 fun a3 b3 => ⟨a3, b3.1, hP 85 _ _ _ ⟨rfl, (b3.2 _ rfl)⟩⟩⟩⟩⟩⟩⟩
theorem rg_C_winds_0 {d : Nat} {P : Nat → mj_L → List mj_V → mj_M → Prop} {R : Option mj_V → mj_M → Prop} (hP : mj_Cl mj_c11 (mj_Sp d) (0 < d) P R)  {M : mj_M} (h :
  ∃ (y_2 : Int32) (M_1 : mj_M), mj_Sp d 54 [mj_r (6, 45, 0), mj_r (25, 10, 0)] M (some (mj_i y_2)) M_1 ∧
  ∀ M_3 : mj_M, M_3 = mj_wl M_1 (6, 45, 0, 0) (nI 0) → (y_2 ≤ 0 →
  R (some (mj_i y_2)) M_3) ∧
  (¬ y_2 ≤ 0 →
  ∃ M_4 : mj_M, mj_Sp d 60 [mj_r (20 + 0, 10, 0), mj_r (25, 10, 0)] M_3 none M_4 ∧
    R (some (mj_i y_2)) M_4)) : P 0 [some (mj_r (13, 50, 0)), none] [] M :=
  hP 0 _ _ _ ⟨rfl, ⟨rfl, ⟨rfl, Exists.elim h fun e1 g1 => Exists.elim g1 fun a1 b1 => ⟨e1, a1, b1.1, hP 11 _ _ _ ⟨rfl, ⟨rfl, ⟨rfl, ⟨fun c2 => hP 38 _ _ _ ((b1.2 _ rfl).1 c2), fun c2 => ⟨rfl, ⟨rfl, ⟨rfl, ⟨rfl, Exists.elim ((b1.2 _ rfl).2 c2) fun a3 b3 => ⟨a3, b3.1, hP 38 _ _ _ b3.2⟩⟩⟩⟩⟩⟩⟩⟩⟩⟩⟩⟩⟩
theorem rg_C_fallen_0 {d : Nat} {P : Nat → mj_L → List mj_V → mj_M → Prop} {R : Option mj_V → mj_M → Prop} (hP : mj_Cl mj_c12 (mj_Sp d) (0 < d) P R) {x1 : Int32} {M : mj_M} (h :
  ∃ (y_2 : Int32) (M_1 : mj_M), mj_Sp d 21 [mj_i x1, mj_i (nI 0), mj_i (nI 24)] M (some (mj_i y_2)) M_1 ∧
  (y_2 = 0 →
  vp_in x1 25 ∧ R (some (mj_i (M_1 0 9 0 x1.toNatClampNeg))) M_1) ∧
  (¬ y_2 = 0 →
  R (some (mj_i (-(nI 1)))) M_1)) : P 0 [some (mj_r (13, 50, 0)), some (mj_i x1)] [] M :=
  hP 0 _ _ _ ⟨rfl, Exists.elim h fun e1 g1 => Exists.elim g1 fun a1 b1 => ⟨e1, a1, b1.1, hP 7 _ _ _ ⟨fun c2 => hP 14 _ _ _ ⟨rfl, ⟨rfl, ⟨(b1.2.1 c2).1, hP 23 _ _ _ ((b1.2.1 c2).2)⟩⟩⟩, fun c2 => hP 23 _ _ _ (b1.2.2 c2)⟩⟩⟩
theorem rg_C_count_0 {d : Nat} {P : Nat → mj_L → List mj_V → mj_M → Prop} {R : Option mj_V → mj_M → Prop} (hP : mj_Cl mj_c13 (mj_Sp d) (0 < d) P R) {x1 : Int32} {M : mj_M} (h :
  (x1 = nI 0 →
  ∃ (y_10 : Int32) (M_9 : mj_M), mj_Sp d 36 [mj_r (0, 0, 0)] M (some (mj_i y_10)) M_9 ∧
    R (some (mj_i y_10)) M_9) ∧
  (¬ x1 = nI 0 →
  (x1 = nI 1 →
    R (some (mj_i (M 0 0 0 1))) M) ∧
    (¬ x1 = nI 1 →
    (x1 = nI 2 →
      R (some (mj_i (M 0 0 0 2))) M) ∧
      (¬ x1 = nI 2 →
      (x1 = nI 3 →
        R (some (mj_i (M (20 + 0) 10 0 0))) M) ∧
        (¬ x1 = nI 3 →
        (x1 = nI 4 →
          ∃ (y_8 : Int32) (M_7 : mj_M), mj_Sp d 37 [mj_r (0, 0, 0), mj_i (nI 1)] M (some (mj_i y_8)) M_7 ∧
            R (some (mj_i y_8)) M_7) ∧
          (¬ x1 = nI 4 →
          (x1 = nI 5 →
            ∃ (y_6 : Int32) (M_5 : mj_M), mj_Sp d 37 [mj_r (0, 0, 0), mj_i (nI 0)] M (some (mj_i y_6)) M_5 ∧
              R (some (mj_i y_6)) M_5) ∧
            (¬ x1 = nI 5 →
            (x1 = nI 6 →
              ∃ (y_4 : Int32) (M_3 : mj_M), mj_Sp d 23 [mj_r (0, 9, 0)] M (some (mj_i y_4)) M_3 ∧
                R (some (mj_i y_4)) M_3) ∧
              (¬ x1 = nI 6 →
              (x1 = nI 7 →
                ∃ (y_2 : Int32) (M_1 : mj_M), mj_Sp d 23 [mj_r (0, 6, 0)] M (some (mj_i y_2)) M_1 ∧
                  R (some (mj_i y_2)) M_1) ∧
                (¬ x1 = nI 7 →
                R (some (mj_i (-(nI 1)))) M))))))))) : P 0 [some (mj_r (13, 50, 0)), some (mj_i x1)] [] M :=
  hP 0 _ _ _ ⟨fun c1 => hP 48 _ _ _ ⟨rfl, ⟨rfl, Exists.elim (h.1 c1) fun e2 g2 => Exists.elim g2 fun a2 b2 => ⟨e2, a2, b2.1, hP 55 _ _ _ b2.2⟩⟩⟩, fun c1 => ⟨fun c3 => hP 56 _ _ _ ⟨rfl, ⟨rfl, ((h.2 c1).1 c3)⟩⟩, fun c3 => ⟨fun c4 => hP 64 _ _ _ ⟨rfl, ⟨rfl, (((h.2 c1).2 c3).1 c4)⟩⟩, fun c4 => ⟨fun c5 => hP 72 _ _ _ ⟨rfl, ⟨rfl, ⟨rfl, ((((h.2 c1).2 c3).2 c4).1 c5)⟩⟩⟩, fun c5 => ⟨fun c6 => hP 83 _ _ _ ⟨rfl, ⟨rfl, Exists.elim (((((h.2 c1).2 c3).2 c4).2 c5).1 c6) fun e7 g7 => Exists.elim g7 fun a7 b7 => ⟨e7, a7, b7.1, hP 91 _ _ _ b7.2⟩⟩⟩, fun c6 => ⟨fun c8 => hP 92 _ _ _ ⟨rfl, ⟨rfl, Exists.elim ((((((h.2 c1).2 c3).2 c4).2 c5).2 c6).1 c8) fun e9 g9 => Exists.elim g9 fun a9 b9 => ⟨e9, a9, b9.1, hP 100 _ _ _ b9.2⟩⟩⟩, fun c8 => ⟨fun c10 => hP 101 _ _ _ ⟨rfl, ⟨rfl, ⟨rfl, Exists.elim (((((((h.2 c1).2 c3).2 c4).2 c5).2 c6).2 c8).1 c10) fun e11 g11 => Exists.elim g11 fun a11 b11 => ⟨e11, a11, b11.1, hP 111 _ _ _ b11.2⟩⟩⟩⟩, fun c10 => ⟨fun c12 => hP 112 _ _ _ ⟨rfl, ⟨rfl, ⟨rfl, Exists.elim ((((((((h.2 c1).2 c3).2 c4).2 c5).2 c6).2 c8).2 c10).1 c12) fun e13 g13 => Exists.elim g13 fun a13 b13 => ⟨e13, a13, b13.1, hP 122 _ _ _ b13.2⟩⟩⟩⟩, fun c12 => hP 123 _ _ _ ((((((((h.2 c1).2 c3).2 c4).2 c5).2 c6).2 c8).2 c10).2 c12)⟩⟩⟩⟩⟩⟩⟩⟩
theorem rg_C_pass_0 {d : Nat} {P : Nat → mj_L → List mj_V → mj_M → Prop} {R : Option mj_V → mj_M → Prop} (hP : mj_Cl mj_c14 (mj_Sp d) (0 < d) P R) {x1 : Int32} {M : mj_M} (h :
  ∃ (y_2 : Int32) (M_1 : mj_M), mj_Sp d 21 [mj_i x1, mj_i (nI 1), mj_i (nI 60)] M (some (mj_i y_2)) M_1 ∧
  (y_2 = 0 →
  (((M_1 0 0 0 2) + x1) ≤ (nI 9999) →
    P 34 [some (mj_r (13, 50, 0)), some (mj_i x1), some (mj_i (nI 0)), some (mj_i (nI 0))] [] M_1) ∧
    (¬ ((M_1 0 0 0 2) + x1) ≤ (nI 9999) →
    R (some (mj_i (-(nI 3)))) M_1)) ∧
  (¬ y_2 = 0 →
  R (some (mj_i (-(nI 1)))) M_1)) : P 0 [some (mj_r (13, 50, 0)), some (mj_i x1), none, none] [] M :=
  hP 0 _ _ _ ⟨rfl, Exists.elim h fun e1 g1 => Exists.elim g1 fun a1 b1 => ⟨e1, a1, b1.1, hP 7 _ _ _ ⟨fun c2 => hP 12 _ _ _ ⟨rfl, ⟨rfl, ⟨fun c3 => hP 30 _ _ _ ⟨rfl, ⟨rfl, ((b1.2.1 c2).1 c3)⟩⟩, fun c3 => ((b1.2.1 c2).2 c3)⟩⟩⟩, fun c2 => (b1.2.2 c2)⟩⟩⟩
theorem rg_C_pass_34 {d : Nat} {P : Nat → mj_L → List mj_V → mj_M → Prop} {R : Option mj_V → mj_M → Prop} (hP : mj_Cl mj_c14 (mj_Sp d) (0 < d) P R) {x1 : Int32} {x2 : Int32} {x3 : Int32} {M : mj_M} (h :
  (x1 ≤ x3 →
  R (some (mj_i x2)) M) ∧
  (¬ x1 ≤ x3 →
  ∃ (y_2 : Int32) (M_1 : mj_M), mj_Sp d 58 [mj_r (20 + 0, 10, 0), mj_i (M 0 0 0 2)] M (some (mj_i y_2)) M_1 ∧
    ∃ (y_4 : Int32) (M_3 : mj_M), mj_Sp d 59 [mj_r (20 + 0, 10, 0), mj_i (M_1 0 0 0 2)] M_1 (some (mj_i y_4)) M_3 ∧
    ∃ (y_6 : Int32) (M_5 : mj_M), mj_Sp d 40 [mj_r (0, 0, 0), mj_i y_2, mj_i y_4] M_3 (some (mj_i y_6)) M_5 ∧
    ∀ x2_7 : Int32, x2_7 = x2 + y_6 → ∀ x3_8 : Int32, x3_8 = x3 + (nI 1) → P 34 [some (mj_r (13, 50, 0)), some (mj_i x1), some (mj_i x2_7), some (mj_i x3_8)] [] M_5)) : P 34 [some (mj_r (13, 50, 0)), some (mj_i x1), some (mj_i x2), some (mj_i x3)] [] M :=
  hP 34 _ _ _ ⟨fun c1 => hP 89 _ _ _ (h.1 c1), fun c1 => ⟨rfl, ⟨rfl, ⟨rfl, ⟨rfl, ⟨rfl, ⟨rfl, Exists.elim (h.2 c1) fun e2 g2 => Exists.elim g2 fun a2 b2 => ⟨e2, a2, b2.1, hP 61 _ _ _ ⟨rfl, ⟨rfl, ⟨rfl, ⟨rfl, ⟨rfl, Exists.elim b2.2 fun e3 g3 => Exists.elim g3 fun a3 b3 => ⟨e3, a3, b3.1, hP 78 _ _ _ ⟨rfl, Exists.elim b3.2 fun e4 g4 => Exists.elim g4 fun a4 b4 => ⟨e4, a4, b4.1, hP 81 _ _ _ ⟨rfl, ⟨rfl, ((b4.2 _ rfl) _ rfl)⟩⟩⟩⟩⟩⟩⟩⟩⟩⟩⟩⟩⟩⟩⟩⟩⟩⟩
theorem rg_C_drawn_0 {d : Nat} {P : Nat → mj_L → List mj_V → mj_M → Prop} {R : Option mj_V → mj_M → Prop} (hP : mj_Cl mj_c15 (mj_Sp d) (0 < d) P R) {x1 : Int32} {M : mj_M} (h :
  ∃ (y_2 : Int32) (M_1 : mj_M), mj_Sp d 21 [mj_i x1, mj_i (nI 1), mj_i (nI 60)] M (some (mj_i y_2)) M_1 ∧
  (y_2 = 0 →
  (((M_1 0 0 0 2) + x1) ≤ (nI 9999) →
    P 34 [some (mj_r (13, 50, 0)), some (mj_i x1), some (mj_i (nI 0)), some (mj_i (nI 0)), none] [] M_1) ∧
    (¬ ((M_1 0 0 0 2) + x1) ≤ (nI 9999) →
    R (some (mj_i (-(nI 3)))) M_1)) ∧
  (¬ y_2 = 0 →
  R (some (mj_i (-(nI 1)))) M_1)) : P 0 [some (mj_r (13, 50, 0)), some (mj_i x1), none, none, none] [] M :=
  hP 0 _ _ _ ⟨rfl, Exists.elim h fun e1 g1 => Exists.elim g1 fun a1 b1 => ⟨e1, a1, b1.1, hP 7 _ _ _ ⟨fun c2 => hP 12 _ _ _ ⟨rfl, ⟨rfl, ⟨fun c3 => hP 30 _ _ _ ⟨rfl, ⟨rfl, ((b1.2.1 c2).1 c3)⟩⟩, fun c3 => ((b1.2.1 c2).2 c3)⟩⟩⟩, fun c2 => (b1.2.2 c2)⟩⟩⟩
theorem rg_C_drawn_34 {d : Nat} {P : Nat → mj_L → List mj_V → mj_M → Prop} {R : Option mj_V → mj_M → Prop} (hP : mj_Cl mj_c15 (mj_Sp d) (0 < d) P R) {x1 : Int32} {x2 : Int32} {x3 : Int32} {o4 : Option mj_V} {M : mj_M} (h :
  (x1 ≤ x3 →
  R (some (mj_i x2)) M) ∧
  (¬ x1 ≤ x3 →
  ∃ (y_2 : Int32) (M_1 : mj_M), mj_Sp d 39 [mj_r (0, 0, 0)] M (some (mj_i y_2)) M_1 ∧
    ¬ (nI 4) = 0 ∧ ¬ (nI 4) = 0 ∧ ∃ (y_4 : Int32) (M_3 : mj_M), mj_Sp d 40 [mj_r (0, 0, 0), mj_i (y_2 % (nI 4)), mj_i (y_2 / (nI 4))] M_1 (some (mj_i y_4)) M_3 ∧
    ∀ x2_5 : Int32, x2_5 = x2 + y_4 → ∀ x3_6 : Int32, x3_6 = x3 + (nI 1) → P 34 [some (mj_r (13, 50, 0)), some (mj_i x1), some (mj_i x2_5), some (mj_i x3_6), some (mj_i y_2)] [] M_3)) : P 34 [some (mj_r (13, 50, 0)), some (mj_i x1), some (mj_i x2), some (mj_i x3), o4] [] M :=
  hP 34 _ _ _ ⟨fun c1 => hP 72 _ _ _ (h.1 c1), fun c1 => ⟨rfl, ⟨rfl, Exists.elim (h.2 c1) fun e2 g2 => Exists.elim g2 fun a2 b2 => ⟨e2, a2, b2.1, hP 46 _ _ _ ⟨rfl, ⟨rfl, ⟨b2.2.1, ⟨b2.2.2.1, ⟨rfl, Exists.elim b2.2.2.2 fun e3 g3 => Exists.elim g3 fun a3 b3 => ⟨e3, a3, b3.1, hP 64 _ _ _ ⟨rfl, ⟨rfl, ((b3.2 _ rfl) _ rfl)⟩⟩⟩⟩⟩⟩⟩⟩⟩⟩⟩⟩
theorem rg_C_seed_0 {d : Nat} {P : Nat → mj_L → List mj_V → mj_M → Prop} {R : Option mj_V → mj_M → Prop} (hP : mj_Cl mj_c16 (mj_Sp d) (0 < d) P R) {x1 : Int32} {M : mj_M} (h :
  (0 ≤ x1 →
  ∀ x2_1 : Int32, x2_1 = M 0 0 0 3 → ∀ M_2 : mj_M, M_2 = mj_wl M (0, 0, 0, 3) x1 → R (some (mj_i x2_1)) M_2) ∧
  (¬ 0 ≤ x1 →
  R (some (mj_i (-(nI 1)))) M)) : P 0 [some (mj_r (13, 50, 0)), some (mj_i x1), none] [] M :=
  hP 0 _ _ _ ⟨fun c1 => hP 6 _ _ _ ⟨rfl, ⟨rfl, ⟨rfl, ⟨rfl, ⟨rfl, (((h.1 c1) _ rfl) _ rfl)⟩⟩⟩⟩⟩, fun c1 => (h.2 c1)⟩
theorem rg_C_where_0 {d : Nat} {P : Nat → mj_L → List mj_V → mj_M → Prop} {R : Option mj_V → mj_M → Prop} (hP : mj_Cl mj_c17 (mj_Sp d) (0 < d) P R) {x1 : Int32} {x2 : Int32} {x3 : Int32} {M : mj_M} (h :
  ∃ (y_2 : Int32) (M_1 : mj_M), mj_Sp d 28 [mj_r (0, 0, 0), mj_i x1] M (some (mj_i y_2)) M_1 ∧
  (y_2 = 0 →
  R (some (mj_i (-(nI 1)))) M_1) ∧
  (¬ y_2 = 0 →
  ∃ (y_4 : Int32) (M_3 : mj_M), mj_Sp d 21 [mj_i x2, mj_i (nI 1), mj_i (nI 24)] M_1 (some (mj_i y_4)) M_3 ∧
    (¬ y_4 = 0 →
    R (some (mj_i (-(nI 1)))) M_3) ∧
    (¬ ¬ y_4 = 0 →
    ∃ (y_6 : Int32) (M_5 : mj_M), mj_Sp d 21 [mj_i x3, mj_i (nI 0), mj_i (nI 1)] M_3 (some (mj_i y_6)) M_5 ∧
      (y_6 = 0 →
      ∃ M_7 : mj_M, mj_Sp d 24 [mj_r (2, 20, 0), mj_r (0, 0, 0)] M_5 none M_7 ∧
        (¬ x3 = (nI 1) →
        ∃ M_8 : mj_M, mj_Sp d 25 [mj_r (2, 20, 0), mj_i x1, mj_i x2] M_7 none M_8 ∧
          vp_in x1 6 ∧ R (some (mj_i (M_8 2 2 0 x1.toNatClampNeg))) M_8) ∧
        (¬ ¬ x3 = (nI 1) →
        vp_in x1 6 ∧ ∃ M_9 : mj_M, mj_Sp d 61 [mj_r (2, 4, x1.toNatClampNeg), mj_i (nI 0)] M_7 none M_9 ∧
          ∃ M_10 : mj_M, mj_Sp d 25 [mj_r (2, 20, 0), mj_i x1, mj_i x2] M_9 none M_10 ∧
          vp_in x1 6 ∧ R (some (mj_i (M_10 2 2 0 x1.toNatClampNeg))) M_10)) ∧
      (¬ y_6 = 0 →
      R (some (mj_i (-(nI 1)))) M_5)))) : P 0 [some (mj_r (13, 50, 0)), some (mj_i x1), some (mj_i x2), some (mj_i x3)] [] M :=
  hP 0 _ _ _ ⟨rfl, ⟨rfl, Exists.elim h fun e1 g1 => Exists.elim g1 fun a1 b1 => ⟨e1, a1, b1.1, hP 8 _ _ _ ⟨fun c2 => hP 30 _ _ _ (b1.2.1 c2), fun c2 => ⟨rfl, Exists.elim (b1.2.2 c2) fun e3 g3 => Exists.elim g3 fun a3 b3 => ⟨e3, a3, b3.1, hP 18 _ _ _ ⟨fun c4 => hP 30 _ _ _ (b3.2.1 c4), fun c4 => ⟨rfl, Exists.elim (b3.2.2 c4) fun e5 g5 => Exists.elim g5 fun a5 b5 => ⟨e5, a5, b5.1, hP 27 _ _ _ ⟨fun c6 => hP 32 _ _ _ ⟨rfl, ⟨rfl, ⟨rfl, Exists.elim (b5.2.1 c6) fun a7 b7 => ⟨a7, b7.1, hP 43 _ _ _ ⟨fun c8 => hP 64 _ _ _ ⟨rfl, ⟨rfl, Exists.elim (b7.2.1 c8) fun a9 b9 => ⟨a9, b9.1, hP 73 _ _ _ ⟨rfl, ⟨rfl, ⟨rfl, ⟨b9.2.1, b9.2.2⟩⟩⟩⟩⟩⟩⟩, fun c8 => ⟨rfl, ⟨rfl, ⟨rfl, ⟨(b7.2.2 c8).1, ⟨rfl, Exists.elim ((b7.2.2 c8).2) fun a10 b10 => ⟨a10, b10.1, hP 64 _ _ _ ⟨rfl, ⟨rfl, Exists.elim b10.2 fun a11 b11 => ⟨a11, b11.1, hP 73 _ _ _ ⟨rfl, ⟨rfl, ⟨rfl, ⟨b11.2.1, b11.2.2⟩⟩⟩⟩⟩⟩⟩⟩⟩⟩⟩⟩⟩⟩⟩⟩⟩⟩, fun c6 => hP 30 _ _ _ (b5.2.2 c6)⟩⟩⟩⟩⟩⟩⟩⟩⟩⟩
theorem rg_C_fewest_0 {d : Nat} {P : Nat → mj_L → List mj_V → mj_M → Prop} {R : Option mj_V → mj_M → Prop} (hP : mj_Cl mj_c18 (mj_Sp d) (0 < d) P R) {x1 : Int32} {x2 : Int32} {x3 : Int32} {M : mj_M} (h :
  ∃ (y_2 : Int32) (M_1 : mj_M), mj_Sp d 30 [mj_r (0, 0, 0), mj_i x1] M (some (mj_i y_2)) M_1 ∧
  (y_2 = 0 →
  R (some (mj_i (-(nI 1)))) M_1) ∧
  (¬ y_2 = 0 →
  ∃ (y_4 : Int32) (M_3 : mj_M), mj_Sp d 21 [mj_i x2, mj_i (nI 1), mj_i (nI 12)] M_1 (some (mj_i y_4)) M_3 ∧
    (¬ y_4 = 0 →
    R (some (mj_i (-(nI 1)))) M_3) ∧
    (¬ ¬ y_4 = 0 →
    ∃ (y_6 : Int32) (M_5 : mj_M), mj_Sp d 21 [mj_i x3, mj_i (-(nI 1)), mj_i (nI 5)] M_3 (some (mj_i y_6)) M_5 ∧
      (y_6 = 0 →
      ∃ (y_8 : Int32) (M_7 : mj_M), mj_Sp d 47 [mj_r (11, 21, 0), mj_r (0, 0, 0), mj_i x1, mj_i x2] M_5 (some (mj_i y_8)) M_7 ∧
        (0 ≤ y_8 →
        (0 ≤ x3 →
          vp_in x3 6 ∧ R (some (mj_i (M_7 11 27 0 x3.toNatClampNeg))) M_7) ∧
          (¬ 0 ≤ x3 →
          R (some (mj_i y_8)) M_7)) ∧
        (¬ 0 ≤ y_8 →
        R (some (mj_i (-(nI 4)))) M_7)) ∧
      (¬ y_6 = 0 →
      R (some (mj_i (-(nI 1)))) M_5)))) : P 0 [some (mj_r (13, 50, 0)), some (mj_i x1), some (mj_i x2), some (mj_i x3), none] [] M :=
  hP 0 _ _ _ ⟨rfl, ⟨rfl, Exists.elim h fun e1 g1 => Exists.elim g1 fun a1 b1 => ⟨e1, a1, b1.1, hP 8 _ _ _ ⟨fun c2 => hP 30 _ _ _ (b1.2.1 c2), fun c2 => ⟨rfl, Exists.elim (b1.2.2 c2) fun e3 g3 => Exists.elim g3 fun a3 b3 => ⟨e3, a3, b3.1, hP 18 _ _ _ ⟨fun c4 => hP 30 _ _ _ (b3.2.1 c4), fun c4 => ⟨rfl, Exists.elim (b3.2.2 c4) fun e5 g5 => Exists.elim g5 fun a5 b5 => ⟨e5, a5, b5.1, hP 27 _ _ _ ⟨fun c6 => hP 32 _ _ _ ⟨rfl, ⟨rfl, ⟨rfl, Exists.elim (b5.2.1 c6) fun e7 g7 => Exists.elim g7 fun a7 b7 => ⟨e7, a7, b7.1, hP 45 _ _ _ ⟨rfl, ⟨fun c8 => hP 55 _ _ _ ⟨fun c9 => hP 64 _ _ _ ⟨rfl, ⟨rfl, ⟨((b7.2.1 c8).1 c9).1, hP 73 _ _ _ (((b7.2.1 c8).1 c9).2)⟩⟩⟩, fun c9 => hP 73 _ _ _ ((b7.2.1 c8).2 c9)⟩, fun c8 => (b7.2.2 c8)⟩⟩⟩⟩⟩⟩, fun c6 => hP 30 _ _ _ (b5.2.2 c6)⟩⟩⟩⟩⟩⟩⟩⟩⟩⟩
theorem rg_C_image_0 {d : Nat} {P : Nat → mj_L → List mj_V → mj_M → Prop} {R : Option mj_V → mj_M → Prop} (hP : mj_Cl mj_c19 (mj_Sp d) (0 < d) P R)  {M : mj_M} (h :
  ∃ M_1 : mj_M, mj_Sp d 26 [mj_r (1, 0, 0), mj_r (0, 0, 0)] M none M_1 ∧
  ∀ M_2 : mj_M, M_2 = mj_wl M_1 (13, 50, 0, 0) (nI 1) → R (some (mj_i (nI 1))) M_2) : P 0 [some (mj_r (13, 50, 0))] [] M :=
  hP 0 _ _ _ ⟨rfl, ⟨rfl, ⟨rfl, Exists.elim h fun a1 b1 => ⟨a1, b1.1, hP 11 _ _ _ ⟨rfl, ⟨(Or.inr rfl), (b1.2 _ rfl)⟩⟩⟩⟩⟩⟩
theorem rg_C_restore_0 {d : Nat} {P : Nat → mj_L → List mj_V → mj_M → Prop} {R : Option mj_V → mj_M → Prop} (hP : mj_Cl mj_c20 (mj_Sp d) (0 < d) P R)  {M : mj_M} (h :
  (¬ (M 13 50 0 0) = 0 →
  ∃ M_1 : mj_M, mj_Sp d 26 [mj_r (0, 0, 0), mj_r (1, 0, 0)] M none M_1 ∧
    R (some (mj_i (nI 1))) M_1) ∧
  (¬ ¬ (M 13 50 0 0) = 0 →
  R (some (mj_i (-(nI 4)))) M)) : P 0 [some (mj_r (13, 50, 0))] [] M :=
  hP 0 _ _ _ ⟨rfl, ⟨fun c1 => hP 10 _ _ _ ⟨rfl, ⟨rfl, ⟨rfl, Exists.elim (h.1 c1) fun a2 b2 => ⟨a2, b2.1, hP 21 _ _ _ b2.2⟩⟩⟩⟩, fun c1 => (h.2 c1)⟩⟩
theorem rg_C_isOutside_0 {d : Nat} {P : Nat → mj_L → List mj_V → mj_M → Prop} {R : Option mj_V → mj_M → Prop} (hP : mj_Cl mj_c21 (mj_Sp d) (0 < d) P R) {x0 : Int32} {x1 : Int32} {x2 : Int32} {M : mj_M} (h :
  (x0 < x1 →
  R (some (mj_i (nI 1))) M) ∧
  (¬ x0 < x1 →
  (x0 ≤ x2 →
    R (some (mj_i (nI 0))) M) ∧
    (¬ x0 ≤ x2 →
    R (some (mj_i (nI 1))) M))) : P 0 [some (mj_i x0), some (mj_i x1), some (mj_i x2)] [] M :=
  hP 0 _ _ _ ⟨fun c1 => hP 10 _ _ _ (hP 15 _ _ _ ⟨(Or.inr rfl), (h.1 c1)⟩), fun c1 => ⟨fun c2 => hP 14 _ _ _ (hP 15 _ _ _ ⟨(Or.inl rfl), ((h.2 c1).1 c2)⟩), fun c2 => hP 10 _ _ _ (hP 15 _ _ _ ⟨(Or.inr rfl), ((h.2 c1).2 c2)⟩)⟩⟩
theorem rg_C_byteOf_0 {d : Nat} {P : Nat → mj_L → List mj_V → mj_M → Prop} {R : Option mj_V → mj_M → Prop} (hP : mj_Cl mj_c22 (mj_Sp d) (0 < d) P R) {w0 : Int64} {x2 : Int32} {M : mj_M} (h :
  R (some (mj_i ((((w0.toUInt64 >>> (((nI 8) * x2).toInt64.toUInt64 &&& Int64.toUInt64 63)).toInt64).toInt32) &&& (nI 255)))) M) : P 0 [some (mj_l w0), none, some (mj_i x2)] [] M :=
  hP 0 _ _ _ h
theorem rg_C_sumOf_0 {d : Nat} {P : Nat → mj_L → List mj_V → mj_M → Prop} {R : Option mj_V → mj_M → Prop} (hP : mj_Cl mj_c23 (mj_Sp d) (0 < d) P R) {q0 : mj_Id} {M : mj_M} (h :
  mj_ia q0.2.1 = true ∧ ∀ x3_1 : Int32, x3_1 = nI (mj_len M q0) → P 10 [some (mj_r q0), some (mj_i (nI 0)), some (mj_r q0), some (mj_i x3_1), some (mj_i (nI 0)), none] [] M) : P 0 [some (mj_r q0), none, none, none, none, none] [] M :=
  hP 0 _ _ _ ⟨rfl, ⟨rfl, ⟨h.1, ⟨rfl, ⟨rfl, (h.2 _ rfl)⟩⟩⟩⟩⟩
theorem rg_C_sumOf_10 {d : Nat} {P : Nat → mj_L → List mj_V → mj_M → Prop} {R : Option mj_V → mj_M → Prop} (hP : mj_Cl mj_c23 (mj_Sp d) (0 < d) P R) {q0 : mj_Id} {x1 : Int32} {x3 : Int32} {x4 : Int32} {o5 : Option mj_V} {M : mj_M} (h :
  (x3 ≤ x4 →
  R (some (mj_i x1)) M) ∧
  (¬ x3 ≤ x4 →
  vp_in x4 (mj_len M q0) ∧ ∀ x5_1 : Int32, x5_1 = mj_rd M q0 x4.toNatClampNeg → ∀ x1_2 : Int32, x1_2 = x1 + x5_1 → ∀ x4_3 : Int32, x4_3 = x4 + (nI 1) → P 10 [some (mj_r q0), some (mj_i x1_2), some (mj_r q0), some (mj_i x3), some (mj_i x4_3), some (mj_i x5_1)] [] M)) : P 10 [some (mj_r q0), some (mj_i x1), some (mj_r q0), some (mj_i x3), some (mj_i x4), o5] [] M :=
  hP 10 _ _ _ ⟨fun c1 => hP 33 _ _ _ (h.1 c1), fun c1 => ⟨(h.2 c1).1, ⟨rfl, ⟨rfl, ⟨rfl, ((((h.2 c1).2 _ rfl) _ rfl) _ rfl)⟩⟩⟩⟩⟩
theorem rg_Fo_start_0 {d : Nat} {P : Nat → mj_L → List mj_V → mj_M → Prop} {R : Option mj_V → mj_M → Prop} (hP : mj_Cl mj_c24 (mj_Sp d) (0 < d) P R) {i0 : Nat} {i1 : Nat} {M : mj_M} (h :
  ∃ M_1 : mj_M, mj_Sp d 26 [mj_r (i0, 0, 0), mj_r (i1, 0, 0)] M none M_1 ∧
  R none M_1) : P 0 [some (mj_r (i0, 20, 0)), some (mj_r (i1, 0, 0))] [] M :=
  hP 0 _ _ _ ⟨rfl, ⟨rfl, Exists.elim h fun a1 b1 => ⟨a1, b1.1, hP 8 _ _ _ b1.2⟩⟩⟩
theorem rg_Fo_follow_0 {d : Nat} {P : Nat → mj_L → List mj_V → mj_M → Prop} {R : Option mj_V → mj_M → Prop} (hP : mj_Cl mj_c25 (mj_Sp d) (0 < d) P R) {i0 : Nat} {x1 : Int32} {x2 : Int32} {M : mj_M} (h :
  P 2 [some (mj_r (i0, 20, 0)), some (mj_i x1), some (mj_i x2), some (mj_i (nI 0)), none] [] M) : P 0 [some (mj_r (i0, 20, 0)), some (mj_i x1), some (mj_i x2), none, none] [] M :=
  hP 0 _ _ _ ⟨rfl, h⟩
theorem rg_Fo_follow_2 {d : Nat} {P : Nat → mj_L → List mj_V → mj_M → Prop} {R : Option mj_V → mj_M → Prop} (hP : mj_Cl mj_c25 (mj_Sp d) (0 < d) P R) {i0 : Nat} {x1 : Int32} {x2 : Int32} {x3 : Int32} {o4 : Option mj_V} {M : mj_M} (h :
  (x2 ≤ x3 →
  R none M) ∧
  (¬ x2 ≤ x3 →
  ∀ x4_1 : Int32, x4_1 = (M i0 0 0 2) + x3 → ∃ (y_3 : Int32) (M_2 : mj_M), mj_Sp d 58 [mj_r (20 + i0, 10, 0), mj_i x4_1] M (some (mj_i y_3)) M_2 ∧
    ∃ (y_5 : Int32) (M_4 : mj_M), mj_Sp d 59 [mj_r (20 + i0, 10, 0), mj_i x4_1] M_2 (some (mj_i y_5)) M_4 ∧
    ∃ M_6 : mj_M, mj_Sp d 41 [mj_r (i0, 0, 0), mj_i x1, mj_i y_3, mj_i y_5] M_4 none M_6 ∧
    ∃ (y_8 : Int32) (M_7 : mj_M), mj_Sp d 42 [mj_r (i0, 0, 0), mj_i x1] M_6 (some (mj_i y_8)) M_7 ∧
    ∀ x3_9 : Int32, x3_9 = x3 + (nI 1) → P 2 [some (mj_r (i0, 20, 0)), some (mj_i x1), some (mj_i x2), some (mj_i x3_9), some (mj_i x4_1)] [] M_7)) : P 2 [some (mj_r (i0, 20, 0)), some (mj_i x1), some (mj_i x2), some (mj_i x3), o4] [] M :=
  hP 2 _ _ _ ⟨fun c1 => hP 65 _ _ _ (h.1 c1), fun c1 => ⟨rfl, ⟨rfl, ⟨rfl, ⟨rfl, ⟨rfl, ⟨rfl, ⟨rfl, Exists.elim ((h.2 c1) _ rfl) fun e2 g2 => Exists.elim g2 fun a2 b2 => ⟨e2, a2, b2.1, hP 35 _ _ _ ⟨rfl, ⟨rfl, ⟨rfl, Exists.elim b2.2 fun e3 g3 => Exists.elim g3 fun a3 b3 => ⟨e3, a3, b3.1, hP 47 _ _ _ ⟨rfl, Exists.elim b3.2 fun a4 b4 => ⟨a4, b4.1, hP 50 _ _ _ ⟨rfl, ⟨rfl, Exists.elim b4.2 fun e5 g5 => Exists.elim g5 fun a5 b5 => ⟨e5, a5, b5.1, hP 58 _ _ _ ⟨rfl, (b5.2 _ rfl)⟩⟩⟩⟩⟩⟩⟩⟩⟩⟩⟩⟩⟩⟩⟩⟩⟩⟩⟩
theorem rg_La_takeAll_0 {d : Nat} {P : Nat → mj_L → List mj_V → mj_M → Prop} {R : Option mj_V → mj_M → Prop} (hP : mj_Cl mj_c26 (mj_Sp d) (0 < d) P R) {i0 : Nat} {i1 : Nat} {M : mj_M} (h :
  ∀ M_1 : mj_M, M_1 = mj_wl M (i0, 0, 0, 0) (M i1 0 0 0) → ∀ M_2 : mj_M, M_2 = mj_wl M_1 (i0, 0, 0, 1) (M_1 i1 0 0 1) → ∀ M_3 : mj_M, M_3 = mj_wl M_2 (i0, 0, 0, 2) (M_2 i1 0 0 2) → ∀ M_4 : mj_M, M_4 = mj_wl M_3 (i0, 0, 0, 3) (M_3 i1 0 0 3) → P 34 [some (mj_r (i0, 0, 0)), some (mj_r (i1, 0, 0)), some (mj_i (nI 0))] [] M_4) : P 0 [some (mj_r (i0, 0, 0)), some (mj_r (i1, 0, 0)), none] [] M :=
  hP 0 _ _ _ ⟨rfl, ⟨rfl, ⟨rfl, ⟨rfl, ⟨rfl, ⟨rfl, ⟨rfl, ⟨rfl, ⟨rfl, ((((h _ rfl) _ rfl) _ rfl) _ rfl)⟩⟩⟩⟩⟩⟩⟩⟩⟩
theorem rg_La_takeAll_34 {d : Nat} {P : Nat → mj_L → List mj_V → mj_M → Prop} {R : Option mj_V → mj_M → Prop} (hP : mj_Cl mj_c26 (mj_Sp d) (0 < d) P R) {i0 : Nat} {i1 : Nat} {x2 : Int32} {M : mj_M} (h :
  ((nI 6) ≤ x2 →
  0 < d ∧ ¬ (nI 0) < 0 ∧ ¬ (nI 0) < 0 ∧ ¬ (nI 4) < 0 ∧ (nI 0).toNatClampNeg + (nI 4).toNatClampNeg ≤ 4 ∧ (nI 0).toNatClampNeg + (nI 4).toNatClampNeg ≤ 4 ∧ ∀ M_1 : mj_M, M_1 = mj_cp M (i1, 5, 0) (i0, 5, 0) (nI 0).toNatClampNeg (nI 0).toNatClampNeg (nI 4).toNatClampNeg → 0 < d ∧ ¬ (nI 0) < 0 ∧ ¬ (nI 0) < 0 ∧ ¬ (nI 4) < 0 ∧ (nI 0).toNatClampNeg + (nI 4).toNatClampNeg ≤ 4 ∧ (nI 0).toNatClampNeg + (nI 4).toNatClampNeg ≤ 4 ∧ ∀ M_2 : mj_M, M_2 = mj_cp M_1 (i1, 6, 0) (i0, 6, 0) (nI 0).toNatClampNeg (nI 0).toNatClampNeg (nI 4).toNatClampNeg → 0 < d ∧ ¬ (nI 0) < 0 ∧ ¬ (nI 0) < 0 ∧ ¬ (nI 4) < 0 ∧ (nI 0).toNatClampNeg + (nI 4).toNatClampNeg ≤ 4 ∧ (nI 0).toNatClampNeg + (nI 4).toNatClampNeg ≤ 4 ∧ ∀ M_3 : mj_M, M_3 = mj_cp M_2 (i1, 7, 0) (i0, 7, 0) (nI 0).toNatClampNeg (nI 0).toNatClampNeg (nI 4).toNatClampNeg → 0 < d ∧ ¬ (nI 0) < 0 ∧ ¬ (nI 0) < 0 ∧ ¬ (nI 4) < 0 ∧ (nI 0).toNatClampNeg + (nI 4).toNatClampNeg ≤ 4 ∧ (nI 0).toNatClampNeg + (nI 4).toNatClampNeg ≤ 4 ∧ ∀ M_4 : mj_M, M_4 = mj_cp M_3 (i1, 8, 0) (i0, 8, 0) (nI 0).toNatClampNeg (nI 0).toNatClampNeg (nI 4).toNatClampNeg → 0 < d ∧ ¬ (nI 0) < 0 ∧ ¬ (nI 0) < 0 ∧ ¬ (nI 25) < 0 ∧ (nI 0).toNatClampNeg + (nI 25).toNatClampNeg ≤ 25 ∧ (nI 0).toNatClampNeg + (nI 25).toNatClampNeg ≤ 25 ∧ ∀ M_5 : mj_M, M_5 = mj_cp M_4 (i1, 9, 0) (i0, 9, 0) (nI 0).toNatClampNeg (nI 0).toNatClampNeg (nI 25).toNatClampNeg → ∃ M_6 : mj_M, mj_Sp d 60 [mj_r (20 + i0, 10, 0), mj_r (20 + i1, 10, 0)] M_5 none M_6 ∧
    R none M_6) ∧
  (¬ (nI 6) ≤ x2 →
  ∃ M_7 : mj_M, mj_Sp d 27 [mj_r (i0, 0, 0), mj_r (i1, 0, 0), mj_i x2] M none M_7 ∧
    ∀ x2_8 : Int32, x2_8 = x2 + (nI 1) → P 34 [some (mj_r (i0, 0, 0)), some (mj_r (i1, 0, 0)), some (mj_i x2_8)] [] M_7)) : P 34 [some (mj_r (i0, 0, 0)), some (mj_r (i1, 0, 0)), some (mj_i x2)] [] M :=
  hP 34 _ _ _ ⟨fun c1 => hP 52 _ _ _ ⟨rfl, ⟨rfl, ⟨rfl, ⟨(h.1 c1).1, ⟨rfl, ⟨rfl, ⟨(h.1 c1).2.1, ⟨(h.1 c1).2.2.1, ⟨(h.1 c1).2.2.2.1, ⟨(h.1 c1).2.2.2.2.1, ⟨(h.1 c1).2.2.2.2.2.1, ⟨rfl, ⟨rfl, ⟨rfl, ⟨((h.1 c1).2.2.2.2.2.2 _ rfl).1, ⟨rfl, ⟨rfl, ⟨((h.1 c1).2.2.2.2.2.2 _ rfl).2.1, ⟨((h.1 c1).2.2.2.2.2.2 _ rfl).2.2.1, ⟨((h.1 c1).2.2.2.2.2.2 _ rfl).2.2.2.1, ⟨((h.1 c1).2.2.2.2.2.2 _ rfl).2.2.2.2.1, ⟨((h.1 c1).2.2.2.2.2.2 _ rfl).2.2.2.2.2.1, ⟨rfl, ⟨rfl, ⟨rfl, ⟨(((h.1 c1).2.2.2.2.2.2 _ rfl).2.2.2.2.2.2 _ rfl).1, ⟨rfl, ⟨rfl, ⟨(((h.1 c1).2.2.2.2.2.2 _ rfl).2.2.2.2.2.2 _ rfl).2.1, ⟨(((h.1 c1).2.2.2.2.2.2 _ rfl).2.2.2.2.2.2 _ rfl).2.2.1, ⟨(((h.1 c1).2.2.2.2.2.2 _ rfl).2.2.2.2.2.2 _ rfl).2.2.2.1, ⟨(((h.1 c1).2.2.2.2.2.2 _ rfl).2.2.2.2.2.2 _ rfl).2.2.2.2.1, ⟨(((h.1 c1).2.2.2.2.2.2 _ rfl).2.2.2.2.2.2 _ rfl).2.2.2.2.2.1, ⟨rfl, ⟨rfl, ⟨rfl, ⟨((((h.1 c1).2.2.2.2.2.2 _ rfl).2.2.2.2.2.2 _ rfl).2.2.2.2.2.2 _ rfl).1, ⟨rfl, ⟨rfl, ⟨((((h.1 c1).2.2.2.2.2.2 _ rfl).2.2.2.2.2.2 _ rfl).2.2.2.2.2.2 _ rfl).2.1, ⟨((((h.1 c1).2.2.2.2.2.2 _ rfl).2.2.2.2.2.2 _ rfl).2.2.2.2.2.2 _ rfl).2.2.1, ⟨((((h.1 c1).2.2.2.2.2.2 _ rfl).2.2.2.2.2.2 _ rfl).2.2.2.2.2.2 _ rfl).2.2.2.1, ⟨((((h.1 c1).2.2.2.2.2.2 _ rfl).2.2.2.2.2.2 _ rfl).2.2.2.2.2.2 _ rfl).2.2.2.2.1, ⟨((((h.1 c1).2.2.2.2.2.2 _ rfl).2.2.2.2.2.2 _ rfl).2.2.2.2.2.2 _ rfl).2.2.2.2.2.1, ⟨rfl, ⟨rfl, ⟨rfl, ⟨(((((h.1 c1).2.2.2.2.2.2 _ rfl).2.2.2.2.2.2 _ rfl).2.2.2.2.2.2 _ rfl).2.2.2.2.2.2 _ rfl).1, ⟨rfl, ⟨rfl, ⟨(((((h.1 c1).2.2.2.2.2.2 _ rfl).2.2.2.2.2.2 _ rfl).2.2.2.2.2.2 _ rfl).2.2.2.2.2.2 _ rfl).2.1, ⟨(((((h.1 c1).2.2.2.2.2.2 _ rfl).2.2.2.2.2.2 _ rfl).2.2.2.2.2.2 _ rfl).2.2.2.2.2.2 _ rfl).2.2.1, ⟨(((((h.1 c1).2.2.2.2.2.2 _ rfl).2.2.2.2.2.2 _ rfl).2.2.2.2.2.2 _ rfl).2.2.2.2.2.2 _ rfl).2.2.2.1, ⟨(((((h.1 c1).2.2.2.2.2.2 _ rfl).2.2.2.2.2.2 _ rfl).2.2.2.2.2.2 _ rfl).2.2.2.2.2.2 _ rfl).2.2.2.2.1, ⟨(((((h.1 c1).2.2.2.2.2.2 _ rfl).2.2.2.2.2.2 _ rfl).2.2.2.2.2.2 _ rfl).2.2.2.2.2.2 _ rfl).2.2.2.2.2.1, ⟨rfl, ⟨rfl, ⟨rfl, Exists.elim ((((((h.1 c1).2.2.2.2.2.2 _ rfl).2.2.2.2.2.2 _ rfl).2.2.2.2.2.2 _ rfl).2.2.2.2.2.2 _ rfl).2.2.2.2.2.2 _ rfl) fun a2 b2 => ⟨a2, b2.1, hP 134 _ _ _ b2.2⟩⟩⟩⟩⟩⟩⟩⟩⟩⟩⟩⟩⟩⟩⟩⟩⟩⟩⟩⟩⟩⟩⟩⟩⟩⟩⟩⟩⟩⟩⟩⟩⟩⟩⟩⟩⟩⟩⟩⟩⟩⟩⟩⟩⟩⟩⟩⟩⟩⟩⟩⟩⟩⟩⟩⟩⟩⟩⟩, fun c1 => ⟨rfl, Exists.elim (h.2 c1) fun a3 b3 => ⟨a3, b3.1, hP 46 _ _ _ ⟨rfl, (b3.2 _ rfl)⟩⟩⟩⟩
theorem rg_La_takeCloud_0 {d : Nat} {P : Nat → mj_L → List mj_V → mj_M → Prop} {R : Option mj_V → mj_M → Prop} (hP : mj_Cl mj_c27 (mj_Sp d) (0 < d) P R) {i0 : Nat} {i1 : Nat} {x2 : Int32} {M : mj_M} (h :
  vp_in x2 6 ∧ vp_in x2 6 ∧ ∀ M_1 : mj_M, M_1 = mj_wl M (i0, 1, 0, x2.toNatClampNeg) (M i1 1 0 x2.toNatClampNeg) → vp_in x2 6 ∧ vp_in x2 6 ∧ ∀ M_2 : mj_M, M_2 = mj_wl M_1 (i0, 2, 0, x2.toNatClampNeg) (M_1 i1 2 0 x2.toNatClampNeg) → vp_in x2 6 ∧ vp_in x2 6 ∧ ∀ M_3 : mj_M, M_3 = mj_wl M_2 (i0, 3, 0, x2.toNatClampNeg) (M_2 i1 3 0 x2.toNatClampNeg) → vp_in x2 6 ∧ vp_in x2 6 ∧ 0 < d ∧ ¬ (nI 0) < 0 ∧ ¬ (nI 0) < 0 ∧ ¬ (nI 4) < 0 ∧ (nI 0).toNatClampNeg + (nI 4).toNatClampNeg ≤ 4 ∧ (nI 0).toNatClampNeg + (nI 4).toNatClampNeg ≤ 4 ∧ ∀ M_4 : mj_M, M_4 = mj_cp M_3 (i1, 4, x2.toNatClampNeg) (i0, 4, x2.toNatClampNeg) (nI 0).toNatClampNeg (nI 0).toNatClampNeg (nI 4).toNatClampNeg → R none M_4) : P 0 [some (mj_r (i0, 0, 0)), some (mj_r (i1, 0, 0)), some (mj_i x2)] [] M :=
  hP 0 _ _ _ ⟨rfl, ⟨rfl, ⟨h.1, ⟨rfl, ⟨h.2.1, ⟨rfl, ⟨rfl, ⟨(h.2.2 _ rfl).1, ⟨rfl, ⟨(h.2.2 _ rfl).2.1, ⟨rfl, ⟨rfl, ⟨((h.2.2 _ rfl).2.2 _ rfl).1, ⟨rfl, ⟨((h.2.2 _ rfl).2.2 _ rfl).2.1, ⟨rfl, ⟨(((h.2.2 _ rfl).2.2 _ rfl).2.2 _ rfl).1, ⟨rfl, ⟨(((h.2.2 _ rfl).2.2 _ rfl).2.2 _ rfl).2.1, ⟨rfl, ⟨(((h.2.2 _ rfl).2.2 _ rfl).2.2 _ rfl).2.2.1, ⟨rfl, ⟨rfl, ⟨(((h.2.2 _ rfl).2.2 _ rfl).2.2 _ rfl).2.2.2.1, ⟨(((h.2.2 _ rfl).2.2 _ rfl).2.2 _ rfl).2.2.2.2.1, ⟨(((h.2.2 _ rfl).2.2 _ rfl).2.2 _ rfl).2.2.2.2.2.1, ⟨(((h.2.2 _ rfl).2.2 _ rfl).2.2 _ rfl).2.2.2.2.2.2.1, ⟨(((h.2.2 _ rfl).2.2 _ rfl).2.2 _ rfl).2.2.2.2.2.2.2.1, ((((h.2.2 _ rfl).2.2 _ rfl).2.2 _ rfl).2.2.2.2.2.2.2.2 _ rfl)⟩⟩⟩⟩⟩⟩⟩⟩⟩⟩⟩⟩⟩⟩⟩⟩⟩⟩⟩⟩⟩⟩⟩⟩⟩⟩⟩⟩
theorem rg_La_isCloud_0 {d : Nat} {P : Nat → mj_L → List mj_V → mj_M → Prop} {R : Option mj_V → mj_M → Prop} (hP : mj_Cl mj_c28 (mj_Sp d) (0 < d) P R) {i0 : Nat} {x1 : Int32} {M : mj_M} (h :
  (x1 < 0 →
  R (some (mj_i (nI 0))) M) ∧
  (¬ x1 < 0 →
  ((M i0 0 0 0) ≤ x1 →
    R (some (mj_i (nI 0))) M) ∧
    (¬ (M i0 0 0 0) ≤ x1 →
    R (some (mj_i (nI 1))) M))) : P 0 [some (mj_r (i0, 0, 0)), some (mj_i x1)] [] M :=
  hP 0 _ _ _ ⟨fun c1 => hP 16 _ _ _ (hP 17 _ _ _ ⟨(Or.inl rfl), (h.1 c1)⟩), fun c1 => ⟨rfl, ⟨fun c2 => hP 16 _ _ _ (hP 17 _ _ _ ⟨(Or.inl rfl), ((h.2 c1).1 c2)⟩), fun c2 => hP 17 _ _ _ ⟨(Or.inr rfl), ((h.2 c1).2 c2)⟩⟩⟩⟩
theorem rg_La_isOver_0 {d : Nat} {P : Nat → mj_L → List mj_V → mj_M → Prop} {R : Option mj_V → mj_M → Prop} (hP : mj_Cl mj_c29 (mj_Sp d) (0 < d) P R) {i0 : Nat} {x1 : Int32} {M : mj_M} (h :
  ∃ (y_2 : Int32) (M_1 : mj_M), mj_Sp d 28 [mj_r (i0, 0, 0), mj_i x1] M (some (mj_i y_2)) M_1 ∧
  (y_2 = 0 →
  R (some (mj_i (nI 0))) M_1) ∧
  (¬ y_2 = 0 →
  vp_in x1 6 ∧ ((M_1 i0 2 0 x1.toNatClampNeg) = (nI 25) →
    R (some (mj_i (nI 0))) M_1) ∧
    (¬ (M_1 i0 2 0 x1.toNatClampNeg) = (nI 25) →
    R (some (mj_i (nI 1))) M_1))) : P 0 [some (mj_r (i0, 0, 0)), some (mj_i x1)] [] M :=
  hP 0 _ _ _ ⟨rfl, Exists.elim h fun e1 g1 => Exists.elim g1 fun a1 b1 => ⟨e1, a1, b1.1, hP 5 _ _ _ ⟨fun c2 => hP 23 _ _ _ (hP 24 _ _ _ ⟨(Or.inl rfl), (b1.2.1 c2)⟩), fun c2 => ⟨rfl, ⟨(b1.2.2 c2).1, ⟨fun c3 => hP 23 _ _ _ (hP 24 _ _ _ ⟨(Or.inl rfl), ((b1.2.2 c2).2.1 c3)⟩), fun c3 => hP 24 _ _ _ ⟨(Or.inr rfl), ((b1.2.2 c2).2.2 c3)⟩⟩⟩⟩⟩⟩⟩
theorem rg_La_isVillage_0 {d : Nat} {P : Nat → mj_L → List mj_V → mj_M → Prop} {R : Option mj_V → mj_M → Prop} (hP : mj_Cl mj_c30 (mj_Sp d) (0 < d) P R) {i0 : Nat} {x1 : Int32} {M : mj_M} (h :
  (x1 < 0 →
  R (some (mj_i (nI 0))) M) ∧
  (¬ x1 < 0 →
  ((M i0 0 0 1) ≤ x1 →
    R (some (mj_i (nI 0))) M) ∧
    (¬ (M i0 0 0 1) ≤ x1 →
    R (some (mj_i (nI 1))) M))) : P 0 [some (mj_r (i0, 0, 0)), some (mj_i x1)] [] M :=
  hP 0 _ _ _ ⟨fun c1 => hP 16 _ _ _ (hP 17 _ _ _ ⟨(Or.inl rfl), (h.1 c1)⟩), fun c1 => ⟨rfl, ⟨fun c2 => hP 16 _ _ _ (hP 17 _ _ _ ⟨(Or.inl rfl), ((h.2 c1).1 c2)⟩), fun c2 => hP 17 _ _ _ ⟨(Or.inr rfl), ((h.2 c1).2 c2)⟩⟩⟩⟩
theorem rg_La_villageIn_0 {d : Nat} {P : Nat → mj_L → List mj_V → mj_M → Prop} {R : Option mj_V → mj_M → Prop} (hP : mj_Cl mj_c31 (mj_Sp d) (0 < d) P R) {i0 : Nat} {x1 : Int32} {M : mj_M} (h :
  P 2 [some (mj_r (i0, 0, 0)), some (mj_i x1), some (mj_i (nI 0))] [] M) : P 0 [some (mj_r (i0, 0, 0)), some (mj_i x1), none] [] M :=
  hP 0 _ _ _ ⟨rfl, h⟩
theorem rg_La_villageIn_2 {d : Nat} {P : Nat → mj_L → List mj_V → mj_M → Prop} {R : Option mj_V → mj_M → Prop} (hP : mj_Cl mj_c31 (mj_Sp d) (0 < d) P R) {i0 : Nat} {x1 : Int32} {x2 : Int32} {M : mj_M} (h :
  ((M i0 0 0 1) ≤ x2 →
  R (some (mj_i (-(nI 1)))) M) ∧
  (¬ (M i0 0 0 1) ≤ x2 →
  vp_in x2 4 ∧ (¬ (M i0 5 0 x2.toNatClampNeg) = x1 →
    ∀ x2_1 : Int32, x2_1 = x2 + (nI 1) → P 2 [some (mj_r (i0, 0, 0)), some (mj_i x1), some (mj_i x2_1)] [] M) ∧
    (¬ ¬ (M i0 5 0 x2.toNatClampNeg) = x1 →
    R (some (mj_i x2)) M))) : P 2 [some (mj_r (i0, 0, 0)), some (mj_i x1), some (mj_i x2)] [] M :=
  hP 2 _ _ _ ⟨rfl, ⟨fun c1 => hP 28 _ _ _ (h.1 c1), fun c1 => ⟨rfl, ⟨(h.2 c1).1, ⟨fun c2 => hP 22 _ _ _ ⟨rfl, (((h.2 c1).2.1 c2) _ rfl)⟩, fun c2 => ((h.2 c1).2.2 c2)⟩⟩⟩⟩⟩
theorem rg_La_addCloud_0 {d : Nat} {P : Nat → mj_L → List mj_V → mj_M → Prop} {R : Option mj_V → mj_M → Prop} (hP : mj_Cl mj_c32 (mj_Sp d) (0 < d) P R) {i0 : Nat} {x1 : Int32} {x2 : Int32} {x3 : Int32} {M : mj_M} (h :
  ∀ x4_1 : Int32, x4_1 = M i0 0 0 0 → vp_in x4_1 6 ∧ ∀ M_2 : mj_M, M_2 = mj_wl M (i0, 1, 0, x4_1.toNatClampNeg) x1 → vp_in x4_1 6 ∧ ∀ M_3 : mj_M, M_3 = mj_wl M_2 (i0, 2, 0, x4_1.toNatClampNeg) x2 → vp_in x4_1 6 ∧ ∀ M_4 : mj_M, M_4 = mj_wl M_3 (i0, 3, 0, x4_1.toNatClampNeg) x3 → vp_in x4_1 6 ∧ ∃ M_5 : mj_M, mj_Sp d 61 [mj_r (i0, 4, x4_1.toNatClampNeg), mj_i (nI 0)] M_4 none M_5 ∧
  ∀ M_6 : mj_M, M_6 = mj_wl M_5 (i0, 0, 0, 0) ((M_5 i0 0 0 0) + (nI 1)) → R (some (mj_i x4_1)) M_6) : P 0 [some (mj_r (i0, 0, 0)), some (mj_i x1), some (mj_i x2), some (mj_i x3), none] [] M :=
  hP 0 _ _ _ ⟨rfl, ⟨rfl, ⟨rfl, ⟨rfl, ⟨(h _ rfl).1, ⟨rfl, ⟨rfl, ⟨((h _ rfl).2 _ rfl).1, ⟨rfl, ⟨rfl, ⟨(((h _ rfl).2 _ rfl).2 _ rfl).1, ⟨rfl, ⟨((((h _ rfl).2 _ rfl).2 _ rfl).2 _ rfl).1, ⟨rfl, Exists.elim (((((h _ rfl).2 _ rfl).2 _ rfl).2 _ rfl).2) fun a1 b1 => ⟨a1, b1.1, hP 41 _ _ _ ⟨rfl, ⟨rfl, (b1.2 _ rfl)⟩⟩⟩⟩⟩⟩⟩⟩⟩⟩⟩⟩⟩⟩⟩⟩⟩
theorem rg_La_addVillage_0 {d : Nat} {P : Nat → mj_L → List mj_V → mj_M → Prop} {R : Option mj_V → mj_M → Prop} (hP : mj_Cl mj_c33 (mj_Sp d) (0 < d) P R) {i0 : Nat} {x1 : Int32} {x2 : Int32} {x3 : Int32} {M : mj_M} (h :
  ∀ x4_1 : Int32, x4_1 = M i0 0 0 1 → vp_in x4_1 4 ∧ ∀ M_2 : mj_M, M_2 = mj_wl M (i0, 5, 0, x4_1.toNatClampNeg) x1 → vp_in x4_1 4 ∧ ∀ M_3 : mj_M, M_3 = mj_wl M_2 (i0, 6, 0, x4_1.toNatClampNeg) x2 → vp_in x4_1 4 ∧ ∀ M_4 : mj_M, M_4 = mj_wl M_3 (i0, 7, 0, x4_1.toNatClampNeg) x3 → vp_in x4_1 4 ∧ ∀ M_5 : mj_M, M_5 = mj_wl M_4 (i0, 8, 0, x4_1.toNatClampNeg) (nI 0) → ∀ M_6 : mj_M, M_6 = mj_wl M_5 (i0, 0, 0, 1) ((M_5 i0 0 0 1) + (nI 1)) → R (some (mj_i x4_1)) M_6) : P 0 [some (mj_r (i0, 0, 0)), some (mj_i x1), some (mj_i x2), some (mj_i x3), none] [] M :=
  hP 0 _ _ _ ⟨rfl, ⟨rfl, ⟨rfl, ⟨rfl, ⟨(h _ rfl).1, ⟨rfl, ⟨rfl, ⟨((h _ rfl).2 _ rfl).1, ⟨rfl, ⟨rfl, ⟨(((h _ rfl).2 _ rfl).2 _ rfl).1, ⟨rfl, ⟨rfl, ⟨((((h _ rfl).2 _ rfl).2 _ rfl).2 _ rfl).1, ⟨rfl, ⟨rfl, ((((((h _ rfl).2 _ rfl).2 _ rfl).2 _ rfl).2 _ rfl) _ rfl)⟩⟩⟩⟩⟩⟩⟩⟩⟩⟩⟩⟩⟩⟩⟩⟩
theorem rg_La_stringsOn_0 {d : Nat} {P : Nat → mj_L → List mj_V → mj_M → Prop} {R : Option mj_V → mj_M → Prop} (hP : mj_Cl mj_c34 (mj_Sp d) (0 < d) P R) {i0 : Nat} {x1 : Int32} {M : mj_M} (h :
  vp_in x1 6 ∧ ∃ (y_2 : Int32) (M_1 : mj_M), mj_Sp d 23 [mj_r (i0, 4, x1.toNatClampNeg)] M (some (mj_i y_2)) M_1 ∧
  R (some (mj_i y_2)) M_1) : P 0 [some (mj_r (i0, 0, 0)), some (mj_i x1)] [] M :=
  hP 0 _ _ _ ⟨rfl, ⟨h.1, ⟨rfl, Exists.elim h.2 fun e1 g1 => Exists.elim g1 fun a1 b1 => ⟨e1, a1, b1.1, hP 9 _ _ _ b1.2⟩⟩⟩⟩
theorem rg_La_tiedBy_0 {d : Nat} {P : Nat → mj_L → List mj_V → mj_M → Prop} {R : Option mj_V → mj_M → Prop} (hP : mj_Cl mj_c35 (mj_Sp d) (0 < d) P R) {i0 : Nat} {x1 : Int32} {M : mj_M} (h :
  P 4 [some (mj_r (i0, 0, 0)), some (mj_i x1), some (mj_i (nI 0)), some (mj_i (nI 0))] [] M) : P 0 [some (mj_r (i0, 0, 0)), some (mj_i x1), none, none] [] M :=
  hP 0 _ _ _ ⟨rfl, ⟨rfl, h⟩⟩
theorem rg_La_tiedBy_4 {d : Nat} {P : Nat → mj_L → List mj_V → mj_M → Prop} {R : Option mj_V → mj_M → Prop} (hP : mj_Cl mj_c35 (mj_Sp d) (0 < d) P R) {i0 : Nat} {x1 : Int32} {x2 : Int32} {x3 : Int32} {M : mj_M} (h :
  ((M i0 0 0 0) ≤ x3 →
  R (some (mj_i x2)) M) ∧
  (¬ (M i0 0 0 0) ≤ x3 →
  vp_in x3 6 ∧ vp_in x1 4 ∧ ∀ x2_1 : Int32, x2_1 = x2 + (M i0 4 x3.toNatClampNeg x1.toNatClampNeg) → ∀ x3_2 : Int32, x3_2 = x3 + (nI 1) → P 4 [some (mj_r (i0, 0, 0)), some (mj_i x1), some (mj_i x2_1), some (mj_i x3_2)] [] M)) : P 4 [some (mj_r (i0, 0, 0)), some (mj_i x1), some (mj_i x2), some (mj_i x3)] [] M :=
  hP 4 _ _ _ ⟨rfl, ⟨fun c1 => hP 29 _ _ _ (h.1 c1), fun c1 => ⟨rfl, ⟨(h.2 c1).1, ⟨(h.2 c1).2.1, ⟨rfl, ⟨rfl, (((h.2 c1).2.2 _ rfl) _ rfl)⟩⟩⟩⟩⟩⟩⟩
theorem rg_La_cloudsOver_0 {d : Nat} {P : Nat → mj_L → List mj_V → mj_M → Prop} {R : Option mj_V → mj_M → Prop} (hP : mj_Cl mj_c36 (mj_Sp d) (0 < d) P R) {i0 : Nat} {M : mj_M} (h :
  P 4 [some (mj_r (i0, 0, 0)), some (mj_i (nI 0)), some (mj_i (nI 0))] [] M) : P 0 [some (mj_r (i0, 0, 0)), none, none] [] M :=
  hP 0 _ _ _ ⟨rfl, ⟨rfl, h⟩⟩
theorem rg_La_cloudsOver_4 {d : Nat} {P : Nat → mj_L → List mj_V → mj_M → Prop} {R : Option mj_V → mj_M → Prop} (hP : mj_Cl mj_c36 (mj_Sp d) (0 < d) P R) {i0 : Nat} {x1 : Int32} {x2 : Int32} {M : mj_M} (h :
  ((M i0 0 0 0) ≤ x2 →
  R (some (mj_i x1)) M) ∧
  (¬ (M i0 0 0 0) ≤ x2 →
  ∃ (y_2 : Int32) (M_1 : mj_M), mj_Sp d 29 [mj_r (i0, 0, 0), mj_i x2] M (some (mj_i y_2)) M_1 ∧
    (y_2 = 0 →
    ∀ x2_3 : Int32, x2_3 = x2 + (nI 1) → P 4 [some (mj_r (i0, 0, 0)), some (mj_i x1), some (mj_i x2_3)] [] M_1) ∧
    (¬ y_2 = 0 →
    ∀ x1_4 : Int32, x1_4 = x1 + (nI 1) → ∀ x2_5 : Int32, x2_5 = x2 + (nI 1) → P 4 [some (mj_r (i0, 0, 0)), some (mj_i x1_4), some (mj_i x2_5)] [] M_1))) : P 4 [some (mj_r (i0, 0, 0)), some (mj_i x1), some (mj_i x2)] [] M :=
  hP 4 _ _ _ ⟨rfl, ⟨fun c1 => hP 29 _ _ _ (h.1 c1), fun c1 => ⟨rfl, Exists.elim (h.2 c1) fun e2 g2 => Exists.elim g2 fun a2 b2 => ⟨e2, a2, b2.1, hP 17 _ _ _ ⟨fun c3 => hP 23 _ _ _ ⟨rfl, ((b2.2.1 c3) _ rfl)⟩, fun c3 => ⟨rfl, hP 23 _ _ _ ⟨rfl, (((b2.2.2 c3) _ rfl) _ rfl)⟩⟩⟩⟩⟩⟩⟩
theorem rg_La_waterWhere_0 {d : Nat} {P : Nat → mj_L → List mj_V → mj_M → Prop} {R : Option mj_V → mj_M → Prop} (hP : mj_Cl mj_c37 (mj_Sp d) (0 < d) P R) {i0 : Nat} {x1 : Int32} {M : mj_M} (h :
  P 4 [some (mj_r (i0, 0, 0)), some (mj_i x1), some (mj_i (nI 0)), some (mj_i (nI 0))] [] M) : P 0 [some (mj_r (i0, 0, 0)), some (mj_i x1), none, none] [] M :=
  hP 0 _ _ _ ⟨rfl, ⟨rfl, h⟩⟩
theorem rg_La_waterWhere_4 {d : Nat} {P : Nat → mj_L → List mj_V → mj_M → Prop} {R : Option mj_V → mj_M → Prop} (hP : mj_Cl mj_c37 (mj_Sp d) (0 < d) P R) {i0 : Nat} {x1 : Int32} {x2 : Int32} {x3 : Int32} {M : mj_M} (h :
  ((M i0 0 0 0) ≤ x3 →
  R (some (mj_i x2)) M) ∧
  (¬ (M i0 0 0 0) ≤ x3 →
  ∃ (y_2 : Int32) (M_1 : mj_M), mj_Sp d 29 [mj_r (i0, 0, 0), mj_i x3] M (some (mj_i y_2)) M_1 ∧
    (¬ y_2 = x1 →
    ∀ x3_3 : Int32, x3_3 = x3 + (nI 1) → P 4 [some (mj_r (i0, 0, 0)), some (mj_i x1), some (mj_i x2), some (mj_i x3_3)] [] M_1) ∧
    (¬ ¬ y_2 = x1 →
    vp_in x3 6 ∧ ∀ x2_4 : Int32, x2_4 = x2 + (M_1 i0 3 0 x3.toNatClampNeg) → ∀ x3_5 : Int32, x3_5 = x3 + (nI 1) → P 4 [some (mj_r (i0, 0, 0)), some (mj_i x1), some (mj_i x2_4), some (mj_i x3_5)] [] M_1))) : P 4 [some (mj_r (i0, 0, 0)), some (mj_i x1), some (mj_i x2), some (mj_i x3)] [] M :=
  hP 4 _ _ _ ⟨rfl, ⟨fun c1 => hP 36 _ _ _ (h.1 c1), fun c1 => ⟨rfl, Exists.elim (h.2 c1) fun e2 g2 => Exists.elim g2 fun a2 b2 => ⟨e2, a2, b2.1, hP 17 _ _ _ ⟨fun c3 => hP 30 _ _ _ ⟨rfl, ((b2.2.1 c3) _ rfl)⟩, fun c3 => ⟨rfl, ⟨(b2.2.2 c3).1, ⟨rfl, hP 30 _ _ _ ⟨rfl, (((b2.2.2 c3).2 _ rfl) _ rfl)⟩⟩⟩⟩⟩⟩⟩⟩⟩
theorem rg_La_joinClouds_0 {d : Nat} {P : Nat → mj_L → List mj_V → mj_M → Prop} {R : Option mj_V → mj_M → Prop} (hP : mj_Cl mj_c38 (mj_Sp d) (0 < d) P R) {i0 : Nat} {x1 : Int32} {x2 : Int32} {M : mj_M} (h :
  vp_in x1 6 ∧ vp_in x2 6 ∧ ∀ x3_1 : Int32, x3_1 = (M i0 3 0 x1.toNatClampNeg) + (M i0 3 0 x2.toNatClampNeg) → 0 < d ∧ vp_in x1 6 ∧ ∀ M_2 : mj_M, M_2 = mj_wl M (i0, 3, 0, x1.toNatClampNeg) (if (nI 999) < x3_1 then (nI 999) else x3_1) → vp_in x1 6 ∧ vp_in (M_2 i0 2 0 x1.toNatClampNeg) 25 ∧ vp_in x1 6 ∧ vp_in (M_2 i0 2 0 x1.toNatClampNeg) 25 ∧ ∀ M_3 : mj_M, M_3 = mj_wl M_2 (i0, 9, 0, (M_2 i0 2 0 x1.toNatClampNeg).toNatClampNeg) ((M_2 i0 9 0 (M_2 i0 2 0 x1.toNatClampNeg).toNatClampNeg) + (x3_1 - (M_2 i0 3 0 x1.toNatClampNeg))) → vp_in x2 6 ∧ ∀ M_4 : mj_M, M_4 = mj_wl M_3 (i0, 3, 0, x2.toNatClampNeg) (nI 0) → vp_in x2 6 ∧ ∀ M_5 : mj_M, M_5 = mj_wl M_4 (i0, 2, 0, x2.toNatClampNeg) (nI 25) → vp_in x2 6 ∧ ∃ M_6 : mj_M, mj_Sp d 61 [mj_r (i0, 4, x2.toNatClampNeg), mj_i (nI 0)] M_5 none M_6 ∧
  R none M_6) : P 0 [some (mj_r (i0, 0, 0)), some (mj_i x1), some (mj_i x2), none] [] M :=
  hP 0 _ _ _ ⟨rfl, ⟨h.1, ⟨rfl, ⟨h.2.1, ⟨rfl, ⟨rfl, ⟨rfl, ⟨(h.2.2 _ rfl).1, ⟨rfl, ⟨(h.2.2 _ rfl).2.1, ⟨rfl, ⟨rfl, ⟨((h.2.2 _ rfl).2.2 _ rfl).1, ⟨((h.2.2 _ rfl).2.2 _ rfl).2.1, ⟨rfl, ⟨((h.2.2 _ rfl).2.2 _ rfl).2.2.1, ⟨rfl, ⟨((h.2.2 _ rfl).2.2 _ rfl).2.2.2.1, ⟨rfl, ⟨rfl, ⟨(((h.2.2 _ rfl).2.2 _ rfl).2.2.2.2 _ rfl).1, ⟨rfl, ⟨rfl, ⟨((((h.2.2 _ rfl).2.2 _ rfl).2.2.2.2 _ rfl).2 _ rfl).1, ⟨rfl, ⟨(((((h.2.2 _ rfl).2.2 _ rfl).2.2.2.2 _ rfl).2 _ rfl).2 _ rfl).1, ⟨rfl, Exists.elim ((((((h.2.2 _ rfl).2.2 _ rfl).2.2.2.2 _ rfl).2 _ rfl).2 _ rfl).2) fun a1 b1 => ⟨a1, b1.1, hP 74 _ _ _ b1.2⟩⟩⟩⟩⟩⟩⟩⟩⟩⟩⟩⟩⟩⟩⟩⟩⟩⟩⟩⟩⟩⟩⟩⟩⟩⟩⟩⟩
theorem rg_La_drawWind_0 {d : Nat} {P : Nat → mj_L → List mj_V → mj_M → Prop} {R : Option mj_V → mj_M → Prop} (hP : mj_Cl mj_c39 (mj_Sp d) (0 < d) P R) {i0 : Nat} {M : mj_M} (h :
  ∀ M_1 : mj_M, M_1 = mj_wl M (i0, 0, 0, 3) ((((M i0 0 0 3) * (nI 1103515245)) + (nI 12345)) &&& (nI 2147483647)) → ¬ (nI 65536) = 0 ∧ ¬ (nI 16) = 0 ∧ R (some (mj_i (((M_1 i0 0 0 3) / (nI 65536)) % (nI 16)))) M_1) : P 0 [some (mj_r (i0, 0, 0))] [] M :=
  hP 0 _ _ _ ⟨rfl, ⟨rfl, ⟨rfl, ⟨(h _ rfl).1, ⟨(h _ rfl).2.1, (h _ rfl).2.2⟩⟩⟩⟩⟩
theorem rg_La_passHour_0 {d : Nat} {P : Nat → mj_L → List mj_V → mj_M → Prop} {R : Option mj_V → mj_M → Prop} (hP : mj_Cl mj_c40 (mj_Sp d) (0 < d) P R) {i0 : Nat} {x1 : Int32} {x2 : Int32} {M : mj_M} (h :
  P 2 [some (mj_r (i0, 0, 0)), some (mj_i x1), some (mj_i x2), some (mj_i (nI 0)), none] [] M) : P 0 [some (mj_r (i0, 0, 0)), some (mj_i x1), some (mj_i x2), none, none] [] M :=
  hP 0 _ _ _ ⟨rfl, h⟩
theorem rg_La_passHour_2 {d : Nat} {P : Nat → mj_L → List mj_V → mj_M → Prop} {R : Option mj_V → mj_M → Prop} (hP : mj_Cl mj_c40 (mj_Sp d) (0 < d) P R) {i0 : Nat} {x1 : Int32} {x2 : Int32} {x3 : Int32} {M : mj_M} (h :
  ((M i0 0 0 0) ≤ x3 →
  P 28 [some (mj_r (i0, 0, 0)), some (mj_i x1), some (mj_i x2), some (mj_i (nI 0)), some (mj_i (nI 0))] [] M) ∧
  (¬ (M i0 0 0 0) ≤ x3 →
  ∃ M_1 : mj_M, mj_Sp d 41 [mj_r (i0, 0, 0), mj_i x3, mj_i x1, mj_i x2] M none M_1 ∧
    ∀ x3_2 : Int32, x3_2 = x3 + (nI 1) → P 2 [some (mj_r (i0, 0, 0)), some (mj_i x1), some (mj_i x2), some (mj_i x3_2), none] [] M_1)) : P 2 [some (mj_r (i0, 0, 0)), some (mj_i x1), some (mj_i x2), some (mj_i x3), none] [] M :=
  hP 2 _ _ _ ⟨rfl, ⟨fun c1 => hP 23 _ _ _ ⟨rfl, ⟨rfl, (h.1 c1)⟩⟩, fun c1 => ⟨rfl, Exists.elim (h.2 c1) fun a2 b2 => ⟨a2, b2.1, hP 17 _ _ _ ⟨rfl, (b2.2 _ rfl)⟩⟩⟩⟩⟩
theorem rg_La_passHour_28 {d : Nat} {P : Nat → mj_L → List mj_V → mj_M → Prop} {R : Option mj_V → mj_M → Prop} (hP : mj_Cl mj_c40 (mj_Sp d) (0 < d) P R) {i0 : Nat} {x1 : Int32} {x2 : Int32} {x3 : Int32} {x4 : Int32} {M : mj_M} (h :
  ((M i0 0 0 0) ≤ x4 →
  ∀ M_1 : mj_M, M_1 = mj_wl M (i0, 0, 0, 2) ((M i0 0 0 2) + (nI 1)) → R (some (mj_i x3)) M_1) ∧
  (¬ (M i0 0 0 0) ≤ x4 →
  ∃ (y_3 : Int32) (M_2 : mj_M), mj_Sp d 42 [mj_r (i0, 0, 0), mj_i x4] M (some (mj_i y_3)) M_2 ∧
    ∀ x3_4 : Int32, x3_4 = x3 + y_3 → ∀ x4_5 : Int32, x4_5 = x4 + (nI 1) → P 28 [some (mj_r (i0, 0, 0)), some (mj_i x1), some (mj_i x2), some (mj_i x3_4), some (mj_i x4_5)] [] M_2)) : P 28 [some (mj_r (i0, 0, 0)), some (mj_i x1), some (mj_i x2), some (mj_i x3), some (mj_i x4)] [] M :=
  hP 28 _ _ _ ⟨rfl, ⟨fun c1 => hP 52 _ _ _ ⟨rfl, ⟨rfl, ((h.1 c1) _ rfl)⟩⟩, fun c1 => ⟨rfl, Exists.elim (h.2 c1) fun e2 g2 => Exists.elim g2 fun a2 b2 => ⟨e2, a2, b2.1, hP 44 _ _ _ ⟨rfl, ⟨rfl, ((b2.2 _ rfl) _ rfl)⟩⟩⟩⟩⟩⟩
theorem rg_La_move_0 {d : Nat} {P : Nat → mj_L → List mj_V → mj_M → Prop} {R : Option mj_V → mj_M → Prop} (hP : mj_Cl mj_c41 (mj_Sp d) (0 < d) P R) {i0 : Nat} {x1 : Int32} {x2 : Int32} {x3 : Int32} {M : mj_M} (h :
  ∃ (y_2 : Int32) (M_1 : mj_M), mj_Sp d 29 [mj_r (i0, 0, 0), mj_i x1] M (some (mj_i y_2)) M_1 ∧
  (¬ y_2 = 0 →
  vp_in x1 6 ∧ vp_in (M_1 i0 1 0 x1.toNatClampNeg) 4 ∧ ∀ x4_3 : Int32, x4_3 = x3 * (M_1 40 80 0 (M_1 i0 1 0 x1.toNatClampNeg).toNatClampNeg) → ∃ (y_5 : Int32) (M_4 : mj_M), mj_Sp d 34 [mj_r (i0, 0, 0), mj_i x1] M_1 (some (mj_i y_5)) M_4 ∧
    ∃ (y_7 : Int32) (M_6 : mj_M), mj_Sp d 43 [mj_r (i0, 0, 0), mj_i x1] M_4 (some (mj_i y_7)) M_6 ∧
    vp_in x1 6 ∧ vp_in y_7 4 ∧ ∀ x7_8 : Int32, x7_8 = M_6 i0 4 x1.toNatClampNeg y_7.toNatClampNeg → (x7_8 ≤ 0 →
    (x4_3 ≤ y_5 →
      R none M_6) ∧
      (¬ x4_3 ≤ y_5 →
      vp_in x1 6 ∧ ∃ (y_10 : Int32) (M_9 : mj_M), mj_Sp d 46 [mj_i (M_6 i0 2 0 x1.toNatClampNeg), mj_i x2] M_6 (some (mj_i y_10)) M_9 ∧
        vp_in x1 6 ∧ ∀ M_11 : mj_M, M_11 = mj_wl M_9 (i0, 2, 0, x1.toNatClampNeg) y_10 → vp_in x1 6 ∧ (¬ (M_11 i0 2 0 x1.toNatClampNeg) = (nI 25) →
        R none M_11) ∧
        (¬ ¬ (M_11 i0 2 0 x1.toNatClampNeg) = (nI 25) →
        ∃ M_12 : mj_M, mj_Sp d 44 [mj_r (i0, 0, 0), mj_i x1] M_11 none M_12 ∧
          R none M_12))) ∧
    (¬ x7_8 ≤ 0 →
    (x7_8 < ((y_5 - x7_8) + x4_3) →
      (x4_3 ≤ y_5 →
        R none M_6) ∧
        (¬ x4_3 ≤ y_5 →
        vp_in x1 6 ∧ ∃ (y_14 : Int32) (M_13 : mj_M), mj_Sp d 46 [mj_i (M_6 i0 2 0 x1.toNatClampNeg), mj_i x2] M_6 (some (mj_i y_14)) M_13 ∧
          vp_in x1 6 ∧ ∀ M_15 : mj_M, M_15 = mj_wl M_13 (i0, 2, 0, x1.toNatClampNeg) y_14 → vp_in x1 6 ∧ (¬ (M_15 i0 2 0 x1.toNatClampNeg) = (nI 25) →
          R none M_15) ∧
          (¬ ¬ (M_15 i0 2 0 x1.toNatClampNeg) = (nI 25) →
          ∃ M_16 : mj_M, mj_Sp d 44 [mj_r (i0, 0, 0), mj_i x1] M_15 none M_16 ∧
            R none M_16))) ∧
      (¬ x7_8 < ((y_5 - x7_8) + x4_3) →
      vp_in x1 6 ∧ vp_in y_7 4 ∧ ∃ (y_18 : Int32) (M_17 : mj_M), mj_Sp d 45 [mj_i (M_6 i0 2 0 x1.toNatClampNeg), mj_i (M_6 i0 5 0 y_7.toNatClampNeg)] M_6 (some (mj_i y_18)) M_17 ∧
        vp_in x1 6 ∧ ∀ M_19 : mj_M, M_19 = mj_wl M_17 (i0, 2, 0, x1.toNatClampNeg) y_18 → R none M_19))) ∧
  (¬ ¬ y_2 = 0 →
  R none M_1)) : P 0 [some (mj_r (i0, 0, 0)), some (mj_i x1), some (mj_i x2), some (mj_i x3), none, none, none, none] [] M :=
  hP 0 _ _ _ ⟨rfl, Exists.elim h fun e1 g1 => Exists.elim g1 fun a1 b1 => ⟨e1, a1, b1.1, hP 5 _ _ _ ⟨fun c2 => hP 9 _ _ _ ⟨rfl, ⟨(b1.2.1 c2).1, ⟨(b1.2.1 c2).2.1, ⟨rfl, ⟨rfl, Exists.elim ((b1.2.1 c2).2.2 _ rfl) fun e3 g3 => Exists.elim g3 fun a3 b3 => ⟨e3, a3, b3.1, hP 28 _ _ _ ⟨rfl, ⟨rfl, Exists.elim b3.2 fun e4 g4 => Exists.elim g4 fun a4 b4 => ⟨e4, a4, b4.1, hP 35 _ _ _ ⟨rfl, ⟨rfl, ⟨b4.2.1, ⟨b4.2.2.1, ⟨rfl, ⟨fun c5 => hP 91 _ _ _ ⟨fun c6 => hP 130 _ _ _ (((b4.2.2.2 _ rfl).1 c5).1 c6), fun c6 => ⟨rfl, ⟨rfl, ⟨(((b4.2.2.2 _ rfl).1 c5).2 c6).1, ⟨rfl, Exists.elim ((((b4.2.2.2 _ rfl).1 c5).2 c6).2) fun e7 g7 => Exists.elim g7 fun a7 b7 => ⟨e7, a7, b7.1, hP 113 _ _ _ ⟨rfl, ⟨b7.2.1, ⟨rfl, ⟨(b7.2.2 _ rfl).1, ⟨fun c8 => hP 130 _ _ _ ((b7.2.2 _ rfl).2.1 c8), fun c8 => ⟨rfl, Exists.elim ((b7.2.2 _ rfl).2.2 c8) fun a9 b9 => ⟨a9, b9.1, hP 130 _ _ _ b9.2⟩⟩⟩⟩⟩⟩⟩⟩⟩⟩⟩⟩⟩, fun c5 => ⟨fun c10 => hP 91 _ _ _ ⟨fun c11 => hP 130 _ _ _ ((((b4.2.2.2 _ rfl).2 c5).1 c10).1 c11), fun c11 => ⟨rfl, ⟨rfl, ⟨((((b4.2.2.2 _ rfl).2 c5).1 c10).2 c11).1, ⟨rfl, Exists.elim (((((b4.2.2.2 _ rfl).2 c5).1 c10).2 c11).2) fun e12 g12 => Exists.elim g12 fun a12 b12 => ⟨e12, a12, b12.1, hP 113 _ _ _ ⟨rfl, ⟨b12.2.1, ⟨rfl, ⟨(b12.2.2 _ rfl).1, ⟨fun c13 => hP 130 _ _ _ ((b12.2.2 _ rfl).2.1 c13), fun c13 => ⟨rfl, Exists.elim ((b12.2.2 _ rfl).2.2 c13) fun a14 b14 => ⟨a14, b14.1, hP 130 _ _ _ b14.2⟩⟩⟩⟩⟩⟩⟩⟩⟩⟩⟩⟩⟩, fun c10 => ⟨rfl, ⟨rfl, ⟨(((b4.2.2.2 _ rfl).2 c5).2 c10).1, ⟨rfl, ⟨(((b4.2.2.2 _ rfl).2 c5).2 c10).2.1, ⟨rfl, Exists.elim ((((b4.2.2.2 _ rfl).2 c5).2 c10).2.2) fun e15 g15 => Exists.elim g15 fun a15 b15 => ⟨e15, a15, b15.1, hP 87 _ _ _ ⟨rfl, ⟨b15.2.1, hP 130 _ _ _ (b15.2.2 _ rfl)⟩⟩⟩⟩⟩⟩⟩⟩⟩⟩⟩⟩⟩⟩⟩⟩⟩⟩⟩⟩⟩⟩⟩⟩⟩, fun c2 => (b1.2.2 c2)⟩⟩⟩
theorem rg_La_rain_0 {d : Nat} {P : Nat → mj_L → List mj_V → mj_M → Prop} {R : Option mj_V → mj_M → Prop} (hP : mj_Cl mj_c42 (mj_Sp d) (0 < d) P R) {i0 : Nat} {x1 : Int32} {M : mj_M} (h :
  ∃ (y_2 : Int32) (M_1 : mj_M), mj_Sp d 29 [mj_r (i0, 0, 0), mj_i x1] M (some (mj_i y_2)) M_1 ∧
  (¬ y_2 = 0 →
  vp_in x1 6 ∧ vp_in (M_1 i0 1 0 x1.toNatClampNeg) 4 ∧ vp_in x1 6 ∧ 0 < d ∧ ∀ x2_3 : Int32, x2_3 = (if (M_1 i0 3 0 x1.toNatClampNeg) < (M_1 40 81 0 (M_1 i0 1 0 x1.toNatClampNeg).toNatClampNeg) then (M_1 i0 3 0 x1.toNatClampNeg) else (M_1 40 81 0 (M_1 i0 1 0 x1.toNatClampNeg).toNatClampNeg)) → vp_in x1 6 ∧ vp_in x1 6 ∧ ∀ M_4 : mj_M, M_4 = mj_wl M_1 (i0, 3, 0, x1.toNatClampNeg) ((M_1 i0 3 0 x1.toNatClampNeg) - x2_3) → vp_in x1 6 ∧ vp_in (M_4 i0 2 0 x1.toNatClampNeg) 25 ∧ vp_in (M_4 i0 2 0 x1.toNatClampNeg) 25 ∧ ∀ M_5 : mj_M, M_5 = mj_wl M_4 (i0, 9, 0, (M_4 i0 2 0 x1.toNatClampNeg).toNatClampNeg) ((M_4 i0 9 0 (M_4 i0 2 0 x1.toNatClampNeg).toNatClampNeg) + x2_3) → vp_in x1 6 ∧ ∃ (y_7 : Int32) (M_6 : mj_M), mj_Sp d 31 [mj_r (i0, 0, 0), mj_i (M_5 i0 2 0 x1.toNatClampNeg)] M_5 (some (mj_i y_7)) M_6 ∧
    (y_7 < 0 →
    R (some (mj_i x2_3)) M_6) ∧
    (¬ y_7 < 0 →
    vp_in x1 6 ∧ ((M_6 i0 1 0 x1.toNatClampNeg) = (nI 3) →
      R (some (mj_i x2_3)) M_6) ∧
      (¬ (M_6 i0 1 0 x1.toNatClampNeg) = (nI 3) →
      vp_in y_7 4 ∧ vp_in y_7 4 ∧ ∀ M_8 : mj_M, M_8 = mj_wl M_6 (i0, 8, 0, y_7.toNatClampNeg) ((M_6 i0 8 0 y_7.toNatClampNeg) + x2_3) → R (some (mj_i x2_3)) M_8))) ∧
  (¬ ¬ y_2 = 0 →
  R (some (mj_i (nI 0))) M_1)) : P 0 [some (mj_r (i0, 0, 0)), some (mj_i x1), none, none] [] M :=
  hP 0 _ _ _ ⟨rfl, Exists.elim h fun e1 g1 => Exists.elim g1 fun a1 b1 => ⟨e1, a1, b1.1, hP 5 _ _ _ ⟨fun c2 => hP 10 _ _ _ ⟨rfl, ⟨(b1.2.1 c2).1, ⟨(b1.2.1 c2).2.1, ⟨rfl, ⟨(b1.2.1 c2).2.2.1, ⟨rfl, ⟨(b1.2.1 c2).2.2.2.1, ⟨rfl, ⟨rfl, ⟨((b1.2.1 c2).2.2.2.2 _ rfl).1, ⟨rfl, ⟨((b1.2.1 c2).2.2.2.2 _ rfl).2.1, ⟨rfl, ⟨rfl, ⟨(((b1.2.1 c2).2.2.2.2 _ rfl).2.2 _ rfl).1, ⟨(((b1.2.1 c2).2.2.2.2 _ rfl).2.2 _ rfl).2.1, ⟨rfl, ⟨(((b1.2.1 c2).2.2.2.2 _ rfl).2.2 _ rfl).2.2.1, ⟨rfl, ⟨((((b1.2.1 c2).2.2.2.2 _ rfl).2.2 _ rfl).2.2.2 _ rfl).1, ⟨rfl, Exists.elim (((((b1.2.1 c2).2.2.2.2 _ rfl).2.2 _ rfl).2.2.2 _ rfl).2) fun e3 g3 => Exists.elim g3 fun a3 b3 => ⟨e3, a3, b3.1, hP 65 _ _ _ ⟨rfl, ⟨fun c4 => hP 90 _ _ _ (b3.2.1 c4), fun c4 => ⟨rfl, ⟨(b3.2.2 c4).1, ⟨fun c5 => hP 90 _ _ _ ((b3.2.2 c4).2.1 c5), fun c5 => ⟨rfl, ⟨((b3.2.2 c4).2.2 c5).1, ⟨rfl, ⟨((b3.2.2 c4).2.2 c5).2.1, hP 90 _ _ _ (((b3.2.2 c4).2.2 c5).2.2 _ rfl)⟩⟩⟩⟩⟩⟩⟩⟩⟩⟩⟩⟩⟩⟩⟩⟩⟩⟩⟩⟩⟩⟩⟩⟩⟩⟩⟩⟩⟩⟩⟩, fun c2 => (b1.2.2 c2)⟩⟩⟩
theorem rg_La_pullerOf_0 {d : Nat} {P : Nat → mj_L → List mj_V → mj_M → Prop} {R : Option mj_V → mj_M → Prop} (hP : mj_Cl mj_c43 (mj_Sp d) (0 < d) P R) {i0 : Nat} {x1 : Int32} {M : mj_M} (h :
  P 4 [some (mj_r (i0, 0, 0)), some (mj_i x1), some (mj_i (nI 0)), some (mj_i (nI 1))] [] M) : P 0 [some (mj_r (i0, 0, 0)), some (mj_i x1), none, none] [] M :=
  hP 0 _ _ _ ⟨rfl, ⟨rfl, h⟩⟩
theorem rg_La_pullerOf_4 {d : Nat} {P : Nat → mj_L → List mj_V → mj_M → Prop} {R : Option mj_V → mj_M → Prop} (hP : mj_Cl mj_c43 (mj_Sp d) (0 < d) P R) {i0 : Nat} {x1 : Int32} {x2 : Int32} {x3 : Int32} {M : mj_M} (h :
  ((M i0 0 0 1) ≤ x3 →
  R (some (mj_i x2)) M) ∧
  (¬ (M i0 0 0 1) ≤ x3 →
  vp_in x1 6 ∧ vp_in x3 4 ∧ vp_in x1 6 ∧ vp_in x2 4 ∧ ((M i0 4 x1.toNatClampNeg x3.toNatClampNeg) ≤ (M i0 4 x1.toNatClampNeg x2.toNatClampNeg) →
    ∀ x3_1 : Int32, x3_1 = x3 + (nI 1) → P 4 [some (mj_r (i0, 0, 0)), some (mj_i x1), some (mj_i x2), some (mj_i x3_1)] [] M) ∧
    (¬ (M i0 4 x1.toNatClampNeg x3.toNatClampNeg) ≤ (M i0 4 x1.toNatClampNeg x2.toNatClampNeg) →
    ∀ x3_2 : Int32, x3_2 = x3 + (nI 1) → P 4 [some (mj_r (i0, 0, 0)), some (mj_i x1), some (mj_i x3), some (mj_i x3_2)] [] M))) : P 4 [some (mj_r (i0, 0, 0)), some (mj_i x1), some (mj_i x2), some (mj_i x3)] [] M :=
  hP 4 _ _ _ ⟨rfl, ⟨fun c1 => hP 39 _ _ _ (h.1 c1), fun c1 => ⟨rfl, ⟨(h.2 c1).1, ⟨(h.2 c1).2.1, ⟨rfl, ⟨(h.2 c1).2.2.1, ⟨(h.2 c1).2.2.2.1, ⟨fun c2 => hP 33 _ _ _ ⟨rfl, (((h.2 c1).2.2.2.2.1 c2) _ rfl)⟩, fun c2 => ⟨rfl, hP 33 _ _ _ ⟨rfl, (((h.2 c1).2.2.2.2.2 c2) _ rfl)⟩⟩⟩⟩⟩⟩⟩⟩⟩⟩⟩
theorem rg_La_loseStrings_0 {d : Nat} {P : Nat → mj_L → List mj_V → mj_M → Prop} {R : Option mj_V → mj_M → Prop} (hP : mj_Cl mj_c44 (mj_Sp d) (0 < d) P R) {i0 : Nat} {x1 : Int32} {M : mj_M} (h :
  P 2 [some (mj_r (i0, 0, 0)), some (mj_i x1), some (mj_i (nI 0))] [] M) : P 0 [some (mj_r (i0, 0, 0)), some (mj_i x1), none] [] M :=
  hP 0 _ _ _ ⟨rfl, h⟩
theorem rg_La_loseStrings_2 {d : Nat} {P : Nat → mj_L → List mj_V → mj_M → Prop} {R : Option mj_V → mj_M → Prop} (hP : mj_Cl mj_c44 (mj_Sp d) (0 < d) P R) {i0 : Nat} {x1 : Int32} {x2 : Int32} {M : mj_M} (h :
  ((M i0 0 0 1) ≤ x2 →
  R none M) ∧
  (¬ (M i0 0 0 1) ≤ x2 →
  vp_in x2 4 ∧ vp_in x1 6 ∧ vp_in x2 4 ∧ vp_in x2 4 ∧ ∀ M_1 : mj_M, M_1 = mj_wl M (i0, 6, 0, x2.toNatClampNeg) ((M i0 6 0 x2.toNatClampNeg) - (M i0 4 x1.toNatClampNeg x2.toNatClampNeg)) → vp_in x1 6 ∧ vp_in x2 4 ∧ ∀ M_2 : mj_M, M_2 = mj_wl M_1 (i0, 4, x1.toNatClampNeg, x2.toNatClampNeg) (nI 0) → ∀ x2_3 : Int32, x2_3 = x2 + (nI 1) → P 2 [some (mj_r (i0, 0, 0)), some (mj_i x1), some (mj_i x2_3)] [] M_2)) : P 2 [some (mj_r (i0, 0, 0)), some (mj_i x1), some (mj_i x2)] [] M :=
  hP 2 _ _ _ ⟨rfl, ⟨fun c1 => hP 42 _ _ _ (h.1 c1), fun c1 => ⟨rfl, ⟨(h.2 c1).1, ⟨rfl, ⟨(h.2 c1).2.1, ⟨(h.2 c1).2.2.1, ⟨rfl, ⟨(h.2 c1).2.2.2.1, ⟨rfl, ⟨((h.2 c1).2.2.2.2 _ rfl).1, ⟨rfl, ⟨((h.2 c1).2.2.2.2 _ rfl).2.1, ⟨rfl, ((((h.2 c1).2.2.2.2 _ rfl).2.2 _ rfl) _ rfl)⟩⟩⟩⟩⟩⟩⟩⟩⟩⟩⟩⟩⟩⟩
theorem rg_La_towards_0 {d : Nat} {P : Nat → mj_L → List mj_V → mj_M → Prop} {R : Option mj_V → mj_M → Prop} (hP : mj_Cl mj_c45 (mj_Sp d) (0 < d) P R) {x0 : Int32} {x1 : Int32} {M : mj_M} (h :
  ¬ (nI 5) = 0 ∧ ¬ (nI 5) = 0 ∧ ∀ x2_1 : Int32, x2_1 = (x1 / (nI 5)) - (x0 / (nI 5)) → ¬ (nI 5) = 0 ∧ ¬ (nI 5) = 0 ∧ ∀ x3_2 : Int32, x3_2 = (x1 % (nI 5)) - (x0 % (nI 5)) → (x2_1 = 0 →
  (x3_2 = 0 →
    R (some (mj_i x0)) M) ∧
    (¬ x3_2 = 0 →
    (x3_2 ≤ 0 →
      R (some (mj_i (x0 - (nI 1)))) M) ∧
      (¬ x3_2 ≤ 0 →
      R (some (mj_i (x0 + (nI 1)))) M))) ∧
  (¬ x2_1 = 0 →
  (x2_1 ≤ 0 →
    R (some (mj_i (x0 - (nI 5)))) M) ∧
    (¬ x2_1 ≤ 0 →
    R (some (mj_i (x0 + (nI 5)))) M))) : P 0 [some (mj_i x0), some (mj_i x1), none, none] [] M :=
  hP 0 _ _ _ ⟨h.1, ⟨h.2.1, ⟨rfl, ⟨(h.2.2 _ rfl).1, ⟨(h.2.2 _ rfl).2.1, ⟨rfl, ⟨fun c1 => hP 34 _ _ _ ⟨fun c2 => hP 52 _ _ _ ((((h.2.2 _ rfl).2.2 _ rfl).1 c1).1 c2), fun c2 => ⟨fun c3 => hP 48 _ _ _ (hP 51 _ _ _ (((((h.2.2 _ rfl).2.2 _ rfl).1 c1).2 c2).1 c3)), fun c3 => hP 51 _ _ _ (((((h.2.2 _ rfl).2.2 _ rfl).1 c1).2 c2).2 c3)⟩⟩, fun c1 => ⟨fun c4 => hP 30 _ _ _ (hP 33 _ _ _ ((((h.2.2 _ rfl).2.2 _ rfl).2 c1).1 c4)), fun c4 => hP 33 _ _ _ ((((h.2.2 _ rfl).2.2 _ rfl).2 c1).2 c4)⟩⟩⟩⟩⟩⟩⟩⟩
theorem rg_La_besides_0 {d : Nat} {P : Nat → mj_L → List mj_V → mj_M → Prop} {R : Option mj_V → mj_M → Prop} (hP : mj_Cl mj_c46 (mj_Sp d) (0 < d) P R) {x0 : Int32} {x1 : Int32} {M : mj_M} (h :
  ¬ (nI 5) = 0 ∧ ∀ x2_1 : Int32, x2_1 = x0 / (nI 5) → ¬ (nI 5) = 0 ∧ ∀ x3_2 : Int32, x3_2 = x0 % (nI 5) → (x1 = nI 0 →
  (x2_1 ≤ 0 →
    R (some (mj_i (nI 25))) M) ∧
    (¬ x2_1 ≤ 0 →
    R (some (mj_i (x0 - (nI 5)))) M)) ∧
  (¬ x1 = nI 0 →
  (x1 = nI 1 →
    (x3_2 ≤ 0 →
      R (some (mj_i (nI 25))) M) ∧
      (¬ x3_2 ≤ 0 →
      R (some (mj_i (x0 - (nI 1)))) M)) ∧
    (¬ x1 = nI 1 →
    (x1 = nI 2 →
      ((nI 4) ≤ x3_2 →
        R (some (mj_i (nI 25))) M) ∧
        (¬ (nI 4) ≤ x3_2 →
        R (some (mj_i (x0 + (nI 1)))) M)) ∧
      (¬ x1 = nI 2 →
      ((nI 4) ≤ x2_1 →
        R (some (mj_i (nI 25))) M) ∧
        (¬ (nI 4) ≤ x2_1 →
        R (some (mj_i (x0 + (nI 5)))) M))))) : P 0 [some (mj_i x0), some (mj_i x1), none, none] [] M :=
  hP 0 _ _ _ ⟨h.1, ⟨rfl, ⟨(h.2 _ rfl).1, ⟨rfl, ⟨fun c1 => hP 36 _ _ _ ⟨fun c2 => hP 46 _ _ _ (hP 48 _ _ _ ((((h.2 _ rfl).2 _ rfl).1 c1).1 c2)), fun c2 => hP 48 _ _ _ ((((h.2 _ rfl).2 _ rfl).1 c1).2 c2)⟩, fun c1 => ⟨fun c3 => hP 49 _ _ _ ⟨fun c4 => hP 59 _ _ _ (hP 61 _ _ _ (((((h.2 _ rfl).2 _ rfl).2 c1).1 c3).1 c4)), fun c4 => hP 61 _ _ _ (((((h.2 _ rfl).2 _ rfl).2 c1).1 c3).2 c4)⟩, fun c3 => ⟨fun c5 => hP 62 _ _ _ ⟨fun c6 => hP 73 _ _ _ (hP 75 _ _ _ ((((((h.2 _ rfl).2 _ rfl).2 c1).2 c3).1 c5).1 c6)), fun c6 => hP 75 _ _ _ ((((((h.2 _ rfl).2 _ rfl).2 c1).2 c3).1 c5).2 c6)⟩, fun c5 => hP 76 _ _ _ ⟨fun c7 => hP 87 _ _ _ (hP 89 _ _ _ ((((((h.2 _ rfl).2 _ rfl).2 c1).2 c3).2 c5).1 c7)), fun c7 => hP 89 _ _ _ ((((((h.2 _ rfl).2 _ rfl).2 c1).2 c3).2 c5).2 c7)⟩⟩⟩⟩⟩⟩⟩⟩
theorem rg_Su_plan_0 {d : Nat} {P : Nat → mj_L → List mj_V → mj_M → Prop} {R : Option mj_V → mj_M → Prop} (hP : mj_Cl mj_c47 (mj_Sp d) (0 < d) P R) {i1 : Nat} {x2 : Int32} {x3 : Int32} {M : mj_M} (h :
  vp_in x2 4 ∧ 0 < d ∧ ∀ x4_1 : Int32, x4_1 = (if (nI 9) < (M i1 6 0 x2.toNatClampNeg) then (nI 9) else (M i1 6 0 x2.toNatClampNeg)) → vp_in x2 4 ∧ vp_in x2 4 ∧ ∀ x5_2 : Int32, x5_2 = (M i1 7 0 x2.toNatClampNeg) - (M i1 8 0 x2.toNatClampNeg) → ∃ M_3 : mj_M, mj_Sp d 48 [mj_r (11, 21, 0), mj_r (i1, 0, 0), mj_i x2, mj_i x3, mj_i x4_1] M none M_3 ∧
  ∃ M_4 : mj_M, mj_Sp d 50 [mj_r (11, 21, 0), mj_i x4_1] M_3 none M_4 ∧
  P 46 [some (mj_r (11, 21, 0)), some (mj_r (i1, 0, 0)), some (mj_i x2), some (mj_i x3), some (mj_i x4_1), some (mj_i x5_2), some (mj_i (nI 0))] [] M_4) : P 0 [some (mj_r (11, 21, 0)), some (mj_r (i1, 0, 0)), some (mj_i x2), some (mj_i x3), none, none, none] [] M :=
  hP 0 _ _ _ ⟨rfl, ⟨h.1, ⟨rfl, ⟨h.2.1, ⟨rfl, ⟨rfl, ⟨(h.2.2 _ rfl).1, ⟨rfl, ⟨(h.2.2 _ rfl).2.1, ⟨rfl, ⟨rfl, Exists.elim ((h.2.2 _ rfl).2.2 _ rfl) fun a1 b1 => ⟨a1, b1.1, hP 37 _ _ _ ⟨rfl, Exists.elim b1.2 fun a2 b2 => ⟨a2, b2.1, hP 43 _ _ _ ⟨rfl, b2.2⟩⟩⟩⟩⟩⟩⟩⟩⟩⟩⟩⟩⟩⟩⟩
theorem rg_Su_plan_46 {d : Nat} {P : Nat → mj_L → List mj_V → mj_M → Prop} {R : Option mj_V → mj_M → Prop} (hP : mj_Cl mj_c47 (mj_Sp d) (0 < d) P R) {i1 : Nat} {x2 : Int32} {x3 : Int32} {x4 : Int32} {x5 : Int32} {x6 : Int32} {M : mj_M} (h :
  (x4 < x6 →
  R (some (mj_i (-(nI 1)))) M) ∧
  (¬ x4 < x6 →
  vp_in (nI 0) 7 ∧ vp_in x6 10 ∧ ((M 11 26 ((nI 0).toNatClampNeg) x6.toNatClampNeg) < x5 →
    ∀ x6_1 : Int32, x6_1 = x6 + (nI 1) → P 46 [some (mj_r (11, 21, 0)), some (mj_r (i1, 0, 0)), some (mj_i x2), some (mj_i x3), some (mj_i x4), some (mj_i x5), some (mj_i x6_1)] [] M) ∧
    (¬ (M 11 26 ((nI 0).toNatClampNeg) x6.toNatClampNeg) < x5 →
    ∃ M_2 : mj_M, mj_Sp d 51 [mj_r (11, 21, 0), mj_i x6, mj_i x5] M none M_2 ∧
      R (some (mj_i x6)) M_2))) : P 46 [some (mj_r (11, 21, 0)), some (mj_r (i1, 0, 0)), some (mj_i x2), some (mj_i x3), some (mj_i x4), some (mj_i x5), some (mj_i x6)] [] M :=
  hP 46 _ _ _ ⟨fun c1 => hP 84 _ _ _ (h.1 c1), fun c1 => ⟨rfl, ⟨(h.2 c1).1, ⟨(h.2 c1).2.1, ⟨fun c2 => hP 78 _ _ _ ⟨rfl, (((h.2 c1).2.2.1 c2) _ rfl)⟩, fun c2 => ⟨rfl, Exists.elim ((h.2 c1).2.2.2 c2) fun a3 b3 => ⟨a3, b3.1, hP 75 _ _ _ b3.2⟩⟩⟩⟩⟩⟩⟩
theorem rg_Su_learnGains_0 {d : Nat} {P : Nat → mj_L → List mj_V → mj_M → Prop} {R : Option mj_V → mj_M → Prop} (hP : mj_Cl mj_c48 (mj_Sp d) (0 < d) P R) {i1 : Nat} {x2 : Int32} {x3 : Int32} {x4 : Int32} {M : mj_M} (h :
  ∃ M_1 : mj_M, mj_Sp d 24 [mj_r (3, 20, 0), mj_r (i1, 0, 0)] M none M_1 ∧
  P 11 [some (mj_r (11, 21, 0)), some (mj_r (i1, 0, 0)), some (mj_i x2), some (mj_i x3), some (mj_i x4), some (mj_i (nI 0)), none, none] [] M_1) : P 0 [some (mj_r (11, 21, 0)), some (mj_r (i1, 0, 0)), some (mj_i x2), some (mj_i x3), some (mj_i x4), none, none, none] [] M :=
  hP 0 _ _ _ ⟨rfl, ⟨rfl, Exists.elim h fun a1 b1 => ⟨a1, b1.1, hP 8 _ _ _ ⟨rfl, b1.2⟩⟩⟩⟩
theorem rg_Su_learnGains_11 {d : Nat} {P : Nat → mj_L → List mj_V → mj_M → Prop} {R : Option mj_V → mj_M → Prop} (hP : mj_Cl mj_c48 (mj_Sp d) (0 < d) P R) {i1 : Nat} {x2 : Int32} {x3 : Int32} {x4 : Int32} {x5 : Int32} {o6 : Option mj_V} {o7 : Option mj_V} {M : mj_M} (h :
  ((nI 6) ≤ x5 →
  R none M) ∧
  (¬ (nI 6) ≤ x5 →
  ∃ (y_2 : Int32) (M_1 : mj_M), mj_Sp d 29 [mj_r (i1, 0, 0), mj_i x5] M (some (mj_i y_2)) M_1 ∧
    vp_in x5 6 ∧ (y_2 = 0 →
    vp_in (nI 0) 10 ∧ ∀ M_3 : mj_M, M_3 = mj_wl M_1 (11, 24, x5.toNatClampNeg, (nI 0).toNatClampNeg) (nI 0) → P 57 [some (mj_r (11, 21, 0)), some (mj_r (i1, 0, 0)), some (mj_i x2), some (mj_i x3), some (mj_i x4), some (mj_i x5), some (mj_i y_2), some (mj_i (nI 1))] [] M_3) ∧
    (¬ y_2 = 0 →
    ∃ (y_5 : Int32) (M_4 : mj_M), mj_Sp d 49 [mj_r (11, 21, 0), mj_r (i1, 0, 0), mj_i x2, mj_i x3, mj_i x5, mj_i (nI 0)] M_1 (some (mj_i y_5)) M_4 ∧
      vp_in (nI 0) 10 ∧ ∀ M_6 : mj_M, M_6 = mj_wl M_4 (11, 24, x5.toNatClampNeg, (nI 0).toNatClampNeg) y_5 → P 57 [some (mj_r (11, 21, 0)), some (mj_r (i1, 0, 0)), some (mj_i x2), some (mj_i x3), some (mj_i x4), some (mj_i x5), some (mj_i y_2), some (mj_i (nI 1))] [] M_6))) : P 11 [some (mj_r (11, 21, 0)), some (mj_r (i1, 0, 0)), some (mj_i x2), some (mj_i x3), some (mj_i x4), some (mj_i x5), o6, o7] [] M :=
  hP 11 _ _ _ ⟨fun c1 => hP 107 _ _ _ (h.1 c1), fun c1 => ⟨rfl, Exists.elim (h.2 c1) fun e2 g2 => Exists.elim g2 fun a2 b2 => ⟨e2, a2, b2.1, hP 24 _ _ _ ⟨rfl, ⟨rfl, ⟨b2.2.1, ⟨fun c3 => hP 52 _ _ _ (hP 53 _ _ _ ⟨rfl, ⟨(b2.2.2.1 c3).1, ⟨rfl, ((b2.2.2.1 c3).2 _ rfl)⟩⟩⟩), fun c3 => ⟨rfl, Exists.elim (b2.2.2.2 c3) fun e4 g4 => Exists.elim g4 fun a4 b4 => ⟨e4, a4, b4.1, hP 49 _ _ _ (hP 53 _ _ _ ⟨rfl, ⟨b4.2.1, ⟨rfl, (b4.2.2 _ rfl)⟩⟩⟩)⟩⟩⟩⟩⟩⟩⟩⟩⟩
theorem rg_Su_learnGains_57 {d : Nat} {P : Nat → mj_L → List mj_V → mj_M → Prop} {R : Option mj_V → mj_M → Prop} (hP : mj_Cl mj_c48 (mj_Sp d) (0 < d) P R) {i1 : Nat} {x2 : Int32} {x3 : Int32} {x4 : Int32} {x5 : Int32} {x6 : Int32} {x7 : Int32} {M : mj_M} (h :
  (x4 < x7 →
  ∀ x5_1 : Int32, x5_1 = x5 + (nI 1) → P 11 [some (mj_r (11, 21, 0)), some (mj_r (i1, 0, 0)), some (mj_i x2), some (mj_i x3), some (mj_i x4), some (mj_i x5_1), some (mj_i x6), some (mj_i x7)] [] M) ∧
  (¬ x4 < x7 →
  vp_in x5 6 ∧ (x6 = 0 →
    vp_in x7 10 ∧ ∀ M_2 : mj_M, M_2 = mj_wl M (11, 24, x5.toNatClampNeg, x7.toNatClampNeg) (-(nI 1000000)) → ∀ x7_3 : Int32, x7_3 = x7 + (nI 1) → P 57 [some (mj_r (11, 21, 0)), some (mj_r (i1, 0, 0)), some (mj_i x2), some (mj_i x3), some (mj_i x4), some (mj_i x5), some (mj_i x6), some (mj_i x7_3)] [] M_2) ∧
    (¬ x6 = 0 →
    ∃ (y_5 : Int32) (M_4 : mj_M), mj_Sp d 49 [mj_r (11, 21, 0), mj_r (i1, 0, 0), mj_i x2, mj_i x3, mj_i x5, mj_i x7] M (some (mj_i y_5)) M_4 ∧
      vp_in x7 10 ∧ ∀ M_6 : mj_M, M_6 = mj_wl M_4 (11, 24, x5.toNatClampNeg, x7.toNatClampNeg) y_5 → ∀ x7_7 : Int32, x7_7 = x7 + (nI 1) → P 57 [some (mj_r (11, 21, 0)), some (mj_r (i1, 0, 0)), some (mj_i x2), some (mj_i x3), some (mj_i x4), some (mj_i x5), some (mj_i x6), some (mj_i x7_7)] [] M_6))) : P 57 [some (mj_r (11, 21, 0)), some (mj_r (i1, 0, 0)), some (mj_i x2), some (mj_i x3), some (mj_i x4), some (mj_i x5), some (mj_i x6), some (mj_i x7)] [] M :=
  hP 57 _ _ _ ⟨fun c1 => hP 101 _ _ _ ⟨rfl, ((h.1 c1) _ rfl)⟩, fun c1 => ⟨rfl, ⟨(h.2 c1).1, ⟨fun c2 => hP 92 _ _ _ (hP 94 _ _ _ ⟨rfl, ⟨((h.2 c1).2.1 c2).1, ⟨rfl, ((((h.2 c1).2.1 c2).2 _ rfl) _ rfl)⟩⟩⟩), fun c2 => ⟨rfl, Exists.elim ((h.2 c1).2.2 c2) fun e3 g3 => Exists.elim g3 fun a3 b3 => ⟨e3, a3, b3.1, hP 89 _ _ _ (hP 94 _ _ _ ⟨rfl, ⟨b3.2.1, ⟨rfl, ((b3.2.2 _ rfl) _ rfl)⟩⟩⟩)⟩⟩⟩⟩⟩⟩
theorem rg_Su_gainBy_0 {d : Nat} {P : Nat → mj_L → List mj_V → mj_M → Prop} {R : Option mj_V → mj_M → Prop} (hP : mj_Cl mj_c49 (mj_Sp d) (0 < d) P R) {i1 : Nat} {x2 : Int32} {x3 : Int32} {x4 : Int32} {x5 : Int32} {M : mj_M} (h :
  ∃ M_1 : mj_M, mj_Sp d 27 [mj_r (3, 0, 0), mj_r (i1, 0, 0), mj_i x4] M none M_1 ∧
  vp_in x4 6 ∧ vp_in x2 4 ∧ ∀ M_2 : mj_M, M_2 = mj_wl M_1 (3, 4, x4.toNatClampNeg, x2.toNatClampNeg) x5 → vp_in x2 4 ∧ ∀ M_3 : mj_M, M_3 = mj_wl M_2 (3, 8, 0, x2.toNatClampNeg) (nI 0) → ∃ M_4 : mj_M, mj_Sp d 25 [mj_r (3, 20, 0), mj_i x4, mj_i x3] M_3 none M_4 ∧
  vp_in x2 4 ∧ R (some (mj_i (M_4 3 8 0 x2.toNatClampNeg))) M_4) : P 0 [some (mj_r (11, 21, 0)), some (mj_r (i1, 0, 0)), some (mj_i x2), some (mj_i x3), some (mj_i x4), some (mj_i x5), none] [] M :=
  hP 0 _ _ _ ⟨rfl, ⟨rfl, ⟨rfl, ⟨rfl, Exists.elim h fun a1 b1 => ⟨a1, b1.1, hP 17 _ _ _ ⟨rfl, ⟨b1.2.1, ⟨rfl, ⟨b1.2.2.1, ⟨rfl, ⟨rfl, ⟨(b1.2.2.2 _ rfl).1, ⟨rfl, ⟨rfl, Exists.elim ((b1.2.2.2 _ rfl).2 _ rfl) fun a2 b2 => ⟨a2, b2.1, hP 47 _ _ _ ⟨rfl, ⟨b2.2.1, b2.2.2⟩⟩⟩⟩⟩⟩⟩⟩⟩⟩⟩⟩⟩⟩⟩⟩⟩
theorem rg_Su_learnMost_0 {d : Nat} {P : Nat → mj_L → List mj_V → mj_M → Prop} {R : Option mj_V → mj_M → Prop} (hP : mj_Cl mj_c50 (mj_Sp d) (0 < d) P R) {x1 : Int32} {M : mj_M} (h :
  P 2 [some (mj_r (11, 21, 0)), some (mj_i x1), some (mj_i (nI 5)), none, none] [] M) : P 0 [some (mj_r (11, 21, 0)), some (mj_i x1), none, none, none] [] M :=
  hP 0 _ _ _ ⟨rfl, h⟩
theorem rg_Su_learnMost_2 {d : Nat} {P : Nat → mj_L → List mj_V → mj_M → Prop} {R : Option mj_V → mj_M → Prop} (hP : mj_Cl mj_c50 (mj_Sp d) (0 < d) P R) {x1 : Int32} {x2 : Int32} {o3 : Option mj_V} {o4 : Option mj_V} {M : mj_M} (h :
  (x2 < 0 →
  R none M) ∧
  (¬ x2 < 0 →
  P 8 [some (mj_r (11, 21, 0)), some (mj_i x1), some (mj_i x2), some (mj_i (nI 0)), o4] [] M)) : P 2 [some (mj_r (11, 21, 0)), some (mj_i x1), some (mj_i x2), o3, o4] [] M :=
  hP 2 _ _ _ ⟨fun c1 => hP 92 _ _ _ (h.1 c1), fun c1 => ⟨rfl, (h.2 c1)⟩⟩
theorem rg_Su_learnMost_8 {d : Nat} {P : Nat → mj_L → List mj_V → mj_M → Prop} {R : Option mj_V → mj_M → Prop} (hP : mj_Cl mj_c50 (mj_Sp d) (0 < d) P R) {x1 : Int32} {x2 : Int32} {x3 : Int32} {o4 : Option mj_V} {M : mj_M} (h :
  (x1 < x3 →
  ∀ x2_1 : Int32, x2_1 = x2 + (-(nI 1)) → P 2 [some (mj_r (11, 21, 0)), some (mj_i x1), some (mj_i x2_1), some (mj_i x3), o4] [] M) ∧
  (¬ x1 < x3 →
  vp_in x2 7 ∧ vp_in x3 10 ∧ ∀ M_2 : mj_M, M_2 = mj_wl M (11, 26, x2.toNatClampNeg, x3.toNatClampNeg) (-(nI 1000000)) → P 26 [some (mj_r (11, 21, 0)), some (mj_i x1), some (mj_i x2), some (mj_i x3), some (mj_i (nI 0))] [] M_2)) : P 8 [some (mj_r (11, 21, 0)), some (mj_i x1), some (mj_i x2), some (mj_i x3), o4] [] M :=
  hP 8 _ _ _ ⟨fun c1 => hP 86 _ _ _ ⟨rfl, ((h.1 c1) _ rfl)⟩, fun c1 => ⟨rfl, ⟨(h.2 c1).1, ⟨rfl, ⟨(h.2 c1).2.1, ⟨rfl, ((h.2 c1).2.2 _ rfl)⟩⟩⟩⟩⟩⟩
theorem rg_Su_learnMost_26 {d : Nat} {P : Nat → mj_L → List mj_V → mj_M → Prop} {R : Option mj_V → mj_M → Prop} (hP : mj_Cl mj_c50 (mj_Sp d) (0 < d) P R) {x1 : Int32} {x2 : Int32} {x3 : Int32} {x4 : Int32} {M : mj_M} (h :
  (x3 < x4 →
  ∀ x3_1 : Int32, x3_1 = x3 + (nI 1) → P 8 [some (mj_r (11, 21, 0)), some (mj_i x1), some (mj_i x2), some (mj_i x3_1), some (mj_i x4)] [] M) ∧
  (¬ x3 < x4 →
  vp_in x2 7 ∧ vp_in x2 7 ∧ vp_in x3 10 ∧ vp_in x2 6 ∧ vp_in x4 10 ∧ vp_in (x2 + (nI 1)) 7 ∧ vp_in (x3 - x4) 10 ∧ 0 < d ∧ vp_in x3 10 ∧ ∀ M_2 : mj_M, M_2 = mj_wl M (11, 26, x2.toNatClampNeg, x3.toNatClampNeg) (if (M 11 26 x2.toNatClampNeg x3.toNatClampNeg) < ((M 11 24 x2.toNatClampNeg x4.toNatClampNeg) + (M 11 26 ((x2 + (nI 1)).toNatClampNeg) (x3 - x4).toNatClampNeg)) then ((M 11 24 x2.toNatClampNeg x4.toNatClampNeg) + (M 11 26 ((x2 + (nI 1)).toNatClampNeg) (x3 - x4).toNatClampNeg)) else (M 11 26 x2.toNatClampNeg x3.toNatClampNeg)) → ∀ x4_3 : Int32, x4_3 = x4 + (nI 1) → P 26 [some (mj_r (11, 21, 0)), some (mj_i x1), some (mj_i x2), some (mj_i x3), some (mj_i x4_3)] [] M_2)) : P 26 [some (mj_r (11, 21, 0)), some (mj_i x1), some (mj_i x2), some (mj_i x3), some (mj_i x4)] [] M :=
  hP 26 _ _ _ ⟨fun c1 => hP 80 _ _ _ ⟨rfl, ((h.1 c1) _ rfl)⟩, fun c1 => ⟨rfl, ⟨(h.2 c1).1, ⟨rfl, ⟨(h.2 c1).2.1, ⟨(h.2 c1).2.2.1, ⟨rfl, ⟨(h.2 c1).2.2.2.1, ⟨(h.2 c1).2.2.2.2.1, ⟨rfl, ⟨(h.2 c1).2.2.2.2.2.1, ⟨(h.2 c1).2.2.2.2.2.2.1, ⟨rfl, ⟨(h.2 c1).2.2.2.2.2.2.2.1, ⟨rfl, ⟨(h.2 c1).2.2.2.2.2.2.2.2.1, ⟨rfl, (((h.2 c1).2.2.2.2.2.2.2.2.2 _ rfl) _ rfl)⟩⟩⟩⟩⟩⟩⟩⟩⟩⟩⟩⟩⟩⟩⟩⟩⟩
theorem rg_Su_layFirstRow_0 {d : Nat} {P : Nat → mj_L → List mj_V → mj_M → Prop} {R : Option mj_V → mj_M → Prop} (hP : mj_Cl mj_c51 (mj_Sp d) (0 < d) P R) {x1 : Int32} {x2 : Int32} {M : mj_M} (h :
  P 8 [some (mj_r (11, 21, 0)), some (mj_i x1), some (mj_i x2), some (mj_i x1), some (mj_i x2), some (mj_i (nI 0)), none] [] M) : P 0 [some (mj_r (11, 21, 0)), some (mj_i x1), some (mj_i x2), none, none, none, none] [] M :=
  hP 0 _ _ _ ⟨rfl, ⟨rfl, ⟨rfl, h⟩⟩⟩
theorem rg_Su_layFirstRow_8 {d : Nat} {P : Nat → mj_L → List mj_V → mj_M → Prop} {R : Option mj_V → mj_M → Prop} (hP : mj_Cl mj_c51 (mj_Sp d) (0 < d) P R) {x1 : Int32} {x2 : Int32} {x3 : Int32} {x4 : Int32} {x5 : Int32} {o6 : Option mj_V} {M : mj_M} (h :
  ((nI 6) ≤ x5 →
  R none M) ∧
  (¬ (nI 6) ≤ x5 →
  ∃ (y_2 : Int32) (M_1 : mj_M), mj_Sp d 52 [mj_r (11, 21, 0), mj_i x5, mj_i x3, mj_i x4] M (some (mj_i y_2)) M_1 ∧
    vp_in x5 6 ∧ ∀ M_3 : mj_M, M_3 = mj_wl M_1 (11, 27, 0, x5.toNatClampNeg) y_2 → vp_in x5 6 ∧ vp_in y_2 10 ∧ ∀ x4_4 : Int32, x4_4 = x4 - (M_3 11 24 x5.toNatClampNeg y_2.toNatClampNeg) → ∀ x3_5 : Int32, x3_5 = x3 - y_2 → ∀ x5_6 : Int32, x5_6 = x5 + (nI 1) → P 8 [some (mj_r (11, 21, 0)), some (mj_i x1), some (mj_i x2), some (mj_i x3_5), some (mj_i x4_4), some (mj_i x5_6), some (mj_i y_2)] [] M_3)) : P 8 [some (mj_r (11, 21, 0)), some (mj_i x1), some (mj_i x2), some (mj_i x3), some (mj_i x4), some (mj_i x5), o6] [] M :=
  hP 8 _ _ _ ⟨fun c1 => hP 61 _ _ _ (h.1 c1), fun c1 => ⟨rfl, Exists.elim (h.2 c1) fun e2 g2 => Exists.elim g2 fun a2 b2 => ⟨e2, a2, b2.1, hP 24 _ _ _ ⟨rfl, ⟨rfl, ⟨rfl, ⟨b2.2.1, ⟨rfl, ⟨(b2.2.2 _ rfl).1, ⟨(b2.2.2 _ rfl).2.1, ⟨rfl, ⟨rfl, ⟨rfl, ((((b2.2.2 _ rfl).2.2 _ rfl) _ rfl) _ rfl)⟩⟩⟩⟩⟩⟩⟩⟩⟩⟩⟩⟩⟩
theorem rg_Su_fewestOn_0 {d : Nat} {P : Nat → mj_L → List mj_V → mj_M → Prop} {R : Option mj_V → mj_M → Prop} (hP : mj_Cl mj_c52 (mj_Sp d) (0 < d) P R) {x1 : Int32} {x2 : Int32} {x3 : Int32} {M : mj_M} (h :
  P 3 [some (mj_r (11, 21, 0)), some (mj_i x1), some (mj_i x2), some (mj_i x3), some (mj_i (nI 0))] [] M) : P 0 [some (mj_r (11, 21, 0)), some (mj_i x1), some (mj_i x2), some (mj_i x3), none] [] M :=
  hP 0 _ _ _ ⟨rfl, h⟩
theorem rg_Su_fewestOn_3 {d : Nat} {P : Nat → mj_L → List mj_V → mj_M → Prop} {R : Option mj_V → mj_M → Prop} (hP : mj_Cl mj_c52 (mj_Sp d) (0 < d) P R) {x1 : Int32} {x2 : Int32} {x3 : Int32} {x4 : Int32} {M : mj_M} (h :
  (x2 ≤ x4 →
  R (some (mj_i x2)) M) ∧
  (¬ x2 ≤ x4 →
  vp_in x1 6 ∧ vp_in x4 10 ∧ vp_in (x1 + (nI 1)) 7 ∧ vp_in (x2 - x4) 10 ∧ (((M 11 24 x1.toNatClampNeg x4.toNatClampNeg) + (M 11 26 ((x1 + (nI 1)).toNatClampNeg) (x2 - x4).toNatClampNeg)) < x3 →
    ∀ x4_1 : Int32, x4_1 = x4 + (nI 1) → P 3 [some (mj_r (11, 21, 0)), some (mj_i x1), some (mj_i x2), some (mj_i x3), some (mj_i x4_1)] [] M) ∧
    (¬ ((M 11 24 x1.toNatClampNeg x4.toNatClampNeg) + (M 11 26 ((x1 + (nI 1)).toNatClampNeg) (x2 - x4).toNatClampNeg)) < x3 →
    R (some (mj_i x4)) M))) : P 3 [some (mj_r (11, 21, 0)), some (mj_i x1), some (mj_i x2), some (mj_i x3), some (mj_i x4)] [] M :=
  hP 3 _ _ _ ⟨fun c1 => hP 45 _ _ _ (h.1 c1), fun c1 => ⟨rfl, ⟨(h.2 c1).1, ⟨(h.2 c1).2.1, ⟨rfl, ⟨(h.2 c1).2.2.1, ⟨(h.2 c1).2.2.2.1, ⟨fun c2 => hP 39 _ _ _ ⟨rfl, (((h.2 c1).2.2.2.2.1 c2) _ rfl)⟩, fun c2 => ((h.2 c1).2.2.2.2.2 c2)⟩⟩⟩⟩⟩⟩⟩⟩
theorem rg_Ta_add_0 {d : Nat} {P : Nat → mj_L → List mj_V → mj_M → Prop} {R : Option mj_V → mj_M → Prop} (hP : mj_Cl mj_c53 (mj_Sp d) (0 < d) P R) {x1 : Int32} {M : mj_M} (h :
  ((nI 48) ≤ (M 6 45 0 0) →
  R none M) ∧
  (¬ (nI 48) ≤ (M 6 45 0 0) →
  vp_in (M 6 45 0 0) 48 ∧ ∀ M_1 : mj_M, M_1 = mj_wl M (6, 46, 0, (M 6 45 0 0).toNatClampNeg) x1 → ∀ M_2 : mj_M, M_2 = mj_wl M_1 (6, 45, 0, 0) ((M_1 6 45 0 0) + (nI 1)) → R none M_2)) : P 0 [some (mj_r (6, 45, 0)), some (mj_i x1)] [] M :=
  hP 0 _ _ _ ⟨rfl, ⟨fun c1 => hP 29 _ _ _ (h.1 c1), fun c1 => ⟨rfl, ⟨rfl, ⟨rfl, ⟨(h.2 c1).1, ⟨rfl, ⟨rfl, hP 29 _ _ _ (((h.2 c1).2 _ rfl) _ rfl)⟩⟩⟩⟩⟩⟩⟩⟩
theorem rg_Ta_readInto_0 {d : Nat} {P : Nat → mj_L → List mj_V → mj_M → Prop} {R : Option mj_V → mj_M → Prop} (hP : mj_Cl mj_c54 (mj_Sp d) (0 < d) P R) {i1 : Nat} {M : mj_M} (h :
  ∀ M_1 : mj_M, M_1 = mj_wl M (i1, 10, 0, 0) (nI 0) → P 12 [some (mj_r (6, 45, 0)), some (mj_r (i1, 10, 0)), some (mj_i (nI 0)), some (mj_i (nI 0)), some (mj_i (nI 0)), none] [] M_1) : P 0 [some (mj_r (6, 45, 0)), some (mj_r (i1, 10, 0)), none, none, none, none] [] M :=
  hP 0 _ _ _ ⟨rfl, ⟨rfl, ⟨rfl, ⟨rfl, (h _ rfl)⟩⟩⟩⟩
theorem rg_Ta_readInto_12 {d : Nat} {P : Nat → mj_L → List mj_V → mj_M → Prop} {R : Option mj_V → mj_M → Prop} (hP : mj_Cl mj_c54 (mj_Sp d) (0 < d) P R) {i1 : Nat} {x2 : Int32} {x3 : Int32} {x4 : Int32} {o5 : Option mj_V} {M : mj_M} (h :
  ((M 6 45 0 0) ≤ x4 →
  (¬ x2 = (nI 2) →
    R (some (mj_i ((-(nI 20)) - (M 6 45 0 0)))) M) ∧
    (¬ ¬ x2 = (nI 2) →
    R (some (mj_i (M i1 10 0 0))) M)) ∧
  (¬ (M 6 45 0 0) ≤ x4 →
  vp_in x4 48 ∧ ∀ x5_1 : Int32, x5_1 = M 6 46 0 x4.toNatClampNeg → (¬ x5_1 = (nI 32) →
    ∃ (y_3 : Int32) (M_2 : mj_M), mj_Sp d 55 [mj_i x5_1, mj_i x2, mj_i (M i1 10 0 0)] M (some (mj_i y_3)) M_2 ∧
      (¬ y_3 = 0 →
      (¬ x2 = 0 →
        (¬ x2 = (nI 1) →
          ∀ x4_4 : Int32, x4_4 = x4 + (nI 1) → P 12 [some (mj_r (6, 45, 0)), some (mj_r (i1, 10, 0)), some (mj_i (nI 0)), some (mj_i x3), some (mj_i x4_4), some (mj_i x5_1)] [] M_2) ∧
          (¬ ¬ x2 = (nI 1) →
          ∃ M_5 : mj_M, mj_Sp d 57 [mj_r (i1, 10, 0), mj_i x3, mj_i (x5_1 - (nI 48))] M_2 none M_5 ∧
            ∀ x4_6 : Int32, x4_6 = x4 + (nI 1) → P 12 [some (mj_r (6, 45, 0)), some (mj_r (i1, 10, 0)), some (mj_i (nI 2)), some (mj_i x3), some (mj_i x4_6), some (mj_i x5_1)] [] M_5)) ∧
        (¬ ¬ x2 = 0 →
        ∃ (y_8 : Int32) (M_7 : mj_M), mj_Sp d 56 [mj_i x5_1] M_2 (some (mj_i y_8)) M_7 ∧
          ∀ x4_9 : Int32, x4_9 = x4 + (nI 1) → P 12 [some (mj_r (6, 45, 0)), some (mj_r (i1, 10, 0)), some (mj_i (nI 1)), some (mj_i y_8), some (mj_i x4_9), some (mj_i x5_1)] [] M_7)) ∧
      (¬ ¬ y_3 = 0 →
      R (some (mj_i ((-(nI 20)) - x4))) M_2)) ∧
    (¬ ¬ x5_1 = (nI 32) →
    ∀ x4_10 : Int32, x4_10 = x4 + (nI 1) → P 12 [some (mj_r (6, 45, 0)), some (mj_r (i1, 10, 0)), some (mj_i x2), some (mj_i x3), some (mj_i x4_10), some (mj_i x5_1)] [] M))) : P 12 [some (mj_r (6, 45, 0)), some (mj_r (i1, 10, 0)), some (mj_i x2), some (mj_i x3), some (mj_i x4), o5] [] M :=
  hP 12 _ _ _ ⟨rfl, ⟨fun c1 => hP 102 _ _ _ ⟨fun c2 => hP 114 _ _ _ ⟨rfl, hP 121 _ _ _ ((h.1 c1).1 c2)⟩, fun c2 => ⟨rfl, hP 121 _ _ _ ((h.1 c1).2 c2)⟩⟩, fun c1 => ⟨rfl, ⟨(h.2 c1).1, ⟨rfl, ⟨fun c3 => hP 40 _ _ _ ⟨rfl, ⟨rfl, Exists.elim (((h.2 c1).2 _ rfl).1 c3) fun e4 g4 => Exists.elim g4 fun a4 b4 => ⟨e4, a4, b4.1, hP 50 _ _ _ ⟨fun c5 => hP 59 _ _ _ ⟨fun c6 => hP 74 _ _ _ ⟨fun c7 => hP 94 _ _ _ ⟨rfl, hP 96 _ _ _ ⟨rfl, ((((b4.2.1 c5).1 c6).1 c7) _ rfl)⟩⟩, fun c7 => ⟨rfl, Exists.elim (((b4.2.1 c5).1 c6).2 c7) fun a8 b8 => ⟨a8, b8.1, hP 89 _ _ _ ⟨rfl, hP 96 _ _ _ ⟨rfl, (b8.2 _ rfl)⟩⟩⟩⟩⟩, fun c6 => ⟨rfl, Exists.elim ((b4.2.1 c5).2 c6) fun e9 g9 => Exists.elim g9 fun a9 b9 => ⟨e9, a9, b9.1, hP 68 _ _ _ ⟨rfl, ⟨rfl, hP 96 _ _ _ ⟨rfl, (b9.2 _ rfl)⟩⟩⟩⟩⟩⟩, fun c5 => (b4.2.2 c5)⟩⟩⟩⟩, fun c3 => hP 96 _ _ _ ⟨rfl, ((((h.2 c1).2 _ rfl).2 c3) _ rfl)⟩⟩⟩⟩⟩⟩⟩
theorem rg_Ta_canStand_0 {d : Nat} {P : Nat → mj_L → List mj_V → mj_M → Prop} {R : Option mj_V → mj_M → Prop} (hP : mj_Cl mj_c55 (mj_Sp d) (0 < d) P R) {x0 : Int32} {x1 : Int32} {x2 : Int32} {M : mj_M} (h :
  (¬ x1 = 0 →
  (¬ x1 = (nI 1) →
    (¬ x0 = (nI 44) →
      R (some (mj_i (nI 0))) M) ∧
      (¬ ¬ x0 = (nI 44) →
      ((nI 12) ≤ x2 →
        R (some (mj_i (nI 0))) M) ∧
        (¬ (nI 12) ≤ x2 →
        R (some (mj_i (nI 1))) M))) ∧
    (¬ ¬ x1 = (nI 1) →
    (x0 < (nI 48) →
      R (some (mj_i (nI 0))) M) ∧
      (¬ x0 < (nI 48) →
      ((nI 51) < x0 →
        R (some (mj_i (nI 0))) M) ∧
        (¬ (nI 51) < x0 →
        R (some (mj_i (nI 1))) M)))) ∧
  (¬ ¬ x1 = 0 →
  ∃ (y_2 : Int32) (M_1 : mj_M), mj_Sp d 56 [mj_i x0] M (some (mj_i y_2)) M_1 ∧
    (y_2 < 0 →
    R (some (mj_i (nI 0))) M_1) ∧
    (¬ y_2 < 0 →
    R (some (mj_i (nI 1))) M_1))) : P 0 [some (mj_i x0), some (mj_i x1), some (mj_i x2)] [] M :=
  hP 0 _ _ _ ⟨fun c1 => hP 17 _ _ _ ⟨fun c2 => hP 40 _ _ _ ⟨fun c3 => hP 56 _ _ _ (hP 57 _ _ _ ⟨(Or.inl rfl), (((h.1 c1).1 c2).1 c3)⟩), fun c3 => ⟨fun c4 => hP 56 _ _ _ (hP 57 _ _ _ ⟨(Or.inl rfl), ((((h.1 c1).1 c2).2 c3).1 c4)⟩), fun c4 => hP 57 _ _ _ ⟨(Or.inr rfl), ((((h.1 c1).1 c2).2 c3).2 c4)⟩⟩⟩, fun c2 => ⟨fun c5 => hP 38 _ _ _ (hP 39 _ _ _ ⟨(Or.inl rfl), (((h.1 c1).2 c2).1 c5)⟩), fun c5 => ⟨fun c6 => hP 38 _ _ _ (hP 39 _ _ _ ⟨(Or.inl rfl), ((((h.1 c1).2 c2).2 c5).1 c6)⟩), fun c6 => hP 39 _ _ _ ⟨(Or.inr rfl), ((((h.1 c1).2 c2).2 c5).2 c6)⟩⟩⟩⟩, fun c1 => ⟨rfl, Exists.elim (h.2 c1) fun e7 g7 => Exists.elim g7 fun a7 b7 => ⟨e7, a7, b7.1, hP 8 _ _ _ ⟨fun c8 => hP 15 _ _ _ (hP 16 _ _ _ ⟨(Or.inl rfl), (b7.2.1 c8)⟩), fun c8 => hP 16 _ _ _ ⟨(Or.inr rfl), (b7.2.2 c8)⟩⟩⟩⟩⟩
theorem rg_Ta_sideOf_0 {d : Nat} {P : Nat → mj_L → List mj_V → mj_M → Prop} {R : Option mj_V → mj_M → Prop} (hP : mj_Cl mj_c56 (mj_Sp d) (0 < d) P R) {x0 : Int32} {M : mj_M} (h :
  (x0 = nI 100 →
  R (some (mj_i (nI 3))) M) ∧
  (¬ x0 = nI 100 →
  (x0 = nI 108 →
    R (some (mj_i (nI 1))) M) ∧
    (¬ x0 = nI 108 →
    (x0 = nI 114 →
      R (some (mj_i (nI 2))) M) ∧
      (¬ x0 = nI 114 →
      (x0 = nI 117 →
        R (some (mj_i (nI 0))) M) ∧
        (¬ x0 = nI 117 →
        R (some (mj_i (-(nI 1)))) M))))) : P 0 [some (mj_i x0)] [] M :=
  hP 0 _ _ _ ⟨fun c1 => hP 50 _ _ _ (h.1 c1), fun c1 => ⟨fun c2 => hP 46 _ _ _ ((h.2 c1).1 c2), fun c2 => ⟨fun c3 => hP 48 _ _ _ (((h.2 c1).2 c2).1 c3), fun c3 => ⟨fun c4 => hP 44 _ _ _ ((((h.2 c1).2 c2).2 c3).1 c4), fun c4 => hP 52 _ _ _ ((((h.2 c1).2 c2).2 c3).2 c4)⟩⟩⟩⟩
theorem rg_Wi_add_0 {d : Nat} {P : Nat → mj_L → List mj_V → mj_M → Prop} {R : Option mj_V → mj_M → Prop} (hP : mj_Cl mj_c57 (mj_Sp d) (0 < d) P R) {i0 : Nat} {x1 : Int32} {x2 : Int32} {M : mj_M} (h :
  ((nI 12) ≤ (M i0 10 0 0) →
  R none M) ∧
  (¬ (nI 12) ≤ (M i0 10 0 0) →
  vp_in (M i0 10 0 0) 12 ∧ ∀ M_1 : mj_M, M_1 = mj_wl M (i0, 11, 0, (M i0 10 0 0).toNatClampNeg) x1 → vp_in (M_1 i0 10 0 0) 12 ∧ ∀ M_2 : mj_M, M_2 = mj_wl M_1 (i0, 12, 0, (M_1 i0 10 0 0).toNatClampNeg) x2 → ∀ M_3 : mj_M, M_3 = mj_wl M_2 (i0, 10, 0, 0) ((M_2 i0 10 0 0) + (nI 1)) → R none M_3)) : P 0 [some (mj_r (i0, 10, 0)), some (mj_i x1), some (mj_i x2)] [] M :=
  hP 0 _ _ _ ⟨rfl, ⟨fun c1 => hP 39 _ _ _ (h.1 c1), fun c1 => ⟨rfl, ⟨rfl, ⟨rfl, ⟨(h.2 c1).1, ⟨rfl, ⟨rfl, ⟨rfl, ⟨((h.2 c1).2 _ rfl).1, ⟨rfl, ⟨rfl, hP 39 _ _ _ ((((h.2 c1).2 _ rfl).2 _ rfl) _ rfl)⟩⟩⟩⟩⟩⟩⟩⟩⟩⟩⟩⟩
theorem rg_Wi_sideIn_0 {d : Nat} {P : Nat → mj_L → List mj_V → mj_M → Prop} {R : Option mj_V → mj_M → Prop} (hP : mj_Cl mj_c58 (mj_Sp d) (0 < d) P R) {i0 : Nat} {x1 : Int32} {M : mj_M} (h :
  ((M i0 10 0 0) ≤ 0 →
  R (some (mj_i (nI 0))) M) ∧
  (¬ (M i0 10 0 0) ≤ 0 →
  ¬ (M i0 10 0 0) = 0 ∧ vp_in (x1 % (M i0 10 0 0)) 12 ∧ R (some (mj_i (M i0 11 0 (x1 % (M i0 10 0 0)).toNatClampNeg))) M)) : P 0 [some (mj_r (i0, 10, 0)), some (mj_i x1)] [] M :=
  hP 0 _ _ _ ⟨rfl, ⟨fun c1 => hP 21 _ _ _ (hP 22 _ _ _ (h.1 c1)), fun c1 => ⟨rfl, ⟨rfl, ⟨(h.2 c1).1, ⟨(h.2 c1).2.1, hP 22 _ _ _ ((h.2 c1).2.2)⟩⟩⟩⟩⟩⟩
theorem rg_Wi_forceIn_0 {d : Nat} {P : Nat → mj_L → List mj_V → mj_M → Prop} {R : Option mj_V → mj_M → Prop} (hP : mj_Cl mj_c59 (mj_Sp d) (0 < d) P R) {i0 : Nat} {x1 : Int32} {M : mj_M} (h :
  ((M i0 10 0 0) ≤ 0 →
  R (some (mj_i (nI 0))) M) ∧
  (¬ (M i0 10 0 0) ≤ 0 →
  ¬ (M i0 10 0 0) = 0 ∧ vp_in (x1 % (M i0 10 0 0)) 12 ∧ R (some (mj_i (M i0 12 0 (x1 % (M i0 10 0 0)).toNatClampNeg))) M)) : P 0 [some (mj_r (i0, 10, 0)), some (mj_i x1)] [] M :=
  hP 0 _ _ _ ⟨rfl, ⟨fun c1 => hP 21 _ _ _ (hP 22 _ _ _ (h.1 c1)), fun c1 => ⟨rfl, ⟨rfl, ⟨(h.2 c1).1, ⟨(h.2 c1).2.1, hP 22 _ _ _ ((h.2 c1).2.2)⟩⟩⟩⟩⟩⟩
theorem rg_Wi_takeAll_0 {d : Nat} {P : Nat → mj_L → List mj_V → mj_M → Prop} {R : Option mj_V → mj_M → Prop} (hP : mj_Cl mj_c60 (mj_Sp d) (0 < d) P R) {i0 : Nat} {i1 : Nat} {M : mj_M} (h :
  0 < d ∧ ¬ (nI 0) < 0 ∧ ¬ (nI 0) < 0 ∧ ¬ (nI 12) < 0 ∧ (nI 0).toNatClampNeg + (nI 12).toNatClampNeg ≤ 12 ∧ (nI 0).toNatClampNeg + (nI 12).toNatClampNeg ≤ 12 ∧ ∀ M_1 : mj_M, M_1 = mj_cp M (i1, 11, 0) (i0, 11, 0) (nI 0).toNatClampNeg (nI 0).toNatClampNeg (nI 12).toNatClampNeg → 0 < d ∧ ¬ (nI 0) < 0 ∧ ¬ (nI 0) < 0 ∧ ¬ (nI 12) < 0 ∧ (nI 0).toNatClampNeg + (nI 12).toNatClampNeg ≤ 12 ∧ (nI 0).toNatClampNeg + (nI 12).toNatClampNeg ≤ 12 ∧ ∀ M_2 : mj_M, M_2 = mj_cp M_1 (i1, 12, 0) (i0, 12, 0) (nI 0).toNatClampNeg (nI 0).toNatClampNeg (nI 12).toNatClampNeg → ∀ M_3 : mj_M, M_3 = mj_wl M_2 (i0, 10, 0, 0) (M_2 i1 10 0 0) → R none M_3) : P 0 [some (mj_r (i0, 10, 0)), some (mj_r (i1, 10, 0))] [] M :=
  hP 0 _ _ _ ⟨rfl, ⟨rfl, ⟨rfl, ⟨h.1, ⟨rfl, ⟨rfl, ⟨h.2.1, ⟨h.2.2.1, ⟨h.2.2.2.1, ⟨h.2.2.2.2.1, ⟨h.2.2.2.2.2.1, ⟨rfl, ⟨rfl, ⟨rfl, ⟨(h.2.2.2.2.2.2 _ rfl).1, ⟨rfl, ⟨rfl, ⟨(h.2.2.2.2.2.2 _ rfl).2.1, ⟨(h.2.2.2.2.2.2 _ rfl).2.2.1, ⟨(h.2.2.2.2.2.2 _ rfl).2.2.2.1, ⟨(h.2.2.2.2.2.2 _ rfl).2.2.2.2.1, ⟨(h.2.2.2.2.2.2 _ rfl).2.2.2.2.2.1, ⟨rfl, ⟨rfl, (((h.2.2.2.2.2.2 _ rfl).2.2.2.2.2.2 _ rfl) _ rfl)⟩⟩⟩⟩⟩⟩⟩⟩⟩⟩⟩⟩⟩⟩⟩⟩⟩⟩⟩⟩⟩⟩⟩⟩
theorem rg_J_fill_0 {d : Nat} {P : Nat → mj_L → List mj_V → mj_M → Prop} {R : Option mj_V → mj_M → Prop} (hP : mj_Cl mj_c61 (mj_Sp d) (0 < d) P R) {q0 : mj_Id} {x1 : Int32} {M : mj_M} (h :
  mj_ia q0.2.1 = true ∧ ∀ x3_1 : Int32, x3_1 = nI (mj_len M q0) → P 5 [some (mj_r q0), some (mj_i x1), some (mj_i (nI 0)), some (mj_i x3_1)] [] M) : P 0 [some (mj_r q0), some (mj_i x1), none, none] [] M :=
  hP 0 _ _ _ ⟨rfl, ⟨h.1, ⟨rfl, (h.2 _ rfl)⟩⟩⟩
theorem rg_J_fill_5 {d : Nat} {P : Nat → mj_L → List mj_V → mj_M → Prop} {R : Option mj_V → mj_M → Prop} (hP : mj_Cl mj_c61 (mj_Sp d) (0 < d) P R) {q0 : mj_Id} {x1 : Int32} {x2 : Int32} {x3 : Int32} {M : mj_M} (h :
  (x3 ≤ x2 →
  R none M) ∧
  (¬ x3 ≤ x2 →
  Nat.blt q0.2.1 80 = true ∧ vp_in x2 (mj_len M q0) ∧ ∀ M_1 : mj_M, M_1 = mj_wr M q0 x2.toNatClampNeg x1 → ∀ x2_2 : Int32, x2_2 = x2 + (nI 1) → P 5 [some (mj_r q0), some (mj_i x1), some (mj_i x2_2), some (mj_i x3)] [] M_1)) : P 5 [some (mj_r q0), some (mj_i x1), some (mj_i x2), some (mj_i x3)] [] M :=
  hP 5 _ _ _ ⟨fun c1 => hP 20 _ _ _ (h.1 c1), fun c1 => ⟨(h.2 c1).1, ⟨(h.2 c1).2.1, ⟨rfl, (((h.2 c1).2.2 _ rfl) _ rfl)⟩⟩⟩⟩
