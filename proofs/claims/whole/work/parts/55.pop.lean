/-! BITS COUNTED, what bears and what rests: what the class computes at once is what the reference goes through -/
section SPEC18
def rf_pcN (n : Nat) : Nat :=
  let a := n - ((n >>> 1) &&& 1431655765)
  let b := (a &&& 858993459) + ((a >>> 2) &&& 858993459)
  let c := (b + (b >>> 4)) &&& 252645135
  let d := c + (c >>> 8)
  (d + (d >>> 16)) &&& 63
theorem nI_and (a b : Nat) : nI a &&& nI b = nI (a &&& b) := by
  apply am_ext
  intro j hj
  rw [am_bt_and, am_bt_nI hj, am_bt_nI hj, am_bt_nI hj, Nat.testBit_and]
theorem nI_ushr {a k : Nat} (ha : a < 2147483648) (hk : k < 32) : ((nI a).toUInt32 >>> ((nI k).toUInt32 &&& Int32.toUInt32 31)).toInt32 = nI (a >>> k) := by
  have h1 : ∀ k, k < 32 → ((nI k).toUInt32 &&& Int32.toUInt32 31) = UInt32.ofNat k := by decide
  rw [h1 k hk]
  apply Int32.toBitVec_inj.mp
  apply BitVec.eq_of_toNat_eq
  show ((nI a).toUInt32 >>> UInt32.ofNat k).toNat = (BitVec.ofNat 32 (a >>> k)).toNat
  have ha2 : (nI a).toUInt32.toNat = a := by
    show (BitVec.ofNat 32 a).toNat = a
    rw [BitVec.toNat_ofNat]
    exact Nat.mod_eq_of_lt (by omega)
  have hle : a >>> k ≤ a := by rw [Nat.shiftRight_eq_div_pow]; exact Nat.div_le_self _ _
  have h3 : ∀ k, k < 32 → (UInt32.ofNat k).toNat = k := by decide
  rw [UInt32.toNat_shiftRight, ha2, BitVec.toNat_ofNat, h3 k hk, Nat.mod_eq_of_lt hk, Nat.mod_eq_of_lt (show a >>> k < 2 ^ 32 by omega)]
theorem rf_pcN_eq {n : Nat} (h : n < 65536) : rf_pc (nI n) = nI (rf_pcN n) := by
  have hle : ∀ a k : Nat, a >>> k ≤ a := fun a k => by rw [Nat.shiftRight_eq_div_pow]; exact Nat.div_le_self _ _
  have hal : ∀ a b : Nat, a &&& b ≤ a := fun a b => Nat.and_le_left
  have h1 : rf_pc1 (nI n) = nI (n - ((n >>> 1) &&& 1431655765)) := by
    rw [rf_pc1, nI_ushr (by omega) (by decide), show (1431655765 : Int32) = nI 1431655765 from rfl, nI_and]
    exact pk_sub (Nat.le_trans (hal _ _) (hle _ _))
  have h2 : ∀ a, a < 65537 → rf_pc2 (nI a) = nI ((a &&& 858993459) + ((a >>> 2) &&& 858993459)) := fun a ha => by
    rw [rf_pc2, nI_ushr (by omega) (by decide), show (858993459 : Int32) = nI 858993459 from rfl, nI_and, nI_and, nI_add]
  have h3 : ∀ a, a < 200000 → rf_pc3 (nI a) = nI ((a + (a >>> 4)) &&& 252645135) := fun a ha => by
    rw [rf_pc3, nI_ushr (by omega) (by decide), show (252645135 : Int32) = nI 252645135 from rfl, nI_add, nI_and]
  have h4 : ∀ a, a < 500000 → rf_pc4 (nI a) = nI (a + (a >>> 8)) := fun a ha => by
    rw [rf_pc4, nI_ushr (by omega) (by decide), nI_add]
  have h5 : ∀ a, a < 1000000 → rf_pc5 (nI a) = nI (a + (a >>> 16)) := fun a ha => by
    rw [rf_pc5, nI_ushr (by omega) (by decide), nI_add]
  have b1 : n - ((n >>> 1) &&& 1431655765) < 65537 := by omega
  rw [rf_pc, h1, h2 _ b1]
  have e1 := hal (n - ((n >>> 1) &&& 1431655765)) 858993459
  have e2 := hal ((n - ((n >>> 1) &&& 1431655765)) >>> 2) 858993459
  have e3 := hle (n - ((n >>> 1) &&& 1431655765)) 2
  rw [h3 _ (by omega)]
  rw [rf_pcN]
  generalize hB : ((n - ((n >>> 1) &&& 1431655765)) &&& 858993459) + (((n - ((n >>> 1) &&& 1431655765)) >>> 2) &&& 858993459) = B
  have hB2 : B < 200000 := by omega
  have e4 := hal (B + (B >>> 4)) 252645135
  have e5 := hle B 4
  rw [h4 _ (by omega)]
  generalize (B + (B >>> 4)) &&& 252645135 = Cc at *
  have e6 := hle Cc 8
  rw [h5 _ (by omega), nI_and]
def rf_ck2 (a : Nat) : Nat → Bool
  | 0 => true
  | b + 1 => rf_ck2 a b && Nat.beq (rf_pcN (256 * a + b)) (rf_cnt (fun k => (256 * a + b).testBit k) 16)
def rf_ck1 : Nat → Bool
  | 0 => true
  | a + 1 => rf_ck1 a && rf_ck2 a 256
theorem rf_ck2_in {a : Nat} : ∀ m, rf_ck2 a m = true → ∀ b, b < m → rf_pcN (256 * a + b) = rf_cnt (fun k => (256 * a + b).testBit k) 16
  | 0, _, b, h => absurd h (by omega)
  | m + 1, hc, b, h => by
    rw [rf_ck2, Bool.and_eq_true] at hc
    by_cases e : b = m
    · subst e; exact Nat.eq_of_beq_eq_true hc.2
    · exact rf_ck2_in m hc.1 b (by omega)
theorem rf_ck1_in : ∀ m, rf_ck1 m = true → ∀ a, a < m → rf_ck2 a 256 = true
  | 0, _, a, h => absurd h (by omega)
  | m + 1, hc, a, h => by
    rw [rf_ck1, Bool.and_eq_true] at hc
    by_cases e : a = m
    · subst e; exact hc.2
    · exact rf_ck1_in m hc.1 a (by omega)
theorem rf_j0 : rf_ck1 0 = true := rfl
theorem rf_jj {a : Nat} (h : rf_ck1 a = true) (k : rf_ck2 a 256 = true) : rf_ck1 (a + 1) = true := by rw [rf_ck1, h, k]; rfl
theorem rf_k0 : rf_ck2 0 256 = true := by decide +kernel
theorem rf_j1 : rf_ck1 1 = true := rf_jj rf_j0 rf_k0
theorem rf_k1 : rf_ck2 1 256 = true := by decide +kernel
theorem rf_j2 : rf_ck1 2 = true := rf_jj rf_j1 rf_k1
theorem rf_k2 : rf_ck2 2 256 = true := by decide +kernel
theorem rf_j3 : rf_ck1 3 = true := rf_jj rf_j2 rf_k2
theorem rf_k3 : rf_ck2 3 256 = true := by decide +kernel
theorem rf_j4 : rf_ck1 4 = true := rf_jj rf_j3 rf_k3
theorem rf_k4 : rf_ck2 4 256 = true := by decide +kernel
theorem rf_j5 : rf_ck1 5 = true := rf_jj rf_j4 rf_k4
theorem rf_k5 : rf_ck2 5 256 = true := by decide +kernel
theorem rf_j6 : rf_ck1 6 = true := rf_jj rf_j5 rf_k5
theorem rf_k6 : rf_ck2 6 256 = true := by decide +kernel
theorem rf_j7 : rf_ck1 7 = true := rf_jj rf_j6 rf_k6
theorem rf_k7 : rf_ck2 7 256 = true := by decide +kernel
theorem rf_j8 : rf_ck1 8 = true := rf_jj rf_j7 rf_k7
theorem rf_k8 : rf_ck2 8 256 = true := by decide +kernel
theorem rf_j9 : rf_ck1 9 = true := rf_jj rf_j8 rf_k8
theorem rf_k9 : rf_ck2 9 256 = true := by decide +kernel
theorem rf_j10 : rf_ck1 10 = true := rf_jj rf_j9 rf_k9
theorem rf_k10 : rf_ck2 10 256 = true := by decide +kernel
theorem rf_j11 : rf_ck1 11 = true := rf_jj rf_j10 rf_k10
theorem rf_k11 : rf_ck2 11 256 = true := by decide +kernel
theorem rf_j12 : rf_ck1 12 = true := rf_jj rf_j11 rf_k11
theorem rf_k12 : rf_ck2 12 256 = true := by decide +kernel
theorem rf_j13 : rf_ck1 13 = true := rf_jj rf_j12 rf_k12
theorem rf_k13 : rf_ck2 13 256 = true := by decide +kernel
theorem rf_j14 : rf_ck1 14 = true := rf_jj rf_j13 rf_k13
theorem rf_k14 : rf_ck2 14 256 = true := by decide +kernel
theorem rf_j15 : rf_ck1 15 = true := rf_jj rf_j14 rf_k14
theorem rf_k15 : rf_ck2 15 256 = true := by decide +kernel
theorem rf_j16 : rf_ck1 16 = true := rf_jj rf_j15 rf_k15
theorem rf_k16 : rf_ck2 16 256 = true := by decide +kernel
theorem rf_j17 : rf_ck1 17 = true := rf_jj rf_j16 rf_k16
theorem rf_k17 : rf_ck2 17 256 = true := by decide +kernel
theorem rf_j18 : rf_ck1 18 = true := rf_jj rf_j17 rf_k17
theorem rf_k18 : rf_ck2 18 256 = true := by decide +kernel
theorem rf_j19 : rf_ck1 19 = true := rf_jj rf_j18 rf_k18
theorem rf_k19 : rf_ck2 19 256 = true := by decide +kernel
theorem rf_j20 : rf_ck1 20 = true := rf_jj rf_j19 rf_k19
theorem rf_k20 : rf_ck2 20 256 = true := by decide +kernel
theorem rf_j21 : rf_ck1 21 = true := rf_jj rf_j20 rf_k20
theorem rf_k21 : rf_ck2 21 256 = true := by decide +kernel
theorem rf_j22 : rf_ck1 22 = true := rf_jj rf_j21 rf_k21
theorem rf_k22 : rf_ck2 22 256 = true := by decide +kernel
theorem rf_j23 : rf_ck1 23 = true := rf_jj rf_j22 rf_k22
theorem rf_k23 : rf_ck2 23 256 = true := by decide +kernel
theorem rf_j24 : rf_ck1 24 = true := rf_jj rf_j23 rf_k23
theorem rf_k24 : rf_ck2 24 256 = true := by decide +kernel
theorem rf_j25 : rf_ck1 25 = true := rf_jj rf_j24 rf_k24
theorem rf_k25 : rf_ck2 25 256 = true := by decide +kernel
theorem rf_j26 : rf_ck1 26 = true := rf_jj rf_j25 rf_k25
theorem rf_k26 : rf_ck2 26 256 = true := by decide +kernel
theorem rf_j27 : rf_ck1 27 = true := rf_jj rf_j26 rf_k26
theorem rf_k27 : rf_ck2 27 256 = true := by decide +kernel
theorem rf_j28 : rf_ck1 28 = true := rf_jj rf_j27 rf_k27
theorem rf_k28 : rf_ck2 28 256 = true := by decide +kernel
theorem rf_j29 : rf_ck1 29 = true := rf_jj rf_j28 rf_k28
theorem rf_k29 : rf_ck2 29 256 = true := by decide +kernel
theorem rf_j30 : rf_ck1 30 = true := rf_jj rf_j29 rf_k29
theorem rf_k30 : rf_ck2 30 256 = true := by decide +kernel
theorem rf_j31 : rf_ck1 31 = true := rf_jj rf_j30 rf_k30
theorem rf_k31 : rf_ck2 31 256 = true := by decide +kernel
theorem rf_j32 : rf_ck1 32 = true := rf_jj rf_j31 rf_k31
theorem rf_k32 : rf_ck2 32 256 = true := by decide +kernel
theorem rf_j33 : rf_ck1 33 = true := rf_jj rf_j32 rf_k32
theorem rf_k33 : rf_ck2 33 256 = true := by decide +kernel
theorem rf_j34 : rf_ck1 34 = true := rf_jj rf_j33 rf_k33
theorem rf_k34 : rf_ck2 34 256 = true := by decide +kernel
theorem rf_j35 : rf_ck1 35 = true := rf_jj rf_j34 rf_k34
theorem rf_k35 : rf_ck2 35 256 = true := by decide +kernel
theorem rf_j36 : rf_ck1 36 = true := rf_jj rf_j35 rf_k35
theorem rf_k36 : rf_ck2 36 256 = true := by decide +kernel
theorem rf_j37 : rf_ck1 37 = true := rf_jj rf_j36 rf_k36
theorem rf_k37 : rf_ck2 37 256 = true := by decide +kernel
theorem rf_j38 : rf_ck1 38 = true := rf_jj rf_j37 rf_k37
theorem rf_k38 : rf_ck2 38 256 = true := by decide +kernel
theorem rf_j39 : rf_ck1 39 = true := rf_jj rf_j38 rf_k38
theorem rf_k39 : rf_ck2 39 256 = true := by decide +kernel
theorem rf_j40 : rf_ck1 40 = true := rf_jj rf_j39 rf_k39
theorem rf_k40 : rf_ck2 40 256 = true := by decide +kernel
theorem rf_j41 : rf_ck1 41 = true := rf_jj rf_j40 rf_k40
theorem rf_k41 : rf_ck2 41 256 = true := by decide +kernel
theorem rf_j42 : rf_ck1 42 = true := rf_jj rf_j41 rf_k41
theorem rf_k42 : rf_ck2 42 256 = true := by decide +kernel
theorem rf_j43 : rf_ck1 43 = true := rf_jj rf_j42 rf_k42
theorem rf_k43 : rf_ck2 43 256 = true := by decide +kernel
theorem rf_j44 : rf_ck1 44 = true := rf_jj rf_j43 rf_k43
theorem rf_k44 : rf_ck2 44 256 = true := by decide +kernel
theorem rf_j45 : rf_ck1 45 = true := rf_jj rf_j44 rf_k44
theorem rf_k45 : rf_ck2 45 256 = true := by decide +kernel
theorem rf_j46 : rf_ck1 46 = true := rf_jj rf_j45 rf_k45
theorem rf_k46 : rf_ck2 46 256 = true := by decide +kernel
theorem rf_j47 : rf_ck1 47 = true := rf_jj rf_j46 rf_k46
theorem rf_k47 : rf_ck2 47 256 = true := by decide +kernel
theorem rf_j48 : rf_ck1 48 = true := rf_jj rf_j47 rf_k47
theorem rf_k48 : rf_ck2 48 256 = true := by decide +kernel
theorem rf_j49 : rf_ck1 49 = true := rf_jj rf_j48 rf_k48
theorem rf_k49 : rf_ck2 49 256 = true := by decide +kernel
theorem rf_j50 : rf_ck1 50 = true := rf_jj rf_j49 rf_k49
theorem rf_k50 : rf_ck2 50 256 = true := by decide +kernel
theorem rf_j51 : rf_ck1 51 = true := rf_jj rf_j50 rf_k50
theorem rf_k51 : rf_ck2 51 256 = true := by decide +kernel
theorem rf_j52 : rf_ck1 52 = true := rf_jj rf_j51 rf_k51
theorem rf_k52 : rf_ck2 52 256 = true := by decide +kernel
theorem rf_j53 : rf_ck1 53 = true := rf_jj rf_j52 rf_k52
theorem rf_k53 : rf_ck2 53 256 = true := by decide +kernel
theorem rf_j54 : rf_ck1 54 = true := rf_jj rf_j53 rf_k53
theorem rf_k54 : rf_ck2 54 256 = true := by decide +kernel
theorem rf_j55 : rf_ck1 55 = true := rf_jj rf_j54 rf_k54
theorem rf_k55 : rf_ck2 55 256 = true := by decide +kernel
theorem rf_j56 : rf_ck1 56 = true := rf_jj rf_j55 rf_k55
theorem rf_k56 : rf_ck2 56 256 = true := by decide +kernel
theorem rf_j57 : rf_ck1 57 = true := rf_jj rf_j56 rf_k56
theorem rf_k57 : rf_ck2 57 256 = true := by decide +kernel
theorem rf_j58 : rf_ck1 58 = true := rf_jj rf_j57 rf_k57
theorem rf_k58 : rf_ck2 58 256 = true := by decide +kernel
theorem rf_j59 : rf_ck1 59 = true := rf_jj rf_j58 rf_k58
theorem rf_k59 : rf_ck2 59 256 = true := by decide +kernel
theorem rf_j60 : rf_ck1 60 = true := rf_jj rf_j59 rf_k59
theorem rf_k60 : rf_ck2 60 256 = true := by decide +kernel
theorem rf_j61 : rf_ck1 61 = true := rf_jj rf_j60 rf_k60
theorem rf_k61 : rf_ck2 61 256 = true := by decide +kernel
theorem rf_j62 : rf_ck1 62 = true := rf_jj rf_j61 rf_k61
theorem rf_k62 : rf_ck2 62 256 = true := by decide +kernel
theorem rf_j63 : rf_ck1 63 = true := rf_jj rf_j62 rf_k62
theorem rf_k63 : rf_ck2 63 256 = true := by decide +kernel
theorem rf_j64 : rf_ck1 64 = true := rf_jj rf_j63 rf_k63
theorem rf_k64 : rf_ck2 64 256 = true := by decide +kernel
theorem rf_j65 : rf_ck1 65 = true := rf_jj rf_j64 rf_k64
theorem rf_k65 : rf_ck2 65 256 = true := by decide +kernel
theorem rf_j66 : rf_ck1 66 = true := rf_jj rf_j65 rf_k65
theorem rf_k66 : rf_ck2 66 256 = true := by decide +kernel
theorem rf_j67 : rf_ck1 67 = true := rf_jj rf_j66 rf_k66
theorem rf_k67 : rf_ck2 67 256 = true := by decide +kernel
theorem rf_j68 : rf_ck1 68 = true := rf_jj rf_j67 rf_k67
theorem rf_k68 : rf_ck2 68 256 = true := by decide +kernel
theorem rf_j69 : rf_ck1 69 = true := rf_jj rf_j68 rf_k68
theorem rf_k69 : rf_ck2 69 256 = true := by decide +kernel
theorem rf_j70 : rf_ck1 70 = true := rf_jj rf_j69 rf_k69
theorem rf_k70 : rf_ck2 70 256 = true := by decide +kernel
theorem rf_j71 : rf_ck1 71 = true := rf_jj rf_j70 rf_k70
theorem rf_k71 : rf_ck2 71 256 = true := by decide +kernel
theorem rf_j72 : rf_ck1 72 = true := rf_jj rf_j71 rf_k71
theorem rf_k72 : rf_ck2 72 256 = true := by decide +kernel
theorem rf_j73 : rf_ck1 73 = true := rf_jj rf_j72 rf_k72
theorem rf_k73 : rf_ck2 73 256 = true := by decide +kernel
theorem rf_j74 : rf_ck1 74 = true := rf_jj rf_j73 rf_k73
theorem rf_k74 : rf_ck2 74 256 = true := by decide +kernel
theorem rf_j75 : rf_ck1 75 = true := rf_jj rf_j74 rf_k74
theorem rf_k75 : rf_ck2 75 256 = true := by decide +kernel
theorem rf_j76 : rf_ck1 76 = true := rf_jj rf_j75 rf_k75
theorem rf_k76 : rf_ck2 76 256 = true := by decide +kernel
theorem rf_j77 : rf_ck1 77 = true := rf_jj rf_j76 rf_k76
theorem rf_k77 : rf_ck2 77 256 = true := by decide +kernel
theorem rf_j78 : rf_ck1 78 = true := rf_jj rf_j77 rf_k77
theorem rf_k78 : rf_ck2 78 256 = true := by decide +kernel
theorem rf_j79 : rf_ck1 79 = true := rf_jj rf_j78 rf_k78
theorem rf_k79 : rf_ck2 79 256 = true := by decide +kernel
theorem rf_j80 : rf_ck1 80 = true := rf_jj rf_j79 rf_k79
theorem rf_k80 : rf_ck2 80 256 = true := by decide +kernel
theorem rf_j81 : rf_ck1 81 = true := rf_jj rf_j80 rf_k80
theorem rf_k81 : rf_ck2 81 256 = true := by decide +kernel
theorem rf_j82 : rf_ck1 82 = true := rf_jj rf_j81 rf_k81
theorem rf_k82 : rf_ck2 82 256 = true := by decide +kernel
theorem rf_j83 : rf_ck1 83 = true := rf_jj rf_j82 rf_k82
theorem rf_k83 : rf_ck2 83 256 = true := by decide +kernel
theorem rf_j84 : rf_ck1 84 = true := rf_jj rf_j83 rf_k83
theorem rf_k84 : rf_ck2 84 256 = true := by decide +kernel
theorem rf_j85 : rf_ck1 85 = true := rf_jj rf_j84 rf_k84
theorem rf_k85 : rf_ck2 85 256 = true := by decide +kernel
theorem rf_j86 : rf_ck1 86 = true := rf_jj rf_j85 rf_k85
theorem rf_k86 : rf_ck2 86 256 = true := by decide +kernel
theorem rf_j87 : rf_ck1 87 = true := rf_jj rf_j86 rf_k86
theorem rf_k87 : rf_ck2 87 256 = true := by decide +kernel
theorem rf_j88 : rf_ck1 88 = true := rf_jj rf_j87 rf_k87
theorem rf_k88 : rf_ck2 88 256 = true := by decide +kernel
theorem rf_j89 : rf_ck1 89 = true := rf_jj rf_j88 rf_k88
theorem rf_k89 : rf_ck2 89 256 = true := by decide +kernel
theorem rf_j90 : rf_ck1 90 = true := rf_jj rf_j89 rf_k89
theorem rf_k90 : rf_ck2 90 256 = true := by decide +kernel
theorem rf_j91 : rf_ck1 91 = true := rf_jj rf_j90 rf_k90
theorem rf_k91 : rf_ck2 91 256 = true := by decide +kernel
theorem rf_j92 : rf_ck1 92 = true := rf_jj rf_j91 rf_k91
theorem rf_k92 : rf_ck2 92 256 = true := by decide +kernel
theorem rf_j93 : rf_ck1 93 = true := rf_jj rf_j92 rf_k92
theorem rf_k93 : rf_ck2 93 256 = true := by decide +kernel
theorem rf_j94 : rf_ck1 94 = true := rf_jj rf_j93 rf_k93
theorem rf_k94 : rf_ck2 94 256 = true := by decide +kernel
theorem rf_j95 : rf_ck1 95 = true := rf_jj rf_j94 rf_k94
theorem rf_k95 : rf_ck2 95 256 = true := by decide +kernel
theorem rf_j96 : rf_ck1 96 = true := rf_jj rf_j95 rf_k95
theorem rf_k96 : rf_ck2 96 256 = true := by decide +kernel
theorem rf_j97 : rf_ck1 97 = true := rf_jj rf_j96 rf_k96
theorem rf_k97 : rf_ck2 97 256 = true := by decide +kernel
theorem rf_j98 : rf_ck1 98 = true := rf_jj rf_j97 rf_k97
theorem rf_k98 : rf_ck2 98 256 = true := by decide +kernel
theorem rf_j99 : rf_ck1 99 = true := rf_jj rf_j98 rf_k98
theorem rf_k99 : rf_ck2 99 256 = true := by decide +kernel
theorem rf_j100 : rf_ck1 100 = true := rf_jj rf_j99 rf_k99
theorem rf_k100 : rf_ck2 100 256 = true := by decide +kernel
theorem rf_j101 : rf_ck1 101 = true := rf_jj rf_j100 rf_k100
theorem rf_k101 : rf_ck2 101 256 = true := by decide +kernel
theorem rf_j102 : rf_ck1 102 = true := rf_jj rf_j101 rf_k101
theorem rf_k102 : rf_ck2 102 256 = true := by decide +kernel
theorem rf_j103 : rf_ck1 103 = true := rf_jj rf_j102 rf_k102
theorem rf_k103 : rf_ck2 103 256 = true := by decide +kernel
theorem rf_j104 : rf_ck1 104 = true := rf_jj rf_j103 rf_k103
theorem rf_k104 : rf_ck2 104 256 = true := by decide +kernel
theorem rf_j105 : rf_ck1 105 = true := rf_jj rf_j104 rf_k104
theorem rf_k105 : rf_ck2 105 256 = true := by decide +kernel
theorem rf_j106 : rf_ck1 106 = true := rf_jj rf_j105 rf_k105
theorem rf_k106 : rf_ck2 106 256 = true := by decide +kernel
theorem rf_j107 : rf_ck1 107 = true := rf_jj rf_j106 rf_k106
theorem rf_k107 : rf_ck2 107 256 = true := by decide +kernel
theorem rf_j108 : rf_ck1 108 = true := rf_jj rf_j107 rf_k107
theorem rf_k108 : rf_ck2 108 256 = true := by decide +kernel
theorem rf_j109 : rf_ck1 109 = true := rf_jj rf_j108 rf_k108
theorem rf_k109 : rf_ck2 109 256 = true := by decide +kernel
theorem rf_j110 : rf_ck1 110 = true := rf_jj rf_j109 rf_k109
theorem rf_k110 : rf_ck2 110 256 = true := by decide +kernel
theorem rf_j111 : rf_ck1 111 = true := rf_jj rf_j110 rf_k110
theorem rf_k111 : rf_ck2 111 256 = true := by decide +kernel
theorem rf_j112 : rf_ck1 112 = true := rf_jj rf_j111 rf_k111
theorem rf_k112 : rf_ck2 112 256 = true := by decide +kernel
theorem rf_j113 : rf_ck1 113 = true := rf_jj rf_j112 rf_k112
theorem rf_k113 : rf_ck2 113 256 = true := by decide +kernel
theorem rf_j114 : rf_ck1 114 = true := rf_jj rf_j113 rf_k113
theorem rf_k114 : rf_ck2 114 256 = true := by decide +kernel
theorem rf_j115 : rf_ck1 115 = true := rf_jj rf_j114 rf_k114
theorem rf_k115 : rf_ck2 115 256 = true := by decide +kernel
theorem rf_j116 : rf_ck1 116 = true := rf_jj rf_j115 rf_k115
theorem rf_k116 : rf_ck2 116 256 = true := by decide +kernel
theorem rf_j117 : rf_ck1 117 = true := rf_jj rf_j116 rf_k116
theorem rf_k117 : rf_ck2 117 256 = true := by decide +kernel
theorem rf_j118 : rf_ck1 118 = true := rf_jj rf_j117 rf_k117
theorem rf_k118 : rf_ck2 118 256 = true := by decide +kernel
theorem rf_j119 : rf_ck1 119 = true := rf_jj rf_j118 rf_k118
theorem rf_k119 : rf_ck2 119 256 = true := by decide +kernel
theorem rf_j120 : rf_ck1 120 = true := rf_jj rf_j119 rf_k119
theorem rf_k120 : rf_ck2 120 256 = true := by decide +kernel
theorem rf_j121 : rf_ck1 121 = true := rf_jj rf_j120 rf_k120
theorem rf_k121 : rf_ck2 121 256 = true := by decide +kernel
theorem rf_j122 : rf_ck1 122 = true := rf_jj rf_j121 rf_k121
theorem rf_k122 : rf_ck2 122 256 = true := by decide +kernel
theorem rf_j123 : rf_ck1 123 = true := rf_jj rf_j122 rf_k122
theorem rf_k123 : rf_ck2 123 256 = true := by decide +kernel
theorem rf_j124 : rf_ck1 124 = true := rf_jj rf_j123 rf_k123
theorem rf_k124 : rf_ck2 124 256 = true := by decide +kernel
theorem rf_j125 : rf_ck1 125 = true := rf_jj rf_j124 rf_k124
theorem rf_k125 : rf_ck2 125 256 = true := by decide +kernel
theorem rf_j126 : rf_ck1 126 = true := rf_jj rf_j125 rf_k125
theorem rf_k126 : rf_ck2 126 256 = true := by decide +kernel
theorem rf_j127 : rf_ck1 127 = true := rf_jj rf_j126 rf_k126
theorem rf_k127 : rf_ck2 127 256 = true := by decide +kernel
theorem rf_j128 : rf_ck1 128 = true := rf_jj rf_j127 rf_k127
theorem rf_k128 : rf_ck2 128 256 = true := by decide +kernel
theorem rf_j129 : rf_ck1 129 = true := rf_jj rf_j128 rf_k128
theorem rf_k129 : rf_ck2 129 256 = true := by decide +kernel
theorem rf_j130 : rf_ck1 130 = true := rf_jj rf_j129 rf_k129
theorem rf_k130 : rf_ck2 130 256 = true := by decide +kernel
theorem rf_j131 : rf_ck1 131 = true := rf_jj rf_j130 rf_k130
theorem rf_k131 : rf_ck2 131 256 = true := by decide +kernel
theorem rf_j132 : rf_ck1 132 = true := rf_jj rf_j131 rf_k131
theorem rf_k132 : rf_ck2 132 256 = true := by decide +kernel
theorem rf_j133 : rf_ck1 133 = true := rf_jj rf_j132 rf_k132
theorem rf_k133 : rf_ck2 133 256 = true := by decide +kernel
theorem rf_j134 : rf_ck1 134 = true := rf_jj rf_j133 rf_k133
theorem rf_k134 : rf_ck2 134 256 = true := by decide +kernel
theorem rf_j135 : rf_ck1 135 = true := rf_jj rf_j134 rf_k134
theorem rf_k135 : rf_ck2 135 256 = true := by decide +kernel
theorem rf_j136 : rf_ck1 136 = true := rf_jj rf_j135 rf_k135
theorem rf_k136 : rf_ck2 136 256 = true := by decide +kernel
theorem rf_j137 : rf_ck1 137 = true := rf_jj rf_j136 rf_k136
theorem rf_k137 : rf_ck2 137 256 = true := by decide +kernel
theorem rf_j138 : rf_ck1 138 = true := rf_jj rf_j137 rf_k137
theorem rf_k138 : rf_ck2 138 256 = true := by decide +kernel
theorem rf_j139 : rf_ck1 139 = true := rf_jj rf_j138 rf_k138
theorem rf_k139 : rf_ck2 139 256 = true := by decide +kernel
theorem rf_j140 : rf_ck1 140 = true := rf_jj rf_j139 rf_k139
theorem rf_k140 : rf_ck2 140 256 = true := by decide +kernel
theorem rf_j141 : rf_ck1 141 = true := rf_jj rf_j140 rf_k140
theorem rf_k141 : rf_ck2 141 256 = true := by decide +kernel
theorem rf_j142 : rf_ck1 142 = true := rf_jj rf_j141 rf_k141
theorem rf_k142 : rf_ck2 142 256 = true := by decide +kernel
theorem rf_j143 : rf_ck1 143 = true := rf_jj rf_j142 rf_k142
theorem rf_k143 : rf_ck2 143 256 = true := by decide +kernel
theorem rf_j144 : rf_ck1 144 = true := rf_jj rf_j143 rf_k143
theorem rf_k144 : rf_ck2 144 256 = true := by decide +kernel
theorem rf_j145 : rf_ck1 145 = true := rf_jj rf_j144 rf_k144
theorem rf_k145 : rf_ck2 145 256 = true := by decide +kernel
theorem rf_j146 : rf_ck1 146 = true := rf_jj rf_j145 rf_k145
theorem rf_k146 : rf_ck2 146 256 = true := by decide +kernel
theorem rf_j147 : rf_ck1 147 = true := rf_jj rf_j146 rf_k146
theorem rf_k147 : rf_ck2 147 256 = true := by decide +kernel
theorem rf_j148 : rf_ck1 148 = true := rf_jj rf_j147 rf_k147
theorem rf_k148 : rf_ck2 148 256 = true := by decide +kernel
theorem rf_j149 : rf_ck1 149 = true := rf_jj rf_j148 rf_k148
theorem rf_k149 : rf_ck2 149 256 = true := by decide +kernel
theorem rf_j150 : rf_ck1 150 = true := rf_jj rf_j149 rf_k149
theorem rf_k150 : rf_ck2 150 256 = true := by decide +kernel
theorem rf_j151 : rf_ck1 151 = true := rf_jj rf_j150 rf_k150
theorem rf_k151 : rf_ck2 151 256 = true := by decide +kernel
theorem rf_j152 : rf_ck1 152 = true := rf_jj rf_j151 rf_k151
theorem rf_k152 : rf_ck2 152 256 = true := by decide +kernel
theorem rf_j153 : rf_ck1 153 = true := rf_jj rf_j152 rf_k152
theorem rf_k153 : rf_ck2 153 256 = true := by decide +kernel
theorem rf_j154 : rf_ck1 154 = true := rf_jj rf_j153 rf_k153
theorem rf_k154 : rf_ck2 154 256 = true := by decide +kernel
theorem rf_j155 : rf_ck1 155 = true := rf_jj rf_j154 rf_k154
theorem rf_k155 : rf_ck2 155 256 = true := by decide +kernel
theorem rf_j156 : rf_ck1 156 = true := rf_jj rf_j155 rf_k155
theorem rf_k156 : rf_ck2 156 256 = true := by decide +kernel
theorem rf_j157 : rf_ck1 157 = true := rf_jj rf_j156 rf_k156
theorem rf_k157 : rf_ck2 157 256 = true := by decide +kernel
theorem rf_j158 : rf_ck1 158 = true := rf_jj rf_j157 rf_k157
theorem rf_k158 : rf_ck2 158 256 = true := by decide +kernel
theorem rf_j159 : rf_ck1 159 = true := rf_jj rf_j158 rf_k158
theorem rf_k159 : rf_ck2 159 256 = true := by decide +kernel
theorem rf_j160 : rf_ck1 160 = true := rf_jj rf_j159 rf_k159
theorem rf_k160 : rf_ck2 160 256 = true := by decide +kernel
theorem rf_j161 : rf_ck1 161 = true := rf_jj rf_j160 rf_k160
theorem rf_k161 : rf_ck2 161 256 = true := by decide +kernel
theorem rf_j162 : rf_ck1 162 = true := rf_jj rf_j161 rf_k161
theorem rf_k162 : rf_ck2 162 256 = true := by decide +kernel
theorem rf_j163 : rf_ck1 163 = true := rf_jj rf_j162 rf_k162
theorem rf_k163 : rf_ck2 163 256 = true := by decide +kernel
theorem rf_j164 : rf_ck1 164 = true := rf_jj rf_j163 rf_k163
theorem rf_k164 : rf_ck2 164 256 = true := by decide +kernel
theorem rf_j165 : rf_ck1 165 = true := rf_jj rf_j164 rf_k164
theorem rf_k165 : rf_ck2 165 256 = true := by decide +kernel
theorem rf_j166 : rf_ck1 166 = true := rf_jj rf_j165 rf_k165
theorem rf_k166 : rf_ck2 166 256 = true := by decide +kernel
theorem rf_j167 : rf_ck1 167 = true := rf_jj rf_j166 rf_k166
theorem rf_k167 : rf_ck2 167 256 = true := by decide +kernel
theorem rf_j168 : rf_ck1 168 = true := rf_jj rf_j167 rf_k167
theorem rf_k168 : rf_ck2 168 256 = true := by decide +kernel
theorem rf_j169 : rf_ck1 169 = true := rf_jj rf_j168 rf_k168
theorem rf_k169 : rf_ck2 169 256 = true := by decide +kernel
theorem rf_j170 : rf_ck1 170 = true := rf_jj rf_j169 rf_k169
theorem rf_k170 : rf_ck2 170 256 = true := by decide +kernel
theorem rf_j171 : rf_ck1 171 = true := rf_jj rf_j170 rf_k170
theorem rf_k171 : rf_ck2 171 256 = true := by decide +kernel
theorem rf_j172 : rf_ck1 172 = true := rf_jj rf_j171 rf_k171
theorem rf_k172 : rf_ck2 172 256 = true := by decide +kernel
theorem rf_j173 : rf_ck1 173 = true := rf_jj rf_j172 rf_k172
theorem rf_k173 : rf_ck2 173 256 = true := by decide +kernel
theorem rf_j174 : rf_ck1 174 = true := rf_jj rf_j173 rf_k173
theorem rf_k174 : rf_ck2 174 256 = true := by decide +kernel
theorem rf_j175 : rf_ck1 175 = true := rf_jj rf_j174 rf_k174
theorem rf_k175 : rf_ck2 175 256 = true := by decide +kernel
theorem rf_j176 : rf_ck1 176 = true := rf_jj rf_j175 rf_k175
theorem rf_k176 : rf_ck2 176 256 = true := by decide +kernel
theorem rf_j177 : rf_ck1 177 = true := rf_jj rf_j176 rf_k176
theorem rf_k177 : rf_ck2 177 256 = true := by decide +kernel
theorem rf_j178 : rf_ck1 178 = true := rf_jj rf_j177 rf_k177
theorem rf_k178 : rf_ck2 178 256 = true := by decide +kernel
theorem rf_j179 : rf_ck1 179 = true := rf_jj rf_j178 rf_k178
theorem rf_k179 : rf_ck2 179 256 = true := by decide +kernel
theorem rf_j180 : rf_ck1 180 = true := rf_jj rf_j179 rf_k179
theorem rf_k180 : rf_ck2 180 256 = true := by decide +kernel
theorem rf_j181 : rf_ck1 181 = true := rf_jj rf_j180 rf_k180
theorem rf_k181 : rf_ck2 181 256 = true := by decide +kernel
theorem rf_j182 : rf_ck1 182 = true := rf_jj rf_j181 rf_k181
theorem rf_k182 : rf_ck2 182 256 = true := by decide +kernel
theorem rf_j183 : rf_ck1 183 = true := rf_jj rf_j182 rf_k182
theorem rf_k183 : rf_ck2 183 256 = true := by decide +kernel
theorem rf_j184 : rf_ck1 184 = true := rf_jj rf_j183 rf_k183
theorem rf_k184 : rf_ck2 184 256 = true := by decide +kernel
theorem rf_j185 : rf_ck1 185 = true := rf_jj rf_j184 rf_k184
theorem rf_k185 : rf_ck2 185 256 = true := by decide +kernel
theorem rf_j186 : rf_ck1 186 = true := rf_jj rf_j185 rf_k185
theorem rf_k186 : rf_ck2 186 256 = true := by decide +kernel
theorem rf_j187 : rf_ck1 187 = true := rf_jj rf_j186 rf_k186
theorem rf_k187 : rf_ck2 187 256 = true := by decide +kernel
theorem rf_j188 : rf_ck1 188 = true := rf_jj rf_j187 rf_k187
theorem rf_k188 : rf_ck2 188 256 = true := by decide +kernel
theorem rf_j189 : rf_ck1 189 = true := rf_jj rf_j188 rf_k188
theorem rf_k189 : rf_ck2 189 256 = true := by decide +kernel
theorem rf_j190 : rf_ck1 190 = true := rf_jj rf_j189 rf_k189
theorem rf_k190 : rf_ck2 190 256 = true := by decide +kernel
theorem rf_j191 : rf_ck1 191 = true := rf_jj rf_j190 rf_k190
theorem rf_k191 : rf_ck2 191 256 = true := by decide +kernel
theorem rf_j192 : rf_ck1 192 = true := rf_jj rf_j191 rf_k191
theorem rf_k192 : rf_ck2 192 256 = true := by decide +kernel
theorem rf_j193 : rf_ck1 193 = true := rf_jj rf_j192 rf_k192
theorem rf_k193 : rf_ck2 193 256 = true := by decide +kernel
theorem rf_j194 : rf_ck1 194 = true := rf_jj rf_j193 rf_k193
theorem rf_k194 : rf_ck2 194 256 = true := by decide +kernel
theorem rf_j195 : rf_ck1 195 = true := rf_jj rf_j194 rf_k194
theorem rf_k195 : rf_ck2 195 256 = true := by decide +kernel
theorem rf_j196 : rf_ck1 196 = true := rf_jj rf_j195 rf_k195
theorem rf_k196 : rf_ck2 196 256 = true := by decide +kernel
theorem rf_j197 : rf_ck1 197 = true := rf_jj rf_j196 rf_k196
theorem rf_k197 : rf_ck2 197 256 = true := by decide +kernel
theorem rf_j198 : rf_ck1 198 = true := rf_jj rf_j197 rf_k197
theorem rf_k198 : rf_ck2 198 256 = true := by decide +kernel
theorem rf_j199 : rf_ck1 199 = true := rf_jj rf_j198 rf_k198
theorem rf_k199 : rf_ck2 199 256 = true := by decide +kernel
theorem rf_j200 : rf_ck1 200 = true := rf_jj rf_j199 rf_k199
theorem rf_k200 : rf_ck2 200 256 = true := by decide +kernel
theorem rf_j201 : rf_ck1 201 = true := rf_jj rf_j200 rf_k200
theorem rf_k201 : rf_ck2 201 256 = true := by decide +kernel
theorem rf_j202 : rf_ck1 202 = true := rf_jj rf_j201 rf_k201
theorem rf_k202 : rf_ck2 202 256 = true := by decide +kernel
theorem rf_j203 : rf_ck1 203 = true := rf_jj rf_j202 rf_k202
theorem rf_k203 : rf_ck2 203 256 = true := by decide +kernel
theorem rf_j204 : rf_ck1 204 = true := rf_jj rf_j203 rf_k203
theorem rf_k204 : rf_ck2 204 256 = true := by decide +kernel
theorem rf_j205 : rf_ck1 205 = true := rf_jj rf_j204 rf_k204
theorem rf_k205 : rf_ck2 205 256 = true := by decide +kernel
theorem rf_j206 : rf_ck1 206 = true := rf_jj rf_j205 rf_k205
theorem rf_k206 : rf_ck2 206 256 = true := by decide +kernel
theorem rf_j207 : rf_ck1 207 = true := rf_jj rf_j206 rf_k206
theorem rf_k207 : rf_ck2 207 256 = true := by decide +kernel
theorem rf_j208 : rf_ck1 208 = true := rf_jj rf_j207 rf_k207
theorem rf_k208 : rf_ck2 208 256 = true := by decide +kernel
theorem rf_j209 : rf_ck1 209 = true := rf_jj rf_j208 rf_k208
theorem rf_k209 : rf_ck2 209 256 = true := by decide +kernel
theorem rf_j210 : rf_ck1 210 = true := rf_jj rf_j209 rf_k209
theorem rf_k210 : rf_ck2 210 256 = true := by decide +kernel
theorem rf_j211 : rf_ck1 211 = true := rf_jj rf_j210 rf_k210
theorem rf_k211 : rf_ck2 211 256 = true := by decide +kernel
theorem rf_j212 : rf_ck1 212 = true := rf_jj rf_j211 rf_k211
theorem rf_k212 : rf_ck2 212 256 = true := by decide +kernel
theorem rf_j213 : rf_ck1 213 = true := rf_jj rf_j212 rf_k212
theorem rf_k213 : rf_ck2 213 256 = true := by decide +kernel
theorem rf_j214 : rf_ck1 214 = true := rf_jj rf_j213 rf_k213
theorem rf_k214 : rf_ck2 214 256 = true := by decide +kernel
theorem rf_j215 : rf_ck1 215 = true := rf_jj rf_j214 rf_k214
theorem rf_k215 : rf_ck2 215 256 = true := by decide +kernel
theorem rf_j216 : rf_ck1 216 = true := rf_jj rf_j215 rf_k215
theorem rf_k216 : rf_ck2 216 256 = true := by decide +kernel
theorem rf_j217 : rf_ck1 217 = true := rf_jj rf_j216 rf_k216
theorem rf_k217 : rf_ck2 217 256 = true := by decide +kernel
theorem rf_j218 : rf_ck1 218 = true := rf_jj rf_j217 rf_k217
theorem rf_k218 : rf_ck2 218 256 = true := by decide +kernel
theorem rf_j219 : rf_ck1 219 = true := rf_jj rf_j218 rf_k218
theorem rf_k219 : rf_ck2 219 256 = true := by decide +kernel
theorem rf_j220 : rf_ck1 220 = true := rf_jj rf_j219 rf_k219
theorem rf_k220 : rf_ck2 220 256 = true := by decide +kernel
theorem rf_j221 : rf_ck1 221 = true := rf_jj rf_j220 rf_k220
theorem rf_k221 : rf_ck2 221 256 = true := by decide +kernel
theorem rf_j222 : rf_ck1 222 = true := rf_jj rf_j221 rf_k221
theorem rf_k222 : rf_ck2 222 256 = true := by decide +kernel
theorem rf_j223 : rf_ck1 223 = true := rf_jj rf_j222 rf_k222
theorem rf_k223 : rf_ck2 223 256 = true := by decide +kernel
theorem rf_j224 : rf_ck1 224 = true := rf_jj rf_j223 rf_k223
theorem rf_k224 : rf_ck2 224 256 = true := by decide +kernel
theorem rf_j225 : rf_ck1 225 = true := rf_jj rf_j224 rf_k224
theorem rf_k225 : rf_ck2 225 256 = true := by decide +kernel
theorem rf_j226 : rf_ck1 226 = true := rf_jj rf_j225 rf_k225
theorem rf_k226 : rf_ck2 226 256 = true := by decide +kernel
theorem rf_j227 : rf_ck1 227 = true := rf_jj rf_j226 rf_k226
theorem rf_k227 : rf_ck2 227 256 = true := by decide +kernel
theorem rf_j228 : rf_ck1 228 = true := rf_jj rf_j227 rf_k227
theorem rf_k228 : rf_ck2 228 256 = true := by decide +kernel
theorem rf_j229 : rf_ck1 229 = true := rf_jj rf_j228 rf_k228
theorem rf_k229 : rf_ck2 229 256 = true := by decide +kernel
theorem rf_j230 : rf_ck1 230 = true := rf_jj rf_j229 rf_k229
theorem rf_k230 : rf_ck2 230 256 = true := by decide +kernel
theorem rf_j231 : rf_ck1 231 = true := rf_jj rf_j230 rf_k230
theorem rf_k231 : rf_ck2 231 256 = true := by decide +kernel
theorem rf_j232 : rf_ck1 232 = true := rf_jj rf_j231 rf_k231
theorem rf_k232 : rf_ck2 232 256 = true := by decide +kernel
theorem rf_j233 : rf_ck1 233 = true := rf_jj rf_j232 rf_k232
theorem rf_k233 : rf_ck2 233 256 = true := by decide +kernel
theorem rf_j234 : rf_ck1 234 = true := rf_jj rf_j233 rf_k233
theorem rf_k234 : rf_ck2 234 256 = true := by decide +kernel
theorem rf_j235 : rf_ck1 235 = true := rf_jj rf_j234 rf_k234
theorem rf_k235 : rf_ck2 235 256 = true := by decide +kernel
theorem rf_j236 : rf_ck1 236 = true := rf_jj rf_j235 rf_k235
theorem rf_k236 : rf_ck2 236 256 = true := by decide +kernel
theorem rf_j237 : rf_ck1 237 = true := rf_jj rf_j236 rf_k236
theorem rf_k237 : rf_ck2 237 256 = true := by decide +kernel
theorem rf_j238 : rf_ck1 238 = true := rf_jj rf_j237 rf_k237
theorem rf_k238 : rf_ck2 238 256 = true := by decide +kernel
theorem rf_j239 : rf_ck1 239 = true := rf_jj rf_j238 rf_k238
theorem rf_k239 : rf_ck2 239 256 = true := by decide +kernel
theorem rf_j240 : rf_ck1 240 = true := rf_jj rf_j239 rf_k239
theorem rf_k240 : rf_ck2 240 256 = true := by decide +kernel
theorem rf_j241 : rf_ck1 241 = true := rf_jj rf_j240 rf_k240
theorem rf_k241 : rf_ck2 241 256 = true := by decide +kernel
theorem rf_j242 : rf_ck1 242 = true := rf_jj rf_j241 rf_k241
theorem rf_k242 : rf_ck2 242 256 = true := by decide +kernel
theorem rf_j243 : rf_ck1 243 = true := rf_jj rf_j242 rf_k242
theorem rf_k243 : rf_ck2 243 256 = true := by decide +kernel
theorem rf_j244 : rf_ck1 244 = true := rf_jj rf_j243 rf_k243
theorem rf_k244 : rf_ck2 244 256 = true := by decide +kernel
theorem rf_j245 : rf_ck1 245 = true := rf_jj rf_j244 rf_k244
theorem rf_k245 : rf_ck2 245 256 = true := by decide +kernel
theorem rf_j246 : rf_ck1 246 = true := rf_jj rf_j245 rf_k245
theorem rf_k246 : rf_ck2 246 256 = true := by decide +kernel
theorem rf_j247 : rf_ck1 247 = true := rf_jj rf_j246 rf_k246
theorem rf_k247 : rf_ck2 247 256 = true := by decide +kernel
theorem rf_j248 : rf_ck1 248 = true := rf_jj rf_j247 rf_k247
theorem rf_k248 : rf_ck2 248 256 = true := by decide +kernel
theorem rf_j249 : rf_ck1 249 = true := rf_jj rf_j248 rf_k248
theorem rf_k249 : rf_ck2 249 256 = true := by decide +kernel
theorem rf_j250 : rf_ck1 250 = true := rf_jj rf_j249 rf_k249
theorem rf_k250 : rf_ck2 250 256 = true := by decide +kernel
theorem rf_j251 : rf_ck1 251 = true := rf_jj rf_j250 rf_k250
theorem rf_k251 : rf_ck2 251 256 = true := by decide +kernel
theorem rf_j252 : rf_ck1 252 = true := rf_jj rf_j251 rf_k251
theorem rf_k252 : rf_ck2 252 256 = true := by decide +kernel
theorem rf_j253 : rf_ck1 253 = true := rf_jj rf_j252 rf_k252
theorem rf_k253 : rf_ck2 253 256 = true := by decide +kernel
theorem rf_j254 : rf_ck1 254 = true := rf_jj rf_j253 rf_k253
theorem rf_k254 : rf_ck2 254 256 = true := by decide +kernel
theorem rf_j255 : rf_ck1 255 = true := rf_jj rf_j254 rf_k254
theorem rf_k255 : rf_ck2 255 256 = true := by decide +kernel
theorem rf_j256 : rf_ck1 256 = true := rf_jj rf_j255 rf_k255
theorem rf_ck1_256 : rf_ck1 256 = true := rf_j256
end SPEC18
