section PBc
/-! how many bits -/
def bcI (v0 : Int32) : Int32 :=
  let x1 := v0 - (((v0.toUInt32 >>> ((1 : Int32).toUInt32 &&& Int32.toUInt32 31)).toInt32) &&& (1431655765 : Int32))
  let x2 := (x1 &&& (858993459 : Int32)) + (((x1.toUInt32 >>> ((2 : Int32).toUInt32 &&& Int32.toUInt32 31)).toInt32) &&& (858993459 : Int32))
  let x3 := (x2 + ((x2.toUInt32 >>> ((4 : Int32).toUInt32 &&& Int32.toUInt32 31)).toInt32)) &&& (252645135 : Int32)
  let x4 := x3 + ((x3.toUInt32 >>> ((8 : Int32).toUInt32 &&& Int32.toUInt32 31)).toInt32)
  let x5 := x4 + ((x4.toUInt32 >>> ((16 : Int32).toUInt32 &&& Int32.toUInt32 31)).toInt32)
  x5 &&& (63 : Int32)
def cnt (f : Nat → Bool) : Nat → Nat
  | 0 => 0
  | n + 1 => cnt f n + if f n then 1 else 0
def swN (v : Nat) : Nat :=
  let x1 := v - ((v / 2) &&& 1431655765)
  let x2 := (x1 &&& 858993459) + ((x1 / 4) &&& 858993459)
  let x3 := (x2 + x2 / 16) &&& 252645135
  let x4 := x3 + x3 / 256
  let x5 := x4 + x4 / 65536
  x5 &&& 63
def pcN : Nat → Nat → Nat
  | 0, _ => 0
  | n + 1, v => v % 2 + pcN n (v / 2)
def swOk (v : Nat) : Bool := Nat.beq (swN v) (pcN 16 v)
theorem sw_0 : ∀ a, a < 16 → ∀ b, b < 256 → swOk (0 + (a * 256 + b)) = true := by decide +kernel
theorem sw_1 : ∀ a, a < 16 → ∀ b, b < 256 → swOk (4096 + (a * 256 + b)) = true := by decide +kernel
theorem sw_2 : ∀ a, a < 16 → ∀ b, b < 256 → swOk (8192 + (a * 256 + b)) = true := by decide +kernel
theorem sw_3 : ∀ a, a < 16 → ∀ b, b < 256 → swOk (12288 + (a * 256 + b)) = true := by decide +kernel
theorem sw_4 : ∀ a, a < 16 → ∀ b, b < 256 → swOk (16384 + (a * 256 + b)) = true := by decide +kernel
theorem sw_5 : ∀ a, a < 16 → ∀ b, b < 256 → swOk (20480 + (a * 256 + b)) = true := by decide +kernel
theorem sw_6 : ∀ a, a < 16 → ∀ b, b < 256 → swOk (24576 + (a * 256 + b)) = true := by decide +kernel
theorem sw_7 : ∀ a, a < 16 → ∀ b, b < 256 → swOk (28672 + (a * 256 + b)) = true := by decide +kernel
theorem sw_8 : ∀ a, a < 16 → ∀ b, b < 256 → swOk (32768 + (a * 256 + b)) = true := by decide +kernel
theorem sw_9 : ∀ a, a < 16 → ∀ b, b < 256 → swOk (36864 + (a * 256 + b)) = true := by decide +kernel
theorem sw_10 : ∀ a, a < 16 → ∀ b, b < 256 → swOk (40960 + (a * 256 + b)) = true := by decide +kernel
theorem sw_11 : ∀ a, a < 16 → ∀ b, b < 256 → swOk (45056 + (a * 256 + b)) = true := by decide +kernel
theorem sw_12 : ∀ a, a < 16 → ∀ b, b < 256 → swOk (49152 + (a * 256 + b)) = true := by decide +kernel
theorem sw_13 : ∀ a, a < 16 → ∀ b, b < 256 → swOk (53248 + (a * 256 + b)) = true := by decide +kernel
theorem sw_14 : ∀ a, a < 16 → ∀ b, b < 256 → swOk (57344 + (a * 256 + b)) = true := by decide +kernel
theorem sw_15 : ∀ a, a < 16 → ∀ b, b < 256 → swOk (61440 + (a * 256 + b)) = true := by decide +kernel
theorem sw_n {v : Nat} (h : v < 65536) : swN v = pcN 16 v := by
  refine Nat.eq_of_beq_eq_true ?_
  show swOk v = true
  rcases Nat.lt_or_ge v 4096 with h0 | h0
  · have := sw_0 ((v - 0) / 256) (by omega) ((v - 0) % 256) (by omega)
    rw [show 0 + ((v - 0) / 256 * 256 + (v - 0) % 256) = v by omega] at this
    exact this
  rcases Nat.lt_or_ge v 8192 with h1 | h1
  · have := sw_1 ((v - 4096) / 256) (by omega) ((v - 4096) % 256) (by omega)
    rw [show 4096 + ((v - 4096) / 256 * 256 + (v - 4096) % 256) = v by omega] at this
    exact this
  rcases Nat.lt_or_ge v 12288 with h2 | h2
  · have := sw_2 ((v - 8192) / 256) (by omega) ((v - 8192) % 256) (by omega)
    rw [show 8192 + ((v - 8192) / 256 * 256 + (v - 8192) % 256) = v by omega] at this
    exact this
  rcases Nat.lt_or_ge v 16384 with h3 | h3
  · have := sw_3 ((v - 12288) / 256) (by omega) ((v - 12288) % 256) (by omega)
    rw [show 12288 + ((v - 12288) / 256 * 256 + (v - 12288) % 256) = v by omega] at this
    exact this
  rcases Nat.lt_or_ge v 20480 with h4 | h4
  · have := sw_4 ((v - 16384) / 256) (by omega) ((v - 16384) % 256) (by omega)
    rw [show 16384 + ((v - 16384) / 256 * 256 + (v - 16384) % 256) = v by omega] at this
    exact this
  rcases Nat.lt_or_ge v 24576 with h5 | h5
  · have := sw_5 ((v - 20480) / 256) (by omega) ((v - 20480) % 256) (by omega)
    rw [show 20480 + ((v - 20480) / 256 * 256 + (v - 20480) % 256) = v by omega] at this
    exact this
  rcases Nat.lt_or_ge v 28672 with h6 | h6
  · have := sw_6 ((v - 24576) / 256) (by omega) ((v - 24576) % 256) (by omega)
    rw [show 24576 + ((v - 24576) / 256 * 256 + (v - 24576) % 256) = v by omega] at this
    exact this
  rcases Nat.lt_or_ge v 32768 with h7 | h7
  · have := sw_7 ((v - 28672) / 256) (by omega) ((v - 28672) % 256) (by omega)
    rw [show 28672 + ((v - 28672) / 256 * 256 + (v - 28672) % 256) = v by omega] at this
    exact this
  rcases Nat.lt_or_ge v 36864 with h8 | h8
  · have := sw_8 ((v - 32768) / 256) (by omega) ((v - 32768) % 256) (by omega)
    rw [show 32768 + ((v - 32768) / 256 * 256 + (v - 32768) % 256) = v by omega] at this
    exact this
  rcases Nat.lt_or_ge v 40960 with h9 | h9
  · have := sw_9 ((v - 36864) / 256) (by omega) ((v - 36864) % 256) (by omega)
    rw [show 36864 + ((v - 36864) / 256 * 256 + (v - 36864) % 256) = v by omega] at this
    exact this
  rcases Nat.lt_or_ge v 45056 with h10 | h10
  · have := sw_10 ((v - 40960) / 256) (by omega) ((v - 40960) % 256) (by omega)
    rw [show 40960 + ((v - 40960) / 256 * 256 + (v - 40960) % 256) = v by omega] at this
    exact this
  rcases Nat.lt_or_ge v 49152 with h11 | h11
  · have := sw_11 ((v - 45056) / 256) (by omega) ((v - 45056) % 256) (by omega)
    rw [show 45056 + ((v - 45056) / 256 * 256 + (v - 45056) % 256) = v by omega] at this
    exact this
  rcases Nat.lt_or_ge v 53248 with h12 | h12
  · have := sw_12 ((v - 49152) / 256) (by omega) ((v - 49152) % 256) (by omega)
    rw [show 49152 + ((v - 49152) / 256 * 256 + (v - 49152) % 256) = v by omega] at this
    exact this
  rcases Nat.lt_or_ge v 57344 with h13 | h13
  · have := sw_13 ((v - 53248) / 256) (by omega) ((v - 53248) % 256) (by omega)
    rw [show 53248 + ((v - 53248) / 256 * 256 + (v - 53248) % 256) = v by omega] at this
    exact this
  rcases Nat.lt_or_ge v 61440 with h14 | h14
  · have := sw_14 ((v - 57344) / 256) (by omega) ((v - 57344) % 256) (by omega)
    rw [show 57344 + ((v - 57344) / 256 * 256 + (v - 57344) % 256) = v by omega] at this
    exact this
  rcases Nat.lt_or_ge v 65536 with h15 | h15
  · have := sw_15 ((v - 61440) / 256) (by omega) ((v - 61440) % 256) (by omega)
    rw [show 61440 + ((v - 61440) / 256 * 256 + (v - 61440) % 256) = v by omega] at this
    exact this
  omega
end PBc
