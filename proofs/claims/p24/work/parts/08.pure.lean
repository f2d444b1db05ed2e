/-! stacks as numbers: the o-th order of N cakes, its sizes, codes, turns; sides as a set of bits -/
def fac : Nat → Nat
  | 0 => 1
  | n + 1 => (n + 1) * fac n
def unr : Nat → List Nat → Nat → List Nat
  | 0, _, _ => []
  | n + 1, av, o => (av.getD (o / fac n) 0) :: unr n (av.eraseIdx (o / fac n)) (o % fac n)
def pm (N o : Nat) : List Nat := unr N (List.range' 1 N) o
def sz (N o p : Nat) : Nat := (pm N o).getD p 0
def bt (sd j : Nat) : Nat := sd / 2 ^ j % 2
def lhm : List Nat → Nat
  | [] => 0
  | a :: l => (l.countP (fun b => decide (b < a))) * fac l.length + lhm l
def tnO (N o k : Nat) : Nat := lhm (((pm N o).take k).reverse ++ (pm N o).drop k)
def flp (sd k : Nat) : Nat → Nat
  | 0 => 0
  | i + 1 => flp sd k i + (1 - bt sd i) * 2 ^ (k - 1 - i)
def tnS (sb : Bool) (sd k : Nat) : Nat := if sb then sd / 2 ^ k * 2 ^ k + flp sd k k else sd
def cdp (N o : Nat) : Nat → Nat
  | 0 => 0
  | i + 1 => 10 * cdp N o i + sz N o i
def cd (N o : Nat) : Nat := cdp N o N
def sdp (sd : Nat) : Nat → Nat
  | 0 => 0
  | i + 1 => sdp sd i ||| bt sd i * 2 ^ i
def jn (sb : Bool) (N o sd p : Nat) : Bool :=
  if p + 1 = N then sz N o p == N && bt sd p == 0
  else if sb then bt sd p == bt sd (p + 1) && (if bt sd p = 0 then sz N o (p + 1) == sz N o p + 1 else sz N o p == sz N o (p + 1) + 1)
  else sz N o (p + 1) == sz N o p + 1 || sz N o p == sz N o (p + 1) + 1
def gpp (sb : Bool) (N o sd : Nat) : Nat → Nat
  | 0 => 0
  | i + 1 => gpp sb N o sd i + (if jn sb N o sd i then 0 else 1)
def gp (sb : Bool) (N o sd : Nat) : Nat := gpp sb N o sd N
def srp (N o sd : Nat) : Nat → Bool
  | 0 => true
  | i + 1 => srp N o sd i && (sz N o i == i + 1 && bt sd i == 0)
def wt (N o : Nat) : Nat → Nat
  | 0 => 0
  | i + 1 => wt N o i + sz N o i
/-- kinds 1 and 3 have sides -/
def sid (kd : Nat) : Bool := kd % 2 == 1
def al (kd st N o sd k : Nat) : Bool := if kd = 2 then !(jn (sid kd) N o sd (k - 1)) else (kd != 3 || decide (wt N o k ≤ st))
/-- how many sides there are -/
def sm (sb : Bool) (N : Nat) : Nat := if sb then 2 ^ N else 1
def rk (sb : Bool) (N o sd : Nat) : Nat := if sb then o * 2 ^ N + sd else o
def lsp (N o i : Nat) : Nat → Nat
  | 0 => 0
  | j + 1 => lsp N o i j + (if sz N o (i + 1 + j) < sz N o i then 1 else 0)
def lvp (N o : Nat) : Nat → Nat
  | 0 => 0
  | i + 1 => lvp N o i * (N - i) + lsp N o i (N - 1 - i)
def urs (N o : Nat) : Nat → Nat
  | 0 => o
  | p + 1 => urs N o p % fac (N - 1 - p)
def usd (N o : Nat) : Nat → Nat
  | 0 => 0
  | p + 1 => usd N o p ||| 1 * 2 ^ sz N o p
def ict (u : Nat) : Nat → Nat → Nat → Option Nat
  | 0, _, _ => none
  | w + 1, c, k => if bt u c = 1 then ict u w (c + 1) k else if 0 < k then ict u w (c + 1) (k - 1) else some c
/-- every number below a bound, by the kernel -/
theorem dec1 {P : Nat → Bool} {n : Nat} (h : (List.range n).all P = true) : ∀ i, i < n → P i = true := fun i hi => List.all_eq_true.mp h i (List.mem_range.mpr hi)
/-- orders and turns of up to six cakes -/
def chkO (Q : Nat → Nat → Bool) : Bool := (List.range 7).all fun N => (List.range (fac N)).all fun o => Q N o
theorem chkO_of {Q : Nat → Nat → Bool} (h : chkO Q = true) {N o : Nat} (hN : N ≤ 6) (ho : o < fac N) : Q N o = true := dec1 (dec1 h N (by omega)) o ho
def chk2 (Q : Nat → Nat → Bool) (a b : Nat) : Bool := (List.range a).all fun i => (List.range b).all fun j => Q i j
theorem chk2_of {Q : Nat → Nat → Bool} {a b : Nat} (h : chk2 Q a b = true) {i j : Nat} (hi : i < a) (hj : j < b) : Q i j = true := dec1 (dec1 h i hi) j hj
theorem k_len : chkO (fun N o => (pm N o).length == N) = true := by decide +kernel
theorem k_dig : chkO (fun N o => (List.range N).all fun j => cd N o / 10 ^ (N - 1 - j) % 10 == sz N o j) = true := by decide +kernel
theorem k_cd : chkO (fun N o => decide (cd N o < 1000000) && (List.range 7).all fun i => decide (cdp N o i < 1000000)) = true := by decide +kernel
theorem k_rng : chkO (fun N o => (List.range N).all fun j => decide (1 ≤ sz N o j ∧ sz N o j ≤ N)) = true := by decide +kernel
theorem k_tn : chkO (fun N o => (List.range (N + 1)).all fun k => decide (tnO N o k < fac N) && (List.range N).all fun j => sz N (tnO N o k) j == (if j < k then sz N o (k - 1 - j) else sz N o j)) = true := by decide +kernel
theorem k_lv : chkO (fun N o => lvp N o N == o && (List.range (N + 1)).all fun i => decide (lvp N o i < 1000)) = true := by decide +kernel
theorem k_ic : chkO (fun N o => (List.range N).all fun p => ict (usd N o p) 8 1 (urs N o p / fac (N - 1 - p)) == some (sz N o p) && decide (urs N o p < 1000) && decide (usd N o p < 256)) = true := by decide +kernel
theorem k_sd : chk2 (fun N sd => decide (2 ^ N ≤ sd) || sdp sd N == sd && (List.range N).all fun i => decide (sdp sd i < 64)) 7 64 = true := by decide +kernel
theorem k_ts : chk2 (fun N sd => decide (2 ^ N ≤ sd) || (List.range (N + 1)).all fun k => decide (tnS true sd k < 2 ^ N) && (List.range N).all fun j => bt (tnS true sd k) j == (if j < k then 1 - bt sd (k - 1 - j) else bt sd j)) 7 64 = true := by decide +kernel
theorem k_wt : chkO (fun N o => (List.range (N + 1)).all fun i => decide (wt N o i ≤ 21)) = true := by decide +kernel
