theorem gt_short : ∀ L, L < 6 → gt_ok (gt_run L 2147483648 2147483711) = true := by
  intro L hL
  match L, hL with
  | 0, _ => exact gt_s0
  | 1, _ => exact gt_s1
  | 2, _ => exact gt_s2
  | 3, _ => exact gt_s3
  | 4, _ => exact gt_s4
  | 5, _ => exact gt_s5
  | k + 6, h => omega
theorem gt_case : ∀ c, c < 48 → gt_ok (gt_run 6 (2147483648 + c) (2147483648 + c)) = true := by
  intro c hc
  match c, hc with
  | 0, _ => exact gt_c0
  | 1, _ => exact gt_c1
  | 2, _ => exact gt_c2
  | 3, _ => exact gt_c3
  | 4, _ => exact gt_c4
  | 5, _ => exact gt_c5
  | 6, _ => exact gt_c6
  | 7, _ => exact gt_c7
  | 8, _ => exact gt_c8
  | 9, _ => exact gt_c9
  | 10, _ => exact gt_c10
  | 11, _ => exact gt_c11
  | 12, _ => exact gt_c12
  | 13, _ => exact gt_c13
  | 14, _ => exact gt_c14
  | 15, _ => exact gt_c15
  | 16, _ => exact gt_c16
  | 17, _ => exact gt_c17
  | 18, _ => exact gt_c18
  | 19, _ => exact gt_c19
  | 20, _ => exact gt_c20
  | 21, _ => exact gt_c21
  | 22, _ => exact gt_c22
  | 23, _ => exact gt_c23
  | 24, _ => exact gt_c24
  | 25, _ => exact gt_c25
  | 26, _ => exact gt_c26
  | 27, _ => exact gt_c27
  | 28, _ => exact gt_c28
  | 29, _ => exact gt_c29
  | 30, _ => exact gt_c30
  | 31, _ => exact gt_c31
  | 32, _ => exact gt_c32
  | 33, _ => exact gt_c33
  | 34, _ => exact gt_c34
  | 35, _ => exact gt_c35
  | 36, _ => exact gt_c36
  | 37, _ => exact gt_c37
  | 38, _ => exact gt_c38
  | 39, _ => exact gt_c39
  | 40, _ => exact gt_c40
  | 41, _ => exact gt_c41
  | 42, _ => exact gt_c42
  | 43, _ => exact gt_c43
  | 44, _ => exact gt_c44
  | 45, _ => exact gt_c45
  | 46, _ => exact gt_c46
  | 47, _ => exact gt_c47
  | k + 48, h => omega
