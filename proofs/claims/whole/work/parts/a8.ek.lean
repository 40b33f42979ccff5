/-! WHICH EXCEPTIONS THE CLASS'S METHODS THROW -/
section EkMore
variable {β : Type} {S : Nat → Prop}
theorem ek_ckI {i : Int32} {n : Nat} {o : Option (RX β)} (h : Ek S o) : Ek S (ckI i n o) := ek_ite h ek_none
theorem ek_ckB {i n : Nat} {o : Option (RX β)} (h : Ek S o) : Ek S (ckB i n o) := ek_ite h ek_none
theorem ek_ckZ {v : Int32} {o : Option (RX β)} (h : Ek S o) : Ek S (ckZ v o) := ek_ite h ek_none
theorem ek_ckD {v : Int32} {o : Option (RX β)} (h : Ek S o) : Ek S (ckD v o) := ek_ite h ek_none
theorem ek_lp2 {ι : Type} {z : Mem → ι → Option (RX β)} {F : (Mem → ι → Option (RX β)) → Mem → ι → Option (RX β)} {n : Nat} (hz : ∀ a b, Ek S (z a b)) (hF : ∀ f, (∀ a b, Ek S (f a b)) → ∀ a b, Ek S (F f a b)) : ∀ a b, Ek S (lp z n F a b) := g_lp (P := fun (f : Mem → ι → Option (RX β)) => ∀ a b, Ek S (f a b)) hz hF n
theorem ek_lp4 {ι κ δ : Type} {z : Mem → ι → κ → δ → Option (RX β)} {F : (Mem → ι → κ → δ → Option (RX β)) → Mem → ι → κ → δ → Option (RX β)} {n : Nat} (hz : ∀ a b c d, Ek S (z a b c d)) (hF : ∀ f, (∀ a b c d, Ek S (f a b c d)) → ∀ a b c d, Ek S (F f a b c d)) : ∀ a b c d, Ek S (lp z n F a b c d) := g_lp (P := fun (f : Mem → ι → κ → δ → Option (RX β)) => ∀ a b c d, Ek S (f a b c d)) hz hF n
end EkMore
theorem ek_checkPin {S : Nat → Prop}  {p0 : Int32} {μ : Mem} (h1 : S 1) : Ek S (fX12_checkPin p0 μ) := by
  unfold fX12_checkPin
  try simp only [jn_eq, nm_eq]
  repeat (first | exact ek_none | exact ek_inr | exact ek_inl (by assumption) | refine ek_ckI ?_ | refine ek_ckB ?_ | refine ek_ckZ ?_ | refine ek_ckD ?_ | refine ek_ite ?_ ?_ | refine ek_bndX (by first | exact ek_checkPin (by assumption) | exact ek_checkLevel (by assumption) | exact ek_checkLimit (by assumption) | exact ek_checkAddress (by assumption) | exact ek_checkMemory (by assumption) | exact ek_existingEngine (by assumption) | exact ek_existingQueue (by assumption)) (fun _ _ => ?_) | refine ek_bnd (fun _ _ => ?_))
theorem ek_level {S : Nat → Prop}  {n0 : Nat} {p1 : Int32} {μ : Mem} (h1 : S 1) : Ek S (fX12_level n0 p1 μ) := by
  unfold fX12_level
  try simp only [jn_eq, nm_eq]
  repeat (first | exact ek_none | exact ek_inr | exact ek_inl (by assumption) | refine ek_ckI ?_ | refine ek_ckB ?_ | refine ek_ckZ ?_ | refine ek_ckD ?_ | refine ek_ite ?_ ?_ | refine ek_bndX (by first | exact ek_checkPin (by assumption) | exact ek_checkLevel (by assumption) | exact ek_checkLimit (by assumption) | exact ek_checkAddress (by assumption) | exact ek_checkMemory (by assumption) | exact ek_existingEngine (by assumption) | exact ek_existingQueue (by assumption)) (fun _ _ => ?_) | refine ek_bnd (fun _ _ => ?_))
theorem ek_latch {S : Nat → Prop}  {n0 : Nat} {p1 : Int32} {μ : Mem} (h1 : S 1) : Ek S (fX12_latch n0 p1 μ) := by
  unfold fX12_latch
  try simp only [jn_eq, nm_eq]
  repeat (first | exact ek_none | exact ek_inr | exact ek_inl (by assumption) | refine ek_ckI ?_ | refine ek_ckB ?_ | refine ek_ckZ ?_ | refine ek_ckD ?_ | refine ek_ite ?_ ?_ | refine ek_bndX (by first | exact ek_checkPin (by assumption) | exact ek_checkLevel (by assumption) | exact ek_checkLimit (by assumption) | exact ek_checkAddress (by assumption) | exact ek_checkMemory (by assumption) | exact ek_existingEngine (by assumption) | exact ek_existingQueue (by assumption)) (fun _ _ => ?_) | refine ek_bnd (fun _ _ => ?_))
theorem ek_isOutput {S : Nat → Prop}  {n0 : Nat} {p1 : Int32} {μ : Mem} (h1 : S 1) : Ek S (fX12_isOutput n0 p1 μ) := by
  unfold fX12_isOutput
  try simp only [jn_eq, nm_eq]
  repeat (first | exact ek_none | exact ek_inr | exact ek_inl (by assumption) | refine ek_ckI ?_ | refine ek_ckB ?_ | refine ek_ckZ ?_ | refine ek_ckD ?_ | refine ek_ite ?_ ?_ | refine ek_bndX (by first | exact ek_checkPin (by assumption) | exact ek_checkLevel (by assumption) | exact ek_checkLimit (by assumption) | exact ek_checkAddress (by assumption) | exact ek_checkMemory (by assumption) | exact ek_existingEngine (by assumption) | exact ek_existingQueue (by assumption)) (fun _ _ => ?_) | refine ek_bnd (fun _ _ => ?_))
theorem ek_flag {S : Nat → Prop}  {n0 : Nat} {p1 : Int32} {μ : Mem} (h1 : S 1) : Ek S (fX12_flag n0 p1 μ) := by
  unfold fX12_flag
  try simp only [jn_eq, nm_eq]
  repeat (first | exact ek_none | exact ek_inr | exact ek_inl (by assumption) | refine ek_ckI ?_ | refine ek_ckB ?_ | refine ek_ckZ ?_ | refine ek_ckD ?_ | refine ek_ite ?_ ?_ | refine ek_bndX (by first | exact ek_checkPin (by assumption) | exact ek_checkLevel (by assumption) | exact ek_checkLimit (by assumption) | exact ek_checkAddress (by assumption) | exact ek_checkMemory (by assumption) | exact ek_existingEngine (by assumption) | exact ek_existingQueue (by assumption)) (fun _ _ => ?_) | refine ek_bnd (fun _ _ => ?_))
theorem ek_checkMemory {S : Nat → Prop}  {p0 : Int32} {μ : Mem} (h1 : S 1) : Ek S (fX12_checkMemory p0 μ) := by
  unfold fX12_checkMemory
  try simp only [jn_eq, nm_eq]
  repeat (first | exact ek_none | exact ek_inr | exact ek_inl (by assumption) | refine ek_ckI ?_ | refine ek_ckB ?_ | refine ek_ckZ ?_ | refine ek_ckD ?_ | refine ek_ite ?_ ?_ | refine ek_bndX (by first | exact ek_checkPin (by assumption) | exact ek_checkLevel (by assumption) | exact ek_checkLimit (by assumption) | exact ek_checkAddress (by assumption) | exact ek_checkMemory (by assumption) | exact ek_existingEngine (by assumption) | exact ek_existingQueue (by assumption)) (fun _ _ => ?_) | refine ek_bnd (fun _ _ => ?_))
theorem ek_memory {S : Nat → Prop}  {n0 : Nat} {p1 : Int32} {μ : Mem} (h1 : S 1) : Ek S (fX12_memory n0 p1 μ) := by
  unfold fX12_memory
  try simp only [jn_eq, nm_eq]
  repeat (first | exact ek_none | exact ek_inr | exact ek_inl (by assumption) | refine ek_ckI ?_ | refine ek_ckB ?_ | refine ek_ckZ ?_ | refine ek_ckD ?_ | refine ek_ite ?_ ?_ | refine ek_bndX (by first | exact ek_checkPin (by assumption) | exact ek_checkLevel (by assumption) | exact ek_checkLimit (by assumption) | exact ek_checkAddress (by assumption) | exact ek_checkMemory (by assumption) | exact ek_existingEngine (by assumption) | exact ek_existingQueue (by assumption)) (fun _ _ => ?_) | refine ek_bnd (fun _ _ => ?_))
theorem ek_existingEngine {S : Nat → Prop}  {n0 : Nat} {p1 : Int32} {μ : Mem} (h1 : S 1) : Ek S (fX12_existingEngine n0 p1 μ) := by
  unfold fX12_existingEngine
  try simp only [jn_eq, nm_eq]
  repeat (first | exact ek_none | exact ek_inr | exact ek_inl (by assumption) | refine ek_ckI ?_ | refine ek_ckB ?_ | refine ek_ckZ ?_ | refine ek_ckD ?_ | refine ek_ite ?_ ?_ | refine ek_bndX (by first | exact ek_checkPin (by assumption) | exact ek_checkLevel (by assumption) | exact ek_checkLimit (by assumption) | exact ek_checkAddress (by assumption) | exact ek_checkMemory (by assumption) | exact ek_existingEngine (by assumption) | exact ek_existingQueue (by assumption)) (fun _ _ => ?_) | refine ek_bnd (fun _ _ => ?_))
theorem ek_pc {S : Nat → Prop}  {n0 : Nat} {p1 : Int32} {μ : Mem} (h1 : S 1) : Ek S (fX12_pc n0 p1 μ) := by
  unfold fX12_pc
  try simp only [jn_eq, nm_eq]
  repeat (first | exact ek_none | exact ek_inr | exact ek_inl (by assumption) | refine ek_ckI ?_ | refine ek_ckB ?_ | refine ek_ckZ ?_ | refine ek_ckD ?_ | refine ek_ite ?_ ?_ | refine ek_bndX (by first | exact ek_checkPin (by assumption) | exact ek_checkLevel (by assumption) | exact ek_checkLimit (by assumption) | exact ek_checkAddress (by assumption) | exact ek_checkMemory (by assumption) | exact ek_existingEngine (by assumption) | exact ek_existingQueue (by assumption)) (fun _ _ => ?_) | refine ek_bnd (fun _ _ => ?_))
theorem ek_register {S : Nat → Prop}  {n0 : Nat} {p1 : Int32} {p2 : Int32} {μ : Mem} (h1 : S 1) : Ek S (fX12_register n0 p1 p2 μ) := by
  unfold fX12_register
  try simp only [jn_eq, nm_eq]
  repeat (first | exact ek_none | exact ek_inr | exact ek_inl (by assumption) | refine ek_ckI ?_ | refine ek_ckB ?_ | refine ek_ckZ ?_ | refine ek_ckD ?_ | refine ek_ite ?_ ?_ | refine ek_bndX (by first | exact ek_checkPin (by assumption) | exact ek_checkLevel (by assumption) | exact ek_checkLimit (by assumption) | exact ek_checkAddress (by assumption) | exact ek_checkMemory (by assumption) | exact ek_existingEngine (by assumption) | exact ek_existingQueue (by assumption)) (fun _ _ => ?_) | refine ek_bnd (fun _ _ => ?_))
theorem ek_fill {S : Nat → Prop}  {n0 : Nat} {p1 : Int32} {μ : Mem} (h1 : S 1) : Ek S (fX12_fill n0 p1 μ) := by
  unfold fX12_fill
  try simp only [jn_eq, nm_eq]
  repeat (first | exact ek_none | exact ek_inr | exact ek_inl (by assumption) | refine ek_ckI ?_ | refine ek_ckB ?_ | refine ek_ckZ ?_ | refine ek_ckD ?_ | refine ek_ite ?_ ?_ | refine ek_bndX (by first | exact ek_checkPin (by assumption) | exact ek_checkLevel (by assumption) | exact ek_checkLimit (by assumption) | exact ek_checkAddress (by assumption) | exact ek_checkMemory (by assumption) | exact ek_existingEngine (by assumption) | exact ek_existingQueue (by assumption)) (fun _ _ => ?_) | refine ek_bnd (fun _ _ => ?_))
theorem ek_spent {S : Nat → Prop}  {n0 : Nat} {p1 : Int32} {μ : Mem} (h1 : S 1) : Ek S (fX12_spent n0 p1 μ) := by
  unfold fX12_spent
  try simp only [jn_eq, nm_eq]
  repeat (first | exact ek_none | exact ek_inr | exact ek_inl (by assumption) | refine ek_ckI ?_ | refine ek_ckB ?_ | refine ek_ckZ ?_ | refine ek_ckD ?_ | refine ek_ite ?_ ?_ | refine ek_bndX (by first | exact ek_checkPin (by assumption) | exact ek_checkLevel (by assumption) | exact ek_checkLimit (by assumption) | exact ek_checkAddress (by assumption) | exact ek_checkMemory (by assumption) | exact ek_existingEngine (by assumption) | exact ek_existingQueue (by assumption)) (fun _ _ => ?_) | refine ek_bnd (fun _ _ => ?_))
theorem ek_delayLeft {S : Nat → Prop}  {n0 : Nat} {p1 : Int32} {μ : Mem} (h1 : S 1) : Ek S (fX12_delayLeft n0 p1 μ) := by
  unfold fX12_delayLeft
  try simp only [jn_eq, nm_eq]
  repeat (first | exact ek_none | exact ek_inr | exact ek_inl (by assumption) | refine ek_ckI ?_ | refine ek_ckB ?_ | refine ek_ckZ ?_ | refine ek_ckD ?_ | refine ek_ite ?_ ?_ | refine ek_bndX (by first | exact ek_checkPin (by assumption) | exact ek_checkLevel (by assumption) | exact ek_checkLimit (by assumption) | exact ek_checkAddress (by assumption) | exact ek_checkMemory (by assumption) | exact ek_existingEngine (by assumption) | exact ek_existingQueue (by assumption)) (fun _ _ => ?_) | refine ek_bnd (fun _ _ => ?_))
theorem ek_stall {S : Nat → Prop}  {n0 : Nat} {p1 : Int32} {μ : Mem} (h1 : S 1) : Ek S (fX12_stall n0 p1 μ) := by
  unfold fX12_stall
  try simp only [jn_eq, nm_eq]
  repeat (first | exact ek_none | exact ek_inr | exact ek_inl (by assumption) | refine ek_ckI ?_ | refine ek_ckB ?_ | refine ek_ckZ ?_ | refine ek_ckD ?_ | refine ek_ite ?_ ?_ | refine ek_bndX (by first | exact ek_checkPin (by assumption) | exact ek_checkLevel (by assumption) | exact ek_checkLimit (by assumption) | exact ek_checkAddress (by assumption) | exact ek_checkMemory (by assumption) | exact ek_existingEngine (by assumption) | exact ek_existingQueue (by assumption)) (fun _ _ => ?_) | refine ek_bnd (fun _ _ => ?_))
theorem ek_isEnabled {S : Nat → Prop}  {n0 : Nat} {p1 : Int32} {μ : Mem} (h1 : S 1) : Ek S (fX12_isEnabled n0 p1 μ) := by
  unfold fX12_isEnabled
  try simp only [jn_eq, nm_eq]
  repeat (first | exact ek_none | exact ek_inr | exact ek_inl (by assumption) | refine ek_ckI ?_ | refine ek_ckB ?_ | refine ek_ckZ ?_ | refine ek_ckD ?_ | refine ek_ite ?_ ?_ | refine ek_bndX (by first | exact ek_checkPin (by assumption) | exact ek_checkLevel (by assumption) | exact ek_checkLimit (by assumption) | exact ek_checkAddress (by assumption) | exact ek_checkMemory (by assumption) | exact ek_existingEngine (by assumption) | exact ek_existingQueue (by assumption)) (fun _ _ => ?_) | refine ek_bnd (fun _ _ => ?_))
theorem ek_existingQueue {S : Nat → Prop}  {n0 : Nat} {p1 : Int32} {p2 : Int32} {μ : Mem} (h1 : S 1) : Ek S (fX12_existingQueue n0 p1 p2 μ) := by
  unfold fX12_existingQueue
  try simp only [jn_eq, nm_eq]
  repeat (first | exact ek_none | exact ek_inr | exact ek_inl (by assumption) | refine ek_ckI ?_ | refine ek_ckB ?_ | refine ek_ckZ ?_ | refine ek_ckD ?_ | refine ek_ite ?_ ?_ | refine ek_bndX (by first | exact ek_checkPin (by assumption) | exact ek_checkLevel (by assumption) | exact ek_checkLimit (by assumption) | exact ek_checkAddress (by assumption) | exact ek_checkMemory (by assumption) | exact ek_existingEngine (by assumption) | exact ek_existingQueue (by assumption)) (fun _ _ => ?_) | refine ek_bnd (fun _ _ => ?_))
theorem ek_queueSize {S : Nat → Prop}  {n0 : Nat} {p1 : Int32} {p2 : Int32} {μ : Mem} (h1 : S 1) : Ek S (fX12_queueSize n0 p1 p2 μ) := by
  unfold fX12_queueSize
  try simp only [jn_eq, nm_eq]
  repeat (first | exact ek_none | exact ek_inr | exact ek_inl (by assumption) | refine ek_ckI ?_ | refine ek_ckB ?_ | refine ek_ckZ ?_ | refine ek_ckD ?_ | refine ek_ite ?_ ?_ | refine ek_bndX (by first | exact ek_checkPin (by assumption) | exact ek_checkLevel (by assumption) | exact ek_checkLimit (by assumption) | exact ek_checkAddress (by assumption) | exact ek_checkMemory (by assumption) | exact ek_existingEngine (by assumption) | exact ek_existingQueue (by assumption)) (fun _ _ => ?_) | refine ek_bnd (fun _ _ => ?_))
theorem ek_queued {S : Nat → Prop}  {n0 : Nat} {p1 : Int32} {p2 : Int32} {p3 : Int32} {μ : Mem} (h1 : S 1) : Ek S (fX12_queued n0 p1 p2 p3 μ) := by
  unfold fX12_queued
  try simp only [jn_eq, nm_eq]
  repeat (first | exact ek_none | exact ek_inr | exact ek_inl (by assumption) | refine ek_ckI ?_ | refine ek_ckB ?_ | refine ek_ckZ ?_ | refine ek_ckD ?_ | refine ek_ite ?_ ?_ | refine ek_bndX (by first | exact ek_checkPin (by assumption) | exact ek_checkLevel (by assumption) | exact ek_checkLimit (by assumption) | exact ek_checkAddress (by assumption) | exact ek_checkMemory (by assumption) | exact ek_existingEngine (by assumption) | exact ek_existingQueue (by assumption)) (fun _ _ => ?_) | refine ek_bnd (fun _ _ => ?_))
theorem ek_count {S : Nat → Prop}  {n0 : Nat} {p1 : Int32} {p2 : Int32} {μ : Mem} (h1 : S 1) : Ek S (fX12_count n0 p1 p2 μ) := by
  unfold fX12_count
  try simp only [jn_eq, nm_eq]
  repeat (first | exact ek_none | exact ek_inr | exact ek_inl (by assumption) | refine ek_ckI ?_ | refine ek_ckB ?_ | refine ek_ckZ ?_ | refine ek_ckD ?_ | refine ek_ite ?_ ?_ | refine ek_bndX (by first | exact ek_checkPin (by assumption) | exact ek_checkLevel (by assumption) | exact ek_checkLimit (by assumption) | exact ek_checkAddress (by assumption) | exact ek_checkMemory (by assumption) | exact ek_existingEngine (by assumption) | exact ek_existingQueue (by assumption)) (fun _ _ => ?_) | refine ek_bnd (fun _ _ => ?_))
theorem ek_levelAt {S : Nat → Prop}  {n0 : Nat} {p1 : Int32} {p2 : Int32} {μ : Mem} (h1 : S 1) : Ek S (fX12_levelAt n0 p1 p2 μ) := by
  unfold fX12_levelAt
  try simp only [jn_eq, nm_eq]
  repeat (first | exact ek_none | exact ek_inr | exact ek_inl (by assumption) | refine ek_ckI ?_ | refine ek_ckB ?_ | refine ek_ckZ ?_ | refine ek_ckD ?_ | refine ek_ite ?_ ?_ | refine ek_bndX (by first | exact ek_checkPin (by assumption) | exact ek_checkLevel (by assumption) | exact ek_checkLimit (by assumption) | exact ek_checkAddress (by assumption) | exact ek_checkMemory (by assumption) | exact ek_existingEngine (by assumption) | exact ek_existingQueue (by assumption)) (fun _ _ => ?_) | refine ek_bnd (fun _ _ => ?_))
theorem ek_edges {S : Nat → Prop}  {n0 : Nat} {p1 : Int32} {μ : Mem} (h1 : S 1) : Ek S (fX12_edges n0 p1 μ) := by
  unfold fX12_edges
  try simp only [jn_eq, nm_eq]
  repeat (first | exact ek_none | exact ek_inr | exact ek_inl (by assumption) | refine ek_ckI ?_ | refine ek_ckB ?_ | refine ek_ckZ ?_ | refine ek_ckD ?_ | refine ek_ite ?_ ?_ | refine ek_bndX (by first | exact ek_checkPin (by assumption) | exact ek_checkLevel (by assumption) | exact ek_checkLimit (by assumption) | exact ek_checkAddress (by assumption) | exact ek_checkMemory (by assumption) | exact ek_existingEngine (by assumption) | exact ek_existingQueue (by assumption)) (fun _ _ => ?_) | refine ek_bnd (fun _ _ => ?_))
theorem ek_highTime {S : Nat → Prop}  {n0 : Nat} {p1 : Int32} {μ : Mem} (h1 : S 1) : Ek S (fX12_highTime n0 p1 μ) := by
  unfold fX12_highTime
  try simp only [jn_eq, nm_eq]
  repeat (first | exact ek_none | exact ek_inr | exact ek_inl (by assumption) | refine ek_ckI ?_ | refine ek_ckB ?_ | refine ek_ckZ ?_ | refine ek_ckD ?_ | refine ek_ite ?_ ?_ | refine ek_bndX (by first | exact ek_checkPin (by assumption) | exact ek_checkLevel (by assumption) | exact ek_checkLimit (by assumption) | exact ek_checkAddress (by assumption) | exact ek_checkMemory (by assumption) | exact ek_existingEngine (by assumption) | exact ek_existingQueue (by assumption)) (fun _ _ => ?_) | refine ek_bnd (fun _ _ => ?_))
theorem ek_put {S : Nat → Prop}  {fu : Nat} {n0 : Nat} {p1 : Int32} {p2 : Int32} {μ : Mem} (h1 : S 1) : Ek S (fX12_put fu n0 p1 p2 μ) := by
  unfold fX12_put
  try simp only [jn_eq, nm_eq]
  repeat (first | exact ek_none | exact ek_inr | exact ek_inl (by assumption) | refine ek_ckI ?_ | refine ek_ckB ?_ | refine ek_ckZ ?_ | refine ek_ckD ?_ | refine ek_ite ?_ ?_ | refine ek_bndX (by first | exact ek_checkPin (by assumption) | exact ek_checkLevel (by assumption) | exact ek_checkLimit (by assumption) | exact ek_checkAddress (by assumption) | exact ek_checkMemory (by assumption) | exact ek_existingEngine (by assumption) | exact ek_existingQueue (by assumption)) (fun _ _ => ?_) | refine ek_bnd (fun _ _ => ?_))
theorem ek_take {S : Nat → Prop}  {fu : Nat} {n0 : Nat} {p1 : Int32} {μ : Mem} (h1 : S 1) : Ek S (fX12_take fu n0 p1 μ) := by
  unfold fX12_take
  try simp only [jn_eq, nm_eq]
  repeat (first | exact ek_none | exact ek_inr | exact ek_inl (by assumption) | refine ek_ckI ?_ | refine ek_ckB ?_ | refine ek_ckZ ?_ | refine ek_ckD ?_ | refine ek_ite ?_ ?_ | refine ek_bndX (by first | exact ek_checkPin (by assumption) | exact ek_checkLevel (by assumption) | exact ek_checkLimit (by assumption) | exact ek_checkAddress (by assumption) | exact ek_checkMemory (by assumption) | exact ek_existingEngine (by assumption) | exact ek_existingQueue (by assumption)) (fun _ _ => ?_) | refine ek_bnd (fun _ _ => ?_))
theorem ek_enable {S : Nat → Prop}  {fu : Nat} {n0 : Nat} {p1 : Int32} {p2 : Int32} {μ : Mem} (h1 : S 1) : Ek S (fX12_enable fu n0 p1 p2 μ) := by
  unfold fX12_enable
  try simp only [jn_eq, nm_eq]
  repeat (first | exact ek_none | exact ek_inr | exact ek_inl (by assumption) | refine ek_ckI ?_ | refine ek_ckB ?_ | refine ek_ckZ ?_ | refine ek_ckD ?_ | refine ek_ite ?_ ?_ | refine ek_bndX (by first | exact ek_checkPin (by assumption) | exact ek_checkLevel (by assumption) | exact ek_checkLimit (by assumption) | exact ek_checkAddress (by assumption) | exact ek_checkMemory (by assumption) | exact ek_existingEngine (by assumption) | exact ek_existingQueue (by assumption)) (fun _ _ => ?_) | refine ek_bnd (fun _ _ => ?_))
theorem ek_restart {S : Nat → Prop}  {fu : Nat} {n0 : Nat} {p1 : Int32} {μ : Mem} (h1 : S 1) : Ek S (fX12_restart fu n0 p1 μ) := by
  unfold fX12_restart
  try simp only [jn_eq, nm_eq]
  repeat (first | exact ek_none | exact ek_inr | exact ek_inl (by assumption) | refine ek_ckI ?_ | refine ek_ckB ?_ | refine ek_ckZ ?_ | refine ek_ckD ?_ | refine ek_ite ?_ ?_ | refine ek_bndX (by first | exact ek_checkPin (by assumption) | exact ek_checkLevel (by assumption) | exact ek_checkLimit (by assumption) | exact ek_checkAddress (by assumption) | exact ek_checkMemory (by assumption) | exact ek_existingEngine (by assumption) | exact ek_existingQueue (by assumption)) (fun _ _ => ?_) | refine ek_bnd (fun _ _ => ?_))
theorem ek_poke {S : Nat → Prop}  {fu : Nat} {n0 : Nat} {p1 : Int32} {p2 : Int32} {μ : Mem} (h1 : S 1) : Ek S (fX12_poke fu n0 p1 p2 μ) := by
  unfold fX12_poke
  try simp only [jn_eq, nm_eq]
  repeat (first | exact ek_none | exact ek_inr | exact ek_inl (by assumption) | refine ek_ckI ?_ | refine ek_ckB ?_ | refine ek_ckZ ?_ | refine ek_ckD ?_ | refine ek_ite ?_ ?_ | refine ek_bndX (by first | exact ek_checkPin (by assumption) | exact ek_checkLevel (by assumption) | exact ek_checkLimit (by assumption) | exact ek_checkAddress (by assumption) | exact ek_checkMemory (by assumption) | exact ek_existingEngine (by assumption) | exact ek_existingQueue (by assumption)) (fun _ _ => ?_) | refine ek_bnd (fun _ _ => ?_))
theorem ek_checkLevel {S : Nat → Prop}  {p0 : Int32} {μ : Mem} (h2 : S 2) : Ek S (fX12_checkLevel p0 μ) := by
  unfold fX12_checkLevel
  try simp only [jn_eq, nm_eq]
  repeat (first | exact ek_none | exact ek_inr | exact ek_inl (by assumption) | refine ek_ckI ?_ | refine ek_ckB ?_ | refine ek_ckZ ?_ | refine ek_ckD ?_ | refine ek_ite ?_ ?_ | refine ek_bndX (by first | exact ek_checkPin (by assumption) | exact ek_checkLevel (by assumption) | exact ek_checkLimit (by assumption) | exact ek_checkAddress (by assumption) | exact ek_checkMemory (by assumption) | exact ek_existingEngine (by assumption) | exact ek_existingQueue (by assumption)) (fun _ _ => ?_) | refine ek_bnd (fun _ _ => ?_))
theorem ek_drive {S : Nat → Prop}  {fu : Nat} {n0 : Nat} {p1 : Int32} {p2 : Int32} {μ : Mem} (h1 : S 1) (h2 : S 2) : Ek S (fX12_drive fu n0 p1 p2 μ) := by
  unfold fX12_drive
  try simp only [jn_eq, nm_eq]
  repeat (first | exact ek_none | exact ek_inr | exact ek_inl (by assumption) | refine ek_ckI ?_ | refine ek_ckB ?_ | refine ek_ckZ ?_ | refine ek_ckD ?_ | refine ek_ite ?_ ?_ | refine ek_bndX (by first | exact ek_checkPin (by assumption) | exact ek_checkLevel (by assumption) | exact ek_checkLimit (by assumption) | exact ek_checkAddress (by assumption) | exact ek_checkMemory (by assumption) | exact ek_existingEngine (by assumption) | exact ek_existingQueue (by assumption)) (fun _ _ => ?_) | refine ek_bnd (fun _ _ => ?_))
theorem ek_schedule {S : Nat → Prop}  {fu : Nat} {n0 : Nat} {p1 : Int32} {p2 : Int32} {p3 : Int32} {μ : Mem} (h1 : S 1) (h2 : S 2) : Ek S (fX12_schedule fu n0 p1 p2 p3 μ) := by
  unfold fX12_schedule
  try simp only [jn_eq, nm_eq]
  repeat (first | exact ek_none | exact ek_inr | exact ek_inl (by assumption) | refine ek_ckI ?_ | refine ek_ckB ?_ | refine ek_ckZ ?_ | refine ek_ckD ?_ | refine ek_ite ?_ ?_ | refine ek_bndX (by first | exact ek_checkPin (by assumption) | exact ek_checkLevel (by assumption) | exact ek_checkLimit (by assumption) | exact ek_checkAddress (by assumption) | exact ek_checkMemory (by assumption) | exact ek_existingEngine (by assumption) | exact ek_existingQueue (by assumption)) (fun _ _ => ?_) | refine ek_bnd (fun _ _ => ?_))
theorem ek_checkLimit {S : Nat → Prop}  {p0 : Int32} {μ : Mem} (h2 : S 2) : Ek S (fX12_checkLimit p0 μ) := by
  unfold fX12_checkLimit
  try simp only [jn_eq, nm_eq]
  repeat (first | exact ek_none | exact ek_inr | exact ek_inl (by assumption) | refine ek_ckI ?_ | refine ek_ckB ?_ | refine ek_ckZ ?_ | refine ek_ckD ?_ | refine ek_ite ?_ ?_ | refine ek_bndX (by first | exact ek_checkPin (by assumption) | exact ek_checkLevel (by assumption) | exact ek_checkLimit (by assumption) | exact ek_checkAddress (by assumption) | exact ek_checkMemory (by assumption) | exact ek_existingEngine (by assumption) | exact ek_existingQueue (by assumption)) (fun _ _ => ?_) | refine ek_bnd (fun _ _ => ?_))
theorem ek_cyclesUntil {S : Nat → Prop}  {fu : Nat} {n0 : Nat} {p1 : Int32} {p2 : Int32} {p3 : Int32} {μ : Mem} (h1 : S 1) (h2 : S 2) : Ek S (fX12_cyclesUntil fu n0 p1 p2 p3 μ) := by
  unfold fX12_cyclesUntil
  try simp only [jn_eq, nm_eq]
  repeat (first | exact ek_none | exact ek_inr | exact ek_inl (by assumption) | refine ek_ckI ?_ | refine ek_ckB ?_ | refine ek_ckZ ?_ | refine ek_ckD ?_ | refine ek_ite ?_ ?_ | refine ek_bndX (by first | exact ek_checkPin (by assumption) | exact ek_checkLevel (by assumption) | exact ek_checkLimit (by assumption) | exact ek_checkAddress (by assumption) | exact ek_checkMemory (by assumption) | exact ek_existingEngine (by assumption) | exact ek_existingQueue (by assumption)) (fun _ _ => ?_) | refine ek_bnd (fun _ _ => ?_))
  exact ek_lp2 (fun _ _ => ek_none) (fun f hf _ _ => by repeat (first | exact ek_none | exact ek_inr | exact ek_inl (by assumption) | exact hf _ _ | refine ek_ckI ?_ | refine ek_ckB ?_ | refine ek_ckZ ?_ | refine ek_ckD ?_ | refine ek_ite ?_ ?_ | refine ek_bndX (by first | exact ek_checkPin (by assumption) | exact ek_checkLevel (by assumption) | exact ek_checkLimit (by assumption) | exact ek_checkAddress (by assumption) | exact ek_checkMemory (by assumption) | exact ek_existingEngine (by assumption) | exact ek_existingQueue (by assumption)) (fun _ _ => ?_) | refine ek_bnd (fun _ _ => ?_))) _ _
theorem ek_checkAddress {S : Nat → Prop}  {n0 : Nat} {p1 : Int32} {μ : Mem} (h1 : S 1) : Ek S (fX12_checkAddress n0 p1 μ) := by
  unfold fX12_checkAddress
  try simp only [jn_eq, nm_eq]
  repeat (first | exact ek_none | exact ek_inr | exact ek_inl (by assumption) | refine ek_ckI ?_ | refine ek_ckB ?_ | refine ek_ckZ ?_ | refine ek_ckD ?_ | refine ek_ite ?_ ?_ | refine ek_bndX (by first | exact ek_checkPin (by assumption) | exact ek_checkLevel (by assumption) | exact ek_checkLimit (by assumption) | exact ek_checkAddress (by assumption) | exact ek_checkMemory (by assumption) | exact ek_existingEngine (by assumption) | exact ek_existingQueue (by assumption)) (fun _ _ => ?_) | refine ek_bnd (fun _ _ => ?_))
theorem ek_cyclesTo {S : Nat → Prop}  {fu : Nat} {n0 : Nat} {p1 : Int32} {p2 : Int32} {p3 : Int32} {μ : Mem} (h1 : S 1) (h2 : S 2) : Ek S (fX12_cyclesTo fu n0 p1 p2 p3 μ) := by
  unfold fX12_cyclesTo
  try simp only [jn_eq, nm_eq]
  repeat (first | exact ek_none | exact ek_inr | exact ek_inl (by assumption) | refine ek_ckI ?_ | refine ek_ckB ?_ | refine ek_ckZ ?_ | refine ek_ckD ?_ | refine ek_ite ?_ ?_ | refine ek_bndX (by first | exact ek_checkPin (by assumption) | exact ek_checkLevel (by assumption) | exact ek_checkLimit (by assumption) | exact ek_checkAddress (by assumption) | exact ek_checkMemory (by assumption) | exact ek_existingEngine (by assumption) | exact ek_existingQueue (by assumption)) (fun _ _ => ?_) | refine ek_bnd (fun _ _ => ?_))
  exact ek_lp2 (fun _ _ => ek_none) (fun f hf _ _ => by repeat (first | exact ek_none | exact ek_inr | exact ek_inl (by assumption) | exact hf _ _ | refine ek_ckI ?_ | refine ek_ckB ?_ | refine ek_ckZ ?_ | refine ek_ckD ?_ | refine ek_ite ?_ ?_ | refine ek_bndX (by first | exact ek_checkPin (by assumption) | exact ek_checkLevel (by assumption) | exact ek_checkLimit (by assumption) | exact ek_checkAddress (by assumption) | exact ek_checkMemory (by assumption) | exact ek_existingEngine (by assumption) | exact ek_existingQueue (by assumption)) (fun _ _ => ?_) | refine ek_bnd (fun _ _ => ?_))) _ _
theorem ek_period {S : Nat → Prop}  {fu : Nat} {n0 : Nat} {p1 : Int32} {p2 : Int32} {μ : Mem} (h1 : S 1) (h2 : S 2) : Ek S (fX12_period fu n0 p1 p2 μ) := by
  unfold fX12_period
  try simp only [jn_eq, nm_eq]
  repeat (first | exact ek_none | exact ek_inr | exact ek_inl (by assumption) | refine ek_ckI ?_ | refine ek_ckB ?_ | refine ek_ckZ ?_ | refine ek_ckD ?_ | refine ek_ite ?_ ?_ | refine ek_bndX (by first | exact ek_checkPin (by assumption) | exact ek_checkLevel (by assumption) | exact ek_checkLimit (by assumption) | exact ek_checkAddress (by assumption) | exact ek_checkMemory (by assumption) | exact ek_existingEngine (by assumption) | exact ek_existingQueue (by assumption)) (fun _ _ => ?_) | refine ek_bnd (fun _ _ => ?_))
  exact ek_lp4 (fun _ _ _ _ => ek_none) (fun f hf _ _ _ _ => by repeat (first | exact ek_none | exact ek_inr | exact ek_inl (by assumption) | exact hf _ _ _ _ | refine ek_ckI ?_ | refine ek_ckB ?_ | refine ek_ckZ ?_ | refine ek_ckD ?_ | refine ek_ite ?_ ?_ | refine ek_bndX (by first | exact ek_checkPin (by assumption) | exact ek_checkLevel (by assumption) | exact ek_checkLimit (by assumption) | exact ek_checkAddress (by assumption) | exact ek_checkMemory (by assumption) | exact ek_existingEngine (by assumption) | exact ek_existingQueue (by assumption)) (fun _ _ => ?_) | refine ek_bnd (fun _ _ => ?_))) _ _ _ _
theorem hd_1 {F : Option (RX Int32)} (hE : Ek (fun k => k = 1) F) : ∀ (k : Nat) (y t : Int32) (μ' : Mem), F = some (.inl k, μ') → Ans (.inl k) y t → (if k = 1 then some ((1 : Int32), μ') else none) = some (t, μ') ∧ ¬ t = 0 := fun k y t μ' e a => by
  obtain rfl : k = 1 := hE k μ' e
  have a : t = nI 1 := a
  subst a
  exact ⟨rfl, by decide⟩
theorem hd_L {F : Option (RX Int64)} (hE : Ek (fun k => k = 1) F) : ∀ (k : Nat) (y : Int64) (t : Int32) (μ' : Mem), F = some (.inl k, μ') → AnsL (.inl k) y t → (if k = 1 then some ((1 : Int32), μ') else none) = some (t, μ') ∧ ¬ t = 0 := fun k y t μ' e a => by
  obtain rfl : k = 1 := hE k μ' e
  have a : t = nI 1 := a
  subst a
  exact ⟨rfl, by decide⟩
theorem hd_2 {F : Option (RX Int32)} (hE : Ek (fun k => k = 1 ∨ k = 2) F) : ∀ (k : Nat) (y t : Int32) (μ' : Mem), F = some (.inl k, μ') → Ans (.inl k) y t → (if k = 1 then some ((1 : Int32), μ') else if k = 2 then some ((2 : Int32), μ') else none) = some (t, μ') ∧ ¬ t = 0 := fun k y t μ' e a => by
  have a : t = nI k := a
  subst a
  rcases hE k μ' e with rfl | rfl
  · exact ⟨rfl, by decide⟩
  · exact ⟨rfl, by decide⟩
theorem hd_I {F : Option (RX Int32)} : ∀ (k : Nat) (y t : Int32) (μ' : Mem), F = some (.inl k, μ') → AnsI (.inl k) y t → (if k = 2 then some ((1 : Int32), μ') else none) = some (t, μ') ∧ ¬ t = 0 := fun k y t μ' e a => by
  obtain ⟨rfl, rfl⟩ : k = 2 ∧ t = 1 := a
  exact ⟨rfl, by decide⟩
theorem vl_A {α : Type} {f : Int32 → α} : ∀ (v y t : Int32), Ans (.inr v) y t → t = 0 ∧ f v = f y := fun v y t a => ⟨a.1, by rw [a.2]⟩
theorem vl_L : ∀ (v y : Int64) (t : Int32), AnsL (.inr v) y t → t = 0 ∧ v = y := fun v y t a => ⟨a.1, a.2.symm⟩
theorem vl_I {α : Type} {f : Int32 → α} : ∀ (v y t : Int32), AnsI (.inr v) y t → t = 0 ∧ f v = f y := fun v y t a => ⟨a.1, by rw [a.2]⟩
theorem op_r {p : Nat} {μ : Mem} {F : Option (RX Int32)} {G : Mem → Option (Int32 × Mem)} (h : Rel p μ) (hI : Inv2 μ) (op : ∀ ν, Rel2 p μ ν → Op p μ ν F (G ν)) : Pr Ans μ F G := pr_op h hI fun ν h2 _ => by
  obtain ⟨x, μ', y, ν', e⟩ := op ν h2
  exact ⟨x, μ', y, ν', p, e⟩
theorem op_i {p : Nat} {μ : Mem} {F : Option (RX Int32)} {G : Mem → Option (Int32 × Mem)} (h : Rel p μ) (hI : Inv2 μ) (op : ∀ ν, Rel2 p μ ν → FLD ν → OpI p μ ν F (G ν)) : Pr AnsI μ F G := pr_op h hI fun ν h2 h3 => by
  obtain ⟨x, μ', y, ν', e⟩ := op ν h2 h3
  exact ⟨x, μ', y, ν', p, e⟩
theorem op_l {p : Nat} {μ : Mem} {F : Option (RX Int64)} {G : Mem → Option (Int64 × Mem)} (h : Rel p μ) (hI : Inv2 μ) (op : ∀ ν, Rel2 p μ ν → OpL p μ ν F (G ν)) : Pr AnsL μ F G := pr_op h hI fun ν h2 _ => by
  obtain ⟨x, μ', y, ν', e⟩ := op ν h2
  exact ⟨x, μ', y, ν', p, e⟩
theorem op_d {p : Nat} {μ : Mem} {F : Option (RX Int32)} {G : Mem → Option (Int32 × Mem)} (h : Rel p μ) (hI : Inv2 μ) (op : ∀ ν, Rel2 p μ ν → OpLd μ ν F (G ν)) : Pr AnsI μ F G := pr_op h hI fun ν h2 _ => op ν h2
theorem ckc_1 {α : Type} {k SL : Nat} {o : Option α} (h : 6 * k + 6 ≤ SL) (h2 : SL ≤ 3072) : ckI (nI (6 * k) + (1 : Int32)) SL o = o := by
  show ckI (nI (6 * k) + nI 1) SL o = o
  rw [nI_add]
  exact ckI_nI (by omega) (by omega)
theorem ckc_2 {α : Type} {k SL : Nat} {o : Option α} (h : 6 * k + 6 ≤ SL) (h2 : SL ≤ 3072) : ckI (nI (6 * k) + (2 : Int32)) SL o = o := by
  show ckI (nI (6 * k) + nI 2) SL o = o
  rw [nI_add]
  exact ckI_nI (by omega) (by omega)
theorem ckc_3 {α : Type} {k SL : Nat} {o : Option α} (h : 6 * k + 6 ≤ SL) (h2 : SL ≤ 3072) : ckI (nI (6 * k) + (3 : Int32)) SL o = o := by
  show ckI (nI (6 * k) + nI 3) SL o = o
  rw [nI_add]
  exact ckI_nI (by omega) (by omega)
theorem ckc_4 {α : Type} {k SL : Nat} {o : Option α} (h : 6 * k + 6 ≤ SL) (h2 : SL ≤ 3072) : ckI (nI (6 * k) + (4 : Int32)) SL o = o := by
  show ckI (nI (6 * k) + nI 4) SL o = o
  rw [nI_add]
  exact ckI_nI (by omega) (by omega)
theorem ckc_5 {α : Type} {k SL : Nat} {o : Option α} (h : 6 * k + 6 ≤ SL) (h2 : SL ≤ 3072) : ckI (nI (6 * k) + (5 : Int32)) SL o = o := by
  show ckI (nI (6 * k) + nI 5) SL o = o
  rw [nI_add]
  exact ckI_nI (by omega) (by omega)
theorem b_01 {x : Int32} : (if x = 0 then (0 : Int32) else 1) = 0 ∨ (if x = 0 then (0 : Int32) else 1) = 1 := by
  split
  · exact Or.inl rfl
  · exact Or.inr rfl
