/-! NAMES: the classes whose objects the worlds hold, their fields (declaring class, name, descriptor, final). Printed by an own text program out of the Statement. -/
def F_Le : u_T := fun k => match k with
  | 0 => ("CommitLedger", "entries", "LCommitLedger$Entries;", true)
  | 1 => ("CommitLedger", "directory", "LCommitLedger$Directory;", true)
  | 2 => ("CommitLedger", "writer", "LCommitLedger$View;", true)
  | 3 => ("CommitLedger", "merges", "[LCommitLedger$Merge;", true)
  | 4 => ("CommitLedger", "readers", "[LCommitLedger$Reader;", true)
  | 5 => ("CommitLedger", "theCommit", "LCommitLedger$View;", false)
  | 6 => ("CommitLedger", "prepared", "LCommitLedger$View;", false)
  | 7 => ("CommitLedger", "writerOpen", "Z", false)
  | 8 => ("CommitLedger", "isPrepared", "Z", false)
  | 9 => ("CommitLedger", "bufferStart", "I", false)
  | 10 => ("CommitLedger", "bufferLimit", "I", false)
  | 11 => ("CommitLedger", "factor", "I", false)
  | 12 => ("CommitLedger", "running", "I", false)
  | 13 => ("CommitLedger", "mergesBegun", "I", false)
  | 14 => ("CommitLedger", "readersOpened", "I", false)
  | 15 => ("CommitLedger", "generation", "I", false)
  | 16 => ("CommitLedger", "actions", "I", false)
  | _ => ("CommitLedger", "actionsLeft", "I", false)
def t_Le : Nat → FieldType := fun k => match k with
  | 0 => .object "CommitLedger$Entries"
  | 1 => .object "CommitLedger$Directory"
  | 2 => .object "CommitLedger$View"
  | 3 => .array (.object "CommitLedger$Merge")
  | 4 => .array (.object "CommitLedger$Reader")
  | 5 => .object "CommitLedger$View"
  | 6 => .object "CommitLedger$View"
  | 7 => .boolean
  | 8 => .boolean
  | 9 => .int
  | 10 => .int
  | 11 => .int
  | 12 => .int
  | 13 => .int
  | 14 => .int
  | 15 => .int
  | 16 => .int
  | _ => .int
theorem n_Le : ∀ a, a < 18 → ∀ b, b < 18 → a ≠ b → (F_Le a).2.1 ≠ (F_Le b).2.1 := by decide +kernel
theorem t_Le_ok : ∀ k, k < 18 → parseFieldDescriptor (F_Le k).2.2.1 = some (t_Le k) := by decide +kernel
theorem i_Le : ∀ w ∈ u_ws "CommitLedger" F_Le 18, w ∈ gx_all := by
  intro w hw
  obtain ⟨k, hk, rfl⟩ := List.mem_map.mp hw
  have hk := List.mem_range.mp hk
  match k, hk with
  | 0, _ => exact gx_in 201 (by decide +kernel)
  | 1, _ => exact gx_in 203 (by decide +kernel)
  | 2, _ => exact gx_in 205 (by decide +kernel)
  | 3, _ => exact gx_in 207 (by decide +kernel)
  | 4, _ => exact gx_in 209 (by decide +kernel)
  | 5, _ => exact gx_in 211 (by decide +kernel)
  | 6, _ => exact gx_in 213 (by decide +kernel)
  | 7, _ => exact gx_in 215 (by decide +kernel)
  | 8, _ => exact gx_in 217 (by decide +kernel)
  | 9, _ => exact gx_in 219 (by decide +kernel)
  | 10, _ => exact gx_in 221 (by decide +kernel)
  | 11, _ => exact gx_in 223 (by decide +kernel)
  | 12, _ => exact gx_in 225 (by decide +kernel)
  | 13, _ => exact gx_in 227 (by decide +kernel)
  | 14, _ => exact gx_in 229 (by decide +kernel)
  | 15, _ => exact gx_in 231 (by decide +kernel)
  | 16, _ => exact gx_in 233 (by decide +kernel)
  | 17, _ => exact gx_in 235 (by decide +kernel)
  | k + 18, h => exact absurd h (by omega)
def F_En : u_T := fun k => match k with
  | 0 => ("CommitLedger$Entries", "keys", "[I", true)
  | 1 => ("CommitLedger$Entries", "values", "[I", true)
  | 2 => ("CommitLedger$Entries", "serials", "[I", true)
  | _ => ("CommitLedger$Entries", "added", "I", false)
def t_En : Nat → FieldType := fun k => match k with
  | 0 => .array .int
  | 1 => .array .int
  | 2 => .array .int
  | _ => .int
theorem n_En : ∀ a, a < 4 → ∀ b, b < 4 → a ≠ b → (F_En a).2.1 ≠ (F_En b).2.1 := by decide +kernel
theorem t_En_ok : ∀ k, k < 4 → parseFieldDescriptor (F_En k).2.2.1 = some (t_En k) := by decide +kernel
theorem i_En : ∀ w ∈ u_ws "CommitLedger$Entries" F_En 4, w ∈ gx_all := by
  intro w hw
  obtain ⟨k, hk, rfl⟩ := List.mem_map.mp hw
  have hk := List.mem_range.mp hk
  match k, hk with
  | 0, _ => exact gx_in 50 (by decide +kernel)
  | 1, _ => exact gx_in 52 (by decide +kernel)
  | 2, _ => exact gx_in 54 (by decide +kernel)
  | 3, _ => exact gx_in 56 (by decide +kernel)
  | k + 4, h => exact absurd h (by omega)
def F_Di : u_T := fun k => match k with
  | 0 => ("CommitLedger$Directory", "there", "Ljava/util/ArrayList;", true)
  | 1 => ("CommitLedger$Directory", "gone", "Ljava/util/ArrayList;", true)
  | 2 => ("CommitLedger$Directory", "written", "I", false)
  | _ => ("CommitLedger$Directory", "keepsSynced", "Z", false)
def t_Di : Nat → FieldType := fun k => match k with
  | 0 => .object "java/util/ArrayList"
  | 1 => .object "java/util/ArrayList"
  | 2 => .int
  | _ => .boolean
theorem n_Di : ∀ a, a < 4 → ∀ b, b < 4 → a ≠ b → (F_Di a).2.1 ≠ (F_Di b).2.1 := by decide +kernel
theorem t_Di_ok : ∀ k, k < 4 → parseFieldDescriptor (F_Di k).2.2.1 = some (t_Di k) := by decide +kernel
theorem i_Di : ∀ w ∈ u_ws "CommitLedger$Directory" F_Di 4, w ∈ gx_all := by
  intro w hw
  obtain ⟨k, hk, rfl⟩ := List.mem_map.mp hw
  have hk := List.mem_range.mp hk
  match k, hk with
  | 0, _ => exact gx_in 97 (by decide +kernel)
  | 1, _ => exact gx_in 99 (by decide +kernel)
  | 2, _ => exact gx_in 101 (by decide +kernel)
  | 3, _ => exact gx_in 103 (by decide +kernel)
  | k + 4, h => exact absurd h (by omega)
def F_Al : u_T := fun k => match k with
  | 0 => ("java/util/ArrayList", "elementData", "[Ljava/lang/Object;", false)
  | 1 => ("java/util/ArrayList", "size", "I", false)
  | _ => ("java/util/AbstractList", "modCount", "I", false)
def t_Al : Nat → FieldType := fun k => match k with
  | 0 => .array (.object "java/lang/Object")
  | 1 => .int
  | _ => .int
theorem n_Al : ∀ a, a < 3 → ∀ b, b < 3 → a ≠ b → (F_Al a).2.1 ≠ (F_Al b).2.1 := by decide +kernel
theorem t_Al_ok : ∀ k, k < 3 → parseFieldDescriptor (F_Al k).2.2.1 = some (t_Al k) := by decide +kernel
theorem i_Al : ∀ w ∈ u_ws "java/util/ArrayList" F_Al 3, w ∈ gx_all := by
  intro w hw
  obtain ⟨k, hk, rfl⟩ := List.mem_map.mp hw
  have hk := List.mem_range.mp hk
  match k, hk with
  | 0, _ => exact gx_in 85 (by decide +kernel)
  | 1, _ => exact gx_in 87 (by decide +kernel)
  | 2, _ => exact gx_in 89 (by decide +kernel)
  | k + 3, h => exact absurd h (by omega)
def F_Vi : u_T := fun k => match k with
  | 0 => ("CommitLedger$View", "segments", "[LCommitLedger$LedgerFile;", true)
  | 1 => ("CommitLedger$View", "lists", "[LCommitLedger$LedgerFile;", true)
  | 2 => ("CommitLedger$View", "live", "[Z", true)
  | 3 => ("CommitLedger$View", "own", "LCommitLedger$LedgerFile;", false)
  | 4 => ("CommitLedger$View", "size", "I", false)
  | _ => ("CommitLedger$View", "latestSerial", "I", false)
def t_Vi : Nat → FieldType := fun k => match k with
  | 0 => .array (.object "CommitLedger$LedgerFile")
  | 1 => .array (.object "CommitLedger$LedgerFile")
  | 2 => .array .boolean
  | 3 => .object "CommitLedger$LedgerFile"
  | 4 => .int
  | _ => .int
theorem n_Vi : ∀ a, a < 6 → ∀ b, b < 6 → a ≠ b → (F_Vi a).2.1 ≠ (F_Vi b).2.1 := by decide +kernel
theorem t_Vi_ok : ∀ k, k < 6 → parseFieldDescriptor (F_Vi k).2.2.1 = some (t_Vi k) := by decide +kernel
theorem i_Vi : ∀ w ∈ u_ws "CommitLedger$View" F_Vi 6, w ∈ gx_all := by
  intro w hw
  obtain ⟨k, hk, rfl⟩ := List.mem_map.mp hw
  have hk := List.mem_range.mp hk
  match k, hk with
  | 0, _ => exact gx_in 126 (by decide +kernel)
  | 1, _ => exact gx_in 128 (by decide +kernel)
  | 2, _ => exact gx_in 130 (by decide +kernel)
  | 3, _ => exact gx_in 132 (by decide +kernel)
  | 4, _ => exact gx_in 134 (by decide +kernel)
  | 5, _ => exact gx_in 136 (by decide +kernel)
  | k + 6, h => exact absurd h (by omega)
def F_Me : u_T := fun k => match k with
  | 0 => ("CommitLedger$Merge", "number", "I", false)
  | 1 => ("CommitLedger$Merge", "start", "I", false)
  | 2 => ("CommitLedger$Merge", "end", "I", false)
  | _ => ("CommitLedger$Merge", "fresh", "LCommitLedger$LedgerFile;", false)
def t_Me : Nat → FieldType := fun k => match k with
  | 0 => .int
  | 1 => .int
  | 2 => .int
  | _ => .object "CommitLedger$LedgerFile"
theorem n_Me : ∀ a, a < 4 → ∀ b, b < 4 → a ≠ b → (F_Me a).2.1 ≠ (F_Me b).2.1 := by decide +kernel
theorem t_Me_ok : ∀ k, k < 4 → parseFieldDescriptor (F_Me k).2.2.1 = some (t_Me k) := by decide +kernel
theorem i_Me : ∀ w ∈ u_ws "CommitLedger$Merge" F_Me 4, w ∈ gx_all := by
  intro w hw
  obtain ⟨k, hk, rfl⟩ := List.mem_map.mp hw
  have hk := List.mem_range.mp hk
  match k, hk with
  | 0, _ => exact gx_in 154 (by decide +kernel)
  | 1, _ => exact gx_in 156 (by decide +kernel)
  | 2, _ => exact gx_in 158 (by decide +kernel)
  | 3, _ => exact gx_in 160 (by decide +kernel)
  | k + 4, h => exact absurd h (by omega)
def F_Re : u_T := fun k => match k with
  | 0 => ("CommitLedger$Reader", "view", "LCommitLedger$View;", true)
  | 1 => ("CommitLedger$Reader", "number", "I", false)
  | _ => ("CommitLedger$Reader", "isOpen", "Z", false)
def t_Re : Nat → FieldType := fun k => match k with
  | 0 => .object "CommitLedger$View"
  | 1 => .int
  | _ => .boolean
theorem n_Re : ∀ a, a < 3 → ∀ b, b < 3 → a ≠ b → (F_Re a).2.1 ≠ (F_Re b).2.1 := by decide +kernel
theorem t_Re_ok : ∀ k, k < 3 → parseFieldDescriptor (F_Re k).2.2.1 = some (t_Re k) := by decide +kernel
theorem i_Re : ∀ w ∈ u_ws "CommitLedger$Reader" F_Re 3, w ∈ gx_all := by
  intro w hw
  obtain ⟨k, hk, rfl⟩ := List.mem_map.mp hw
  have hk := List.mem_range.mp hk
  match k, hk with
  | 0, _ => exact gx_in 176 (by decide +kernel)
  | 1, _ => exact gx_in 178 (by decide +kernel)
  | 2, _ => exact gx_in 180 (by decide +kernel)
  | k + 3, h => exact absurd h (by omega)
def F_Fi : u_T := fun k => match k with
  | 0 => ("CommitLedger$LedgerFile", "number", "I", false)
  | 1 => ("CommitLedger$LedgerFile", "synced", "Z", false)
  | 2 => ("CommitLedger$LedgerFile", "harmed", "Z", false)
  | 3 => ("CommitLedger$LedgerFile", "needed", "Z", false)
  | 4 => ("CommitLedger$LedgerFile", "tells", "I", false)
  | 5 => ("CommitLedger$LedgerFile", "start", "I", false)
  | _ => ("CommitLedger$LedgerFile", "end", "I", false)
def t_Fi : Nat → FieldType := fun k => match k with
  | 0 => .int
  | 1 => .boolean
  | 2 => .boolean
  | 3 => .boolean
  | 4 => .int
  | 5 => .int
  | _ => .int
theorem n_Fi : ∀ a, a < 7 → ∀ b, b < 7 → a ≠ b → (F_Fi a).2.1 ≠ (F_Fi b).2.1 := by decide +kernel
theorem t_Fi_ok : ∀ k, k < 7 → parseFieldDescriptor (F_Fi k).2.2.1 = some (t_Fi k) := by decide +kernel
theorem i_Fi : ∀ w ∈ u_ws "CommitLedger$LedgerFile" F_Fi 7, w ∈ gx_all := by
  intro w hw
  obtain ⟨k, hk, rfl⟩ := List.mem_map.mp hw
  have hk := List.mem_range.mp hk
  match k, hk with
  | 0, _ => exact gx_in 651 (by decide +kernel)
  | 1, _ => exact gx_in 653 (by decide +kernel)
  | 2, _ => exact gx_in 655 (by decide +kernel)
  | 3, _ => exact gx_in 657 (by decide +kernel)
  | 4, _ => exact gx_in 659 (by decide +kernel)
  | 5, _ => exact gx_in 661 (by decide +kernel)
  | 6, _ => exact gx_in 663 (by decide +kernel)
  | k + 7, h => exact absurd h (by omega)
def F_Mo : u_T := fun k => match k with
  | 0 => ("CommitLedgerModel", "error", "I", false)
  | 1 => ("CommitLedgerModel", "thrown", "I", false)
  | 2 => ("CommitLedgerModel", "key", "[I", true)
  | 3 => ("CommitLedgerModel", "worth", "[I", true)
  | 4 => ("CommitLedgerModel", "docSerial", "[I", true)
  | 5 => ("CommitLedgerModel", "docs", "I", false)
  | 6 => ("CommitLedgerModel", "fileNumber", "[I", true)
  | 7 => ("CommitLedgerModel", "synced", "[Z", true)
  | 8 => ("CommitLedgerModel", "harmed", "[Z", true)
  | 9 => ("CommitLedgerModel", "needed", "[Z", true)
  | 10 => ("CommitLedgerModel", "filesThere", "I", false)
  | 11 => ("CommitLedgerModel", "files", "I", false)
  | 12 => ("CommitLedgerModel", "actions", "I", false)
  | 13 => ("CommitLedgerModel", "power", "I", false)
  | 14 => ("CommitLedgerModel", "lost", "Z", false)
  | 15 => ("CommitLedgerModel", "writer", "LCommitLedgerModel$Version;", true)
  | 16 => ("CommitLedgerModel", "committed", "LCommitLedgerModel$Version;", true)
  | 17 => ("CommitLedgerModel", "prepared", "LCommitLedgerModel$Version;", true)
  | 18 => ("CommitLedgerModel", "open", "Z", false)
  | 19 => ("CommitLedgerModel", "isPrepared", "Z", false)
  | 20 => ("CommitLedgerModel", "generation", "I", false)
  | 21 => ("CommitLedgerModel", "buffer", "[I", true)
  | 22 => ("CommitLedgerModel", "bufferLive", "[Z", true)
  | 23 => ("CommitLedgerModel", "buffered", "I", false)
  | 24 => ("CommitLedgerModel", "limit", "I", false)
  | 25 => ("CommitLedgerModel", "factor", "I", false)
  | 26 => ("CommitLedgerModel", "mergeDocs", "[[I", true)
  | 27 => ("CommitLedgerModel", "mergeMany", "[I", true)
  | 28 => ("CommitLedgerModel", "mergeNumber", "[I", true)
  | 29 => ("CommitLedgerModel", "mergeFile", "[I", true)
  | 30 => ("CommitLedgerModel", "merges", "I", false)
  | 31 => ("CommitLedgerModel", "readers", "[LCommitLedgerModel$Version;", true)
  | 32 => ("CommitLedgerModel", "opened", "I", false)
  | 33 => ("CommitLedgerModel", "chosenMany", "I", false)
  | _ => ("CommitLedgerModel", "begun", "I", false)
def t_Mo : Nat → FieldType := fun k => match k with
  | 0 => .int
  | 1 => .int
  | 2 => .array .int
  | 3 => .array .int
  | 4 => .array .int
  | 5 => .int
  | 6 => .array .int
  | 7 => .array .boolean
  | 8 => .array .boolean
  | 9 => .array .boolean
  | 10 => .int
  | 11 => .int
  | 12 => .int
  | 13 => .int
  | 14 => .boolean
  | 15 => .object "CommitLedgerModel$Version"
  | 16 => .object "CommitLedgerModel$Version"
  | 17 => .object "CommitLedgerModel$Version"
  | 18 => .boolean
  | 19 => .boolean
  | 20 => .int
  | 21 => .array .int
  | 22 => .array .boolean
  | 23 => .int
  | 24 => .int
  | 25 => .int
  | 26 => .array (.array .int)
  | 27 => .array .int
  | 28 => .array .int
  | 29 => .array .int
  | 30 => .int
  | 31 => .array (.object "CommitLedgerModel$Version")
  | 32 => .int
  | 33 => .int
  | _ => .int
theorem n_Mo : ∀ a, a < 35 → ∀ b, b < 35 → a ≠ b → (F_Mo a).2.1 ≠ (F_Mo b).2.1 := by decide +kernel
theorem t_Mo_ok : ∀ k, k < 35 → parseFieldDescriptor (F_Mo k).2.2.1 = some (t_Mo k) := by decide +kernel
theorem i_Mo : ∀ w ∈ u_ws "CommitLedgerModel" F_Mo 35, w ∈ gx_all := by
  intro w hw
  obtain ⟨k, hk, rfl⟩ := List.mem_map.mp hw
  have hk := List.mem_range.mp hk
  match k, hk with
  | 0, _ => exact gx_in 1001 (by decide +kernel)
  | 1, _ => exact gx_in 1003 (by decide +kernel)
  | 2, _ => exact gx_in 1005 (by decide +kernel)
  | 3, _ => exact gx_in 1007 (by decide +kernel)
  | 4, _ => exact gx_in 1009 (by decide +kernel)
  | 5, _ => exact gx_in 1011 (by decide +kernel)
  | 6, _ => exact gx_in 1013 (by decide +kernel)
  | 7, _ => exact gx_in 1015 (by decide +kernel)
  | 8, _ => exact gx_in 1017 (by decide +kernel)
  | 9, _ => exact gx_in 1019 (by decide +kernel)
  | 10, _ => exact gx_in 1021 (by decide +kernel)
  | 11, _ => exact gx_in 1023 (by decide +kernel)
  | 12, _ => exact gx_in 1025 (by decide +kernel)
  | 13, _ => exact gx_in 1027 (by decide +kernel)
  | 14, _ => exact gx_in 1029 (by decide +kernel)
  | 15, _ => exact gx_in 1031 (by decide +kernel)
  | 16, _ => exact gx_in 1033 (by decide +kernel)
  | 17, _ => exact gx_in 1035 (by decide +kernel)
  | 18, _ => exact gx_in 1037 (by decide +kernel)
  | 19, _ => exact gx_in 1039 (by decide +kernel)
  | 20, _ => exact gx_in 1041 (by decide +kernel)
  | 21, _ => exact gx_in 1043 (by decide +kernel)
  | 22, _ => exact gx_in 1045 (by decide +kernel)
  | 23, _ => exact gx_in 1047 (by decide +kernel)
  | 24, _ => exact gx_in 1049 (by decide +kernel)
  | 25, _ => exact gx_in 1051 (by decide +kernel)
  | 26, _ => exact gx_in 1053 (by decide +kernel)
  | 27, _ => exact gx_in 1055 (by decide +kernel)
  | 28, _ => exact gx_in 1057 (by decide +kernel)
  | 29, _ => exact gx_in 1059 (by decide +kernel)
  | 30, _ => exact gx_in 1061 (by decide +kernel)
  | 31, _ => exact gx_in 1063 (by decide +kernel)
  | 32, _ => exact gx_in 1065 (by decide +kernel)
  | 33, _ => exact gx_in 1067 (by decide +kernel)
  | 34, _ => exact gx_in 1069 (by decide +kernel)
  | k + 35, h => exact absurd h (by omega)
def F_Ve : u_T := fun k => match k with
  | 0 => ("CommitLedgerModel$Version", "file", "[I", true)
  | 1 => ("CommitLedgerModel$Version", "list", "[I", true)
  | 2 => ("CommitLedgerModel$Version", "from", "[I", true)
  | 3 => ("CommitLedgerModel$Version", "merge", "[I", true)
  | 4 => ("CommitLedgerModel$Version", "doc", "[I", true)
  | 5 => ("CommitLedgerModel$Version", "live", "[Z", true)
  | 6 => ("CommitLedgerModel$Version", "listed", "[Z", true)
  | 7 => ("CommitLedgerModel$Version", "segs", "I", false)
  | 8 => ("CommitLedgerModel$Version", "serial", "I", false)
  | 9 => ("CommitLedgerModel$Version", "own", "I", false)
  | _ => ("CommitLedgerModel$Version", "number", "I", false)
def t_Ve : Nat → FieldType := fun k => match k with
  | 0 => .array .int
  | 1 => .array .int
  | 2 => .array .int
  | 3 => .array .int
  | 4 => .array .int
  | 5 => .array .boolean
  | 6 => .array .boolean
  | 7 => .int
  | 8 => .int
  | 9 => .int
  | _ => .int
theorem n_Ve : ∀ a, a < 11 → ∀ b, b < 11 → a ≠ b → (F_Ve a).2.1 ≠ (F_Ve b).2.1 := by decide +kernel
theorem t_Ve_ok : ∀ k, k < 11 → parseFieldDescriptor (F_Ve k).2.2.1 = some (t_Ve k) := by decide +kernel
theorem i_Ve : ∀ w ∈ u_ws "CommitLedgerModel$Version" F_Ve 11, w ∈ gx_all := by
  intro w hw
  obtain ⟨k, hk, rfl⟩ := List.mem_map.mp hw
  have hk := List.mem_range.mp hk
  match k, hk with
  | 0, _ => exact gx_in 940 (by decide +kernel)
  | 1, _ => exact gx_in 942 (by decide +kernel)
  | 2, _ => exact gx_in 944 (by decide +kernel)
  | 3, _ => exact gx_in 946 (by decide +kernel)
  | 4, _ => exact gx_in 948 (by decide +kernel)
  | 5, _ => exact gx_in 950 (by decide +kernel)
  | 6, _ => exact gx_in 952 (by decide +kernel)
  | 7, _ => exact gx_in 954 (by decide +kernel)
  | 8, _ => exact gx_in 956 (by decide +kernel)
  | 9, _ => exact gx_in 958 (by decide +kernel)
  | 10, _ => exact gx_in 960 (by decide +kernel)
  | k + 11, h => exact absurd h (by omega)
abbrev classes : List vw_C := [("CommitLedger", F_Le, 18), ("CommitLedger$Entries", F_En, 4), ("CommitLedger$Directory", F_Di, 4), ("java/util/ArrayList", F_Al, 3), ("CommitLedger$View", F_Vi, 6), ("CommitLedger$Merge", F_Me, 4), ("CommitLedger$Reader", F_Re, 3), ("CommitLedger$LedgerFile", F_Fi, 7), ("CommitLedgerModel", F_Mo, 35), ("CommitLedgerModel$Version", F_Ve, 11)]
