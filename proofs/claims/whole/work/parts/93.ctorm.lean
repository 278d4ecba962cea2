/-! THE MODEL IS MADE -/
def z132 : List w_SC := z131 ++ [.inr (8, w_f8)]
def z133 : List w_SC := z132 ++ [.inl (0, 6)]
def z134 : List w_SC := z133.set 63 (.inr (8, [.inl 0, .inr (some 64), .inr none, .inr none, .inr none, .inr none, .inr none, .inr none, .inr none, .inr none, .inr none, .inl 0, .inr none, .inr none, .inr none, .inr none, .inr none, .inr none, .inl 0, .inl 0, .inl 0, .inl 0, .inl 0, .inl 0, .inl 0, .inl 0, .inl 0, .inl 0, .inr none, .inr none, .inr none, .inr none, .inr none, .inr none, .inr none, .inr none, .inr none, .inr none, .inr none, .inr none, .inr none, .inl 0, .inl 0, .inl 0, .inl 0, .inr none, .inr none, .inr none, .inr none, .inr none, .inl 0, .inl 0, .inl 0, .inl 0, .inl 0, .inr none, .inr none]))
def z135 : List w_SC := z134 ++ [.inl (0, 12)]
def z136 : List w_SC := z135.set 63 (.inr (8, [.inl 0, .inr (some 64), .inr (some 65), .inr none, .inr none, .inr none, .inr none, .inr none, .inr none, .inr none, .inr none, .inl 0, .inr none, .inr none, .inr none, .inr none, .inr none, .inr none, .inl 0, .inl 0, .inl 0, .inl 0, .inl 0, .inl 0, .inl 0, .inl 0, .inl 0, .inl 0, .inr none, .inr none, .inr none, .inr none, .inr none, .inr none, .inr none, .inr none, .inr none, .inr none, .inr none, .inr none, .inr none, .inl 0, .inl 0, .inl 0, .inl 0, .inr none, .inr none, .inr none, .inr none, .inr none, .inl 0, .inl 0, .inl 0, .inl 0, .inl 0, .inr none, .inr none]))
def z137 : List w_SC := z136 ++ [.inl (0, 24)]
def z138 : List w_SC := z137.set 63 (.inr (8, [.inl 0, .inr (some 64), .inr (some 65), .inr (some 66), .inr none, .inr none, .inr none, .inr none, .inr none, .inr none, .inr none, .inl 0, .inr none, .inr none, .inr none, .inr none, .inr none, .inr none, .inl 0, .inl 0, .inl 0, .inl 0, .inl 0, .inl 0, .inl 0, .inl 0, .inl 0, .inl 0, .inr none, .inr none, .inr none, .inr none, .inr none, .inr none, .inr none, .inr none, .inr none, .inr none, .inr none, .inr none, .inr none, .inl 0, .inl 0, .inl 0, .inl 0, .inr none, .inr none, .inr none, .inr none, .inr none, .inl 0, .inl 0, .inl 0, .inl 0, .inl 0, .inr none, .inr none]))
def z139 : List w_SC := z138 ++ [.inl (0, 24)]
def z140 : List w_SC := z139.set 63 (.inr (8, [.inl 0, .inr (some 64), .inr (some 65), .inr (some 66), .inr (some 67), .inr none, .inr none, .inr none, .inr none, .inr none, .inr none, .inl 0, .inr none, .inr none, .inr none, .inr none, .inr none, .inr none, .inl 0, .inl 0, .inl 0, .inl 0, .inl 0, .inl 0, .inl 0, .inl 0, .inl 0, .inl 0, .inr none, .inr none, .inr none, .inr none, .inr none, .inr none, .inr none, .inr none, .inr none, .inr none, .inr none, .inr none, .inr none, .inl 0, .inl 0, .inl 0, .inl 0, .inr none, .inr none, .inr none, .inr none, .inr none, .inl 0, .inl 0, .inl 0, .inl 0, .inl 0, .inr none, .inr none]))
def z141 : List w_SC := z140 ++ [.inl (0, 24)]
def z142 : List w_SC := z141.set 63 (.inr (8, [.inl 0, .inr (some 64), .inr (some 65), .inr (some 66), .inr (some 67), .inr (some 68), .inr none, .inr none, .inr none, .inr none, .inr none, .inl 0, .inr none, .inr none, .inr none, .inr none, .inr none, .inr none, .inl 0, .inl 0, .inl 0, .inl 0, .inl 0, .inl 0, .inl 0, .inl 0, .inl 0, .inl 0, .inr none, .inr none, .inr none, .inr none, .inr none, .inr none, .inr none, .inr none, .inr none, .inr none, .inr none, .inr none, .inr none, .inl 0, .inl 0, .inl 0, .inl 0, .inr none, .inr none, .inr none, .inr none, .inr none, .inl 0, .inl 0, .inl 0, .inl 0, .inl 0, .inr none, .inr none]))
def z143 : List w_SC := z142 ++ [.inl (0, 24)]
def z144 : List w_SC := z143.set 63 (.inr (8, [.inl 0, .inr (some 64), .inr (some 65), .inr (some 66), .inr (some 67), .inr (some 68), .inr (some 69), .inr none, .inr none, .inr none, .inr none, .inl 0, .inr none, .inr none, .inr none, .inr none, .inr none, .inr none, .inl 0, .inl 0, .inl 0, .inl 0, .inl 0, .inl 0, .inl 0, .inl 0, .inl 0, .inl 0, .inr none, .inr none, .inr none, .inr none, .inr none, .inr none, .inr none, .inr none, .inr none, .inr none, .inr none, .inr none, .inr none, .inl 0, .inl 0, .inl 0, .inl 0, .inr none, .inr none, .inr none, .inr none, .inr none, .inl 0, .inl 0, .inl 0, .inl 0, .inl 0, .inr none, .inr none]))
def z145 : List w_SC := z144 ++ [.inl (0, 24)]
def z146 : List w_SC := z145.set 63 (.inr (8, [.inl 0, .inr (some 64), .inr (some 65), .inr (some 66), .inr (some 67), .inr (some 68), .inr (some 69), .inr (some 70), .inr none, .inr none, .inr none, .inl 0, .inr none, .inr none, .inr none, .inr none, .inr none, .inr none, .inl 0, .inl 0, .inl 0, .inl 0, .inl 0, .inl 0, .inl 0, .inl 0, .inl 0, .inl 0, .inr none, .inr none, .inr none, .inr none, .inr none, .inr none, .inr none, .inr none, .inr none, .inr none, .inr none, .inr none, .inr none, .inl 0, .inl 0, .inl 0, .inl 0, .inr none, .inr none, .inr none, .inr none, .inr none, .inl 0, .inl 0, .inl 0, .inl 0, .inl 0, .inr none, .inr none]))
def z147 : List w_SC := z146 ++ [.inl (0, 24)]
def z148 : List w_SC := z147.set 63 (.inr (8, [.inl 0, .inr (some 64), .inr (some 65), .inr (some 66), .inr (some 67), .inr (some 68), .inr (some 69), .inr (some 70), .inr (some 71), .inr none, .inr none, .inl 0, .inr none, .inr none, .inr none, .inr none, .inr none, .inr none, .inl 0, .inl 0, .inl 0, .inl 0, .inl 0, .inl 0, .inl 0, .inl 0, .inl 0, .inl 0, .inr none, .inr none, .inr none, .inr none, .inr none, .inr none, .inr none, .inr none, .inr none, .inr none, .inr none, .inr none, .inr none, .inl 0, .inl 0, .inl 0, .inl 0, .inr none, .inr none, .inr none, .inr none, .inr none, .inl 0, .inl 0, .inl 0, .inl 0, .inl 0, .inr none, .inr none]))
def z149 : List w_SC := z148 ++ [.inl (0, 24)]
def z150 : List w_SC := z149.set 63 (.inr (8, [.inl 0, .inr (some 64), .inr (some 65), .inr (some 66), .inr (some 67), .inr (some 68), .inr (some 69), .inr (some 70), .inr (some 71), .inr (some 72), .inr none, .inl 0, .inr none, .inr none, .inr none, .inr none, .inr none, .inr none, .inl 0, .inl 0, .inl 0, .inl 0, .inl 0, .inl 0, .inl 0, .inl 0, .inl 0, .inl 0, .inr none, .inr none, .inr none, .inr none, .inr none, .inr none, .inr none, .inr none, .inr none, .inr none, .inr none, .inr none, .inr none, .inl 0, .inl 0, .inl 0, .inl 0, .inr none, .inr none, .inr none, .inr none, .inr none, .inl 0, .inl 0, .inl 0, .inl 0, .inl 0, .inr none, .inr none]))
def z151 : List w_SC := z150 ++ [.inl (0, 24)]
def z152 : List w_SC := z151.set 63 (.inr (8, [.inl 0, .inr (some 64), .inr (some 65), .inr (some 66), .inr (some 67), .inr (some 68), .inr (some 69), .inr (some 70), .inr (some 71), .inr (some 72), .inr (some 73), .inl 0, .inr none, .inr none, .inr none, .inr none, .inr none, .inr none, .inl 0, .inl 0, .inl 0, .inl 0, .inl 0, .inl 0, .inl 0, .inl 0, .inl 0, .inl 0, .inr none, .inr none, .inr none, .inr none, .inr none, .inr none, .inr none, .inr none, .inr none, .inr none, .inr none, .inr none, .inr none, .inl 0, .inl 0, .inl 0, .inl 0, .inr none, .inr none, .inr none, .inr none, .inr none, .inl 0, .inl 0, .inl 0, .inl 0, .inl 0, .inr none, .inr none]))
def z153 : List w_SC := z152 ++ [.inl (0, 60)]
def z154 : List w_SC := z153.set 63 (.inr (8, [.inl 0, .inr (some 64), .inr (some 65), .inr (some 66), .inr (some 67), .inr (some 68), .inr (some 69), .inr (some 70), .inr (some 71), .inr (some 72), .inr (some 73), .inl 0, .inr (some 74), .inr none, .inr none, .inr none, .inr none, .inr none, .inl 0, .inl 0, .inl 0, .inl 0, .inl 0, .inl 0, .inl 0, .inl 0, .inl 0, .inl 0, .inr none, .inr none, .inr none, .inr none, .inr none, .inr none, .inr none, .inr none, .inr none, .inr none, .inr none, .inr none, .inr none, .inl 0, .inl 0, .inl 0, .inl 0, .inr none, .inr none, .inr none, .inr none, .inr none, .inl 0, .inl 0, .inl 0, .inl 0, .inl 0, .inr none, .inr none]))
def z155 : List w_SC := z154 ++ [.inl (0, 60)]
def z156 : List w_SC := z155.set 63 (.inr (8, [.inl 0, .inr (some 64), .inr (some 65), .inr (some 66), .inr (some 67), .inr (some 68), .inr (some 69), .inr (some 70), .inr (some 71), .inr (some 72), .inr (some 73), .inl 0, .inr (some 74), .inr (some 75), .inr none, .inr none, .inr none, .inr none, .inl 0, .inl 0, .inl 0, .inl 0, .inl 0, .inl 0, .inl 0, .inl 0, .inl 0, .inl 0, .inr none, .inr none, .inr none, .inr none, .inr none, .inr none, .inr none, .inr none, .inr none, .inr none, .inr none, .inr none, .inr none, .inl 0, .inl 0, .inl 0, .inl 0, .inr none, .inr none, .inr none, .inr none, .inr none, .inl 0, .inl 0, .inl 0, .inl 0, .inl 0, .inr none, .inr none]))
def z157 : List w_SC := z156 ++ [.inl (0, 60)]
def z158 : List w_SC := z157.set 63 (.inr (8, [.inl 0, .inr (some 64), .inr (some 65), .inr (some 66), .inr (some 67), .inr (some 68), .inr (some 69), .inr (some 70), .inr (some 71), .inr (some 72), .inr (some 73), .inl 0, .inr (some 74), .inr (some 75), .inr (some 76), .inr none, .inr none, .inr none, .inl 0, .inl 0, .inl 0, .inl 0, .inl 0, .inl 0, .inl 0, .inl 0, .inl 0, .inl 0, .inr none, .inr none, .inr none, .inr none, .inr none, .inr none, .inr none, .inr none, .inr none, .inr none, .inr none, .inr none, .inr none, .inl 0, .inl 0, .inl 0, .inl 0, .inr none, .inr none, .inr none, .inr none, .inr none, .inl 0, .inl 0, .inl 0, .inl 0, .inl 0, .inr none, .inr none]))
def z159 : List w_SC := z158 ++ [.inl (0, 60)]
def z160 : List w_SC := z159.set 63 (.inr (8, [.inl 0, .inr (some 64), .inr (some 65), .inr (some 66), .inr (some 67), .inr (some 68), .inr (some 69), .inr (some 70), .inr (some 71), .inr (some 72), .inr (some 73), .inl 0, .inr (some 74), .inr (some 75), .inr (some 76), .inr (some 77), .inr none, .inr none, .inl 0, .inl 0, .inl 0, .inl 0, .inl 0, .inl 0, .inl 0, .inl 0, .inl 0, .inl 0, .inr none, .inr none, .inr none, .inr none, .inr none, .inr none, .inr none, .inr none, .inr none, .inr none, .inr none, .inr none, .inr none, .inl 0, .inl 0, .inl 0, .inl 0, .inr none, .inr none, .inr none, .inr none, .inr none, .inl 0, .inl 0, .inl 0, .inl 0, .inl 0, .inr none, .inr none]))
def z161 : List w_SC := z160 ++ [.inl (0, 2)]
def z162 : List w_SC := z161.set 63 (.inr (8, [.inl 0, .inr (some 64), .inr (some 65), .inr (some 66), .inr (some 67), .inr (some 68), .inr (some 69), .inr (some 70), .inr (some 71), .inr (some 72), .inr (some 73), .inl 0, .inr (some 74), .inr (some 75), .inr (some 76), .inr (some 77), .inr (some 78), .inr none, .inl 0, .inl 0, .inl 0, .inl 0, .inl 0, .inl 0, .inl 0, .inl 0, .inl 0, .inl 0, .inr none, .inr none, .inr none, .inr none, .inr none, .inr none, .inr none, .inr none, .inr none, .inr none, .inr none, .inr none, .inr none, .inl 0, .inl 0, .inl 0, .inl 0, .inr none, .inr none, .inr none, .inr none, .inr none, .inl 0, .inl 0, .inl 0, .inl 0, .inl 0, .inr none, .inr none]))
def z163 : List w_SC := z162 ++ [.inl (0, 700)]
def z164 : List w_SC := z163.set 63 (.inr (8, [.inl 0, .inr (some 64), .inr (some 65), .inr (some 66), .inr (some 67), .inr (some 68), .inr (some 69), .inr (some 70), .inr (some 71), .inr (some 72), .inr (some 73), .inl 0, .inr (some 74), .inr (some 75), .inr (some 76), .inr (some 77), .inr (some 78), .inr (some 79), .inl 0, .inl 0, .inl 0, .inl 0, .inl 0, .inl 0, .inl 0, .inl 0, .inl 0, .inl 0, .inr none, .inr none, .inr none, .inr none, .inr none, .inr none, .inr none, .inr none, .inr none, .inr none, .inr none, .inr none, .inr none, .inl 0, .inl 0, .inl 0, .inl 0, .inr none, .inr none, .inr none, .inr none, .inr none, .inl 0, .inl 0, .inl 0, .inl 0, .inl 0, .inr none, .inr none]))
def z165 : List w_SC := z164 ++ [.inl (0, 3)]
def z166 : List w_SC := z165.set 63 (.inr (8, [.inl 0, .inr (some 64), .inr (some 65), .inr (some 66), .inr (some 67), .inr (some 68), .inr (some 69), .inr (some 70), .inr (some 71), .inr (some 72), .inr (some 73), .inl 0, .inr (some 74), .inr (some 75), .inr (some 76), .inr (some 77), .inr (some 78), .inr (some 79), .inl 0, .inl 0, .inl 0, .inl 0, .inl 0, .inl 0, .inl 0, .inl 0, .inl 0, .inl 0, .inr (some 80), .inr none, .inr none, .inr none, .inr none, .inr none, .inr none, .inr none, .inr none, .inr none, .inr none, .inr none, .inr none, .inl 0, .inl 0, .inl 0, .inl 0, .inr none, .inr none, .inr none, .inr none, .inr none, .inl 0, .inl 0, .inl 0, .inl 0, .inl 0, .inr none, .inr none]))
def z167 : List w_SC := z166 ++ [.inl (0, 3)]
def z168 : List w_SC := z167.set 63 (.inr (8, [.inl 0, .inr (some 64), .inr (some 65), .inr (some 66), .inr (some 67), .inr (some 68), .inr (some 69), .inr (some 70), .inr (some 71), .inr (some 72), .inr (some 73), .inl 0, .inr (some 74), .inr (some 75), .inr (some 76), .inr (some 77), .inr (some 78), .inr (some 79), .inl 0, .inl 0, .inl 0, .inl 0, .inl 0, .inl 0, .inl 0, .inl 0, .inl 0, .inl 0, .inr (some 80), .inr (some 81), .inr none, .inr none, .inr none, .inr none, .inr none, .inr none, .inr none, .inr none, .inr none, .inr none, .inr none, .inl 0, .inl 0, .inl 0, .inl 0, .inr none, .inr none, .inr none, .inr none, .inr none, .inl 0, .inl 0, .inl 0, .inl 0, .inl 0, .inr none, .inr none]))
def z169 : List w_SC := z168 ++ [.inl (0, 36)]
def z170 : List w_SC := z169.set 63 (.inr (8, [.inl 0, .inr (some 64), .inr (some 65), .inr (some 66), .inr (some 67), .inr (some 68), .inr (some 69), .inr (some 70), .inr (some 71), .inr (some 72), .inr (some 73), .inl 0, .inr (some 74), .inr (some 75), .inr (some 76), .inr (some 77), .inr (some 78), .inr (some 79), .inl 0, .inl 0, .inl 0, .inl 0, .inl 0, .inl 0, .inl 0, .inl 0, .inl 0, .inl 0, .inr (some 80), .inr (some 81), .inr (some 82), .inr none, .inr none, .inr none, .inr none, .inr none, .inr none, .inr none, .inr none, .inr none, .inr none, .inl 0, .inl 0, .inl 0, .inl 0, .inr none, .inr none, .inr none, .inr none, .inr none, .inl 0, .inl 0, .inl 0, .inl 0, .inl 0, .inr none, .inr none]))
def z171 : List w_SC := z170 ++ [.inl (0, 36)]
def z172 : List w_SC := z171.set 63 (.inr (8, [.inl 0, .inr (some 64), .inr (some 65), .inr (some 66), .inr (some 67), .inr (some 68), .inr (some 69), .inr (some 70), .inr (some 71), .inr (some 72), .inr (some 73), .inl 0, .inr (some 74), .inr (some 75), .inr (some 76), .inr (some 77), .inr (some 78), .inr (some 79), .inl 0, .inl 0, .inl 0, .inl 0, .inl 0, .inl 0, .inl 0, .inl 0, .inl 0, .inl 0, .inr (some 80), .inr (some 81), .inr (some 82), .inr (some 83), .inr none, .inr none, .inr none, .inr none, .inr none, .inr none, .inr none, .inr none, .inr none, .inl 0, .inl 0, .inl 0, .inl 0, .inr none, .inr none, .inr none, .inr none, .inr none, .inl 0, .inl 0, .inl 0, .inl 0, .inl 0, .inr none, .inr none]))
def z173 : List w_SC := z172 ++ [.inl (0, 36)]
def z174 : List w_SC := z173.set 63 (.inr (8, [.inl 0, .inr (some 64), .inr (some 65), .inr (some 66), .inr (some 67), .inr (some 68), .inr (some 69), .inr (some 70), .inr (some 71), .inr (some 72), .inr (some 73), .inl 0, .inr (some 74), .inr (some 75), .inr (some 76), .inr (some 77), .inr (some 78), .inr (some 79), .inl 0, .inl 0, .inl 0, .inl 0, .inl 0, .inl 0, .inl 0, .inl 0, .inl 0, .inl 0, .inr (some 80), .inr (some 81), .inr (some 82), .inr (some 83), .inr (some 84), .inr none, .inr none, .inr none, .inr none, .inr none, .inr none, .inr none, .inr none, .inl 0, .inl 0, .inl 0, .inl 0, .inr none, .inr none, .inr none, .inr none, .inr none, .inl 0, .inl 0, .inl 0, .inl 0, .inl 0, .inr none, .inr none]))
def z175 : List w_SC := z174 ++ [.inl (0, 36)]
def z176 : List w_SC := z175.set 63 (.inr (8, [.inl 0, .inr (some 64), .inr (some 65), .inr (some 66), .inr (some 67), .inr (some 68), .inr (some 69), .inr (some 70), .inr (some 71), .inr (some 72), .inr (some 73), .inl 0, .inr (some 74), .inr (some 75), .inr (some 76), .inr (some 77), .inr (some 78), .inr (some 79), .inl 0, .inl 0, .inl 0, .inl 0, .inl 0, .inl 0, .inl 0, .inl 0, .inl 0, .inl 0, .inr (some 80), .inr (some 81), .inr (some 82), .inr (some 83), .inr (some 84), .inr (some 85), .inr none, .inr none, .inr none, .inr none, .inr none, .inr none, .inr none, .inl 0, .inl 0, .inl 0, .inl 0, .inr none, .inr none, .inr none, .inr none, .inr none, .inl 0, .inl 0, .inl 0, .inl 0, .inl 0, .inr none, .inr none]))
def z177 : List w_SC := z176 ++ [.inl (2, 12)]
def z178 : List w_SC := z177.set 63 (.inr (8, [.inl 0, .inr (some 64), .inr (some 65), .inr (some 66), .inr (some 67), .inr (some 68), .inr (some 69), .inr (some 70), .inr (some 71), .inr (some 72), .inr (some 73), .inl 0, .inr (some 74), .inr (some 75), .inr (some 76), .inr (some 77), .inr (some 78), .inr (some 79), .inl 0, .inl 0, .inl 0, .inl 0, .inl 0, .inl 0, .inl 0, .inl 0, .inl 0, .inl 0, .inr (some 80), .inr (some 81), .inr (some 82), .inr (some 83), .inr (some 84), .inr (some 85), .inr (some 86), .inr none, .inr none, .inr none, .inr none, .inr none, .inr none, .inl 0, .inl 0, .inl 0, .inl 0, .inr none, .inr none, .inr none, .inr none, .inr none, .inl 0, .inl 0, .inl 0, .inl 0, .inl 0, .inr none, .inr none]))
def z179 : List w_SC := z178 ++ [.inl (0, 12)]
def z180 : List w_SC := z179.set 63 (.inr (8, [.inl 0, .inr (some 64), .inr (some 65), .inr (some 66), .inr (some 67), .inr (some 68), .inr (some 69), .inr (some 70), .inr (some 71), .inr (some 72), .inr (some 73), .inl 0, .inr (some 74), .inr (some 75), .inr (some 76), .inr (some 77), .inr (some 78), .inr (some 79), .inl 0, .inl 0, .inl 0, .inl 0, .inl 0, .inl 0, .inl 0, .inl 0, .inl 0, .inl 0, .inr (some 80), .inr (some 81), .inr (some 82), .inr (some 83), .inr (some 84), .inr (some 85), .inr (some 86), .inr (some 87), .inr none, .inr none, .inr none, .inr none, .inr none, .inl 0, .inl 0, .inl 0, .inl 0, .inr none, .inr none, .inr none, .inr none, .inr none, .inl 0, .inl 0, .inl 0, .inl 0, .inl 0, .inr none, .inr none]))
def z181 : List w_SC := z180 ++ [.inl (0, 64)]
def z182 : List w_SC := z181.set 63 (.inr (8, [.inl 0, .inr (some 64), .inr (some 65), .inr (some 66), .inr (some 67), .inr (some 68), .inr (some 69), .inr (some 70), .inr (some 71), .inr (some 72), .inr (some 73), .inl 0, .inr (some 74), .inr (some 75), .inr (some 76), .inr (some 77), .inr (some 78), .inr (some 79), .inl 0, .inl 0, .inl 0, .inl 0, .inl 0, .inl 0, .inl 0, .inl 0, .inl 0, .inl 0, .inr (some 80), .inr (some 81), .inr (some 82), .inr (some 83), .inr (some 84), .inr (some 85), .inr (some 86), .inr (some 87), .inr (some 88), .inr none, .inr none, .inr none, .inr none, .inl 0, .inl 0, .inl 0, .inl 0, .inr none, .inr none, .inr none, .inr none, .inr none, .inl 0, .inl 0, .inl 0, .inl 0, .inl 0, .inr none, .inr none]))
def z183 : List w_SC := z182 ++ [.inl (0, 64)]
def z184 : List w_SC := z183.set 63 (.inr (8, [.inl 0, .inr (some 64), .inr (some 65), .inr (some 66), .inr (some 67), .inr (some 68), .inr (some 69), .inr (some 70), .inr (some 71), .inr (some 72), .inr (some 73), .inl 0, .inr (some 74), .inr (some 75), .inr (some 76), .inr (some 77), .inr (some 78), .inr (some 79), .inl 0, .inl 0, .inl 0, .inl 0, .inl 0, .inl 0, .inl 0, .inl 0, .inl 0, .inl 0, .inr (some 80), .inr (some 81), .inr (some 82), .inr (some 83), .inr (some 84), .inr (some 85), .inr (some 86), .inr (some 87), .inr (some 88), .inr (some 89), .inr none, .inr none, .inr none, .inl 0, .inl 0, .inl 0, .inl 0, .inr none, .inr none, .inr none, .inr none, .inr none, .inl 0, .inl 0, .inl 0, .inl 0, .inl 0, .inr none, .inr none]))
def z185 : List w_SC := z184 ++ [.inl (0, 12)]
def z186 : List w_SC := z185.set 63 (.inr (8, [.inl 0, .inr (some 64), .inr (some 65), .inr (some 66), .inr (some 67), .inr (some 68), .inr (some 69), .inr (some 70), .inr (some 71), .inr (some 72), .inr (some 73), .inl 0, .inr (some 74), .inr (some 75), .inr (some 76), .inr (some 77), .inr (some 78), .inr (some 79), .inl 0, .inl 0, .inl 0, .inl 0, .inl 0, .inl 0, .inl 0, .inl 0, .inl 0, .inl 0, .inr (some 80), .inr (some 81), .inr (some 82), .inr (some 83), .inr (some 84), .inr (some 85), .inr (some 86), .inr (some 87), .inr (some 88), .inr (some 89), .inr (some 90), .inr none, .inr none, .inl 0, .inl 0, .inl 0, .inl 0, .inr none, .inr none, .inr none, .inr none, .inr none, .inl 0, .inl 0, .inl 0, .inl 0, .inl 0, .inr none, .inr none]))
def z187 : List w_SC := z186 ++ [.inl (0, 12)]
def z188 : List w_SC := z187.set 63 (.inr (8, [.inl 0, .inr (some 64), .inr (some 65), .inr (some 66), .inr (some 67), .inr (some 68), .inr (some 69), .inr (some 70), .inr (some 71), .inr (some 72), .inr (some 73), .inl 0, .inr (some 74), .inr (some 75), .inr (some 76), .inr (some 77), .inr (some 78), .inr (some 79), .inl 0, .inl 0, .inl 0, .inl 0, .inl 0, .inl 0, .inl 0, .inl 0, .inl 0, .inl 0, .inr (some 80), .inr (some 81), .inr (some 82), .inr (some 83), .inr (some 84), .inr (some 85), .inr (some 86), .inr (some 87), .inr (some 88), .inr (some 89), .inr (some 90), .inr (some 91), .inr none, .inl 0, .inl 0, .inl 0, .inl 0, .inr none, .inr none, .inr none, .inr none, .inr none, .inl 0, .inl 0, .inl 0, .inl 0, .inl 0, .inr none, .inr none]))
def z189 : List w_SC := z188 ++ [.inl (0, 106496)]
def z190 : List w_SC := z189.set 63 (.inr (8, [.inl 0, .inr (some 64), .inr (some 65), .inr (some 66), .inr (some 67), .inr (some 68), .inr (some 69), .inr (some 70), .inr (some 71), .inr (some 72), .inr (some 73), .inl 0, .inr (some 74), .inr (some 75), .inr (some 76), .inr (some 77), .inr (some 78), .inr (some 79), .inl 0, .inl 0, .inl 0, .inl 0, .inl 0, .inl 0, .inl 0, .inl 0, .inl 0, .inl 0, .inr (some 80), .inr (some 81), .inr (some 82), .inr (some 83), .inr (some 84), .inr (some 85), .inr (some 86), .inr (some 87), .inr (some 88), .inr (some 89), .inr (some 90), .inr (some 91), .inr (some 92), .inl 0, .inl 0, .inl 0, .inl 0, .inr none, .inr none, .inr none, .inr none, .inr none, .inl 0, .inl 0, .inl 0, .inl 0, .inl 0, .inr none, .inr none]))
def z191 : List w_SC := z190 ++ [.inl (0, 4096)]
def z192 : List w_SC := z191.set 63 (.inr (8, [.inl 0, .inr (some 64), .inr (some 65), .inr (some 66), .inr (some 67), .inr (some 68), .inr (some 69), .inr (some 70), .inr (some 71), .inr (some 72), .inr (some 73), .inl 0, .inr (some 74), .inr (some 75), .inr (some 76), .inr (some 77), .inr (some 78), .inr (some 79), .inl 0, .inl 0, .inl 0, .inl 0, .inl 0, .inl 0, .inl 0, .inl 0, .inl 0, .inl 0, .inr (some 80), .inr (some 81), .inr (some 82), .inr (some 83), .inr (some 84), .inr (some 85), .inr (some 86), .inr (some 87), .inr (some 88), .inr (some 89), .inr (some 90), .inr (some 91), .inr (some 92), .inl 0, .inl 0, .inl 0, .inl 0, .inr (some 93), .inr none, .inr none, .inr none, .inr none, .inl 0, .inl 0, .inl 0, .inl 0, .inl 0, .inr none, .inr none]))
def z193 : List w_SC := z192 ++ [.inl (2, 64)]
def z194 : List w_SC := z193.set 63 (.inr (8, [.inl 0, .inr (some 64), .inr (some 65), .inr (some 66), .inr (some 67), .inr (some 68), .inr (some 69), .inr (some 70), .inr (some 71), .inr (some 72), .inr (some 73), .inl 0, .inr (some 74), .inr (some 75), .inr (some 76), .inr (some 77), .inr (some 78), .inr (some 79), .inl 0, .inl 0, .inl 0, .inl 0, .inl 0, .inl 0, .inl 0, .inl 0, .inl 0, .inl 0, .inr (some 80), .inr (some 81), .inr (some 82), .inr (some 83), .inr (some 84), .inr (some 85), .inr (some 86), .inr (some 87), .inr (some 88), .inr (some 89), .inr (some 90), .inr (some 91), .inr (some 92), .inl 0, .inl 0, .inl 0, .inl 0, .inr (some 93), .inr (some 94), .inr none, .inr none, .inr none, .inl 0, .inl 0, .inl 0, .inl 0, .inl 0, .inr none, .inr none]))
def z195 : List w_SC := z194 ++ [.inl (0, 16384)]
def z196 : List w_SC := z195.set 63 (.inr (8, [.inl 0, .inr (some 64), .inr (some 65), .inr (some 66), .inr (some 67), .inr (some 68), .inr (some 69), .inr (some 70), .inr (some 71), .inr (some 72), .inr (some 73), .inl 0, .inr (some 74), .inr (some 75), .inr (some 76), .inr (some 77), .inr (some 78), .inr (some 79), .inl 0, .inl 0, .inl 0, .inl 0, .inl 0, .inl 0, .inl 0, .inl 0, .inl 0, .inl 0, .inr (some 80), .inr (some 81), .inr (some 82), .inr (some 83), .inr (some 84), .inr (some 85), .inr (some 86), .inr (some 87), .inr (some 88), .inr (some 89), .inr (some 90), .inr (some 91), .inr (some 92), .inl 0, .inl 0, .inl 0, .inl 0, .inr (some 93), .inr (some 94), .inr (some 95), .inr none, .inr none, .inl 0, .inl 0, .inl 0, .inl 0, .inl 0, .inr none, .inr none]))
def z197 : List w_SC := z196 ++ [.inl (0, 16384)]
def z198 : List w_SC := z197.set 63 (.inr (8, [.inl 0, .inr (some 64), .inr (some 65), .inr (some 66), .inr (some 67), .inr (some 68), .inr (some 69), .inr (some 70), .inr (some 71), .inr (some 72), .inr (some 73), .inl 0, .inr (some 74), .inr (some 75), .inr (some 76), .inr (some 77), .inr (some 78), .inr (some 79), .inl 0, .inl 0, .inl 0, .inl 0, .inl 0, .inl 0, .inl 0, .inl 0, .inl 0, .inl 0, .inr (some 80), .inr (some 81), .inr (some 82), .inr (some 83), .inr (some 84), .inr (some 85), .inr (some 86), .inr (some 87), .inr (some 88), .inr (some 89), .inr (some 90), .inr (some 91), .inr (some 92), .inl 0, .inl 0, .inl 0, .inl 0, .inr (some 93), .inr (some 94), .inr (some 95), .inr (some 96), .inr none, .inl 0, .inl 0, .inl 0, .inl 0, .inl 0, .inr none, .inr none]))
def z199 : List w_SC := z198 ++ [.inl (0, 16384)]
def z200 : List w_SC := z199.set 63 (.inr (8, [.inl 0, .inr (some 64), .inr (some 65), .inr (some 66), .inr (some 67), .inr (some 68), .inr (some 69), .inr (some 70), .inr (some 71), .inr (some 72), .inr (some 73), .inl 0, .inr (some 74), .inr (some 75), .inr (some 76), .inr (some 77), .inr (some 78), .inr (some 79), .inl 0, .inl 0, .inl 0, .inl 0, .inl 0, .inl 0, .inl 0, .inl 0, .inl 0, .inl 0, .inr (some 80), .inr (some 81), .inr (some 82), .inr (some 83), .inr (some 84), .inr (some 85), .inr (some 86), .inr (some 87), .inr (some 88), .inr (some 89), .inr (some 90), .inr (some 91), .inr (some 92), .inl 0, .inl 0, .inl 0, .inl 0, .inr (some 93), .inr (some 94), .inr (some 95), .inr (some 96), .inr (some 97), .inl 0, .inl 0, .inl 0, .inl 0, .inl 0, .inr none, .inr none]))
def z201 : List w_SC := z200 ++ [.inl (0, 240)]
def z202 : List w_SC := z201.set 63 (.inr (8, [.inl 0, .inr (some 64), .inr (some 65), .inr (some 66), .inr (some 67), .inr (some 68), .inr (some 69), .inr (some 70), .inr (some 71), .inr (some 72), .inr (some 73), .inl 0, .inr (some 74), .inr (some 75), .inr (some 76), .inr (some 77), .inr (some 78), .inr (some 79), .inl 0, .inl 0, .inl 0, .inl 0, .inl 0, .inl 0, .inl 0, .inl 0, .inl 0, .inl 0, .inr (some 80), .inr (some 81), .inr (some 82), .inr (some 83), .inr (some 84), .inr (some 85), .inr (some 86), .inr (some 87), .inr (some 88), .inr (some 89), .inr (some 90), .inr (some 91), .inr (some 92), .inl 0, .inl 0, .inl 0, .inl 0, .inr (some 93), .inr (some 94), .inr (some 95), .inr (some 96), .inr (some 97), .inl 0, .inl 0, .inl 0, .inl 0, .inl 0, .inr (some 98), .inr none]))
def z203 : List w_SC := z202 ++ [.inl (0, 2)]
def z204 : List w_SC := z203.set 63 (.inr (8, [.inl 0, .inr (some 64), .inr (some 65), .inr (some 66), .inr (some 67), .inr (some 68), .inr (some 69), .inr (some 70), .inr (some 71), .inr (some 72), .inr (some 73), .inl 0, .inr (some 74), .inr (some 75), .inr (some 76), .inr (some 77), .inr (some 78), .inr (some 79), .inl 0, .inl 0, .inl 0, .inl 0, .inl 0, .inl 0, .inl 0, .inl 0, .inl 0, .inl 0, .inr (some 80), .inr (some 81), .inr (some 82), .inr (some 83), .inr (some 84), .inr (some 85), .inr (some 86), .inr (some 87), .inr (some 88), .inr (some 89), .inr (some 90), .inr (some 91), .inr (some 92), .inl 0, .inl 0, .inl 0, .inl 0, .inr (some 93), .inr (some 94), .inr (some 95), .inr (some 96), .inr (some 97), .inl 0, .inl 0, .inl 0, .inl 0, .inl 0, .inr (some 98), .inr (some 99)]))
def zE : List w_SC := (SH 60 61).take 100
section
variable {Ω : w_O} {d u v : Nat} {L : w_L} {E : w_E} {t : Nat}
theorem bgZ_l : ∀ (n j : Nat) (I : w_I), t < 3 → j + n = 12 →
    (∀ I', (∀ q, q < 12 → I' 82 (12 * t + q) = (if j ≤ q then 0 else I 82 (12 * t + q)) ∧ I' 83 (12 * t + q) = (if j ≤ q then mI else I 83 (12 * t + q)) ∧ I' 84 (12 * t + q) = (if j ≤ q then 0 else I 84 (12 * t + q)) ∧ I' 85 (12 * t + q) = (if j ≤ q then 0 else I 85 (12 * t + q))) → I' 80 = I 80 → I' 81 = I 81 → FrD t I I' → V mX8_begin E Ω 0 0 zE I' L 63 [(0, .ref (Ω.1 + 63)), (1, .int (nI t)), (2, .int (nI (12 * t + 12)))] []) →
    V mX8_begin E Ω 0 0 zE I L 19 [(0, .ref (Ω.1 + 63)), (1, .int (nI t)), (2, .int (nI (12 * t + j)))] [] := by
  intro n
  induction n with
  | zero =>
    intro j I ht hj hk
    have e : j = 12 := by omega
    subst e
    refine V_iload_n 19 2 dX8_begin_19 rfl ?_
    refine V_bip 20 12 dX8_begin_20 rfl ?_
    refine V_iload_n 22 1 dX8_begin_22 rfl ?_
    refine V_cst 23 1 dX8_begin_23 rfl ?_
    refine V_add 24 dX8_begin_24 ?_
    refine V_mul 25 dX8_begin_25 ?_
    refine V_cN_ge 26 63 dX8_begin_26 (by decide) (by omega) (by omega) (fun c => ?_) (fun c => ?_)
    · exact hk I (fun q hq => by rw [if_neg (by omega), if_neg (by omega), if_neg (by omega), if_neg (by omega)]; exact ⟨rfl, rfl, rfl, rfl⟩) rfl rfl FrD.rf
    · omega
  | succ n ih =>
    intro j I ht hj hk
    refine V_iload_n 19 2 dX8_begin_19 rfl ?_
    refine V_bip 20 12 dX8_begin_20 rfl ?_
    refine V_iload_n 22 1 dX8_begin_22 rfl ?_
    refine V_cst 23 1 dX8_begin_23 rfl ?_
    refine V_add 24 dX8_begin_24 ?_
    refine V_mul 25 dX8_begin_25 ?_
    refine V_cN_ge 26 63 dX8_begin_26 (by decide) (by omega) (by omega) (fun c => ?_) (fun c => ?_)
    · omega
    refine V_aload_n 29 0 dX8_begin_29 rfl ?_
    refine V_getR 30 flX8_68 dX8_begin_30 rfl ?_
    refine V_iload_n 33 2 dX8_begin_33 rfl ?_
    refine V_cst 34 0 dX8_begin_34 rfl ?_
    refine V_iast 35 dX8_begin_35 rfl (by omega) (by omega) ?_
    refine V_aload_n 36 0 dX8_begin_36 rfl ?_
    refine V_getR 37 flX8_71 dX8_begin_37 rfl ?_
    refine V_iload_n 40 2 dX8_begin_40 rfl ?_
    refine V_cst 41 4294967295 dX8_begin_41 rfl ?_
    refine V_iast 42 dX8_begin_42 rfl (by omega) (by omega) ?_
    refine V_aload_n 43 0 dX8_begin_43 rfl ?_
    refine V_getR 44 flX8_74 dX8_begin_44 rfl ?_
    refine V_iload_n 47 2 dX8_begin_47 rfl ?_
    refine V_cst 48 0 dX8_begin_48 rfl ?_
    refine V_iast 49 dX8_begin_49 rfl (by omega) (by omega) ?_
    refine V_aload_n 50 0 dX8_begin_50 rfl ?_
    refine V_getR 51 flX8_77 dX8_begin_51 rfl ?_
    refine V_iload_n 54 2 dX8_begin_54 rfl ?_
    refine V_cst 55 0 dX8_begin_55 rfl ?_
    refine V_iast 56 dX8_begin_56 rfl (by omega) (by omega) ?_
    refine V_inc 57 2 _ [(0, _), (1, _), (2, _)] dX8_begin_57 rfl rfl rfl (by decide) rfl ?_
    refine V_goto 60 19 dX8_begin_60 (by decide) ?_
    have hf : FrD t I (w_put (w_put (w_put (w_put I 82 (12 * t + j) 0) 83 (12 * t + j) mI) 84 (12 * t + j) 0) 85 (12 * t + j) 0) := (((FrD.rf.put (by decide) (by decide) (by omega) (by omega)).put (by decide) (by decide) (by omega) (by omega)).put (by decide) (by decide) (by omega) (by omega)).put (by decide) (by decide) (by omega) (by omega)
    refine ih (j + 1) _ ht (by omega) (fun I' k1 k2 k3 k4 => hk I' (fun q hq => ?_) ?_ ?_ (hf.trans k4))
    · obtain ⟨a1, a2, a3, a4⟩ := k1 q hq
      refine ⟨lp_if (fun e => ?_) (fun e => ?_) a1 rfl, lp_if (fun e => ?_) (fun e => ?_) a2 rfl, lp_if (fun e => ?_) (fun e => ?_) a3 rfl, lp_if (fun e => ?_) (fun e => ?_) a4 rfl⟩ <;> simp [w_put_eq, e]
    · rw [k2, w_put_ne _ 80 (by decide), w_put_ne _ 80 (by decide), w_put_ne _ 80 (by decide), w_put_ne _ 80 (by decide)]
    · rw [k3, w_put_ne _ 81 (by decide), w_put_ne _ 81 (by decide), w_put_ne _ 81 (by decide), w_put_ne _ 81 (by decide)]
theorem m_beginZ {I : w_I} (ht : t < 3) : FnV Ω d mX8_begin [.ref (Ω.1 + 63), .int (nI t)] zE I L (fun S' I' L' => S' = zE ∧ L = L' ∧ I' 80 t = 0 ∧ I' 81 t = 0 ∧ (∀ q, q < 12 → I' 82 (12 * t + q) = 0 ∧ I' 83 (12 * t + q) = mI ∧ I' 84 (12 * t + q) = 0 ∧ I' 85 (12 * t + q) = 0) ∧ FrD t I I') := by
  refine FnR_of okX8_begin (Nat.le_of_ble_eq_true rfl) fun l z => ?_
  show V _ _ _ _ _ _ _ _ 0 [(0, _), (1, _)] []
  refine V_aload_n 0 0 dX8_begin_0 rfl ?_
  refine V_getR 1 flX8_62 dX8_begin_1 rfl ?_
  refine V_iload_n 4 1 dX8_begin_4 rfl ?_
  refine V_cst 5 0 dX8_begin_5 rfl ?_
  refine V_iast 6 dX8_begin_6 rfl (by omega) (by omega) ?_
  refine V_aload_n 7 0 dX8_begin_7 rfl ?_
  refine V_getR 8 flX8_65 dX8_begin_8 rfl ?_
  refine V_iload_n 11 1 dX8_begin_11 rfl ?_
  refine V_cst 12 0 dX8_begin_12 rfl ?_
  refine V_iast 13 dX8_begin_13 rfl (by omega) (by omega) ?_
  refine V_bip 14 12 dX8_begin_14 rfl ?_
  refine V_iload_n 16 1 dX8_begin_16 rfl ?_
  refine V_mul 17 dX8_begin_17 ?_
  refine V_istore_n 18 [(0, _), (1, _), (2, _)] dX8_begin_18 (by decide) rfl ?_
  have hf : FrD t I (w_put (w_put I 80 t 0) 81 t 0) := FrD.rf.p83.p84
  refine bgZ_l 12 0 _ ht (by omega) (fun I' k1 k2 k3 k4 => ?_)
  refine V_ret 63 dX8_begin_63 rfl ⟨rfl, rfl, ?_, ?_, fun q hq => ?_, hf.trans k4⟩
  · rw [k2, w_put_ne _ 80 (by decide), w_put_same]
  · rw [k3, w_put_same]
  · obtain ⟨a1, a2, a3, a4⟩ := k1 q hq
    rw [a1, a2, a3, a4, if_pos (Nat.zero_le _), if_pos (Nat.zero_le _), if_pos (Nat.zero_le _), if_pos (Nat.zero_le _)]
    exact ⟨rfl, rfl, rfl, rfl⟩
end
set_option maxHeartbeats 4000000 in
set_option maxRecDepth 8192 in
theorem kt_63 {Ω : w_O} {d : Nat} {I : w_I} {L : w_L} (hI : ∀ i, 63 ≤ i → ∀ j, I i j = 0) (hL : ∀ i j, L i j = 0) : FnC Ω (d + 1 + 1) 36 161528 mX8_init [.ref (Ω.1 + 63)] z132 I L (w_pv (fun S' I' L' => S' = zE ∧ L = L' ∧ I' 80 0 = 0 ∧ I' 81 0 = 0 ∧ (∀ q, q < 12 → I' 82 (12 * 0 + q) = 0 ∧ I' 83 (12 * 0 + q) = mI ∧ I' 84 (12 * 0 + q) = 0 ∧ I' 85 (12 * 0 + q) = 0) ∧ FrD 0 (w_put (w_put (w_put (w_put (w_put (w_put (w_put (w_put (w_put (w_put (w_put (w_put (w_put I 64 0 2) 64 1 0) 64 2 0) 64 3 2) 64 4 0) 64 5 0) 63 27 4294967295) 65 0 1) 65 1 1) 65 2 1) 65 3 1) 65 4 1) 65 5 1) I')) := by
  refine FnC_of okX8_init (Nat.le_of_ble_eq_true rfl) fun l => ?_
  have hE : w_fit (d + 1) (w_Er l (d + 1 + 1) 36 161528 Ω (w_pv (fun S' I' L' => S' = zE ∧ L = L' ∧ I' 80 0 = 0 ∧ I' 81 0 = 0 ∧ (∀ q, q < 12 → I' 82 (12 * 0 + q) = 0 ∧ I' 83 (12 * 0 + q) = mI ∧ I' 84 (12 * 0 + q) = 0 ∧ I' 85 (12 * 0 + q) = 0) ∧ FrD 0 (w_put (w_put (w_put (w_put (w_put (w_put (w_put (w_put (w_put (w_put (w_put (w_put (w_put I 64 0 2) 64 1 0) 64 2 0) 64 3 2) 64 4 0) 64 5 0) 63 27 4294967295) 65 0 1) 65 1 1) 65 2 1) 65 3 1) 65 4 1) 65 5 1) I')) (Ω.1 + z132.length)) := w_fit_r
  show V _ _ _ _ _ _ _ _ 0 [(0, _)] []
  refine V_aload_n 0 0 dX8_init_0 rfl ?_
  refine V_oinit 1 moX8_1 dX8_init_1 (w_fit.mono (by omega) hE) (Nat.le_of_ble_eq_true rfl) ?_
  refine V_aload_n 4 0 dX8_init_4 rfl ?_
  refine V_bip 5 6 dX8_init_5 rfl ?_
  refine V_newa 7 z133 (t := 0) (nn := 6) (at0 := .int) (by decide) rfl w_ar_int dX8_init_7 (by decide) (by show Ω.1 + 64 + 0 = Ω.1 + 64; rfl) (fun j => by exact hI _ (by decide) j) (fun j => hL _ j) ⟨Nat.le_of_ble_eq_true rfl, Nat.le_of_ble_eq_true rfl⟩ rfl ?_
  show V _ _ _ 1 6 z133 _ _ 9 _ (.ref (Ω.1 + 64) :: _)
  refine V_dup 9 dX8_init_9 rfl ?_
  refine V_cst 10 0 dX8_init_10 rfl ?_
  refine V_cst 11 2 dX8_init_11 rfl ?_
  refine V_iast 12 dX8_init_12 rfl (by omega) (by omega) ?_
  refine V_dup 13 dX8_init_13 rfl ?_
  refine V_cst 14 1 dX8_init_14 rfl ?_
  refine V_cst 15 0 dX8_init_15 rfl ?_
  refine V_iast 16 dX8_init_16 rfl (by omega) (by omega) ?_
  refine V_dup 17 dX8_init_17 rfl ?_
  refine V_cst 18 2 dX8_init_18 rfl ?_
  refine V_cst 19 0 dX8_init_19 rfl ?_
  refine V_iast 20 dX8_init_20 rfl (by omega) (by omega) ?_
  refine V_dup 21 dX8_init_21 rfl ?_
  refine V_cst 22 3 dX8_init_22 rfl ?_
  refine V_cst 23 2 dX8_init_23 rfl ?_
  refine V_iast 24 dX8_init_24 rfl (by omega) (by omega) ?_
  refine V_dup 25 dX8_init_25 rfl ?_
  refine V_cst 26 4 dX8_init_26 rfl ?_
  refine V_cst 27 0 dX8_init_27 rfl ?_
  refine V_iast 28 dX8_init_28 rfl (by omega) (by omega) ?_
  refine V_dup 29 dX8_init_29 rfl ?_
  refine V_cst 30 5 dX8_init_30 rfl ?_
  refine V_cst 31 0 dX8_init_31 rfl ?_
  refine V_iast 32 dX8_init_32 rfl (by omega) (by omega) ?_
  refine V_putR 33 z134 flX8_7 ft_8_1 dX8_init_33 rfl (by decide) (fun _ => ⟨rfl, _, rfl, rfl⟩) (fun _ => ⟨rfl, rfl⟩) rfl ?_
  refine V_aload_n 36 0 dX8_init_36 rfl ?_
  refine V_bip 37 12 dX8_init_37 rfl ?_
  refine V_newa 39 z135 (t := 0) (nn := 12) (at0 := .int) (by decide) rfl w_ar_int dX8_init_39 (by decide) (by show Ω.1 + 64 + 1 = Ω.1 + 65; rfl) (fun j => by rw [w_put_ne _ _ (by decide)]; rw [w_put_ne _ _ (by decide)]; rw [w_put_ne _ _ (by decide)]; rw [w_put_ne _ _ (by decide)]; rw [w_put_ne _ _ (by decide)]; rw [w_put_ne _ _ (by decide)]; exact hI _ (by decide) j) (fun j => hL _ j) ⟨Nat.le_of_ble_eq_true rfl, Nat.le_of_ble_eq_true rfl⟩ rfl ?_
  show V _ _ _ 2 18 z135 _ _ 41 _ (.ref (Ω.1 + 65) :: _)
  refine V_putR 41 z136 flX8_13 ft_8_2 dX8_init_41 rfl (by decide) (fun _ => ⟨rfl, _, rfl, rfl⟩) (fun _ => ⟨rfl, rfl⟩) rfl ?_
  refine V_aload_n 44 0 dX8_init_44 rfl ?_
  refine V_bip 45 24 dX8_init_45 rfl ?_
  refine V_newa 47 z137 (t := 0) (nn := 24) (at0 := .int) (by decide) rfl w_ar_int dX8_init_47 (by decide) (by show Ω.1 + 64 + 2 = Ω.1 + 66; rfl) (fun j => by rw [w_put_ne _ _ (by decide)]; rw [w_put_ne _ _ (by decide)]; rw [w_put_ne _ _ (by decide)]; rw [w_put_ne _ _ (by decide)]; rw [w_put_ne _ _ (by decide)]; rw [w_put_ne _ _ (by decide)]; exact hI _ (by decide) j) (fun j => hL _ j) ⟨Nat.le_of_ble_eq_true rfl, Nat.le_of_ble_eq_true rfl⟩ rfl ?_
  show V _ _ _ 3 42 z137 _ _ 49 _ (.ref (Ω.1 + 66) :: _)
  refine V_putR 49 z138 flX8_16 ft_8_3 dX8_init_49 rfl (by decide) (fun _ => ⟨rfl, _, rfl, rfl⟩) (fun _ => ⟨rfl, rfl⟩) rfl ?_
  refine V_aload_n 52 0 dX8_init_52 rfl ?_
  refine V_bip 53 24 dX8_init_53 rfl ?_
  refine V_newa 55 z139 (t := 0) (nn := 24) (at0 := .int) (by decide) rfl w_ar_int dX8_init_55 (by decide) (by show Ω.1 + 64 + 3 = Ω.1 + 67; rfl) (fun j => by rw [w_put_ne _ _ (by decide)]; rw [w_put_ne _ _ (by decide)]; rw [w_put_ne _ _ (by decide)]; rw [w_put_ne _ _ (by decide)]; rw [w_put_ne _ _ (by decide)]; rw [w_put_ne _ _ (by decide)]; exact hI _ (by decide) j) (fun j => hL _ j) ⟨Nat.le_of_ble_eq_true rfl, Nat.le_of_ble_eq_true rfl⟩ rfl ?_
  show V _ _ _ 4 66 z139 _ _ 57 _ (.ref (Ω.1 + 67) :: _)
  refine V_putR 57 z140 flX8_19 ft_8_4 dX8_init_57 rfl (by decide) (fun _ => ⟨rfl, _, rfl, rfl⟩) (fun _ => ⟨rfl, rfl⟩) rfl ?_
  refine V_aload_n 60 0 dX8_init_60 rfl ?_
  refine V_bip 61 24 dX8_init_61 rfl ?_
  refine V_newa 63 z141 (t := 0) (nn := 24) (at0 := .int) (by decide) rfl w_ar_int dX8_init_63 (by decide) (by show Ω.1 + 64 + 4 = Ω.1 + 68; rfl) (fun j => by rw [w_put_ne _ _ (by decide)]; rw [w_put_ne _ _ (by decide)]; rw [w_put_ne _ _ (by decide)]; rw [w_put_ne _ _ (by decide)]; rw [w_put_ne _ _ (by decide)]; rw [w_put_ne _ _ (by decide)]; exact hI _ (by decide) j) (fun j => hL _ j) ⟨Nat.le_of_ble_eq_true rfl, Nat.le_of_ble_eq_true rfl⟩ rfl ?_
  show V _ _ _ 5 90 z141 _ _ 65 _ (.ref (Ω.1 + 68) :: _)
  refine V_putR 65 z142 flX8_22 ft_8_5 dX8_init_65 rfl (by decide) (fun _ => ⟨rfl, _, rfl, rfl⟩) (fun _ => ⟨rfl, rfl⟩) rfl ?_
  refine V_aload_n 68 0 dX8_init_68 rfl ?_
  refine V_bip 69 24 dX8_init_69 rfl ?_
  refine V_newa 71 z143 (t := 0) (nn := 24) (at0 := .int) (by decide) rfl w_ar_int dX8_init_71 (by decide) (by show Ω.1 + 64 + 5 = Ω.1 + 69; rfl) (fun j => by rw [w_put_ne _ _ (by decide)]; rw [w_put_ne _ _ (by decide)]; rw [w_put_ne _ _ (by decide)]; rw [w_put_ne _ _ (by decide)]; rw [w_put_ne _ _ (by decide)]; rw [w_put_ne _ _ (by decide)]; exact hI _ (by decide) j) (fun j => hL _ j) ⟨Nat.le_of_ble_eq_true rfl, Nat.le_of_ble_eq_true rfl⟩ rfl ?_
  show V _ _ _ 6 114 z143 _ _ 73 _ (.ref (Ω.1 + 69) :: _)
  refine V_putR 73 z144 flX8_25 ft_8_6 dX8_init_73 rfl (by decide) (fun _ => ⟨rfl, _, rfl, rfl⟩) (fun _ => ⟨rfl, rfl⟩) rfl ?_
  refine V_aload_n 76 0 dX8_init_76 rfl ?_
  refine V_bip 77 24 dX8_init_77 rfl ?_
  refine V_newa 79 z145 (t := 0) (nn := 24) (at0 := .int) (by decide) rfl w_ar_int dX8_init_79 (by decide) (by show Ω.1 + 64 + 6 = Ω.1 + 70; rfl) (fun j => by rw [w_put_ne _ _ (by decide)]; rw [w_put_ne _ _ (by decide)]; rw [w_put_ne _ _ (by decide)]; rw [w_put_ne _ _ (by decide)]; rw [w_put_ne _ _ (by decide)]; rw [w_put_ne _ _ (by decide)]; exact hI _ (by decide) j) (fun j => hL _ j) ⟨Nat.le_of_ble_eq_true rfl, Nat.le_of_ble_eq_true rfl⟩ rfl ?_
  show V _ _ _ 7 138 z145 _ _ 81 _ (.ref (Ω.1 + 70) :: _)
  refine V_putR 81 z146 flX8_28 ft_8_7 dX8_init_81 rfl (by decide) (fun _ => ⟨rfl, _, rfl, rfl⟩) (fun _ => ⟨rfl, rfl⟩) rfl ?_
  refine V_aload_n 84 0 dX8_init_84 rfl ?_
  refine V_bip 85 24 dX8_init_85 rfl ?_
  refine V_newa 87 z147 (t := 0) (nn := 24) (at0 := .int) (by decide) rfl w_ar_int dX8_init_87 (by decide) (by show Ω.1 + 64 + 7 = Ω.1 + 71; rfl) (fun j => by rw [w_put_ne _ _ (by decide)]; rw [w_put_ne _ _ (by decide)]; rw [w_put_ne _ _ (by decide)]; rw [w_put_ne _ _ (by decide)]; rw [w_put_ne _ _ (by decide)]; rw [w_put_ne _ _ (by decide)]; exact hI _ (by decide) j) (fun j => hL _ j) ⟨Nat.le_of_ble_eq_true rfl, Nat.le_of_ble_eq_true rfl⟩ rfl ?_
  show V _ _ _ 8 162 z147 _ _ 89 _ (.ref (Ω.1 + 71) :: _)
  refine V_putR 89 z148 flX8_31 ft_8_8 dX8_init_89 rfl (by decide) (fun _ => ⟨rfl, _, rfl, rfl⟩) (fun _ => ⟨rfl, rfl⟩) rfl ?_
  refine V_aload_n 92 0 dX8_init_92 rfl ?_
  refine V_bip 93 24 dX8_init_93 rfl ?_
  refine V_newa 95 z149 (t := 0) (nn := 24) (at0 := .int) (by decide) rfl w_ar_int dX8_init_95 (by decide) (by show Ω.1 + 64 + 8 = Ω.1 + 72; rfl) (fun j => by rw [w_put_ne _ _ (by decide)]; rw [w_put_ne _ _ (by decide)]; rw [w_put_ne _ _ (by decide)]; rw [w_put_ne _ _ (by decide)]; rw [w_put_ne _ _ (by decide)]; rw [w_put_ne _ _ (by decide)]; exact hI _ (by decide) j) (fun j => hL _ j) ⟨Nat.le_of_ble_eq_true rfl, Nat.le_of_ble_eq_true rfl⟩ rfl ?_
  show V _ _ _ 9 186 z149 _ _ 97 _ (.ref (Ω.1 + 72) :: _)
  refine V_putR 97 z150 flX8_34 ft_8_9 dX8_init_97 rfl (by decide) (fun _ => ⟨rfl, _, rfl, rfl⟩) (fun _ => ⟨rfl, rfl⟩) rfl ?_
  refine V_aload_n 100 0 dX8_init_100 rfl ?_
  refine V_bip 101 24 dX8_init_101 rfl ?_
  refine V_newa 103 z151 (t := 0) (nn := 24) (at0 := .int) (by decide) rfl w_ar_int dX8_init_103 (by decide) (by show Ω.1 + 64 + 9 = Ω.1 + 73; rfl) (fun j => by rw [w_put_ne _ _ (by decide)]; rw [w_put_ne _ _ (by decide)]; rw [w_put_ne _ _ (by decide)]; rw [w_put_ne _ _ (by decide)]; rw [w_put_ne _ _ (by decide)]; rw [w_put_ne _ _ (by decide)]; exact hI _ (by decide) j) (fun j => hL _ j) ⟨Nat.le_of_ble_eq_true rfl, Nat.le_of_ble_eq_true rfl⟩ rfl ?_
  show V _ _ _ 10 210 z151 _ _ 105 _ (.ref (Ω.1 + 73) :: _)
  refine V_putR 105 z152 flX8_37 ft_8_10 dX8_init_105 rfl (by decide) (fun _ => ⟨rfl, _, rfl, rfl⟩) (fun _ => ⟨rfl, rfl⟩) rfl ?_
  refine V_aload_n 108 0 dX8_init_108 rfl ?_
  refine V_bip 109 60 dX8_init_109 rfl ?_
  refine V_newa 111 z153 (t := 0) (nn := 60) (at0 := .int) (by decide) rfl w_ar_int dX8_init_111 (by decide) (by show Ω.1 + 64 + 10 = Ω.1 + 74; rfl) (fun j => by rw [w_put_ne _ _ (by decide)]; rw [w_put_ne _ _ (by decide)]; rw [w_put_ne _ _ (by decide)]; rw [w_put_ne _ _ (by decide)]; rw [w_put_ne _ _ (by decide)]; rw [w_put_ne _ _ (by decide)]; exact hI _ (by decide) j) (fun j => hL _ j) ⟨Nat.le_of_ble_eq_true rfl, Nat.le_of_ble_eq_true rfl⟩ rfl ?_
  show V _ _ _ 11 270 z153 _ _ 113 _ (.ref (Ω.1 + 74) :: _)
  refine V_putR 113 z154 flX8_40 ft_8_12 dX8_init_113 rfl (by decide) (fun _ => ⟨rfl, _, rfl, rfl⟩) (fun _ => ⟨rfl, rfl⟩) rfl ?_
  refine V_aload_n 116 0 dX8_init_116 rfl ?_
  refine V_bip 117 60 dX8_init_117 rfl ?_
  refine V_newa 119 z155 (t := 0) (nn := 60) (at0 := .int) (by decide) rfl w_ar_int dX8_init_119 (by decide) (by show Ω.1 + 64 + 11 = Ω.1 + 75; rfl) (fun j => by rw [w_put_ne _ _ (by decide)]; rw [w_put_ne _ _ (by decide)]; rw [w_put_ne _ _ (by decide)]; rw [w_put_ne _ _ (by decide)]; rw [w_put_ne _ _ (by decide)]; rw [w_put_ne _ _ (by decide)]; exact hI _ (by decide) j) (fun j => hL _ j) ⟨Nat.le_of_ble_eq_true rfl, Nat.le_of_ble_eq_true rfl⟩ rfl ?_
  show V _ _ _ 12 330 z155 _ _ 121 _ (.ref (Ω.1 + 75) :: _)
  refine V_putR 121 z156 flX8_43 ft_8_13 dX8_init_121 rfl (by decide) (fun _ => ⟨rfl, _, rfl, rfl⟩) (fun _ => ⟨rfl, rfl⟩) rfl ?_
  refine V_aload_n 124 0 dX8_init_124 rfl ?_
  refine V_bip 125 60 dX8_init_125 rfl ?_
  refine V_newa 127 z157 (t := 0) (nn := 60) (at0 := .int) (by decide) rfl w_ar_int dX8_init_127 (by decide) (by show Ω.1 + 64 + 12 = Ω.1 + 76; rfl) (fun j => by rw [w_put_ne _ _ (by decide)]; rw [w_put_ne _ _ (by decide)]; rw [w_put_ne _ _ (by decide)]; rw [w_put_ne _ _ (by decide)]; rw [w_put_ne _ _ (by decide)]; rw [w_put_ne _ _ (by decide)]; exact hI _ (by decide) j) (fun j => hL _ j) ⟨Nat.le_of_ble_eq_true rfl, Nat.le_of_ble_eq_true rfl⟩ rfl ?_
  show V _ _ _ 13 390 z157 _ _ 129 _ (.ref (Ω.1 + 76) :: _)
  refine V_putR 129 z158 flX8_46 ft_8_14 dX8_init_129 rfl (by decide) (fun _ => ⟨rfl, _, rfl, rfl⟩) (fun _ => ⟨rfl, rfl⟩) rfl ?_
  refine V_aload_n 132 0 dX8_init_132 rfl ?_
  refine V_bip 133 60 dX8_init_133 rfl ?_
  refine V_newa 135 z159 (t := 0) (nn := 60) (at0 := .int) (by decide) rfl w_ar_int dX8_init_135 (by decide) (by show Ω.1 + 64 + 13 = Ω.1 + 77; rfl) (fun j => by rw [w_put_ne _ _ (by decide)]; rw [w_put_ne _ _ (by decide)]; rw [w_put_ne _ _ (by decide)]; rw [w_put_ne _ _ (by decide)]; rw [w_put_ne _ _ (by decide)]; rw [w_put_ne _ _ (by decide)]; exact hI _ (by decide) j) (fun j => hL _ j) ⟨Nat.le_of_ble_eq_true rfl, Nat.le_of_ble_eq_true rfl⟩ rfl ?_
  show V _ _ _ 14 450 z159 _ _ 137 _ (.ref (Ω.1 + 77) :: _)
  refine V_putR 137 z160 flX8_49 ft_8_15 dX8_init_137 rfl (by decide) (fun _ => ⟨rfl, _, rfl, rfl⟩) (fun _ => ⟨rfl, rfl⟩) rfl ?_
  refine V_aload_n 140 0 dX8_init_140 rfl ?_
  refine V_cst 141 2 dX8_init_141 rfl ?_
  refine V_newa 142 z161 (t := 0) (nn := 2) (at0 := .int) (by decide) rfl w_ar_int dX8_init_142 (by decide) (by show Ω.1 + 64 + 14 = Ω.1 + 78; rfl) (fun j => by rw [w_put_ne _ _ (by decide)]; rw [w_put_ne _ _ (by decide)]; rw [w_put_ne _ _ (by decide)]; rw [w_put_ne _ _ (by decide)]; rw [w_put_ne _ _ (by decide)]; rw [w_put_ne _ _ (by decide)]; exact hI _ (by decide) j) (fun j => hL _ j) ⟨Nat.le_of_ble_eq_true rfl, Nat.le_of_ble_eq_true rfl⟩ rfl ?_
  show V _ _ _ 15 452 z161 _ _ 144 _ (.ref (Ω.1 + 78) :: _)
  refine V_putR 144 z162 flX8_52 ft_8_16 dX8_init_144 rfl (by decide) (fun _ => ⟨rfl, _, rfl, rfl⟩) (fun _ => ⟨rfl, rfl⟩) rfl ?_
  refine V_aload_n 147 0 dX8_init_147 rfl ?_
  refine V_sip 148 700 dX8_init_148 rfl ?_
  refine V_newa 151 z163 (t := 0) (nn := 700) (at0 := .int) (by decide) rfl w_ar_int dX8_init_151 (by decide) (by show Ω.1 + 64 + 15 = Ω.1 + 79; rfl) (fun j => by rw [w_put_ne _ _ (by decide)]; rw [w_put_ne _ _ (by decide)]; rw [w_put_ne _ _ (by decide)]; rw [w_put_ne _ _ (by decide)]; rw [w_put_ne _ _ (by decide)]; rw [w_put_ne _ _ (by decide)]; exact hI _ (by decide) j) (fun j => hL _ j) ⟨Nat.le_of_ble_eq_true rfl, Nat.le_of_ble_eq_true rfl⟩ rfl ?_
  show V _ _ _ 16 1152 z163 _ _ 153 _ (.ref (Ω.1 + 79) :: _)
  refine V_putR 153 z164 flX8_55 ft_8_17 dX8_init_153 rfl (by decide) (fun _ => ⟨rfl, _, rfl, rfl⟩) (fun _ => ⟨rfl, rfl⟩) rfl ?_
  refine V_aload_n 156 0 dX8_init_156 rfl ?_
  refine V_cst 157 4294967295 dX8_init_157 rfl ?_
  refine V_putI 158 flX8_58 ft_8_27 dX8_init_158 rfl ?_
  refine V_aload_n 161 0 dX8_init_161 rfl ?_
  refine V_cst 162 3 dX8_init_162 rfl ?_
  refine V_newa 163 z165 (t := 0) (nn := 3) (at0 := .int) (by decide) rfl w_ar_int dX8_init_163 (by decide) (by show Ω.1 + 64 + 16 = Ω.1 + 80; rfl) (fun j => by rw [w_put_ne _ _ (by decide)]; rw [w_put_ne _ _ (by decide)]; rw [w_put_ne _ _ (by decide)]; rw [w_put_ne _ _ (by decide)]; rw [w_put_ne _ _ (by decide)]; rw [w_put_ne _ _ (by decide)]; rw [w_put_ne _ _ (by decide)]; exact hI _ (by decide) j) (fun j => hL _ j) ⟨Nat.le_of_ble_eq_true rfl, Nat.le_of_ble_eq_true rfl⟩ rfl ?_
  show V _ _ _ 17 1155 z165 _ _ 165 _ (.ref (Ω.1 + 80) :: _)
  refine V_putR 165 z166 flX8_62 ft_8_28 dX8_init_165 rfl (by decide) (fun _ => ⟨rfl, _, rfl, rfl⟩) (fun _ => ⟨rfl, rfl⟩) rfl ?_
  refine V_aload_n 168 0 dX8_init_168 rfl ?_
  refine V_cst 169 3 dX8_init_169 rfl ?_
  refine V_newa 170 z167 (t := 0) (nn := 3) (at0 := .int) (by decide) rfl w_ar_int dX8_init_170 (by decide) (by show Ω.1 + 64 + 17 = Ω.1 + 81; rfl) (fun j => by rw [w_put_ne _ _ (by decide)]; rw [w_put_ne _ _ (by decide)]; rw [w_put_ne _ _ (by decide)]; rw [w_put_ne _ _ (by decide)]; rw [w_put_ne _ _ (by decide)]; rw [w_put_ne _ _ (by decide)]; rw [w_put_ne _ _ (by decide)]; exact hI _ (by decide) j) (fun j => hL _ j) ⟨Nat.le_of_ble_eq_true rfl, Nat.le_of_ble_eq_true rfl⟩ rfl ?_
  show V _ _ _ 18 1158 z167 _ _ 172 _ (.ref (Ω.1 + 81) :: _)
  refine V_putR 172 z168 flX8_65 ft_8_29 dX8_init_172 rfl (by decide) (fun _ => ⟨rfl, _, rfl, rfl⟩) (fun _ => ⟨rfl, rfl⟩) rfl ?_
  refine V_aload_n 175 0 dX8_init_175 rfl ?_
  refine V_bip 176 36 dX8_init_176 rfl ?_
  refine V_newa 178 z169 (t := 0) (nn := 36) (at0 := .int) (by decide) rfl w_ar_int dX8_init_178 (by decide) (by show Ω.1 + 64 + 18 = Ω.1 + 82; rfl) (fun j => by rw [w_put_ne _ _ (by decide)]; rw [w_put_ne _ _ (by decide)]; rw [w_put_ne _ _ (by decide)]; rw [w_put_ne _ _ (by decide)]; rw [w_put_ne _ _ (by decide)]; rw [w_put_ne _ _ (by decide)]; rw [w_put_ne _ _ (by decide)]; exact hI _ (by decide) j) (fun j => hL _ j) ⟨Nat.le_of_ble_eq_true rfl, Nat.le_of_ble_eq_true rfl⟩ rfl ?_
  show V _ _ _ 19 1194 z169 _ _ 180 _ (.ref (Ω.1 + 82) :: _)
  refine V_putR 180 z170 flX8_68 ft_8_30 dX8_init_180 rfl (by decide) (fun _ => ⟨rfl, _, rfl, rfl⟩) (fun _ => ⟨rfl, rfl⟩) rfl ?_
  refine V_aload_n 183 0 dX8_init_183 rfl ?_
  refine V_bip 184 36 dX8_init_184 rfl ?_
  refine V_newa 186 z171 (t := 0) (nn := 36) (at0 := .int) (by decide) rfl w_ar_int dX8_init_186 (by decide) (by show Ω.1 + 64 + 19 = Ω.1 + 83; rfl) (fun j => by rw [w_put_ne _ _ (by decide)]; rw [w_put_ne _ _ (by decide)]; rw [w_put_ne _ _ (by decide)]; rw [w_put_ne _ _ (by decide)]; rw [w_put_ne _ _ (by decide)]; rw [w_put_ne _ _ (by decide)]; rw [w_put_ne _ _ (by decide)]; exact hI _ (by decide) j) (fun j => hL _ j) ⟨Nat.le_of_ble_eq_true rfl, Nat.le_of_ble_eq_true rfl⟩ rfl ?_
  show V _ _ _ 20 1230 z171 _ _ 188 _ (.ref (Ω.1 + 83) :: _)
  refine V_putR 188 z172 flX8_71 ft_8_31 dX8_init_188 rfl (by decide) (fun _ => ⟨rfl, _, rfl, rfl⟩) (fun _ => ⟨rfl, rfl⟩) rfl ?_
  refine V_aload_n 191 0 dX8_init_191 rfl ?_
  refine V_bip 192 36 dX8_init_192 rfl ?_
  refine V_newa 194 z173 (t := 0) (nn := 36) (at0 := .int) (by decide) rfl w_ar_int dX8_init_194 (by decide) (by show Ω.1 + 64 + 20 = Ω.1 + 84; rfl) (fun j => by rw [w_put_ne _ _ (by decide)]; rw [w_put_ne _ _ (by decide)]; rw [w_put_ne _ _ (by decide)]; rw [w_put_ne _ _ (by decide)]; rw [w_put_ne _ _ (by decide)]; rw [w_put_ne _ _ (by decide)]; rw [w_put_ne _ _ (by decide)]; exact hI _ (by decide) j) (fun j => hL _ j) ⟨Nat.le_of_ble_eq_true rfl, Nat.le_of_ble_eq_true rfl⟩ rfl ?_
  show V _ _ _ 21 1266 z173 _ _ 196 _ (.ref (Ω.1 + 84) :: _)
  refine V_putR 196 z174 flX8_74 ft_8_32 dX8_init_196 rfl (by decide) (fun _ => ⟨rfl, _, rfl, rfl⟩) (fun _ => ⟨rfl, rfl⟩) rfl ?_
  refine V_aload_n 199 0 dX8_init_199 rfl ?_
  refine V_bip 200 36 dX8_init_200 rfl ?_
  refine V_newa 202 z175 (t := 0) (nn := 36) (at0 := .int) (by decide) rfl w_ar_int dX8_init_202 (by decide) (by show Ω.1 + 64 + 21 = Ω.1 + 85; rfl) (fun j => by rw [w_put_ne _ _ (by decide)]; rw [w_put_ne _ _ (by decide)]; rw [w_put_ne _ _ (by decide)]; rw [w_put_ne _ _ (by decide)]; rw [w_put_ne _ _ (by decide)]; rw [w_put_ne _ _ (by decide)]; rw [w_put_ne _ _ (by decide)]; exact hI _ (by decide) j) (fun j => hL _ j) ⟨Nat.le_of_ble_eq_true rfl, Nat.le_of_ble_eq_true rfl⟩ rfl ?_
  show V _ _ _ 22 1302 z175 _ _ 204 _ (.ref (Ω.1 + 85) :: _)
  refine V_putR 204 z176 flX8_77 ft_8_33 dX8_init_204 rfl (by decide) (fun _ => ⟨rfl, _, rfl, rfl⟩) (fun _ => ⟨rfl, rfl⟩) rfl ?_
  refine V_aload_n 207 0 dX8_init_207 rfl ?_
  refine V_bip 208 12 dX8_init_208 rfl ?_
  refine V_newa 210 z177 (t := 2) (nn := 12) (at0 := .boolean) (by decide) rfl w_ar_boolean dX8_init_210 (by decide) (by show Ω.1 + 64 + 22 = Ω.1 + 86; rfl) (fun j => by rw [w_put_ne _ _ (by decide)]; rw [w_put_ne _ _ (by decide)]; rw [w_put_ne _ _ (by decide)]; rw [w_put_ne _ _ (by decide)]; rw [w_put_ne _ _ (by decide)]; rw [w_put_ne _ _ (by decide)]; rw [w_put_ne _ _ (by decide)]; exact hI _ (by decide) j) (fun j => hL _ j) ⟨Nat.le_of_ble_eq_true rfl, Nat.le_of_ble_eq_true rfl⟩ rfl ?_
  show V _ _ _ 23 1314 z177 _ _ 212 _ (.ref (Ω.1 + 86) :: _)
  refine V_putR 212 z178 flX8_80 ft_8_34 dX8_init_212 rfl (by decide) (fun _ => ⟨rfl, _, rfl, rfl⟩) (fun _ => ⟨rfl, rfl⟩) rfl ?_
  refine V_aload_n 215 0 dX8_init_215 rfl ?_
  refine V_bip 216 12 dX8_init_216 rfl ?_
  refine V_newa 218 z179 (t := 0) (nn := 12) (at0 := .int) (by decide) rfl w_ar_int dX8_init_218 (by decide) (by show Ω.1 + 64 + 23 = Ω.1 + 87; rfl) (fun j => by rw [w_put_ne _ _ (by decide)]; rw [w_put_ne _ _ (by decide)]; rw [w_put_ne _ _ (by decide)]; rw [w_put_ne _ _ (by decide)]; rw [w_put_ne _ _ (by decide)]; rw [w_put_ne _ _ (by decide)]; rw [w_put_ne _ _ (by decide)]; exact hI _ (by decide) j) (fun j => hL _ j) ⟨Nat.le_of_ble_eq_true rfl, Nat.le_of_ble_eq_true rfl⟩ rfl ?_
  show V _ _ _ 24 1326 z179 _ _ 220 _ (.ref (Ω.1 + 87) :: _)
  refine V_putR 220 z180 flX8_84 ft_8_35 dX8_init_220 rfl (by decide) (fun _ => ⟨rfl, _, rfl, rfl⟩) (fun _ => ⟨rfl, rfl⟩) rfl ?_
  refine V_aload_n 223 0 dX8_init_223 rfl ?_
  refine V_bip 224 64 dX8_init_224 rfl ?_
  refine V_newa 226 z181 (t := 0) (nn := 64) (at0 := .int) (by decide) rfl w_ar_int dX8_init_226 (by decide) (by show Ω.1 + 64 + 24 = Ω.1 + 88; rfl) (fun j => by rw [w_put_ne _ _ (by decide)]; rw [w_put_ne _ _ (by decide)]; rw [w_put_ne _ _ (by decide)]; rw [w_put_ne _ _ (by decide)]; rw [w_put_ne _ _ (by decide)]; rw [w_put_ne _ _ (by decide)]; rw [w_put_ne _ _ (by decide)]; exact hI _ (by decide) j) (fun j => hL _ j) ⟨Nat.le_of_ble_eq_true rfl, Nat.le_of_ble_eq_true rfl⟩ rfl ?_
  show V _ _ _ 25 1390 z181 _ _ 228 _ (.ref (Ω.1 + 88) :: _)
  refine V_putR 228 z182 flX8_87 ft_8_36 dX8_init_228 rfl (by decide) (fun _ => ⟨rfl, _, rfl, rfl⟩) (fun _ => ⟨rfl, rfl⟩) rfl ?_
  refine V_aload_n 231 0 dX8_init_231 rfl ?_
  refine V_bip 232 64 dX8_init_232 rfl ?_
  refine V_newa 234 z183 (t := 0) (nn := 64) (at0 := .int) (by decide) rfl w_ar_int dX8_init_234 (by decide) (by show Ω.1 + 64 + 25 = Ω.1 + 89; rfl) (fun j => by rw [w_put_ne _ _ (by decide)]; rw [w_put_ne _ _ (by decide)]; rw [w_put_ne _ _ (by decide)]; rw [w_put_ne _ _ (by decide)]; rw [w_put_ne _ _ (by decide)]; rw [w_put_ne _ _ (by decide)]; rw [w_put_ne _ _ (by decide)]; exact hI _ (by decide) j) (fun j => hL _ j) ⟨Nat.le_of_ble_eq_true rfl, Nat.le_of_ble_eq_true rfl⟩ rfl ?_
  show V _ _ _ 26 1454 z183 _ _ 236 _ (.ref (Ω.1 + 89) :: _)
  refine V_putR 236 z184 flX8_90 ft_8_37 dX8_init_236 rfl (by decide) (fun _ => ⟨rfl, _, rfl, rfl⟩) (fun _ => ⟨rfl, rfl⟩) rfl ?_
  refine V_aload_n 239 0 dX8_init_239 rfl ?_
  refine V_bip 240 12 dX8_init_240 rfl ?_
  refine V_newa 242 z185 (t := 0) (nn := 12) (at0 := .int) (by decide) rfl w_ar_int dX8_init_242 (by decide) (by show Ω.1 + 64 + 26 = Ω.1 + 90; rfl) (fun j => by rw [w_put_ne _ _ (by decide)]; rw [w_put_ne _ _ (by decide)]; rw [w_put_ne _ _ (by decide)]; rw [w_put_ne _ _ (by decide)]; rw [w_put_ne _ _ (by decide)]; rw [w_put_ne _ _ (by decide)]; rw [w_put_ne _ _ (by decide)]; exact hI _ (by decide) j) (fun j => hL _ j) ⟨Nat.le_of_ble_eq_true rfl, Nat.le_of_ble_eq_true rfl⟩ rfl ?_
  show V _ _ _ 27 1466 z185 _ _ 244 _ (.ref (Ω.1 + 90) :: _)
  refine V_putR 244 z186 flX8_93 ft_8_38 dX8_init_244 rfl (by decide) (fun _ => ⟨rfl, _, rfl, rfl⟩) (fun _ => ⟨rfl, rfl⟩) rfl ?_
  refine V_aload_n 247 0 dX8_init_247 rfl ?_
  refine V_bip 248 12 dX8_init_248 rfl ?_
  refine V_newa 250 z187 (t := 0) (nn := 12) (at0 := .int) (by decide) rfl w_ar_int dX8_init_250 (by decide) (by show Ω.1 + 64 + 27 = Ω.1 + 91; rfl) (fun j => by rw [w_put_ne _ _ (by decide)]; rw [w_put_ne _ _ (by decide)]; rw [w_put_ne _ _ (by decide)]; rw [w_put_ne _ _ (by decide)]; rw [w_put_ne _ _ (by decide)]; rw [w_put_ne _ _ (by decide)]; rw [w_put_ne _ _ (by decide)]; exact hI _ (by decide) j) (fun j => hL _ j) ⟨Nat.le_of_ble_eq_true rfl, Nat.le_of_ble_eq_true rfl⟩ rfl ?_
  show V _ _ _ 28 1478 z187 _ _ 252 _ (.ref (Ω.1 + 91) :: _)
  refine V_putR 252 z188 flX8_96 ft_8_39 dX8_init_252 rfl (by decide) (fun _ => ⟨rfl, _, rfl, rfl⟩) (fun _ => ⟨rfl, rfl⟩) rfl ?_
  refine V_aload_n 255 0 dX8_init_255 rfl ?_
  refine V_ldcN 256 106496 kcX8_99 dX8_init_256 rfl ?_
  refine V_newa 258 z189 (t := 0) (nn := 106496) (at0 := .int) (by decide) rfl w_ar_int dX8_init_258 (by decide) (by show Ω.1 + 64 + 28 = Ω.1 + 92; rfl) (fun j => by rw [w_put_ne _ _ (by decide)]; rw [w_put_ne _ _ (by decide)]; rw [w_put_ne _ _ (by decide)]; rw [w_put_ne _ _ (by decide)]; rw [w_put_ne _ _ (by decide)]; rw [w_put_ne _ _ (by decide)]; rw [w_put_ne _ _ (by decide)]; exact hI _ (by decide) j) (fun j => hL _ j) ⟨Nat.le_of_ble_eq_true rfl, Nat.le_of_ble_eq_true rfl⟩ rfl ?_
  show V _ _ _ 29 107974 z189 _ _ 260 _ (.ref (Ω.1 + 92) :: _)
  refine V_putR 260 z190 flX8_100 ft_8_40 dX8_init_260 rfl (by decide) (fun _ => ⟨rfl, _, rfl, rfl⟩) (fun _ => ⟨rfl, rfl⟩) rfl ?_
  refine V_aload_n 263 0 dX8_init_263 rfl ?_
  refine V_sip 264 4096 dX8_init_264 rfl ?_
  refine V_newa 267 z191 (t := 0) (nn := 4096) (at0 := .int) (by decide) rfl w_ar_int dX8_init_267 (by decide) (by show Ω.1 + 64 + 29 = Ω.1 + 93; rfl) (fun j => by rw [w_put_ne _ _ (by decide)]; rw [w_put_ne _ _ (by decide)]; rw [w_put_ne _ _ (by decide)]; rw [w_put_ne _ _ (by decide)]; rw [w_put_ne _ _ (by decide)]; rw [w_put_ne _ _ (by decide)]; rw [w_put_ne _ _ (by decide)]; exact hI _ (by decide) j) (fun j => hL _ j) ⟨Nat.le_of_ble_eq_true rfl, Nat.le_of_ble_eq_true rfl⟩ rfl ?_
  show V _ _ _ 30 112070 z191 _ _ 269 _ (.ref (Ω.1 + 93) :: _)
  refine V_putR 269 z192 flX8_103 ft_8_45 dX8_init_269 rfl (by decide) (fun _ => ⟨rfl, _, rfl, rfl⟩) (fun _ => ⟨rfl, rfl⟩) rfl ?_
  refine V_aload_n 272 0 dX8_init_272 rfl ?_
  refine V_bip 273 64 dX8_init_273 rfl ?_
  refine V_newa 275 z193 (t := 2) (nn := 64) (at0 := .boolean) (by decide) rfl w_ar_boolean dX8_init_275 (by decide) (by show Ω.1 + 64 + 30 = Ω.1 + 94; rfl) (fun j => by rw [w_put_ne _ _ (by decide)]; rw [w_put_ne _ _ (by decide)]; rw [w_put_ne _ _ (by decide)]; rw [w_put_ne _ _ (by decide)]; rw [w_put_ne _ _ (by decide)]; rw [w_put_ne _ _ (by decide)]; rw [w_put_ne _ _ (by decide)]; exact hI _ (by decide) j) (fun j => hL _ j) ⟨Nat.le_of_ble_eq_true rfl, Nat.le_of_ble_eq_true rfl⟩ rfl ?_
  show V _ _ _ 31 112134 z193 _ _ 277 _ (.ref (Ω.1 + 94) :: _)
  refine V_putR 277 z194 flX8_106 ft_8_46 dX8_init_277 rfl (by decide) (fun _ => ⟨rfl, _, rfl, rfl⟩) (fun _ => ⟨rfl, rfl⟩) rfl ?_
  refine V_aload_n 280 0 dX8_init_280 rfl ?_
  refine V_sip 281 16384 dX8_init_281 rfl ?_
  refine V_newa 284 z195 (t := 0) (nn := 16384) (at0 := .int) (by decide) rfl w_ar_int dX8_init_284 (by decide) (by show Ω.1 + 64 + 31 = Ω.1 + 95; rfl) (fun j => by rw [w_put_ne _ _ (by decide)]; rw [w_put_ne _ _ (by decide)]; rw [w_put_ne _ _ (by decide)]; rw [w_put_ne _ _ (by decide)]; rw [w_put_ne _ _ (by decide)]; rw [w_put_ne _ _ (by decide)]; rw [w_put_ne _ _ (by decide)]; exact hI _ (by decide) j) (fun j => hL _ j) ⟨Nat.le_of_ble_eq_true rfl, Nat.le_of_ble_eq_true rfl⟩ rfl ?_
  show V _ _ _ 32 128518 z195 _ _ 286 _ (.ref (Ω.1 + 95) :: _)
  refine V_putR 286 z196 flX8_109 ft_8_47 dX8_init_286 rfl (by decide) (fun _ => ⟨rfl, _, rfl, rfl⟩) (fun _ => ⟨rfl, rfl⟩) rfl ?_
  refine V_aload_n 289 0 dX8_init_289 rfl ?_
  refine V_sip 290 16384 dX8_init_290 rfl ?_
  refine V_newa 293 z197 (t := 0) (nn := 16384) (at0 := .int) (by decide) rfl w_ar_int dX8_init_293 (by decide) (by show Ω.1 + 64 + 32 = Ω.1 + 96; rfl) (fun j => by rw [w_put_ne _ _ (by decide)]; rw [w_put_ne _ _ (by decide)]; rw [w_put_ne _ _ (by decide)]; rw [w_put_ne _ _ (by decide)]; rw [w_put_ne _ _ (by decide)]; rw [w_put_ne _ _ (by decide)]; rw [w_put_ne _ _ (by decide)]; exact hI _ (by decide) j) (fun j => hL _ j) ⟨Nat.le_of_ble_eq_true rfl, Nat.le_of_ble_eq_true rfl⟩ rfl ?_
  show V _ _ _ 33 144902 z197 _ _ 295 _ (.ref (Ω.1 + 96) :: _)
  refine V_putR 295 z198 flX8_112 ft_8_48 dX8_init_295 rfl (by decide) (fun _ => ⟨rfl, _, rfl, rfl⟩) (fun _ => ⟨rfl, rfl⟩) rfl ?_
  refine V_aload_n 298 0 dX8_init_298 rfl ?_
  refine V_sip 299 16384 dX8_init_299 rfl ?_
  refine V_newa 302 z199 (t := 0) (nn := 16384) (at0 := .int) (by decide) rfl w_ar_int dX8_init_302 (by decide) (by show Ω.1 + 64 + 33 = Ω.1 + 97; rfl) (fun j => by rw [w_put_ne _ _ (by decide)]; rw [w_put_ne _ _ (by decide)]; rw [w_put_ne _ _ (by decide)]; rw [w_put_ne _ _ (by decide)]; rw [w_put_ne _ _ (by decide)]; rw [w_put_ne _ _ (by decide)]; rw [w_put_ne _ _ (by decide)]; exact hI _ (by decide) j) (fun j => hL _ j) ⟨Nat.le_of_ble_eq_true rfl, Nat.le_of_ble_eq_true rfl⟩ rfl ?_
  show V _ _ _ 34 161286 z199 _ _ 304 _ (.ref (Ω.1 + 97) :: _)
  refine V_putR 304 z200 flX8_115 ft_8_49 dX8_init_304 rfl (by decide) (fun _ => ⟨rfl, _, rfl, rfl⟩) (fun _ => ⟨rfl, rfl⟩) rfl ?_
  refine V_aload_n 307 0 dX8_init_307 rfl ?_
  refine V_sip 308 240 dX8_init_308 rfl ?_
  refine V_newa 311 z201 (t := 0) (nn := 240) (at0 := .int) (by decide) rfl w_ar_int dX8_init_311 (by decide) (by show Ω.1 + 64 + 34 = Ω.1 + 98; rfl) (fun j => by rw [w_put_ne _ _ (by decide)]; rw [w_put_ne _ _ (by decide)]; rw [w_put_ne _ _ (by decide)]; rw [w_put_ne _ _ (by decide)]; rw [w_put_ne _ _ (by decide)]; rw [w_put_ne _ _ (by decide)]; rw [w_put_ne _ _ (by decide)]; exact hI _ (by decide) j) (fun j => hL _ j) ⟨Nat.le_of_ble_eq_true rfl, Nat.le_of_ble_eq_true rfl⟩ rfl ?_
  show V _ _ _ 35 161526 z201 _ _ 313 _ (.ref (Ω.1 + 98) :: _)
  refine V_putR 313 z202 flX8_118 ft_8_55 dX8_init_313 rfl (by decide) (fun _ => ⟨rfl, _, rfl, rfl⟩) (fun _ => ⟨rfl, rfl⟩) rfl ?_
  refine V_aload_n 316 0 dX8_init_316 rfl ?_
  refine V_cst 317 2 dX8_init_317 rfl ?_
  refine V_newa 318 z203 (t := 0) (nn := 2) (at0 := .int) (by decide) rfl w_ar_int dX8_init_318 (by decide) (by show Ω.1 + 64 + 35 = Ω.1 + 99; rfl) (fun j => by rw [w_put_ne _ _ (by decide)]; rw [w_put_ne _ _ (by decide)]; rw [w_put_ne _ _ (by decide)]; rw [w_put_ne _ _ (by decide)]; rw [w_put_ne _ _ (by decide)]; rw [w_put_ne _ _ (by decide)]; rw [w_put_ne _ _ (by decide)]; exact hI _ (by decide) j) (fun j => hL _ j) ⟨Nat.le_of_ble_eq_true rfl, Nat.le_of_ble_eq_true rfl⟩ rfl ?_
  show V _ _ _ 36 161528 z203 _ _ 320 _ (.ref (Ω.1 + 99) :: _)
  refine V_putR 320 z204 flX8_121 ft_8_56 dX8_init_320 rfl (by decide) (fun _ => ⟨rfl, _, rfl, rfl⟩) (fun _ => ⟨rfl, rfl⟩) rfl ?_
  refine V_cst 323 0 dX8_init_323 rfl ?_
  refine V_istore_n 324 [(0, _), (1, _)] dX8_init_324 (by decide) rfl ?_
  refine V_iload_n 325 1 dX8_init_325 rfl ?_
  refine V_bip 326 6 dX8_init_326 rfl ?_
  refine V_cN_ge 328 344 dX8_init_328 (by decide) (by omega) (by omega) (fun c => ?_) (fun c => ?_)
  · omega
  refine V_aload_n 331 0 dX8_init_331 rfl ?_
  refine V_getR 332 flX8_13 dX8_init_332 rfl ?_
  refine V_iload_n 335 1 dX8_init_335 rfl ?_
  refine V_cst 336 1 dX8_init_336 rfl ?_
  refine V_iast 337 dX8_init_337 rfl (by omega) (by omega) ?_
  refine V_inc 338 1 _ [(0, _), (1, _)] dX8_init_338 rfl rfl rfl (by decide) rfl ?_
  refine V_goto 341 325 dX8_init_341 (by decide) ?_
  refine V_iload_n 325 1 dX8_init_325 rfl ?_
  refine V_bip 326 6 dX8_init_326 rfl ?_
  refine V_cN_ge 328 344 dX8_init_328 (by decide) (by omega) (by omega) (fun c => ?_) (fun c => ?_)
  · omega
  refine V_aload_n 331 0 dX8_init_331 rfl ?_
  refine V_getR 332 flX8_13 dX8_init_332 rfl ?_
  refine V_iload_n 335 1 dX8_init_335 rfl ?_
  refine V_cst 336 1 dX8_init_336 rfl ?_
  refine V_iast 337 dX8_init_337 rfl (by omega) (by omega) ?_
  refine V_inc 338 1 _ [(0, _), (1, _)] dX8_init_338 rfl rfl rfl (by decide) rfl ?_
  refine V_goto 341 325 dX8_init_341 (by decide) ?_
  refine V_iload_n 325 1 dX8_init_325 rfl ?_
  refine V_bip 326 6 dX8_init_326 rfl ?_
  refine V_cN_ge 328 344 dX8_init_328 (by decide) (by omega) (by omega) (fun c => ?_) (fun c => ?_)
  · omega
  refine V_aload_n 331 0 dX8_init_331 rfl ?_
  refine V_getR 332 flX8_13 dX8_init_332 rfl ?_
  refine V_iload_n 335 1 dX8_init_335 rfl ?_
  refine V_cst 336 1 dX8_init_336 rfl ?_
  refine V_iast 337 dX8_init_337 rfl (by omega) (by omega) ?_
  refine V_inc 338 1 _ [(0, _), (1, _)] dX8_init_338 rfl rfl rfl (by decide) rfl ?_
  refine V_goto 341 325 dX8_init_341 (by decide) ?_
  refine V_iload_n 325 1 dX8_init_325 rfl ?_
  refine V_bip 326 6 dX8_init_326 rfl ?_
  refine V_cN_ge 328 344 dX8_init_328 (by decide) (by omega) (by omega) (fun c => ?_) (fun c => ?_)
  · omega
  refine V_aload_n 331 0 dX8_init_331 rfl ?_
  refine V_getR 332 flX8_13 dX8_init_332 rfl ?_
  refine V_iload_n 335 1 dX8_init_335 rfl ?_
  refine V_cst 336 1 dX8_init_336 rfl ?_
  refine V_iast 337 dX8_init_337 rfl (by omega) (by omega) ?_
  refine V_inc 338 1 _ [(0, _), (1, _)] dX8_init_338 rfl rfl rfl (by decide) rfl ?_
  refine V_goto 341 325 dX8_init_341 (by decide) ?_
  refine V_iload_n 325 1 dX8_init_325 rfl ?_
  refine V_bip 326 6 dX8_init_326 rfl ?_
  refine V_cN_ge 328 344 dX8_init_328 (by decide) (by omega) (by omega) (fun c => ?_) (fun c => ?_)
  · omega
  refine V_aload_n 331 0 dX8_init_331 rfl ?_
  refine V_getR 332 flX8_13 dX8_init_332 rfl ?_
  refine V_iload_n 335 1 dX8_init_335 rfl ?_
  refine V_cst 336 1 dX8_init_336 rfl ?_
  refine V_iast 337 dX8_init_337 rfl (by omega) (by omega) ?_
  refine V_inc 338 1 _ [(0, _), (1, _)] dX8_init_338 rfl rfl rfl (by decide) rfl ?_
  refine V_goto 341 325 dX8_init_341 (by decide) ?_
  refine V_iload_n 325 1 dX8_init_325 rfl ?_
  refine V_bip 326 6 dX8_init_326 rfl ?_
  refine V_cN_ge 328 344 dX8_init_328 (by decide) (by omega) (by omega) (fun c => ?_) (fun c => ?_)
  · omega
  refine V_aload_n 331 0 dX8_init_331 rfl ?_
  refine V_getR 332 flX8_13 dX8_init_332 rfl ?_
  refine V_iload_n 335 1 dX8_init_335 rfl ?_
  refine V_cst 336 1 dX8_init_336 rfl ?_
  refine V_iast 337 dX8_init_337 rfl (by omega) (by omega) ?_
  refine V_inc 338 1 _ [(0, _), (1, _)] dX8_init_338 rfl rfl rfl (by decide) rfl ?_
  refine V_goto 341 325 dX8_init_341 (by decide) ?_
  refine V_iload_n 325 1 dX8_init_325 rfl ?_
  refine V_bip 326 6 dX8_init_326 rfl ?_
  refine V_cN_ge 328 344 dX8_init_328 (by decide) (by omega) (by omega) (fun c => ?_) (fun c => ?_)
  rotate_left
  · omega
  refine V_aload_n 344 0 dX8_init_344 rfl ?_
  refine V_cst 345 0 dX8_init_345 rfl ?_
  have eZ : z204 = zE := by decide +kernel
  rw [eZ]
  refine V_vv 346 mvX8_124 dX8_init_346 ⟨_, _, _, rfl, rfl, rfl⟩ (w_fit.mono (by omega) hE) (m_beginZ (d := d) (t := 0) (by decide)) rfl (Nat.le_of_ble_eq_true rfl) ?_
  rintro _ I' _ ⟨rfl, rfl, b1, b2, b3, b4⟩
  exact V_ret 349 dX8_init_349 rfl ⟨rfl, rfl, b1, b2, b3, b4⟩

