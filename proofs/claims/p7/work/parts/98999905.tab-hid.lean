/-! T5: hidden from omega -/
section
def x5HID (P : Prop) : Prop := P
theorem x5hid {P : Prop} (h : P) : x5HID P := h
end
