section
variable {l : Launch} {D : va_G} {cI cC : ClassId}

end
